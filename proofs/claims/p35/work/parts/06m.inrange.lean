/-! THE CLASS'S CALLS THAT READ OF ONE MEMBER, for a number in range (laid by wip/p35/gen/pubr.py) -/
theorem inn_X1_memberNumbered_X1 : ∀ w ∈ wsX10, w ∈ wsX1_memberNumbered := by decide +kernel
set_option maxHeartbeats 4000000 in
set_option maxRecDepth 100000 in
/-- the member of a number -/
theorem n_X1_memberNumbered (l : Launch) (D : va_G) (cs : Cs) (ρ : Rf) {B : Nat} {σ : PS} (hI : InvS B σ) (hJ : InjA ρ (sK σ)) (i : Nat) (hi : i < sK σ) : Met l yX1_memberNumbered wsX1_memberNumbered ({ frames := 3, cells := 0, slots := 0, locals := 64 }) (va_Pc [.ref (r_h ρ), .int (nI i)] (RBp D cs (Soc D cs ρ σ))) (va_Sq (fun r : Option Nat => r = some (r_a ρ i))) 0 0 (fun _ => False) := by
  refine Met.ofW (cc := cX1_memberNumbered) (maxL := 2) (ret := (some (.object "ShadowSociety$Member"))) (by decide) rfl ?_
  intro p e s m args below meth c s₁ B0 hml hv
  obtain ⟨rfl, hP, hK, hN⟩ := hv
  have hx := B0.exec
  have hb := B0.bytes
  have hr := B0.returns
  have hts := atoms_spec (ws := wsX1_memberNumbered) B0.pre
  have hown : s.vm.findClass RX1 = some m.cls := findClass_of_methodNamed B0.named
  have hlocks := B0.notSynchronized
  have hl := lv_entry ([.ref (r_h ρ), .int (nI i)]) (n := 2) (Nat.le_of_ble_eq_true rfl)
  rw [lg_entry_eq]
  generalize (lg_sl ([.ref (r_h ρ), .int (nI i)]) ++ List.replicate (2 - (lg_sl ([.ref (r_h ρ), .int (nI i)])).length) Slot.unset).toArray = ls at hl ⊢
  have hl : lv_has ls 2 [(0, .ref (r_h ρ)), (1, .int (nI i))] := hl
  refine lv_iload_n hx hb dX1_memberNumbered_0 rfl (lv_at hl 1 rfl) ?_
  refine lv_if_lt (tgt := 15) hx hb dX1_memberNumbered_1 (by decide) (fun c9 => absurd c9 (nI_pos (by have := hI.1; omega))) (fun _ => ?_)
  refine lv_iload_n hx hb dX1_memberNumbered_4 rfl (lv_at hl 1 rfl) ?_
  refine lv_aload_n hx hb dX1_memberNumbered_5 rfl (lv_at hl 0 rfl) ?_
  refine va_get (D := D) (ci := 2) (v := .ref (r_q ρ)) (C := RX1) (T := TX1) (N := 4) hx hb hts inn_X1_memberNumbered_X1 hown hK (one_P hP.1) 0 rfl rfl 0 (by decide) (hts (.fieldLink RX1 10 "ShadowSociety" "roll" "Ljava/util/ArrayList;") (List.mem_of_getElem? (i := 3) (by decide +kernel))) (fun _ h9 => h9) rfl dX1_memberNumbered_6 ?_
  refine vp_callSi (va_Run.run (va_runV (As := []) (rest := [.int (nI i)]) ⟨hx, hb, hml, hown, hts⟩ (c_Jx4a65c_size_8abf5 l D cs ρ hI hJ) (cwV 0 hts gX1_memberNumbered_Jx4a65c_size_8abf5 rfl rfl rfl (by decide +kernel) ⟨Nat.le_of_ble_eq_true rfl, Nat.le_of_ble_eq_true rfl⟩) (rb_V hK hN hP.2.1 (va_recv hK (one_P hP.2.1.1) (ci := 0) (q0 := 0) rfl rfl)) rfl rfl hl.1 rfl (lv_room (Nat.le_of_ble_eq_true rfl)) dX1_memberNumbered_9 ⟨Nat.le_of_ble_eq_true rfl, Nat.le_of_ble_eq_true rfl⟩)) (fun r_1 hr_1 => ?_)
  rw [hr_1]
  refine lv_icmp_lt (tgt := 25) hx hb dX1_memberNumbered_12 (by decide) (fun _ => ?_) (fun c9 => absurd (nI_lt hi (by have := hI.1; omega)) c9)
  refine lv_aload_n hx hb dX1_memberNumbered_25 rfl (lv_at hl 0 rfl) ?_
  refine va_get (D := D) (ci := 2) (v := .ref (r_q ρ)) (C := RX1) (T := TX1) (N := 4) hx hb hts inn_X1_memberNumbered_X1 hown hK (one_P hP.1) 0 rfl rfl 0 (by decide) (hts (.fieldLink RX1 10 "ShadowSociety" "roll" "Ljava/util/ArrayList;") (List.mem_of_getElem? (i := 3) (by decide +kernel))) (fun _ h9 => h9) rfl dX1_memberNumbered_26 ?_
  refine lv_iload_n hx hb dX1_memberNumbered_29 rfl (lv_at hl 1 rfl) ?_
  refine va_csq (va_Run.run (va_runV (As := [.int (nI i)]) (rest := []) ⟨hx, hb, hml, hown, hts⟩ (c_Jx4a65c_get_915e3 l D cs ρ hI hJ i hi) (cwV 1 hts gX1_memberNumbered_Jx4a65c_get_915e3 rfl rfl rfl (by decide +kernel) ⟨Nat.le_of_ble_eq_true rfl, Nat.le_of_ble_eq_true rfl⟩) (rb_V hK hN hP.2.1 (va_recv hK (one_P hP.2.1.1) (ci := 0) (q0 := 0) rfl rfl)) rfl rfl hl.1 rfl (lv_room (Nat.le_of_ble_eq_true rfl)) dX1_memberNumbered_30 ⟨Nat.le_of_ble_eq_true rfl, Nat.le_of_ble_eq_true rfl⟩)) (fun r_2 hr_2 => ?_)
  rw [hr_2]
  refine va_castS (nm := RX0) hx hb hown (hts (.classLink RX1 44 RX0) (List.mem_of_getElem? (i := 4) (by decide +kernel))) (hK.1 1 _ rfl).2 (va_recv hK (one_P (hP.2.2 i hi)) (ci := 1) (q0 := 0) rfl rfl) dX1_memberNumbered_33 ?_
  exact W.aret (v := va_rf (some (r_a ρ i))) (rt := (.object "ShadowSociety$Member")) hx hb hr (Or.inl ⟨_, rfl⟩) (Or.inr ⟨_, rfl⟩) (fun t ht hW => ⟨some (r_a ρ i), rfl, rfl, ht⟩) (fun q hq => absurd hq List.not_mem_nil) dX1_memberNumbered_36
theorem inn_X1_lampOf_X0 : ∀ w ∈ wsX00, w ∈ wsX1_lampOf := by decide +kernel
set_option maxHeartbeats 4000000 in
set_option maxRecDepth 100000 in
theorem n_X1_lampOf (l : Launch) (D : va_G) (cs : Cs) (ρ : Rf) {B : Nat} {σ : PS} (hI : InvS B σ) (hJ : InjA ρ (sK σ)) (i : Nat) (hi : i < sK σ) : Met l yX1_lampOf wsX1_lampOf ({ frames := 4, cells := 0, slots := 0, locals := 85 }) (va_Pc [.ref (r_h ρ), .int (nI i)] (RBp D cs (Soc D cs ρ σ))) (vp_Si (fun r : Int32 => r = sLa σ i)) 0 0 (fun _ => False) := by
  refine Met.ofW (cc := cX1_lampOf) (maxL := 2) (ret := (some .int)) (by decide) rfl ?_
  intro p e s m args below meth c s₁ B0 hml hv
  obtain ⟨rfl, hP, hK, hN⟩ := hv
  have hx := B0.exec
  have hb := B0.bytes
  have hr := B0.returns
  have hts := atoms_spec (ws := wsX1_lampOf) B0.pre
  have hown : s.vm.findClass RX1 = some m.cls := findClass_of_methodNamed B0.named
  have hlocks := B0.notSynchronized
  have hl := lv_entry ([.ref (r_h ρ), .int (nI i)]) (n := 2) (Nat.le_of_ble_eq_true rfl)
  rw [lg_entry_eq]
  generalize (lg_sl ([.ref (r_h ρ), .int (nI i)]) ++ List.replicate (2 - (lg_sl ([.ref (r_h ρ), .int (nI i)])).length) Slot.unset).toArray = ls at hl ⊢
  have hl : lv_has ls 2 [(0, .ref (r_h ρ)), (1, .int (nI i))] := hl
  refine lv_aload_n hx hb dX1_lampOf_0 rfl (lv_at hl 0 rfl) ?_
  refine lv_iload_n hx hb dX1_lampOf_1 rfl (lv_at hl 1 rfl) ?_
  refine va_csq (va_Run.run (va_runV (As := [.int (nI i)]) (rest := []) ⟨hx, hb, hml, hown, hts⟩ (n_X1_memberNumbered l D cs ρ hI hJ i hi) (cwV 1 hts gX1_lampOf_X1_memberNumbered rfl rfl rfl (by decide +kernel) ⟨Nat.le_of_ble_eq_true rfl, Nat.le_of_ble_eq_true rfl⟩) (rb_V hK hN hP (va_recv hK (one_P hP.1) (ci := 2) (q0 := 0) rfl rfl)) rfl rfl hl.1 rfl (lv_room (Nat.le_of_ble_eq_true rfl)) dX1_lampOf_2 ⟨Nat.le_of_ble_eq_true rfl, Nat.le_of_ble_eq_true rfl⟩)) (fun r_1 hr_1 => ?_)
  rw [hr_1]
  refine va_getN (D := D) (ci := 1) (v := .int (sLa σ i)) (C := RX0) (T := TX0) (N := 9) hx hb hts inn_X1_lampOf_X0 hown hK (one_P (hP.2.2 i hi)) 0 rfl rfl 4 (by decide) (Nst.use hN (w := .fieldLinkNest "ShadowSociety" 65 "ShadowSociety$Member" "lamp" "I" "ShadowSociety") (by decide +kernel)) (fun _ h9 => h9) rfl dX1_lampOf_5 ?_
  exact W.iret (v := sLa σ i) hx hb hr (fun t ht hW => ⟨_, rfl, rfl, ht⟩) (fun q hq => absurd hq List.not_mem_nil) dX1_lampOf_8
theorem inn_X1_purseOf_X0 : ∀ w ∈ wsX00, w ∈ wsX1_purseOf := by decide +kernel
set_option maxHeartbeats 4000000 in
set_option maxRecDepth 100000 in
theorem n_X1_purseOf (l : Launch) (D : va_G) (cs : Cs) (ρ : Rf) {B : Nat} {σ : PS} (hI : InvS B σ) (hJ : InjA ρ (sK σ)) (i : Nat) (hi : i < sK σ) : Met l yX1_purseOf wsX1_purseOf ({ frames := 4, cells := 0, slots := 0, locals := 85 }) (va_Pc [.ref (r_h ρ), .int (nI i)] (RBp D cs (Soc D cs ρ σ))) (vp_Si (fun r : Int32 => r = sPu σ i)) 0 0 (fun _ => False) := by
  refine Met.ofW (cc := cX1_purseOf) (maxL := 2) (ret := (some .int)) (by decide) rfl ?_
  intro p e s m args below meth c s₁ B0 hml hv
  obtain ⟨rfl, hP, hK, hN⟩ := hv
  have hx := B0.exec
  have hb := B0.bytes
  have hr := B0.returns
  have hts := atoms_spec (ws := wsX1_purseOf) B0.pre
  have hown : s.vm.findClass RX1 = some m.cls := findClass_of_methodNamed B0.named
  have hlocks := B0.notSynchronized
  have hl := lv_entry ([.ref (r_h ρ), .int (nI i)]) (n := 2) (Nat.le_of_ble_eq_true rfl)
  rw [lg_entry_eq]
  generalize (lg_sl ([.ref (r_h ρ), .int (nI i)]) ++ List.replicate (2 - (lg_sl ([.ref (r_h ρ), .int (nI i)])).length) Slot.unset).toArray = ls at hl ⊢
  have hl : lv_has ls 2 [(0, .ref (r_h ρ)), (1, .int (nI i))] := hl
  refine lv_aload_n hx hb dX1_purseOf_0 rfl (lv_at hl 0 rfl) ?_
  refine lv_iload_n hx hb dX1_purseOf_1 rfl (lv_at hl 1 rfl) ?_
  refine va_csq (va_Run.run (va_runV (As := [.int (nI i)]) (rest := []) ⟨hx, hb, hml, hown, hts⟩ (n_X1_memberNumbered l D cs ρ hI hJ i hi) (cwV 1 hts gX1_purseOf_X1_memberNumbered rfl rfl rfl (by decide +kernel) ⟨Nat.le_of_ble_eq_true rfl, Nat.le_of_ble_eq_true rfl⟩) (rb_V hK hN hP (va_recv hK (one_P hP.1) (ci := 2) (q0 := 0) rfl rfl)) rfl rfl hl.1 rfl (lv_room (Nat.le_of_ble_eq_true rfl)) dX1_purseOf_2 ⟨Nat.le_of_ble_eq_true rfl, Nat.le_of_ble_eq_true rfl⟩)) (fun r_1 hr_1 => ?_)
  rw [hr_1]
  refine va_getN (D := D) (ci := 1) (v := .int (sPu σ i)) (C := RX0) (T := TX0) (N := 9) hx hb hts inn_X1_purseOf_X0 hown hK (one_P (hP.2.2 i hi)) 0 rfl rfl 3 (by decide) (Nst.use hN (w := .fieldLinkNest "ShadowSociety" 70 "ShadowSociety$Member" "purse" "I" "ShadowSociety") (by decide +kernel)) (fun _ h9 => h9) rfl dX1_purseOf_5 ?_
  exact W.iret (v := sPu σ i) hx hb hr (fun t ht hW => ⟨_, rfl, rfl, ht⟩) (fun q hq => absurd hq List.not_mem_nil) dX1_purseOf_8
set_option maxHeartbeats 4000000 in
set_option maxRecDepth 100000 in
theorem n_X1_wears (l : Launch) (D : va_G) (cs : Cs) (ρ : Rf) {B : Nat} {σ : PS} (hI : InvS B σ) (hJ : InjA ρ (sK σ)) (i : Nat) (hi : i < sK σ) : Met l yX1_wears wsX1_wears ({ frames := 4, cells := 0, slots := 0, locals := 85 }) (va_Pc [.ref (r_h ρ), .int (nI i)] (RBp D cs (Soc D cs ρ σ))) (vp_Si (fun r : Int32 => r = sWe σ i)) 0 0 (fun _ => False) := by
  refine Met.ofW (cc := cX1_wears) (maxL := 2) (ret := (some .int)) (by decide) rfl ?_
  intro p e s m args below meth c s₁ B0 hml hv
  obtain ⟨rfl, hP, hK, hN⟩ := hv
  have hx := B0.exec
  have hb := B0.bytes
  have hr := B0.returns
  have hts := atoms_spec (ws := wsX1_wears) B0.pre
  have hown : s.vm.findClass RX1 = some m.cls := findClass_of_methodNamed B0.named
  have hlocks := B0.notSynchronized
  have hl := lv_entry ([.ref (r_h ρ), .int (nI i)]) (n := 2) (Nat.le_of_ble_eq_true rfl)
  rw [lg_entry_eq]
  generalize (lg_sl ([.ref (r_h ρ), .int (nI i)]) ++ List.replicate (2 - (lg_sl ([.ref (r_h ρ), .int (nI i)])).length) Slot.unset).toArray = ls at hl ⊢
  have hl : lv_has ls 2 [(0, .ref (r_h ρ)), (1, .int (nI i))] := hl
  refine lv_aload_n hx hb dX1_wears_0 rfl (lv_at hl 0 rfl) ?_
  refine lv_iload_n hx hb dX1_wears_1 rfl (lv_at hl 1 rfl) ?_
  refine va_csq (va_Run.run (va_runV (As := [.int (nI i)]) (rest := []) ⟨hx, hb, hml, hown, hts⟩ (n_X1_memberNumbered l D cs ρ hI hJ i hi) (cwV 1 hts gX1_wears_X1_memberNumbered rfl rfl rfl (by decide +kernel) ⟨Nat.le_of_ble_eq_true rfl, Nat.le_of_ble_eq_true rfl⟩) (rb_V hK hN hP (va_recv hK (one_P hP.1) (ci := 2) (q0 := 0) rfl rfl)) rfl rfl hl.1 rfl (lv_room (Nat.le_of_ble_eq_true rfl)) dX1_wears_2 ⟨Nat.le_of_ble_eq_true rfl, Nat.le_of_ble_eq_true rfl⟩)) (fun r_1 hr_1 => ?_)
  rw [hr_1]
  refine vp_callSi (va_Run.run (va_runVN (As := []) (rest := []) ⟨hx, hb, hml, hown, hts⟩ (c_X0_numberOfHatOwner l D cs ρ hI hJ i hi) ⟨va_cnB 0 hts gX1_wears_X0_numberOfHatOwner_n135 rfl rfl rfl (hN (.methodLinkNest "ShadowSociety" 135 ⟨"ShadowSociety$Member", "numberOfHatOwner", "()I"⟩ "ShadowSociety") (by decide +kernel)) (hts (.initialized RX0) (List.mem_of_getElem? (i := 34) (by decide +kernel))) (by decide +kernel) ⟨Nat.le_of_ble_eq_true rfl, Nat.le_of_ble_eq_true rfl⟩, hts (.instanceMethod yX0_numberOfHatOwner) (List.mem_of_getElem? (i := 33) (by decide +kernel)), hts (.selects RX0 yX0_numberOfHatOwner yX0_numberOfHatOwner) (List.mem_of_getElem? (i := 35) (by decide +kernel))⟩ (rb_V hK hN hP.2.2 (va_recv hK (one_P (hP.2.2 i hi)) (ci := 1) (q0 := 0) rfl rfl)) rfl rfl hl.1 rfl (lv_room (Nat.le_of_ble_eq_true rfl)) dX1_wears_5 ⟨Nat.le_of_ble_eq_true rfl, Nat.le_of_ble_eq_true rfl⟩)) (fun r_2 hr_2 => ?_)
  rw [hr_2]
  exact W.iret (v := sWe σ i) hx hb hr (fun t ht hW => ⟨_, rfl, rfl, ht⟩) (fun q hq => absurd hq List.not_mem_nil) dX1_wears_8
set_option maxHeartbeats 4000000 in
set_option maxRecDepth 100000 in
theorem n_X1_hatOn (l : Launch) (D : va_G) (cs : Cs) (ρ : Rf) {B : Nat} {σ : PS} (hI : InvS B σ) (hJ : InjA ρ (sK σ)) (i : Nat) (hi : i < sK σ) : Met l yX1_hatOn wsX1_hatOn ({ frames := 4, cells := 0, slots := 0, locals := 85 }) (va_Pc [.ref (r_h ρ), .int (nI i)] (RBp D cs (Soc D cs ρ σ))) (vp_Si (fun r : Int32 => r = wornH σ i)) 0 0 (fun _ => False) := by
  refine Met.ofW (cc := cX1_hatOn) (maxL := 2) (ret := (some .int)) (by decide) rfl ?_
  intro p e s m args below meth c s₁ B0 hml hv
  obtain ⟨rfl, hP, hK, hN⟩ := hv
  have hx := B0.exec
  have hb := B0.bytes
  have hr := B0.returns
  have hts := atoms_spec (ws := wsX1_hatOn) B0.pre
  have hown : s.vm.findClass RX1 = some m.cls := findClass_of_methodNamed B0.named
  have hlocks := B0.notSynchronized
  have hl := lv_entry ([.ref (r_h ρ), .int (nI i)]) (n := 2) (Nat.le_of_ble_eq_true rfl)
  rw [lg_entry_eq]
  generalize (lg_sl ([.ref (r_h ρ), .int (nI i)]) ++ List.replicate (2 - (lg_sl ([.ref (r_h ρ), .int (nI i)])).length) Slot.unset).toArray = ls at hl ⊢
  have hl : lv_has ls 2 [(0, .ref (r_h ρ)), (1, .int (nI i))] := hl
  refine lv_aload_n hx hb dX1_hatOn_0 rfl (lv_at hl 0 rfl) ?_
  refine lv_iload_n hx hb dX1_hatOn_1 rfl (lv_at hl 1 rfl) ?_
  refine va_csq (va_Run.run (va_runV (As := [.int (nI i)]) (rest := []) ⟨hx, hb, hml, hown, hts⟩ (n_X1_memberNumbered l D cs ρ hI hJ i hi) (cwV 1 hts gX1_hatOn_X1_memberNumbered rfl rfl rfl (by decide +kernel) ⟨Nat.le_of_ble_eq_true rfl, Nat.le_of_ble_eq_true rfl⟩) (rb_V hK hN hP (va_recv hK (one_P hP.1) (ci := 2) (q0 := 0) rfl rfl)) rfl rfl hl.1 rfl (lv_room (Nat.le_of_ble_eq_true rfl)) dX1_hatOn_2 ⟨Nat.le_of_ble_eq_true rfl, Nat.le_of_ble_eq_true rfl⟩)) (fun r_1 hr_1 => ?_)
  rw [hr_1]
  refine vp_callSi (va_Run.run (va_runVN (As := []) (rest := []) ⟨hx, hb, hml, hown, hts⟩ (c_X0_heightOfWornHat l D cs ρ hI hJ i hi) ⟨va_cnB 0 hts gX1_hatOn_X0_heightOfWornHat_n138 rfl rfl rfl (hN (.methodLinkNest "ShadowSociety" 138 ⟨"ShadowSociety$Member", "heightOfWornHat", "()I"⟩ "ShadowSociety") (by decide +kernel)) (hts (.initialized RX0) (List.mem_of_getElem? (i := 34) (by decide +kernel))) (by decide +kernel) ⟨Nat.le_of_ble_eq_true rfl, Nat.le_of_ble_eq_true rfl⟩, hts (.instanceMethod yX0_heightOfWornHat) (List.mem_of_getElem? (i := 33) (by decide +kernel)), hts (.selects RX0 yX0_heightOfWornHat yX0_heightOfWornHat) (List.mem_of_getElem? (i := 35) (by decide +kernel))⟩ (rb_V hK hN hP.2.2 (va_recv hK (one_P (hP.2.2 i hi)) (ci := 1) (q0 := 0) rfl rfl)) rfl rfl hl.1 rfl (lv_room (Nat.le_of_ble_eq_true rfl)) dX1_hatOn_5 ⟨Nat.le_of_ble_eq_true rfl, Nat.le_of_ble_eq_true rfl⟩)) (fun r_2 hr_2 => ?_)
  rw [hr_2]
  exact W.iret (v := wornH σ i) hx hb hr (fun t ht hW => ⟨_, rfl, rfl, ht⟩) (fun q hq => absurd hq List.not_mem_nil) dX1_hatOn_8
set_option maxHeartbeats 4000000 in
set_option maxRecDepth 100000 in
theorem n_X1_hasLent (l : Launch) (D : va_G) (cs : Cs) (ρ : Rf) {B : Nat} {σ : PS} (hI : InvS B σ) (hJ : InjA ρ (sK σ)) (i : Nat) (hi : i < sK σ) : Met l yX1_hasLent wsX1_hasLent ({ frames := 4, cells := 0, slots := 0, locals := 87 }) (va_Pc [.ref (r_h ρ), .int (nI i)] (RBp D cs (Soc D cs ρ σ))) (vp_Si (fun r : Int32 => r = b01 (lentS σ i))) 0 0 (fun _ => False) := by
  refine Met.ofW (cc := cX1_hasLent) (maxL := 2) (ret := (some .boolean)) (by decide) rfl ?_
  intro p e s m args below meth c s₁ B0 hml hv
  obtain ⟨rfl, hP, hK, hN⟩ := hv
  have hx := B0.exec
  have hb := B0.bytes
  have hr := B0.returns
  have hts := atoms_spec (ws := wsX1_hasLent) B0.pre
  have hown : s.vm.findClass RX1 = some m.cls := findClass_of_methodNamed B0.named
  have hlocks := B0.notSynchronized
  have hl := lv_entry ([.ref (r_h ρ), .int (nI i)]) (n := 2) (Nat.le_of_ble_eq_true rfl)
  rw [lg_entry_eq]
  generalize (lg_sl ([.ref (r_h ρ), .int (nI i)]) ++ List.replicate (2 - (lg_sl ([.ref (r_h ρ), .int (nI i)])).length) Slot.unset).toArray = ls at hl ⊢
  have hl : lv_has ls 2 [(0, .ref (r_h ρ)), (1, .int (nI i))] := hl
  refine lv_aload_n hx hb dX1_hasLent_0 rfl (lv_at hl 0 rfl) ?_
  refine lv_aload_n hx hb dX1_hasLent_1 rfl (lv_at hl 0 rfl) ?_
  refine lv_iload_n hx hb dX1_hasLent_2 rfl (lv_at hl 1 rfl) ?_
  refine va_csq (va_Run.run (va_runV (As := [.int (nI i)]) (rest := [.ref (r_h ρ)]) ⟨hx, hb, hml, hown, hts⟩ (n_X1_memberNumbered l D cs ρ hI hJ i hi) (cwV 1 hts gX1_hasLent_X1_memberNumbered rfl rfl rfl (by decide +kernel) ⟨Nat.le_of_ble_eq_true rfl, Nat.le_of_ble_eq_true rfl⟩) (rb_V hK hN hP (va_recv hK (one_P hP.1) (ci := 2) (q0 := 0) rfl rfl)) rfl rfl hl.1 rfl (lv_room (Nat.le_of_ble_eq_true rfl)) dX1_hasLent_3 ⟨Nat.le_of_ble_eq_true rfl, Nat.le_of_ble_eq_true rfl⟩)) (fun r_1 hr_1 => ?_)
  rw [hr_1]
  refine vp_callSi (va_Run.run (va_runV (As := [.ref (r_a ρ i)]) (rest := []) ⟨hx, hb, hml, hown, hts⟩ (c_X1_isHatLent l D cs ρ hI hJ i hi) (cwV 1 hts gX1_hasLent_X1_isHatLent rfl rfl rfl (by decide +kernel) ⟨Nat.le_of_ble_eq_true rfl, Nat.le_of_ble_eq_true rfl⟩) (rb_V hK hN hP (va_recv hK (one_P hP.1) (ci := 2) (q0 := 0) rfl rfl)) rfl rfl hl.1 rfl (lv_room (Nat.le_of_ble_eq_true rfl)) dX1_hasLent_6 ⟨Nat.le_of_ble_eq_true rfl, Nat.le_of_ble_eq_true rfl⟩)) (fun r_2 hr_2 => ?_)
  rw [hr_2]
  exact W.zret (ty := .boolean) (v := b01 (lentS σ i)) hx hb hr (b01_nar _) (fun t ht hW => ⟨_, rfl, rfl, ht⟩) (fun q hq => absurd hq List.not_mem_nil) dX1_hasLent_9
set_option maxHeartbeats 4000000 in
set_option maxRecDepth 100000 in
theorem n_X1_isExpelled (l : Launch) (D : va_G) (cs : Cs) (ρ : Rf) {B : Nat} {σ : PS} (hI : InvS B σ) (hJ : InjA ρ (sK σ)) (i : Nat) (hi : i < sK σ) : Met l yX1_isExpelled wsX1_isExpelled ({ frames := 4, cells := 0, slots := 0, locals := 85 }) (va_Pc [.ref (r_h ρ), .int (nI i)] (RBp D cs (Soc D cs ρ σ))) (vp_Si (fun r : Int32 => r = b01 (outS σ i))) 0 0 (fun _ => False) := by
  refine Met.ofW (cc := cX1_isExpelled) (maxL := 2) (ret := (some .boolean)) (by decide) rfl ?_
  intro p e s m args below meth c s₁ B0 hml hv
  obtain ⟨rfl, hP, hK, hN⟩ := hv
  have hx := B0.exec
  have hb := B0.bytes
  have hr := B0.returns
  have hts := atoms_spec (ws := wsX1_isExpelled) B0.pre
  have hown : s.vm.findClass RX1 = some m.cls := findClass_of_methodNamed B0.named
  have hlocks := B0.notSynchronized
  have hl := lv_entry ([.ref (r_h ρ), .int (nI i)]) (n := 2) (Nat.le_of_ble_eq_true rfl)
  rw [lg_entry_eq]
  generalize (lg_sl ([.ref (r_h ρ), .int (nI i)]) ++ List.replicate (2 - (lg_sl ([.ref (r_h ρ), .int (nI i)])).length) Slot.unset).toArray = ls at hl ⊢
  have hl : lv_has ls 2 [(0, .ref (r_h ρ)), (1, .int (nI i))] := hl
  refine lv_aload_n hx hb dX1_isExpelled_0 rfl (lv_at hl 0 rfl) ?_
  refine lv_iload_n hx hb dX1_isExpelled_1 rfl (lv_at hl 1 rfl) ?_
  refine va_csq (va_Run.run (va_runV (As := [.int (nI i)]) (rest := []) ⟨hx, hb, hml, hown, hts⟩ (n_X1_memberNumbered l D cs ρ hI hJ i hi) (cwV 1 hts gX1_isExpelled_X1_memberNumbered rfl rfl rfl (by decide +kernel) ⟨Nat.le_of_ble_eq_true rfl, Nat.le_of_ble_eq_true rfl⟩) (rb_V hK hN hP (va_recv hK (one_P hP.1) (ci := 2) (q0 := 0) rfl rfl)) rfl rfl hl.1 rfl (lv_room (Nat.le_of_ble_eq_true rfl)) dX1_isExpelled_2 ⟨Nat.le_of_ble_eq_true rfl, Nat.le_of_ble_eq_true rfl⟩)) (fun r_1 hr_1 => ?_)
  rw [hr_1]
  refine vp_callSi (va_Run.run (va_runVN (As := []) (rest := []) ⟨hx, hb, hml, hown, hts⟩ (c_X0_isOut l D cs ρ hI hJ i hi) ⟨va_cnB 0 hts gX1_isExpelled_X0_isOut_n102 rfl rfl rfl (hN (.methodLinkNest "ShadowSociety" 102 ⟨"ShadowSociety$Member", "isOut", "()Z"⟩ "ShadowSociety") (by decide +kernel)) (hts (.initialized RX0) (List.mem_of_getElem? (i := 34) (by decide +kernel))) (by decide +kernel) ⟨Nat.le_of_ble_eq_true rfl, Nat.le_of_ble_eq_true rfl⟩, hts (.instanceMethod yX0_isOut) (List.mem_of_getElem? (i := 33) (by decide +kernel)), hts (.selects RX0 yX0_isOut yX0_isOut) (List.mem_of_getElem? (i := 35) (by decide +kernel))⟩ (rb_V hK hN hP.2.2 (va_recv hK (one_P (hP.2.2 i hi)) (ci := 1) (q0 := 0) rfl rfl)) rfl rfl hl.1 rfl (lv_room (Nat.le_of_ble_eq_true rfl)) dX1_isExpelled_5 ⟨Nat.le_of_ble_eq_true rfl, Nat.le_of_ble_eq_true rfl⟩)) (fun r_2 hr_2 => ?_)
  rw [hr_2]
  exact W.zret (ty := .boolean) (v := b01 (outS σ i)) hx hb hr (b01_nar _) (fun t ht hW => ⟨_, rfl, rfl, ht⟩) (fun q hq => absurd hq List.not_mem_nil) dX1_isExpelled_8
set_option maxHeartbeats 4000000 in
set_option maxRecDepth 100000 in
theorem n_X1_shadowOf (l : Launch) (D : va_G) (cs : Cs) (ρ : Rf) {B : Nat} {σ : PS} (hI : InvS B σ) (hJ : InjA ρ (sK σ)) (i : Nat) (hi : i < sK σ) : Met l yX1_shadowOf wsX1_shadowOf ({ frames := 4, cells := 0, slots := 0, locals := 85 }) (va_Pc [.ref (r_h ρ), .int (nI i)] (RBp D cs (Soc D cs ρ σ))) (vp_Si (fun r : Int32 => r = shadS σ i (dayOf σ))) 0 0 (fun _ => False) := by
  refine Met.ofW (cc := cX1_shadowOf) (maxL := 2) (ret := (some .int)) (by decide) rfl ?_
  intro p e s m args below meth c s₁ B0 hml hv
  obtain ⟨rfl, hP, hK, hN⟩ := hv
  have hx := B0.exec
  have hb := B0.bytes
  have hr := B0.returns
  have hts := atoms_spec (ws := wsX1_shadowOf) B0.pre
  have hown : s.vm.findClass RX1 = some m.cls := findClass_of_methodNamed B0.named
  have hlocks := B0.notSynchronized
  have hl := lv_entry ([.ref (r_h ρ), .int (nI i)]) (n := 2) (Nat.le_of_ble_eq_true rfl)
  rw [lg_entry_eq]
  generalize (lg_sl ([.ref (r_h ρ), .int (nI i)]) ++ List.replicate (2 - (lg_sl ([.ref (r_h ρ), .int (nI i)])).length) Slot.unset).toArray = ls at hl ⊢
  have hl : lv_has ls 2 [(0, .ref (r_h ρ)), (1, .int (nI i))] := hl
  refine lv_aload_n hx hb dX1_shadowOf_0 rfl (lv_at hl 0 rfl) ?_
  refine lv_iload_n hx hb dX1_shadowOf_1 rfl (lv_at hl 1 rfl) ?_
  refine va_csq (va_Run.run (va_runV (As := [.int (nI i)]) (rest := []) ⟨hx, hb, hml, hown, hts⟩ (n_X1_memberNumbered l D cs ρ hI hJ i hi) (cwV 1 hts gX1_shadowOf_X1_memberNumbered rfl rfl rfl (by decide +kernel) ⟨Nat.le_of_ble_eq_true rfl, Nat.le_of_ble_eq_true rfl⟩) (rb_V hK hN hP (va_recv hK (one_P hP.1) (ci := 2) (q0 := 0) rfl rfl)) rfl rfl hl.1 rfl (lv_room (Nat.le_of_ble_eq_true rfl)) dX1_shadowOf_2 ⟨Nat.le_of_ble_eq_true rfl, Nat.le_of_ble_eq_true rfl⟩)) (fun r_1 hr_1 => ?_)
  rw [hr_1]
  refine lv_aload_n hx hb dX1_shadowOf_5 rfl (lv_at hl 0 rfl) ?_
  refine vp_callSi (va_Run.run (va_runV (As := []) (rest := [.ref (r_a ρ i)]) ⟨hx, hb, hml, hown, hts⟩ (c_X1_hourOfDay l D cs ρ hI hJ) (cwV 0 hts gX1_shadowOf_X1_hourOfDay rfl rfl rfl (by decide +kernel) ⟨Nat.le_of_ble_eq_true rfl, Nat.le_of_ble_eq_true rfl⟩) (rb_V hK hN hP (va_recv hK (one_P hP.1) (ci := 2) (q0 := 0) rfl rfl)) rfl rfl hl.1 rfl (lv_room (Nat.le_of_ble_eq_true rfl)) dX1_shadowOf_6 ⟨Nat.le_of_ble_eq_true rfl, Nat.le_of_ble_eq_true rfl⟩)) (fun r_2 hr_2 => ?_)
  rw [hr_2]
  refine vp_callSi (va_Run.run (va_runVN (As := [.int (dayOf σ)]) (rest := []) ⟨hx, hb, hml, hown, hts⟩ (c_X0_shadowAt l D cs ρ hI hJ i hi (dayOf σ)) ⟨va_cnB 1 hts gX1_shadowOf_X0_shadowAt_n113 rfl rfl rfl (hN (.methodLinkNest "ShadowSociety" 113 ⟨"ShadowSociety$Member", "shadowAt", "(I)I"⟩ "ShadowSociety") (by decide +kernel)) (hts (.initialized RX0) (List.mem_of_getElem? (i := 39) (by decide +kernel))) (by decide +kernel) ⟨Nat.le_of_ble_eq_true rfl, Nat.le_of_ble_eq_true rfl⟩, hts (.instanceMethod yX0_shadowAt) (List.mem_of_getElem? (i := 38) (by decide +kernel)), hts (.selects RX0 yX0_shadowAt yX0_shadowAt) (List.mem_of_getElem? (i := 40) (by decide +kernel))⟩ (rb_V hK hN hP.2.2 (va_recv hK (one_P (hP.2.2 i hi)) (ci := 1) (q0 := 0) rfl rfl)) rfl rfl hl.1 rfl (lv_room (Nat.le_of_ble_eq_true rfl)) dX1_shadowOf_9 ⟨Nat.le_of_ble_eq_true rfl, Nat.le_of_ble_eq_true rfl⟩)) (fun r_3 hr_3 => ?_)
  rw [hr_3]
  exact W.iret (v := shadS σ i (dayOf σ)) hx hb hr (fun t ht hW => ⟨_, rfl, rfl, ht⟩) (fun q hq => absurd hq List.not_mem_nil) dX1_shadowOf_12
theorem inn_X1_certified_X0 : ∀ w ∈ wsX00, w ∈ wsX1_certified := by decide +kernel
set_option maxHeartbeats 4000000 in
set_option maxRecDepth 100000 in
theorem n_X1_certified (l : Launch) (D : va_G) (cs : Cs) (ρ : Rf) {B : Nat} {σ : PS} (hI : InvS B σ) (hJ : InjA ρ (sK σ)) (i : Nat) (hi : i < sK σ) : Met l yX1_certified wsX1_certified ({ frames := 4, cells := 0, slots := 0, locals := 85 }) (va_Pc [.ref (r_h ρ), .int (nI i)] (RBp D cs (Soc D cs ρ σ))) (vp_Si (fun r : Int32 => r = sCe σ i)) 0 0 (fun _ => False) := by
  refine Met.ofW (cc := cX1_certified) (maxL := 2) (ret := (some .int)) (by decide) rfl ?_
  intro p e s m args below meth c s₁ B0 hml hv
  obtain ⟨rfl, hP, hK, hN⟩ := hv
  have hx := B0.exec
  have hb := B0.bytes
  have hr := B0.returns
  have hts := atoms_spec (ws := wsX1_certified) B0.pre
  have hown : s.vm.findClass RX1 = some m.cls := findClass_of_methodNamed B0.named
  have hlocks := B0.notSynchronized
  have hl := lv_entry ([.ref (r_h ρ), .int (nI i)]) (n := 2) (Nat.le_of_ble_eq_true rfl)
  rw [lg_entry_eq]
  generalize (lg_sl ([.ref (r_h ρ), .int (nI i)]) ++ List.replicate (2 - (lg_sl ([.ref (r_h ρ), .int (nI i)])).length) Slot.unset).toArray = ls at hl ⊢
  have hl : lv_has ls 2 [(0, .ref (r_h ρ)), (1, .int (nI i))] := hl
  refine lv_aload_n hx hb dX1_certified_0 rfl (lv_at hl 0 rfl) ?_
  refine lv_iload_n hx hb dX1_certified_1 rfl (lv_at hl 1 rfl) ?_
  refine va_csq (va_Run.run (va_runV (As := [.int (nI i)]) (rest := []) ⟨hx, hb, hml, hown, hts⟩ (n_X1_memberNumbered l D cs ρ hI hJ i hi) (cwV 1 hts gX1_certified_X1_memberNumbered rfl rfl rfl (by decide +kernel) ⟨Nat.le_of_ble_eq_true rfl, Nat.le_of_ble_eq_true rfl⟩) (rb_V hK hN hP (va_recv hK (one_P hP.1) (ci := 2) (q0 := 0) rfl rfl)) rfl rfl hl.1 rfl (lv_room (Nat.le_of_ble_eq_true rfl)) dX1_certified_2 ⟨Nat.le_of_ble_eq_true rfl, Nat.le_of_ble_eq_true rfl⟩)) (fun r_1 hr_1 => ?_)
  rw [hr_1]
  refine va_getN (D := D) (ci := 1) (v := .int (sCe σ i)) (C := RX0) (T := TX0) (N := 9) hx hb hts inn_X1_certified_X0 hown hK (one_P (hP.2.2 i hi)) 0 rfl rfl 6 (by decide) (Nst.use hN (w := .fieldLinkNest "ShadowSociety" 117 "ShadowSociety$Member" "certifiedLength" "I" "ShadowSociety") (by decide +kernel)) (fun _ h9 => h9) rfl dX1_certified_5 ?_
  exact W.iret (v := sCe σ i) hx hb hr (fun t ht hW => ⟨_, rfl, rfl, ht⟩) (fun q hq => absurd hq List.not_mem_nil) dX1_certified_8
set_option maxHeartbeats 4000000 in
set_option maxRecDepth 100000 in
theorem n_X1_auditBrings (l : Launch) (D : va_G) (cs : Cs) (ρ : Rf) {B : Nat} {σ : PS} (hI : InvS B σ) (hJ : InjA ρ (sK σ)) (i : Nat) (hi : i < sK σ) : Met l yX1_auditBrings wsX1_auditBrings ({ frames := 6, cells := 0, slots := 0, locals := 116 }) (va_Pc [.ref (r_h ρ), .int (nI i)] (RBp D cs (Soc D cs ρ σ))) (vp_Si (fun r : Int32 => r = gainS σ i)) 0 0 (fun _ => False) := by
  refine Met.ofW (cc := cX1_auditBrings) (maxL := 2) (ret := (some .int)) (by decide) rfl ?_
  intro p e s m args below meth c s₁ B0 hml hv
  obtain ⟨rfl, hP, hK, hN⟩ := hv
  have hx := B0.exec
  have hb := B0.bytes
  have hr := B0.returns
  have hts := atoms_spec (ws := wsX1_auditBrings) B0.pre
  have hown : s.vm.findClass RX1 = some m.cls := findClass_of_methodNamed B0.named
  have hlocks := B0.notSynchronized
  have hl := lv_entry ([.ref (r_h ρ), .int (nI i)]) (n := 2) (Nat.le_of_ble_eq_true rfl)
  rw [lg_entry_eq]
  generalize (lg_sl ([.ref (r_h ρ), .int (nI i)]) ++ List.replicate (2 - (lg_sl ([.ref (r_h ρ), .int (nI i)])).length) Slot.unset).toArray = ls at hl ⊢
  have hl : lv_has ls 2 [(0, .ref (r_h ρ)), (1, .int (nI i))] := hl
  refine lv_aload_n hx hb dX1_auditBrings_0 rfl (lv_at hl 0 rfl) ?_
  refine lv_iload_n hx hb dX1_auditBrings_1 rfl (lv_at hl 1 rfl) ?_
  refine va_csq (va_Run.run (va_runV (As := [.int (nI i)]) (rest := []) ⟨hx, hb, hml, hown, hts⟩ (n_X1_memberNumbered l D cs ρ hI hJ i hi) (cwV 1 hts gX1_auditBrings_X1_memberNumbered rfl rfl rfl (by decide +kernel) ⟨Nat.le_of_ble_eq_true rfl, Nat.le_of_ble_eq_true rfl⟩) (rb_V hK hN hP (va_recv hK (one_P hP.1) (ci := 2) (q0 := 0) rfl rfl)) rfl rfl hl.1 rfl (lv_room (Nat.le_of_ble_eq_true rfl)) dX1_auditBrings_2 ⟨Nat.le_of_ble_eq_true rfl, Nat.le_of_ble_eq_true rfl⟩)) (fun r_1 hr_1 => ?_)
  rw [hr_1]
  refine vp_callSi (va_Run.run (va_runVN (As := []) (rest := []) ⟨hx, hb, hml, hown, hts⟩ (c_X0_gainAtAudit l D cs ρ hI hJ i hi) ⟨va_cnB 0 hts gX1_auditBrings_X0_gainAtAudit_n151 rfl rfl rfl (hN (.methodLinkNest "ShadowSociety" 151 ⟨"ShadowSociety$Member", "gainAtAudit", "()I"⟩ "ShadowSociety") (by decide +kernel)) (hts (.initialized RX0) (List.mem_of_getElem? (i := 34) (by decide +kernel))) (by decide +kernel) ⟨Nat.le_of_ble_eq_true rfl, Nat.le_of_ble_eq_true rfl⟩, hts (.instanceMethod yX0_gainAtAudit) (List.mem_of_getElem? (i := 33) (by decide +kernel)), hts (.selects RX0 yX0_gainAtAudit yX0_gainAtAudit) (List.mem_of_getElem? (i := 35) (by decide +kernel))⟩ (rb_V hK hN hP.2.2 (va_recv hK (one_P (hP.2.2 i hi)) (ci := 1) (q0 := 0) rfl rfl)) rfl rfl hl.1 rfl (lv_room (Nat.le_of_ble_eq_true rfl)) dX1_auditBrings_5 ⟨Nat.le_of_ble_eq_true rfl, Nat.le_of_ble_eq_true rfl⟩)) (fun r_2 hr_2 => ?_)
  rw [hr_2]
  exact W.iret (v := gainS σ i) hx hb hr (fun t ht hW => ⟨_, rfl, rfl, ht⟩) (fun q hq => absurd hq List.not_mem_nil) dX1_auditBrings_8
set_option maxHeartbeats 4000000 in
set_option maxRecDepth 100000 in
theorem n_X1_bestHat (l : Launch) (D : va_G) (cs : Cs) (ρ : Rf) {B : Nat} {σ : PS} (hI : InvS B σ) (hJ : InjA ρ (sK σ)) (i : Nat) (hi : i < sK σ) : Met l yX1_bestHat wsX1_bestHat ({ frames := 4, cells := 0, slots := 0, locals := 90 }) (va_Pc [.ref (r_h ρ), .int (nI i)] (RBp D cs (Soc D cs ρ σ))) (vp_Si (fun r : Int32 => r = bestS σ i)) 0 0 (fun _ => False) := by
  refine Met.ofW (cc := cX1_bestHat) (maxL := 2) (ret := (some .int)) (by decide) rfl ?_
  intro p e s m args below meth c s₁ B0 hml hv
  obtain ⟨rfl, hP, hK, hN⟩ := hv
  have hx := B0.exec
  have hb := B0.bytes
  have hr := B0.returns
  have hts := atoms_spec (ws := wsX1_bestHat) B0.pre
  have hown : s.vm.findClass RX1 = some m.cls := findClass_of_methodNamed B0.named
  have hlocks := B0.notSynchronized
  have hl := lv_entry ([.ref (r_h ρ), .int (nI i)]) (n := 2) (Nat.le_of_ble_eq_true rfl)
  rw [lg_entry_eq]
  generalize (lg_sl ([.ref (r_h ρ), .int (nI i)]) ++ List.replicate (2 - (lg_sl ([.ref (r_h ρ), .int (nI i)])).length) Slot.unset).toArray = ls at hl ⊢
  have hl : lv_has ls 2 [(0, .ref (r_h ρ)), (1, .int (nI i))] := hl
  refine lv_aload_n hx hb dX1_bestHat_0 rfl (lv_at hl 0 rfl) ?_
  refine lv_aload_n hx hb dX1_bestHat_1 rfl (lv_at hl 0 rfl) ?_
  refine lv_iload_n hx hb dX1_bestHat_2 rfl (lv_at hl 1 rfl) ?_
  refine va_csq (va_Run.run (va_runV (As := [.int (nI i)]) (rest := [.ref (r_h ρ)]) ⟨hx, hb, hml, hown, hts⟩ (n_X1_memberNumbered l D cs ρ hI hJ i hi) (cwV 1 hts gX1_bestHat_X1_memberNumbered rfl rfl rfl (by decide +kernel) ⟨Nat.le_of_ble_eq_true rfl, Nat.le_of_ble_eq_true rfl⟩) (rb_V hK hN hP (va_recv hK (one_P hP.1) (ci := 2) (q0 := 0) rfl rfl)) rfl rfl hl.1 rfl (lv_room (Nat.le_of_ble_eq_true rfl)) dX1_bestHat_3 ⟨Nat.le_of_ble_eq_true rfl, Nat.le_of_ble_eq_true rfl⟩)) (fun r_1 hr_1 => ?_)
  rw [hr_1]
  refine vp_callSi (va_Run.run (va_runV (As := [.ref (r_a ρ i)]) (rest := []) ⟨hx, hb, hml, hown, hts⟩ (c_X1_bestHatFor l D cs ρ hI hJ i hi) (cwV 1 hts gX1_bestHat_X1_bestHatFor rfl rfl rfl (by decide +kernel) ⟨Nat.le_of_ble_eq_true rfl, Nat.le_of_ble_eq_true rfl⟩) (rb_V hK hN hP (va_recv hK (one_P hP.1) (ci := 2) (q0 := 0) rfl rfl)) rfl rfl hl.1 rfl (lv_room (Nat.le_of_ble_eq_true rfl)) dX1_bestHat_6 ⟨Nat.le_of_ble_eq_true rfl, Nat.le_of_ble_eq_true rfl⟩)) (fun r_2 hr_2 => ?_)
  rw [hr_2]
  exact W.iret (v := bestS σ i) hx hb hr (fun t ht hW => ⟨_, rfl, rfl, ht⟩) (fun q hq => absurd hq List.not_mem_nil) dX1_bestHat_9
set_option maxHeartbeats 4000000 in
set_option maxRecDepth 100000 in
theorem n_X1_longestIn (l : Launch) (D : va_G) (cs : Cs) (ρ : Rf) {B : Nat} {σ : PS} (hI : InvS B σ) (hJ : InjA ρ (sK σ)) (i : Nat) (hi : i < sK σ) : Met l yX1_longestIn wsX1_longestIn ({ frames := 5, cells := 0, slots := 0, locals := 104 }) (va_Pc [.ref (r_h ρ), .int (nI i)] (RBp D cs (Soc D cs ρ σ))) (vp_Si (fun r : Int32 => r = longInS σ i)) 0 0 (fun _ => False) := by
  refine Met.ofW (cc := cX1_longestIn) (maxL := 2) (ret := (some .int)) (by decide) rfl ?_
  intro p e s m args below meth c s₁ B0 hml hv
  obtain ⟨rfl, hP, hK, hN⟩ := hv
  have hx := B0.exec
  have hb := B0.bytes
  have hr := B0.returns
  have hts := atoms_spec (ws := wsX1_longestIn) B0.pre
  have hown : s.vm.findClass RX1 = some m.cls := findClass_of_methodNamed B0.named
  have hlocks := B0.notSynchronized
  have hl := lv_entry ([.ref (r_h ρ), .int (nI i)]) (n := 2) (Nat.le_of_ble_eq_true rfl)
  rw [lg_entry_eq]
  generalize (lg_sl ([.ref (r_h ρ), .int (nI i)]) ++ List.replicate (2 - (lg_sl ([.ref (r_h ρ), .int (nI i)])).length) Slot.unset).toArray = ls at hl ⊢
  have hl : lv_has ls 2 [(0, .ref (r_h ρ)), (1, .int (nI i))] := hl
  refine lv_aload_n hx hb dX1_longestIn_0 rfl (lv_at hl 0 rfl) ?_
  refine lv_aload_n hx hb dX1_longestIn_1 rfl (lv_at hl 0 rfl) ?_
  refine lv_iload_n hx hb dX1_longestIn_2 rfl (lv_at hl 1 rfl) ?_
  refine va_csq (va_Run.run (va_runV (As := [.int (nI i)]) (rest := [.ref (r_h ρ)]) ⟨hx, hb, hml, hown, hts⟩ (n_X1_memberNumbered l D cs ρ hI hJ i hi) (cwV 1 hts gX1_longestIn_X1_memberNumbered rfl rfl rfl (by decide +kernel) ⟨Nat.le_of_ble_eq_true rfl, Nat.le_of_ble_eq_true rfl⟩) (rb_V hK hN hP (va_recv hK (one_P hP.1) (ci := 2) (q0 := 0) rfl rfl)) rfl rfl hl.1 rfl (lv_room (Nat.le_of_ble_eq_true rfl)) dX1_longestIn_3 ⟨Nat.le_of_ble_eq_true rfl, Nat.le_of_ble_eq_true rfl⟩)) (fun r_1 hr_1 => ?_)
  rw [hr_1]
  refine vp_callSi (va_Run.run (va_runV (As := [.ref (r_a ρ i)]) (rest := []) ⟨hx, hb, hml, hown, hts⟩ (c_X1_hoursToLongestShadow l D cs ρ hI hJ i hi) (cwV 1 hts gX1_longestIn_X1_hoursToLongestShadow rfl rfl rfl (by decide +kernel) ⟨Nat.le_of_ble_eq_true rfl, Nat.le_of_ble_eq_true rfl⟩) (rb_V hK hN hP (va_recv hK (one_P hP.1) (ci := 2) (q0 := 0) rfl rfl)) rfl rfl hl.1 rfl (lv_room (Nat.le_of_ble_eq_true rfl)) dX1_longestIn_6 ⟨Nat.le_of_ble_eq_true rfl, Nat.le_of_ble_eq_true rfl⟩)) (fun r_2 hr_2 => ?_)
  rw [hr_2]
  exact W.iret (v := longInS σ i) hx hb hr (fun t ht hW => ⟨_, rfl, rfl, ht⟩) (fun q hq => absurd hq List.not_mem_nil) dX1_longestIn_9
set_option maxHeartbeats 4000000 in
set_option maxRecDepth 100000 in
theorem n_X1_honestShadow (l : Launch) (D : va_G) (cs : Cs) (ρ : Rf) {B : Nat} {σ : PS} (hI : InvS B σ) (hJ : InjA ρ (sK σ)) (i : Nat) (hi : i < sK σ) (h : Int32) (hh1 : ¬ h < 0) (hh2 : h < 24) : Met l yX1_honestShadow wsX1_honestShadow ({ frames := 4, cells := 0, slots := 0, locals := 85 }) (va_Pc [.ref (r_h ρ), .int (nI i), .int h] (RBp D cs (Soc D cs ρ σ))) (vp_Si (fun r : Int32 => r = honsS σ i h)) 0 0 (fun _ => False) := by
  refine Met.ofW (cc := cX1_honestShadow) (maxL := 4) (ret := (some .int)) (by decide) rfl ?_
  intro p e s m args below meth c s₁ B0 hml hv
  obtain ⟨rfl, hP, hK, hN⟩ := hv
  have hx := B0.exec
  have hb := B0.bytes
  have hr := B0.returns
  have hts := atoms_spec (ws := wsX1_honestShadow) B0.pre
  have hown : s.vm.findClass RX1 = some m.cls := findClass_of_methodNamed B0.named
  have hlocks := B0.notSynchronized
  have hl := lv_entry ([.ref (r_h ρ), .int (nI i), .int h]) (n := 4) (Nat.le_of_ble_eq_true rfl)
  rw [lg_entry_eq]
  generalize (lg_sl ([.ref (r_h ρ), .int (nI i), .int h]) ++ List.replicate (4 - (lg_sl ([.ref (r_h ρ), .int (nI i), .int h])).length) Slot.unset).toArray = ls at hl ⊢
  have hl : lv_has ls 4 [(0, .ref (r_h ρ)), (1, .int (nI i)), (2, .int h)] := hl
  refine lv_aload_n hx hb dX1_honestShadow_0 rfl (lv_at hl 0 rfl) ?_
  refine lv_iload_n hx hb dX1_honestShadow_1 rfl (lv_at hl 1 rfl) ?_
  refine va_csq (va_Run.run (va_runV (As := [.int (nI i)]) (rest := []) ⟨hx, hb, hml, hown, hts⟩ (n_X1_memberNumbered l D cs ρ hI hJ i hi) (cwV 1 hts gX1_honestShadow_X1_memberNumbered rfl rfl rfl (by decide +kernel) ⟨Nat.le_of_ble_eq_true rfl, Nat.le_of_ble_eq_true rfl⟩) (rb_V hK hN hP (va_recv hK (one_P hP.1) (ci := 2) (q0 := 0) rfl rfl)) rfl rfl hl.1 rfl (lv_room (Nat.le_of_ble_eq_true rfl)) dX1_honestShadow_2 ⟨Nat.le_of_ble_eq_true rfl, Nat.le_of_ble_eq_true rfl⟩)) (fun r_1 hr_1 => ?_)
  rw [hr_1]
  refine lv_astore_n (lv' := [(3, .ref (r_a ρ i)), (0, .ref (r_h ρ)), (1, .int (nI i)), (2, .int h)]) hx hb dX1_honestShadow_5 rfl hl (by decide) rfl (fun ls hl => ?_)
  refine lv_iload_n hx hb dX1_honestShadow_6 rfl (lv_at hl 3 rfl) ?_
  refine lv_if_lt (tgt := 16) hx hb dX1_honestShadow_7 (by decide) (fun c9 => absurd c9 (hh1)) (fun _ => ?_)
  refine lv_iload_n hx hb dX1_honestShadow_10 rfl (lv_at hl 3 rfl) ?_
  refine lv_bipush (v := 24) hx hb dX1_honestShadow_11 (by decide) ?_
  refine lv_icmp_lt (tgt := 26) hx hb dX1_honestShadow_13 (by decide) (fun _ => ?_) (fun c9 => absurd (hh2) c9)
  refine lv_aload_n hx hb dX1_honestShadow_26 rfl (lv_at hl 0 rfl) ?_
  refine lv_iload_n hx hb dX1_honestShadow_27 rfl (lv_at hl 3 rfl) ?_
  refine vp_callSi (va_Run.run (va_runVN (As := [.int h]) (rest := []) ⟨hx, hb, hml, hown, hts⟩ (c_X0_honestShadowAt l D cs ρ hI hJ i hi h) ⟨va_cnB 1 hts gX1_honestShadow_X0_honestShadowAt_n146 rfl rfl rfl (hN (.methodLinkNest "ShadowSociety" 146 ⟨"ShadowSociety$Member", "honestShadowAt", "(I)I"⟩ "ShadowSociety") (by decide +kernel)) (hts (.initialized RX0) (List.mem_of_getElem? (i := 34) (by decide +kernel))) (by decide +kernel) ⟨Nat.le_of_ble_eq_true rfl, Nat.le_of_ble_eq_true rfl⟩, hts (.instanceMethod yX0_honestShadowAt) (List.mem_of_getElem? (i := 33) (by decide +kernel)), hts (.selects RX0 yX0_honestShadowAt yX0_honestShadowAt) (List.mem_of_getElem? (i := 35) (by decide +kernel))⟩ (rb_V hK hN hP.2.2 (va_recv hK (one_P (hP.2.2 i hi)) (ci := 1) (q0 := 0) rfl rfl)) rfl rfl hl.1 rfl (lv_room (Nat.le_of_ble_eq_true rfl)) dX1_honestShadow_28 ⟨Nat.le_of_ble_eq_true rfl, Nat.le_of_ble_eq_true rfl⟩)) (fun r_2 hr_2 => ?_)
  rw [hr_2]
  exact W.iret (v := honsS σ i h) hx hb hr (fun t ht hW => ⟨_, rfl, rfl, ht⟩) (fun q hq => absurd hq List.not_mem_nil) dX1_honestShadow_31
set_option maxHeartbeats 4000000 in
set_option maxRecDepth 100000 in
theorem n_X1_isHonest (l : Launch) (D : va_G) (cs : Cs) (ρ : Rf) {B : Nat} {σ : PS} (hI : InvS B σ) (hJ : InjA ρ (sK σ)) (i : Nat) (hi : i < sK σ) (hc : hasC σ i) : Met l yX1_isHonest wsX1_isHonest ({ frames := 4, cells := 0, slots := 0, locals := 85 }) (va_Pc [.ref (r_h ρ), .int (nI i)] (RBp D cs (Soc D cs ρ σ))) (vp_Si (fun r : Int32 => r = b01 (hasC σ i ∧ truC σ i))) 0 0 (fun _ => False) := by
  refine Met.ofW (cc := cX1_isHonest) (maxL := 3) (ret := (some .boolean)) (by decide) rfl ?_
  intro p e s m args below meth c s₁ B0 hml hv
  obtain ⟨rfl, hP, hK, hN⟩ := hv
  have hx := B0.exec
  have hb := B0.bytes
  have hr := B0.returns
  have hts := atoms_spec (ws := wsX1_isHonest) B0.pre
  have hown : s.vm.findClass RX1 = some m.cls := findClass_of_methodNamed B0.named
  have hlocks := B0.notSynchronized
  have hl := lv_entry ([.ref (r_h ρ), .int (nI i)]) (n := 3) (Nat.le_of_ble_eq_true rfl)
  rw [lg_entry_eq]
  generalize (lg_sl ([.ref (r_h ρ), .int (nI i)]) ++ List.replicate (3 - (lg_sl ([.ref (r_h ρ), .int (nI i)])).length) Slot.unset).toArray = ls at hl ⊢
  have hl : lv_has ls 3 [(0, .ref (r_h ρ)), (1, .int (nI i))] := hl
  refine lv_aload_n hx hb dX1_isHonest_0 rfl (lv_at hl 0 rfl) ?_
  refine lv_iload_n hx hb dX1_isHonest_1 rfl (lv_at hl 1 rfl) ?_
  refine va_csq (va_Run.run (va_runV (As := [.int (nI i)]) (rest := []) ⟨hx, hb, hml, hown, hts⟩ (n_X1_memberNumbered l D cs ρ hI hJ i hi) (cwV 1 hts gX1_isHonest_X1_memberNumbered rfl rfl rfl (by decide +kernel) ⟨Nat.le_of_ble_eq_true rfl, Nat.le_of_ble_eq_true rfl⟩) (rb_V hK hN hP (va_recv hK (one_P hP.1) (ci := 2) (q0 := 0) rfl rfl)) rfl rfl hl.1 rfl (lv_room (Nat.le_of_ble_eq_true rfl)) dX1_isHonest_2 ⟨Nat.le_of_ble_eq_true rfl, Nat.le_of_ble_eq_true rfl⟩)) (fun r_1 hr_1 => ?_)
  rw [hr_1]
  refine lv_astore_n (lv' := [(2, .ref (r_a ρ i)), (0, .ref (r_h ρ)), (1, .int (nI i))]) hx hb dX1_isHonest_5 rfl hl (by decide) rfl (fun ls hl => ?_)
  refine lv_aload_n hx hb dX1_isHonest_6 rfl (lv_at hl 0 rfl) ?_
  refine vp_callSi (va_Run.run (va_runVN (As := []) (rest := []) ⟨hx, hb, hml, hown, hts⟩ (c_X0_hasCertificate l D cs ρ hI hJ i hi) ⟨va_cnB 0 hts gX1_isHonest_X0_hasCertificate_n129 rfl rfl rfl (hN (.methodLinkNest "ShadowSociety" 129 ⟨"ShadowSociety$Member", "hasCertificate", "()Z"⟩ "ShadowSociety") (by decide +kernel)) (hts (.initialized RX0) (List.mem_of_getElem? (i := 36) (by decide +kernel))) (by decide +kernel) ⟨Nat.le_of_ble_eq_true rfl, Nat.le_of_ble_eq_true rfl⟩, hts (.instanceMethod yX0_hasCertificate) (List.mem_of_getElem? (i := 35) (by decide +kernel)), hts (.selects RX0 yX0_hasCertificate yX0_hasCertificate) (List.mem_of_getElem? (i := 37) (by decide +kernel))⟩ (rb_V hK hN hP.2.2 (va_recv hK (one_P (hP.2.2 i hi)) (ci := 1) (q0 := 0) rfl rfl)) rfl rfl hl.1 rfl (lv_room (Nat.le_of_ble_eq_true rfl)) dX1_isHonest_7 ⟨Nat.le_of_ble_eq_true rfl, Nat.le_of_ble_eq_true rfl⟩)) (fun r_2 hr_2 => ?_)
  rw [hr_2]
  refine lv_if_ne (tgt := 23) hx hb dX1_isHonest_10 (by decide) (fun _ => ?_) (fun c9 => absurd c9 ((b01_n.mpr hc)))
  refine lv_aload_n hx hb dX1_isHonest_23 rfl (lv_at hl 0 rfl) ?_
  refine vp_callSi (va_Run.run (va_runVN (As := []) (rest := []) ⟨hx, hb, hml, hown, hts⟩ (c_X0_hasHonestCertificate l D cs ρ hI hJ i hi) ⟨va_cnB 0 hts gX1_isHonest_X0_hasHonestCertificate_n132 rfl rfl rfl (hN (.methodLinkNest "ShadowSociety" 132 ⟨"ShadowSociety$Member", "hasHonestCertificate", "()Z"⟩ "ShadowSociety") (by decide +kernel)) (hts (.initialized RX0) (List.mem_of_getElem? (i := 36) (by decide +kernel))) (by decide +kernel) ⟨Nat.le_of_ble_eq_true rfl, Nat.le_of_ble_eq_true rfl⟩, hts (.instanceMethod yX0_hasHonestCertificate) (List.mem_of_getElem? (i := 40) (by decide +kernel)), hts (.selects RX0 yX0_hasHonestCertificate yX0_hasHonestCertificate) (List.mem_of_getElem? (i := 41) (by decide +kernel))⟩ (rb_V hK hN hP.2.2 (va_recv hK (one_P (hP.2.2 i hi)) (ci := 1) (q0 := 0) rfl rfl)) rfl rfl hl.1 rfl (lv_room (Nat.le_of_ble_eq_true rfl)) dX1_isHonest_24 ⟨Nat.le_of_ble_eq_true rfl, Nat.le_of_ble_eq_true rfl⟩)) (fun r_3 hr_3 => ?_)
  rw [hr_3]
  exact W.zret (ty := .boolean) (v := b01 (hasC σ i ∧ truC σ i)) hx hb hr (b01_nar _) (fun t ht hW => ⟨_, rfl, rfl, ht⟩) (fun q hq => absurd hq List.not_mem_nil) dX1_isHonest_27
