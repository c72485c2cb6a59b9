/-! METHODS THAT MAY THROW (laid by wip/p35/gen/throwers.py) -/
theorem in_X1_memberNumbered_X1 : ∀ w ∈ wsX10, w ∈ wsX1_memberNumbered := by decide +kernel
set_option maxHeartbeats 4000000 in
set_option maxRecDepth 100000 in
/-- the member of a number, or the exception -/
theorem x_X1_memberNumbered (l : Launch) (hlf : l.stackTraces = false) (D : va_G) (cs : Cs) (ρ : Rf) {B : Nat} {σ : PS} (hI : InvS B σ) (hap : AptA ρ (sK σ)) (H0 : Heap) (a : Int32) : vx_Met l yX1_memberNumbered wsX1_memberNumbered ({ frames := 6, cells := 1, slots := 6, locals := 82 }) (va_Pc [.ref (r_h ρ), .int a] (TBp D cs (fun X => X = H0 ∧ Soc D cs ρ σ X))) (va_Qq (fun (r : Option Nat) (_ : Unit) => ∃ i, i < sK σ ∧ a = nI i ∧ r = some (r_a ρ i)) (fun _ t => t.heap = H0) (fun q => H0.size ≤ q)) (vx_X (fun _ : Unit => True) (fun E _ _ => E = eIob ∧ ixS σ a = none) (fun q => H0.size ≤ q)) 1 6 (fun q => H0.size ≤ q) := by
  refine vx_ofW (cc := cX1_memberNumbered) (maxL := 2) (ret := (some (.object "ShadowSociety$Member"))) (by decide) rfl ?_
  intro p e s m args below meth c s₁ B0 hml hte hv
  obtain ⟨rfl, ⟨⟨hH, hP⟩, hK, hN⟩, hT⟩ := hv
  subst hH
  have hx := B0.exec
  have hb := B0.bytes
  have hr := B0.returns
  have hts := atoms_spec (ws := wsX1_memberNumbered) B0.pre
  have hown : s.vm.findClass RX1 = some m.cls := findClass_of_methodNamed B0.named
  have hlocks := B0.notSynchronized
  have hJ := hap.1
  have hS : va_S (fun q => s.heap.size ≤ q) s.heap s.heap [] := va_S.rf
  have hl := lv_entry ([.ref (r_h ρ), .int a]) (n := 2) (Nat.le_of_ble_eq_true rfl)
  rw [lg_entry_eq]
  generalize (lg_sl ([.ref (r_h ρ), .int a]) ++ List.replicate (2 - (lg_sl ([.ref (r_h ρ), .int a])).length) Slot.unset).toArray = ls at hl ⊢
  have hl : lv_has ls 2 [(0, .ref (r_h ρ)), (1, .int a)] := hl
  refine lv_iload_n hx hb dX1_memberNumbered_0 rfl (lv_at hl 1 rfl) ?_
  refine lv_if_lt (tgt := 15) hx hb dX1_memberNumbered_1 (by decide) (fun c_1 => ?_) (fun c_1 => ?_)
  · obtain ⟨sa_2, hsa_2⟩ := hT.1 (198, "there is no such member") (by decide +kernel)
    exact vx_throwS (names := nms2) (A := fun q => s.heap.size ≤ q) hx hb hlf hown (by decide +kernel) (by decide +kernel) (hts (.classLink RX1 141 "java/lang/IndexOutOfBoundsException") (List.mem_of_getElem? (i := 1) (by decide +kernel))) (hts (.initialized "java/lang/IndexOutOfBoundsException") (List.mem_of_getElem? (i := 2) (by decide +kernel))) hsa_2 (hat_eIob (fun w h9 => hts w (List.mem_cons_of_mem _ (List.mem_append_right _ h9))) hN) hgd_eIob hT.2.1 hT.2.2 hS (by rw [hml]; exact hl.1) dX1_memberNumbered_15 dX1_memberNumbered_18 dX1_memberNumbered_19 dX1_memberNumbered_21 dX1_memberNumbered_24 (fun x h9 => (hte x h9).elim) (Nat.le_of_ble_eq_true rfl) (Nat.le_of_ble_eq_true rfl) (Nat.le_of_ble_eq_true rfl) (Nat.le_of_ble_eq_true rfl) hlocks (fun t hA hz hk => ⟨(), trivial, ⟨rfl, ix_n (Or.inl c_1)⟩, hz, fun q h9 _ => hk q h9⟩) (fun z h9 => (hS.2.2 z h9)) (Nat.le_of_ble_eq_true rfl) (Nat.le_of_ble_eq_true rfl)
  · refine lv_iload_n hx hb dX1_memberNumbered_4 rfl (lv_at hl 1 rfl) ?_
    refine lv_aload_n hx hb dX1_memberNumbered_5 rfl (lv_at hl 0 rfl) ?_
    refine va_get (D := D) (ci := 2) (v := .ref (r_q ρ)) (C := RX1) (T := TX1) (N := 4) hx hb hts in_X1_memberNumbered_X1 hown hK (one_P hP.1) 0 rfl rfl 0 (by decide) (hts (.fieldLink RX1 10 "ShadowSociety" "roll" "Ljava/util/ArrayList;") (List.mem_of_getElem? (i := 3) (by decide +kernel))) (fun _ h9 => h9) rfl dX1_memberNumbered_6 ?_
    refine vp_callSi (va_Run.run (va_runV (As := []) (rest := [.int a]) ⟨hx, hb, hml, hown, hts⟩ (c_Jx4a65c_size_8abf5 l D cs ρ hI hap.1) (cwV 0 hts gX1_memberNumbered_Jx4a65c_size_8abf5 rfl rfl rfl (by decide +kernel) ⟨Nat.le_of_ble_eq_true rfl, Nat.le_of_ble_eq_true rfl⟩) (rb_V hK hN hP.2.1 (va_recv hK (one_P hP.2.1.1) (ci := 0) (q0 := 0) rfl rfl)) rfl rfl hl.1 rfl (lv_room (Nat.le_of_ble_eq_true rfl)) dX1_memberNumbered_9 ⟨Nat.le_of_ble_eq_true rfl, Nat.le_of_ble_eq_true rfl⟩)) (fun r_3 hr_3 => ?_)
    rw [hr_3]
    refine lv_icmp_lt (tgt := 25) hx hb dX1_memberNumbered_12 (by decide) (fun c_4 => ?_) (fun c_4 => ?_)
    · refine lv_aload_n hx hb dX1_memberNumbered_25 rfl (lv_at hl 0 rfl) ?_
      refine va_get (D := D) (ci := 2) (v := .ref (r_q ρ)) (C := RX1) (T := TX1) (N := 4) hx hb hts in_X1_memberNumbered_X1 hown hK (one_P hP.1) 0 rfl rfl 0 (by decide) (hts (.fieldLink RX1 10 "ShadowSociety" "roll" "Ljava/util/ArrayList;") (List.mem_of_getElem? (i := 3) (by decide +kernel))) (fun _ h9 => h9) rfl dX1_memberNumbered_26 ?_
      refine lv_iload_n hx hb dX1_memberNumbered_29 rfl (lv_at hl 1 rfl) ?_
      obtain ⟨i, hi, ha⟩ : ∃ i, i < sK σ ∧ a = nI i := by
        rcases ix_c hI a with ⟨-, h | h⟩ | ⟨i, h1, h2, -⟩
        · exact absurd h c_1
        · exact absurd h (by simpa using c_4)
        · exact ⟨i, h1, h2⟩
      refine W.eq (g2 := F0 m 30 ls [.int (nI i), .ref (r_q ρ)]) (by rw [ha]) ?_
      refine va_csq (va_Run.run (va_runV (As := [.int (nI i)]) (rest := []) ⟨hx, hb, hml, hown, hts⟩ (c_Jx4a65c_get_915e3 l D cs ρ hI hap.1 i hi) (cwV 1 hts gX1_memberNumbered_Jx4a65c_get_915e3 rfl rfl rfl (by decide +kernel) ⟨Nat.le_of_ble_eq_true rfl, Nat.le_of_ble_eq_true rfl⟩) (rb_V hK hN hP.2.1 (va_recv hK (one_P hP.2.1.1) (ci := 0) (q0 := 0) rfl rfl)) rfl rfl hl.1 rfl (lv_room (Nat.le_of_ble_eq_true rfl)) dX1_memberNumbered_30 ⟨Nat.le_of_ble_eq_true rfl, Nat.le_of_ble_eq_true rfl⟩)) (fun r_5 hr_5 => ?_)
      rw [hr_5]
      refine va_castS (nm := RX0) hx hb hown (hts (.classLink RX1 44 RX0) (List.mem_of_getElem? (i := 4) (by decide +kernel))) (hK.1 1 _ rfl).2 (va_recv hK (one_P (hP.2.2 i hi)) (ci := 1) (q0 := 0) rfl rfl) dX1_memberNumbered_33 ?_
      refine vx_ret ?_
      refine W.widen (k := 1) (n := 6) (by omega) (by omega) ?_
      exact W.aret (v := va_rf (some (r_a ρ i))) (rt := .object "ShadowSociety$Member") hx hb hr (Or.inl ⟨_, rfl⟩) (Or.inr ⟨_, rfl⟩) (fun t ht hW => ⟨⟨some (r_a ρ i), (), rfl, ⟨i, hi, ha, rfl⟩, ht⟩, hS.F ht⟩) hS.2.2 dX1_memberNumbered_36
    · obtain ⟨sa_6, hsa_6⟩ := hT.1 (198, "there is no such member") (by decide +kernel)
      exact vx_throwS (names := nms2) (A := fun q => s.heap.size ≤ q) hx hb hlf hown (by decide +kernel) (by decide +kernel) (hts (.classLink RX1 141 "java/lang/IndexOutOfBoundsException") (List.mem_of_getElem? (i := 1) (by decide +kernel))) (hts (.initialized "java/lang/IndexOutOfBoundsException") (List.mem_of_getElem? (i := 2) (by decide +kernel))) hsa_6 (hat_eIob (fun w h9 => hts w (List.mem_cons_of_mem _ (List.mem_append_right _ h9))) hN) hgd_eIob hT.2.1 hT.2.2 hS (by rw [hml]; exact hl.1) dX1_memberNumbered_15 dX1_memberNumbered_18 dX1_memberNumbered_19 dX1_memberNumbered_21 dX1_memberNumbered_24 (fun x h9 => (hte x h9).elim) (Nat.le_of_ble_eq_true rfl) (Nat.le_of_ble_eq_true rfl) (Nat.le_of_ble_eq_true rfl) (Nat.le_of_ble_eq_true rfl) hlocks (fun t hA hz hk => ⟨(), trivial, ⟨rfl, ix_n (Or.inr (by simpa using c_4))⟩, hz, fun q h9 _ => hk q h9⟩) (fun z h9 => (hS.2.2 z h9)) (Nat.le_of_ble_eq_true rfl) (Nat.le_of_ble_eq_true rfl)
theorem in_X1_lampOf_X0 : ∀ w ∈ wsX00, w ∈ wsX1_lampOf := by decide +kernel
set_option maxHeartbeats 4000000 in
set_option maxRecDepth 100000 in
/-- lampOf: reads of one member -/
theorem x_X1_lampOf (l : Launch) (hlf : l.stackTraces = false) (D : va_G) (cs : Cs) (ρ : Rf) {B : Nat} {σ : PS} (hI : InvS B σ) (hap : AptA ρ (sK σ)) (H0 : Heap) (a : Int32) : vx_Met l yX1_lampOf wsX1_lampOf ({ frames := 7, cells := 1, slots := 6, locals := 103 }) (va_Pc [.ref (r_h ρ), .int a] (TBp D cs (fun X => X = H0 ∧ Soc D cs ρ σ X))) (va_Qi (fun (r : Int32) (_ : Unit) => rdO σ a (fun i => sLa σ i) = (0, r)) (fun _ t => t.heap = H0) (fun q => H0.size ≤ q)) (vx_X (fun _ : Unit => True) (fun E _ _ => E = eIob ∧ (rdO σ a (fun i => sLa σ i)).1 = 1) (fun q => H0.size ≤ q)) 1 6 (fun q => H0.size ≤ q) := by
  refine vx_ofW (cc := cX1_lampOf) (maxL := 2) (ret := (some .int)) (by decide) rfl ?_
  intro p e s m args below meth c s₁ B0 hml hte hv
  obtain ⟨rfl, ⟨⟨hH, hP⟩, hK, hN⟩, hT⟩ := hv
  subst hH
  have hx := B0.exec
  have hb := B0.bytes
  have hr := B0.returns
  have hts := atoms_spec (ws := wsX1_lampOf) B0.pre
  have hown : s.vm.findClass RX1 = some m.cls := findClass_of_methodNamed B0.named
  have hlocks := B0.notSynchronized
  have hJ := hap.1
  have hS : va_S (fun q => s.heap.size ≤ q) s.heap s.heap [] := va_S.rf
  have hl := lv_entry ([.ref (r_h ρ), .int a]) (n := 2) (Nat.le_of_ble_eq_true rfl)
  rw [lg_entry_eq]
  generalize (lg_sl ([.ref (r_h ρ), .int a]) ++ List.replicate (2 - (lg_sl ([.ref (r_h ρ), .int a])).length) Slot.unset).toArray = ls at hl ⊢
  have hl : lv_has ls 2 [(0, .ref (r_h ρ)), (1, .int a)] := hl
  refine lv_aload_n hx hb dX1_lampOf_0 rfl (lv_at hl 0 rfl) ?_
  refine lv_iload_n hx hb dX1_lampOf_1 rfl (lv_at hl 1 rfl) ?_
  refine vx_callq (vx_runV (As := [.int a]) (rest := []) ⟨hx, hb, hml, hown, hts⟩ (x_X1_memberNumbered l hlf D cs ρ hI hap s.heap a) (cwV 1 hts gX1_lampOf_X1_memberNumbered rfl rfl rfl (by decide +kernel) ⟨Nat.le_of_ble_eq_true rfl, Nat.le_of_ble_eq_true rfl⟩) (tb_V hK hN ⟨rfl, hP⟩ hT (Nat.le_refl _) (fun _ _ => rfl) (va_recv hK (one_P hP.1) (ci := 2) (q0 := 0) rfl rfl)) rfl rfl hl.1 rfl (lv_room (Nat.le_of_ble_eq_true rfl)) dX1_lampOf_2 ⟨Nat.le_of_ble_eq_true rfl, Nat.le_of_ble_eq_true rfl⟩) hS (fun q _ h => h) (fun q h => h) (fun q _ h => h) (fun E ce q9 u t H1 locs ht hvm hu hB hz1 hk1 hS hce hcv hcl => ?_) (fun r u t H1 locs ht hvm hw hB hz1 hk1 hS => ?_)
  · exact vx_out (fun x h9 => (hte x h9).elim) hlocks hce hcv hcl (fun t2 ht2 _ => ⟨(), trivial, (⟨hB.1, (by unfold rdO; rw [hB.2]; first | done | rfl)⟩), by rw [ht2]; exact hz1, fun q h9 h8 => by rw [ht2]; exact hk1 q h9 h8⟩) (fun z h9 => (hS.2.2 z h9)) (Nat.le_of_ble_eq_true rfl) (Nat.le_of_ble_eq_true rfl)
  · obtain ⟨i, hi, ha1, rfl⟩ := hw
    have hH1 : H1 = s.heap := ht.symm.trans hB
    subst hH1
    have hix1 : ixS σ a = some i := by rw [ha1]; exact ix_s hI hi
    refine va_getN (D := D) (ci := 1) (v := .int (sLa σ i)) (C := RX0) (T := TX0) (N := 9) hx hb hts in_X1_lampOf_X0 hown hK (one_P (hP.2.2 i hi)) 0 rfl rfl 4 (by decide) (Nst.use hN (w := .fieldLinkNest "ShadowSociety" 65 "ShadowSociety$Member" "lamp" "I" "ShadowSociety") (by decide +kernel)) (fun _ h9 => h9) rfl dX1_lampOf_5 ?_
    refine vx_ret ?_
    refine W.widen (k := 1) (n := 6) (Nat.le_of_ble_eq_true rfl) (Nat.le_of_ble_eq_true rfl) ?_
    exact W.iret (v := sLa σ i) hx hb hr (fun t ht hW => ⟨⟨_, (), rfl, (by unfold rdO; rw [hix1]; first | done | rfl), ht⟩, hS.F ht⟩) hS.2.2 dX1_lampOf_8
theorem in_X1_purseOf_X0 : ∀ w ∈ wsX00, w ∈ wsX1_purseOf := by decide +kernel
set_option maxHeartbeats 4000000 in
set_option maxRecDepth 100000 in
/-- purseOf: reads of one member -/
theorem x_X1_purseOf (l : Launch) (hlf : l.stackTraces = false) (D : va_G) (cs : Cs) (ρ : Rf) {B : Nat} {σ : PS} (hI : InvS B σ) (hap : AptA ρ (sK σ)) (H0 : Heap) (a : Int32) : vx_Met l yX1_purseOf wsX1_purseOf ({ frames := 7, cells := 1, slots := 6, locals := 103 }) (va_Pc [.ref (r_h ρ), .int a] (TBp D cs (fun X => X = H0 ∧ Soc D cs ρ σ X))) (va_Qi (fun (r : Int32) (_ : Unit) => rdO σ a (fun i => sPu σ i) = (0, r)) (fun _ t => t.heap = H0) (fun q => H0.size ≤ q)) (vx_X (fun _ : Unit => True) (fun E _ _ => E = eIob ∧ (rdO σ a (fun i => sPu σ i)).1 = 1) (fun q => H0.size ≤ q)) 1 6 (fun q => H0.size ≤ q) := by
  refine vx_ofW (cc := cX1_purseOf) (maxL := 2) (ret := (some .int)) (by decide) rfl ?_
  intro p e s m args below meth c s₁ B0 hml hte hv
  obtain ⟨rfl, ⟨⟨hH, hP⟩, hK, hN⟩, hT⟩ := hv
  subst hH
  have hx := B0.exec
  have hb := B0.bytes
  have hr := B0.returns
  have hts := atoms_spec (ws := wsX1_purseOf) B0.pre
  have hown : s.vm.findClass RX1 = some m.cls := findClass_of_methodNamed B0.named
  have hlocks := B0.notSynchronized
  have hJ := hap.1
  have hS : va_S (fun q => s.heap.size ≤ q) s.heap s.heap [] := va_S.rf
  have hl := lv_entry ([.ref (r_h ρ), .int a]) (n := 2) (Nat.le_of_ble_eq_true rfl)
  rw [lg_entry_eq]
  generalize (lg_sl ([.ref (r_h ρ), .int a]) ++ List.replicate (2 - (lg_sl ([.ref (r_h ρ), .int a])).length) Slot.unset).toArray = ls at hl ⊢
  have hl : lv_has ls 2 [(0, .ref (r_h ρ)), (1, .int a)] := hl
  refine lv_aload_n hx hb dX1_purseOf_0 rfl (lv_at hl 0 rfl) ?_
  refine lv_iload_n hx hb dX1_purseOf_1 rfl (lv_at hl 1 rfl) ?_
  refine vx_callq (vx_runV (As := [.int a]) (rest := []) ⟨hx, hb, hml, hown, hts⟩ (x_X1_memberNumbered l hlf D cs ρ hI hap s.heap a) (cwV 1 hts gX1_purseOf_X1_memberNumbered rfl rfl rfl (by decide +kernel) ⟨Nat.le_of_ble_eq_true rfl, Nat.le_of_ble_eq_true rfl⟩) (tb_V hK hN ⟨rfl, hP⟩ hT (Nat.le_refl _) (fun _ _ => rfl) (va_recv hK (one_P hP.1) (ci := 2) (q0 := 0) rfl rfl)) rfl rfl hl.1 rfl (lv_room (Nat.le_of_ble_eq_true rfl)) dX1_purseOf_2 ⟨Nat.le_of_ble_eq_true rfl, Nat.le_of_ble_eq_true rfl⟩) hS (fun q _ h => h) (fun q h => h) (fun q _ h => h) (fun E ce q9 u t H1 locs ht hvm hu hB hz1 hk1 hS hce hcv hcl => ?_) (fun r u t H1 locs ht hvm hw hB hz1 hk1 hS => ?_)
  · exact vx_out (fun x h9 => (hte x h9).elim) hlocks hce hcv hcl (fun t2 ht2 _ => ⟨(), trivial, (⟨hB.1, (by unfold rdO; rw [hB.2]; first | done | rfl)⟩), by rw [ht2]; exact hz1, fun q h9 h8 => by rw [ht2]; exact hk1 q h9 h8⟩) (fun z h9 => (hS.2.2 z h9)) (Nat.le_of_ble_eq_true rfl) (Nat.le_of_ble_eq_true rfl)
  · obtain ⟨i, hi, ha1, rfl⟩ := hw
    have hH1 : H1 = s.heap := ht.symm.trans hB
    subst hH1
    have hix1 : ixS σ a = some i := by rw [ha1]; exact ix_s hI hi
    refine va_getN (D := D) (ci := 1) (v := .int (sPu σ i)) (C := RX0) (T := TX0) (N := 9) hx hb hts in_X1_purseOf_X0 hown hK (one_P (hP.2.2 i hi)) 0 rfl rfl 3 (by decide) (Nst.use hN (w := .fieldLinkNest "ShadowSociety" 70 "ShadowSociety$Member" "purse" "I" "ShadowSociety") (by decide +kernel)) (fun _ h9 => h9) rfl dX1_purseOf_5 ?_
    refine vx_ret ?_
    refine W.widen (k := 1) (n := 6) (Nat.le_of_ble_eq_true rfl) (Nat.le_of_ble_eq_true rfl) ?_
    exact W.iret (v := sPu σ i) hx hb hr (fun t ht hW => ⟨⟨_, (), rfl, (by unfold rdO; rw [hix1]; first | done | rfl), ht⟩, hS.F ht⟩) hS.2.2 dX1_purseOf_8
set_option maxHeartbeats 4000000 in
set_option maxRecDepth 100000 in
/-- wears: reads of one member -/
theorem x_X1_wears (l : Launch) (hlf : l.stackTraces = false) (D : va_G) (cs : Cs) (ρ : Rf) {B : Nat} {σ : PS} (hI : InvS B σ) (hap : AptA ρ (sK σ)) (H0 : Heap) (a : Int32) : vx_Met l yX1_wears wsX1_wears ({ frames := 7, cells := 1, slots := 6, locals := 103 }) (va_Pc [.ref (r_h ρ), .int a] (TBp D cs (fun X => X = H0 ∧ Soc D cs ρ σ X))) (va_Qi (fun (r : Int32) (_ : Unit) => rdO σ a (fun i => sWe σ i) = (0, r)) (fun _ t => t.heap = H0) (fun q => H0.size ≤ q)) (vx_X (fun _ : Unit => True) (fun E _ _ => E = eIob ∧ (rdO σ a (fun i => sWe σ i)).1 = 1) (fun q => H0.size ≤ q)) 1 6 (fun q => H0.size ≤ q) := by
  refine vx_ofW (cc := cX1_wears) (maxL := 2) (ret := (some .int)) (by decide) rfl ?_
  intro p e s m args below meth c s₁ B0 hml hte hv
  obtain ⟨rfl, ⟨⟨hH, hP⟩, hK, hN⟩, hT⟩ := hv
  subst hH
  have hx := B0.exec
  have hb := B0.bytes
  have hr := B0.returns
  have hts := atoms_spec (ws := wsX1_wears) B0.pre
  have hown : s.vm.findClass RX1 = some m.cls := findClass_of_methodNamed B0.named
  have hlocks := B0.notSynchronized
  have hJ := hap.1
  have hS : va_S (fun q => s.heap.size ≤ q) s.heap s.heap [] := va_S.rf
  have hl := lv_entry ([.ref (r_h ρ), .int a]) (n := 2) (Nat.le_of_ble_eq_true rfl)
  rw [lg_entry_eq]
  generalize (lg_sl ([.ref (r_h ρ), .int a]) ++ List.replicate (2 - (lg_sl ([.ref (r_h ρ), .int a])).length) Slot.unset).toArray = ls at hl ⊢
  have hl : lv_has ls 2 [(0, .ref (r_h ρ)), (1, .int a)] := hl
  refine lv_aload_n hx hb dX1_wears_0 rfl (lv_at hl 0 rfl) ?_
  refine lv_iload_n hx hb dX1_wears_1 rfl (lv_at hl 1 rfl) ?_
  refine vx_callq (vx_runV (As := [.int a]) (rest := []) ⟨hx, hb, hml, hown, hts⟩ (x_X1_memberNumbered l hlf D cs ρ hI hap s.heap a) (cwV 1 hts gX1_wears_X1_memberNumbered rfl rfl rfl (by decide +kernel) ⟨Nat.le_of_ble_eq_true rfl, Nat.le_of_ble_eq_true rfl⟩) (tb_V hK hN ⟨rfl, hP⟩ hT (Nat.le_refl _) (fun _ _ => rfl) (va_recv hK (one_P hP.1) (ci := 2) (q0 := 0) rfl rfl)) rfl rfl hl.1 rfl (lv_room (Nat.le_of_ble_eq_true rfl)) dX1_wears_2 ⟨Nat.le_of_ble_eq_true rfl, Nat.le_of_ble_eq_true rfl⟩) hS (fun q _ h => h) (fun q h => h) (fun q _ h => h) (fun E ce q9 u t H1 locs ht hvm hu hB hz1 hk1 hS hce hcv hcl => ?_) (fun r u t H1 locs ht hvm hw hB hz1 hk1 hS => ?_)
  · exact vx_out (fun x h9 => (hte x h9).elim) hlocks hce hcv hcl (fun t2 ht2 _ => ⟨(), trivial, (⟨hB.1, (by unfold rdO; rw [hB.2]; first | done | rfl)⟩), by rw [ht2]; exact hz1, fun q h9 h8 => by rw [ht2]; exact hk1 q h9 h8⟩) (fun z h9 => (hS.2.2 z h9)) (Nat.le_of_ble_eq_true rfl) (Nat.le_of_ble_eq_true rfl)
  · obtain ⟨i, hi, ha1, rfl⟩ := hw
    have hH1 : H1 = s.heap := ht.symm.trans hB
    subst hH1
    have hix1 : ixS σ a = some i := by rw [ha1]; exact ix_s hI hi
    refine vp_callSi (va_Run.run (va_runVN (As := []) (rest := []) ⟨hx, hb, hml, hown, hts⟩ (c_X0_numberOfHatOwner l D cs ρ hI hap.1 i hi) ⟨va_cnB 0 hts gX1_wears_X0_numberOfHatOwner_n135 rfl rfl rfl (hN (.methodLinkNest "ShadowSociety" 135 ⟨"ShadowSociety$Member", "numberOfHatOwner", "()I"⟩ "ShadowSociety") (by decide +kernel)) (hts (.initialized RX0) (List.mem_of_getElem? (i := 34) (by decide +kernel))) (by decide +kernel) ⟨Nat.le_of_ble_eq_true rfl, Nat.le_of_ble_eq_true rfl⟩, hts (.instanceMethod yX0_numberOfHatOwner) (List.mem_of_getElem? (i := 33) (by decide +kernel)), hts (.selects RX0 yX0_numberOfHatOwner yX0_numberOfHatOwner) (List.mem_of_getElem? (i := 35) (by decide +kernel))⟩ (rb_V hK hN hP.2.2 (va_recv hK (one_P (hP.2.2 i hi)) (ci := 1) (q0 := 0) rfl rfl)) rfl rfl hl.1 rfl (lv_room (Nat.le_of_ble_eq_true rfl)) dX1_wears_5 ⟨Nat.le_of_ble_eq_true rfl, Nat.le_of_ble_eq_true rfl⟩)) (fun r_1 hr_1 => ?_)
    rw [hr_1]
    refine vx_ret ?_
    refine W.widen (k := 1) (n := 6) (Nat.le_of_ble_eq_true rfl) (Nat.le_of_ble_eq_true rfl) ?_
    exact W.iret (v := sWe σ i) hx hb hr (fun t ht hW => ⟨⟨_, (), rfl, (by unfold rdO; rw [hix1]; first | done | rfl), ht⟩, hS.F ht⟩) hS.2.2 dX1_wears_8
set_option maxHeartbeats 4000000 in
set_option maxRecDepth 100000 in
/-- hatOn: reads of one member -/
theorem x_X1_hatOn (l : Launch) (hlf : l.stackTraces = false) (D : va_G) (cs : Cs) (ρ : Rf) {B : Nat} {σ : PS} (hI : InvS B σ) (hap : AptA ρ (sK σ)) (H0 : Heap) (a : Int32) : vx_Met l yX1_hatOn wsX1_hatOn ({ frames := 7, cells := 1, slots := 6, locals := 103 }) (va_Pc [.ref (r_h ρ), .int a] (TBp D cs (fun X => X = H0 ∧ Soc D cs ρ σ X))) (va_Qi (fun (r : Int32) (_ : Unit) => rdO σ a (fun i => wornH σ i) = (0, r)) (fun _ t => t.heap = H0) (fun q => H0.size ≤ q)) (vx_X (fun _ : Unit => True) (fun E _ _ => E = eIob ∧ (rdO σ a (fun i => wornH σ i)).1 = 1) (fun q => H0.size ≤ q)) 1 6 (fun q => H0.size ≤ q) := by
  refine vx_ofW (cc := cX1_hatOn) (maxL := 2) (ret := (some .int)) (by decide) rfl ?_
  intro p e s m args below meth c s₁ B0 hml hte hv
  obtain ⟨rfl, ⟨⟨hH, hP⟩, hK, hN⟩, hT⟩ := hv
  subst hH
  have hx := B0.exec
  have hb := B0.bytes
  have hr := B0.returns
  have hts := atoms_spec (ws := wsX1_hatOn) B0.pre
  have hown : s.vm.findClass RX1 = some m.cls := findClass_of_methodNamed B0.named
  have hlocks := B0.notSynchronized
  have hJ := hap.1
  have hS : va_S (fun q => s.heap.size ≤ q) s.heap s.heap [] := va_S.rf
  have hl := lv_entry ([.ref (r_h ρ), .int a]) (n := 2) (Nat.le_of_ble_eq_true rfl)
  rw [lg_entry_eq]
  generalize (lg_sl ([.ref (r_h ρ), .int a]) ++ List.replicate (2 - (lg_sl ([.ref (r_h ρ), .int a])).length) Slot.unset).toArray = ls at hl ⊢
  have hl : lv_has ls 2 [(0, .ref (r_h ρ)), (1, .int a)] := hl
  refine lv_aload_n hx hb dX1_hatOn_0 rfl (lv_at hl 0 rfl) ?_
  refine lv_iload_n hx hb dX1_hatOn_1 rfl (lv_at hl 1 rfl) ?_
  refine vx_callq (vx_runV (As := [.int a]) (rest := []) ⟨hx, hb, hml, hown, hts⟩ (x_X1_memberNumbered l hlf D cs ρ hI hap s.heap a) (cwV 1 hts gX1_hatOn_X1_memberNumbered rfl rfl rfl (by decide +kernel) ⟨Nat.le_of_ble_eq_true rfl, Nat.le_of_ble_eq_true rfl⟩) (tb_V hK hN ⟨rfl, hP⟩ hT (Nat.le_refl _) (fun _ _ => rfl) (va_recv hK (one_P hP.1) (ci := 2) (q0 := 0) rfl rfl)) rfl rfl hl.1 rfl (lv_room (Nat.le_of_ble_eq_true rfl)) dX1_hatOn_2 ⟨Nat.le_of_ble_eq_true rfl, Nat.le_of_ble_eq_true rfl⟩) hS (fun q _ h => h) (fun q h => h) (fun q _ h => h) (fun E ce q9 u t H1 locs ht hvm hu hB hz1 hk1 hS hce hcv hcl => ?_) (fun r u t H1 locs ht hvm hw hB hz1 hk1 hS => ?_)
  · exact vx_out (fun x h9 => (hte x h9).elim) hlocks hce hcv hcl (fun t2 ht2 _ => ⟨(), trivial, (⟨hB.1, (by unfold rdO; rw [hB.2]; first | done | rfl)⟩), by rw [ht2]; exact hz1, fun q h9 h8 => by rw [ht2]; exact hk1 q h9 h8⟩) (fun z h9 => (hS.2.2 z h9)) (Nat.le_of_ble_eq_true rfl) (Nat.le_of_ble_eq_true rfl)
  · obtain ⟨i, hi, ha1, rfl⟩ := hw
    have hH1 : H1 = s.heap := ht.symm.trans hB
    subst hH1
    have hix1 : ixS σ a = some i := by rw [ha1]; exact ix_s hI hi
    refine vp_callSi (va_Run.run (va_runVN (As := []) (rest := []) ⟨hx, hb, hml, hown, hts⟩ (c_X0_heightOfWornHat l D cs ρ hI hap.1 i hi) ⟨va_cnB 0 hts gX1_hatOn_X0_heightOfWornHat_n138 rfl rfl rfl (hN (.methodLinkNest "ShadowSociety" 138 ⟨"ShadowSociety$Member", "heightOfWornHat", "()I"⟩ "ShadowSociety") (by decide +kernel)) (hts (.initialized RX0) (List.mem_of_getElem? (i := 34) (by decide +kernel))) (by decide +kernel) ⟨Nat.le_of_ble_eq_true rfl, Nat.le_of_ble_eq_true rfl⟩, hts (.instanceMethod yX0_heightOfWornHat) (List.mem_of_getElem? (i := 33) (by decide +kernel)), hts (.selects RX0 yX0_heightOfWornHat yX0_heightOfWornHat) (List.mem_of_getElem? (i := 35) (by decide +kernel))⟩ (rb_V hK hN hP.2.2 (va_recv hK (one_P (hP.2.2 i hi)) (ci := 1) (q0 := 0) rfl rfl)) rfl rfl hl.1 rfl (lv_room (Nat.le_of_ble_eq_true rfl)) dX1_hatOn_5 ⟨Nat.le_of_ble_eq_true rfl, Nat.le_of_ble_eq_true rfl⟩)) (fun r_1 hr_1 => ?_)
    rw [hr_1]
    refine vx_ret ?_
    refine W.widen (k := 1) (n := 6) (Nat.le_of_ble_eq_true rfl) (Nat.le_of_ble_eq_true rfl) ?_
    exact W.iret (v := wornH σ i) hx hb hr (fun t ht hW => ⟨⟨_, (), rfl, (by unfold rdO; rw [hix1]; first | done | rfl), ht⟩, hS.F ht⟩) hS.2.2 dX1_hatOn_8
set_option maxHeartbeats 4000000 in
set_option maxRecDepth 100000 in
/-- hasLent: reads of one member -/
theorem x_X1_hasLent (l : Launch) (hlf : l.stackTraces = false) (D : va_G) (cs : Cs) (ρ : Rf) {B : Nat} {σ : PS} (hI : InvS B σ) (hap : AptA ρ (sK σ)) (H0 : Heap) (a : Int32) : vx_Met l yX1_hasLent wsX1_hasLent ({ frames := 7, cells := 1, slots := 6, locals := 103 }) (va_Pc [.ref (r_h ρ), .int a] (TBp D cs (fun X => X = H0 ∧ Soc D cs ρ σ X))) (va_Qi (fun (r : Int32) (_ : Unit) => rdO σ a (fun i => b01 (lentS σ i)) = (0, r)) (fun _ t => t.heap = H0) (fun q => H0.size ≤ q)) (vx_X (fun _ : Unit => True) (fun E _ _ => E = eIob ∧ (rdO σ a (fun i => b01 (lentS σ i))).1 = 1) (fun q => H0.size ≤ q)) 1 6 (fun q => H0.size ≤ q) := by
  refine vx_ofW (cc := cX1_hasLent) (maxL := 2) (ret := (some .boolean)) (by decide) rfl ?_
  intro p e s m args below meth c s₁ B0 hml hte hv
  obtain ⟨rfl, ⟨⟨hH, hP⟩, hK, hN⟩, hT⟩ := hv
  subst hH
  have hx := B0.exec
  have hb := B0.bytes
  have hr := B0.returns
  have hts := atoms_spec (ws := wsX1_hasLent) B0.pre
  have hown : s.vm.findClass RX1 = some m.cls := findClass_of_methodNamed B0.named
  have hlocks := B0.notSynchronized
  have hJ := hap.1
  have hS : va_S (fun q => s.heap.size ≤ q) s.heap s.heap [] := va_S.rf
  have hl := lv_entry ([.ref (r_h ρ), .int a]) (n := 2) (Nat.le_of_ble_eq_true rfl)
  rw [lg_entry_eq]
  generalize (lg_sl ([.ref (r_h ρ), .int a]) ++ List.replicate (2 - (lg_sl ([.ref (r_h ρ), .int a])).length) Slot.unset).toArray = ls at hl ⊢
  have hl : lv_has ls 2 [(0, .ref (r_h ρ)), (1, .int a)] := hl
  refine lv_aload_n hx hb dX1_hasLent_0 rfl (lv_at hl 0 rfl) ?_
  refine lv_aload_n hx hb dX1_hasLent_1 rfl (lv_at hl 0 rfl) ?_
  refine lv_iload_n hx hb dX1_hasLent_2 rfl (lv_at hl 1 rfl) ?_
  refine vx_callq (vx_runV (As := [.int a]) (rest := [.ref (r_h ρ)]) ⟨hx, hb, hml, hown, hts⟩ (x_X1_memberNumbered l hlf D cs ρ hI hap s.heap a) (cwV 1 hts gX1_hasLent_X1_memberNumbered rfl rfl rfl (by decide +kernel) ⟨Nat.le_of_ble_eq_true rfl, Nat.le_of_ble_eq_true rfl⟩) (tb_V hK hN ⟨rfl, hP⟩ hT (Nat.le_refl _) (fun _ _ => rfl) (va_recv hK (one_P hP.1) (ci := 2) (q0 := 0) rfl rfl)) rfl rfl hl.1 rfl (lv_room (Nat.le_of_ble_eq_true rfl)) dX1_hasLent_3 ⟨Nat.le_of_ble_eq_true rfl, Nat.le_of_ble_eq_true rfl⟩) hS (fun q _ h => h) (fun q h => h) (fun q _ h => h) (fun E ce q9 u t H1 locs ht hvm hu hB hz1 hk1 hS hce hcv hcl => ?_) (fun r u t H1 locs ht hvm hw hB hz1 hk1 hS => ?_)
  · exact vx_out (fun x h9 => (hte x h9).elim) hlocks hce hcv hcl (fun t2 ht2 _ => ⟨(), trivial, (⟨hB.1, (by unfold rdO; rw [hB.2]; first | done | rfl)⟩), by rw [ht2]; exact hz1, fun q h9 h8 => by rw [ht2]; exact hk1 q h9 h8⟩) (fun z h9 => (hS.2.2 z h9)) (Nat.le_of_ble_eq_true rfl) (Nat.le_of_ble_eq_true rfl)
  · obtain ⟨i, hi, ha1, rfl⟩ := hw
    have hH1 : H1 = s.heap := ht.symm.trans hB
    subst hH1
    have hix1 : ixS σ a = some i := by rw [ha1]; exact ix_s hI hi
    refine vp_callSi (va_Run.run (va_runV (As := [.ref (r_a ρ i)]) (rest := []) ⟨hx, hb, hml, hown, hts⟩ (c_X1_isHatLent l D cs ρ hI hap.1 i hi) (cwV 1 hts gX1_hasLent_X1_isHatLent rfl rfl rfl (by decide +kernel) ⟨Nat.le_of_ble_eq_true rfl, Nat.le_of_ble_eq_true rfl⟩) (rb_V hK hN hP (va_recv hK (one_P hP.1) (ci := 2) (q0 := 0) rfl rfl)) rfl rfl hl.1 rfl (lv_room (Nat.le_of_ble_eq_true rfl)) dX1_hasLent_6 ⟨Nat.le_of_ble_eq_true rfl, Nat.le_of_ble_eq_true rfl⟩)) (fun r_1 hr_1 => ?_)
    rw [hr_1]
    refine vx_ret ?_
    refine W.widen (k := 1) (n := 6) (Nat.le_of_ble_eq_true rfl) (Nat.le_of_ble_eq_true rfl) ?_
    exact W.zret (ty := .boolean) (v := b01 (lentS σ i)) hx hb hr (b01_nar _) (fun t ht hW => ⟨⟨_, (), rfl, (by unfold rdO; rw [hix1]; first | done | rfl), ht⟩, hS.F ht⟩) hS.2.2 dX1_hasLent_9
set_option maxHeartbeats 4000000 in
set_option maxRecDepth 100000 in
/-- isExpelled: reads of one member -/
theorem x_X1_isExpelled (l : Launch) (hlf : l.stackTraces = false) (D : va_G) (cs : Cs) (ρ : Rf) {B : Nat} {σ : PS} (hI : InvS B σ) (hap : AptA ρ (sK σ)) (H0 : Heap) (a : Int32) : vx_Met l yX1_isExpelled wsX1_isExpelled ({ frames := 7, cells := 1, slots := 6, locals := 103 }) (va_Pc [.ref (r_h ρ), .int a] (TBp D cs (fun X => X = H0 ∧ Soc D cs ρ σ X))) (va_Qi (fun (r : Int32) (_ : Unit) => rdO σ a (fun i => b01 (outS σ i)) = (0, r)) (fun _ t => t.heap = H0) (fun q => H0.size ≤ q)) (vx_X (fun _ : Unit => True) (fun E _ _ => E = eIob ∧ (rdO σ a (fun i => b01 (outS σ i))).1 = 1) (fun q => H0.size ≤ q)) 1 6 (fun q => H0.size ≤ q) := by
  refine vx_ofW (cc := cX1_isExpelled) (maxL := 2) (ret := (some .boolean)) (by decide) rfl ?_
  intro p e s m args below meth c s₁ B0 hml hte hv
  obtain ⟨rfl, ⟨⟨hH, hP⟩, hK, hN⟩, hT⟩ := hv
  subst hH
  have hx := B0.exec
  have hb := B0.bytes
  have hr := B0.returns
  have hts := atoms_spec (ws := wsX1_isExpelled) B0.pre
  have hown : s.vm.findClass RX1 = some m.cls := findClass_of_methodNamed B0.named
  have hlocks := B0.notSynchronized
  have hJ := hap.1
  have hS : va_S (fun q => s.heap.size ≤ q) s.heap s.heap [] := va_S.rf
  have hl := lv_entry ([.ref (r_h ρ), .int a]) (n := 2) (Nat.le_of_ble_eq_true rfl)
  rw [lg_entry_eq]
  generalize (lg_sl ([.ref (r_h ρ), .int a]) ++ List.replicate (2 - (lg_sl ([.ref (r_h ρ), .int a])).length) Slot.unset).toArray = ls at hl ⊢
  have hl : lv_has ls 2 [(0, .ref (r_h ρ)), (1, .int a)] := hl
  refine lv_aload_n hx hb dX1_isExpelled_0 rfl (lv_at hl 0 rfl) ?_
  refine lv_iload_n hx hb dX1_isExpelled_1 rfl (lv_at hl 1 rfl) ?_
  refine vx_callq (vx_runV (As := [.int a]) (rest := []) ⟨hx, hb, hml, hown, hts⟩ (x_X1_memberNumbered l hlf D cs ρ hI hap s.heap a) (cwV 1 hts gX1_isExpelled_X1_memberNumbered rfl rfl rfl (by decide +kernel) ⟨Nat.le_of_ble_eq_true rfl, Nat.le_of_ble_eq_true rfl⟩) (tb_V hK hN ⟨rfl, hP⟩ hT (Nat.le_refl _) (fun _ _ => rfl) (va_recv hK (one_P hP.1) (ci := 2) (q0 := 0) rfl rfl)) rfl rfl hl.1 rfl (lv_room (Nat.le_of_ble_eq_true rfl)) dX1_isExpelled_2 ⟨Nat.le_of_ble_eq_true rfl, Nat.le_of_ble_eq_true rfl⟩) hS (fun q _ h => h) (fun q h => h) (fun q _ h => h) (fun E ce q9 u t H1 locs ht hvm hu hB hz1 hk1 hS hce hcv hcl => ?_) (fun r u t H1 locs ht hvm hw hB hz1 hk1 hS => ?_)
  · exact vx_out (fun x h9 => (hte x h9).elim) hlocks hce hcv hcl (fun t2 ht2 _ => ⟨(), trivial, (⟨hB.1, (by unfold rdO; rw [hB.2]; first | done | rfl)⟩), by rw [ht2]; exact hz1, fun q h9 h8 => by rw [ht2]; exact hk1 q h9 h8⟩) (fun z h9 => (hS.2.2 z h9)) (Nat.le_of_ble_eq_true rfl) (Nat.le_of_ble_eq_true rfl)
  · obtain ⟨i, hi, ha1, rfl⟩ := hw
    have hH1 : H1 = s.heap := ht.symm.trans hB
    subst hH1
    have hix1 : ixS σ a = some i := by rw [ha1]; exact ix_s hI hi
    refine vp_callSi (va_Run.run (va_runVN (As := []) (rest := []) ⟨hx, hb, hml, hown, hts⟩ (c_X0_isOut l D cs ρ hI hap.1 i hi) ⟨va_cnB 0 hts gX1_isExpelled_X0_isOut_n102 rfl rfl rfl (hN (.methodLinkNest "ShadowSociety" 102 ⟨"ShadowSociety$Member", "isOut", "()Z"⟩ "ShadowSociety") (by decide +kernel)) (hts (.initialized RX0) (List.mem_of_getElem? (i := 34) (by decide +kernel))) (by decide +kernel) ⟨Nat.le_of_ble_eq_true rfl, Nat.le_of_ble_eq_true rfl⟩, hts (.instanceMethod yX0_isOut) (List.mem_of_getElem? (i := 33) (by decide +kernel)), hts (.selects RX0 yX0_isOut yX0_isOut) (List.mem_of_getElem? (i := 35) (by decide +kernel))⟩ (rb_V hK hN hP.2.2 (va_recv hK (one_P (hP.2.2 i hi)) (ci := 1) (q0 := 0) rfl rfl)) rfl rfl hl.1 rfl (lv_room (Nat.le_of_ble_eq_true rfl)) dX1_isExpelled_5 ⟨Nat.le_of_ble_eq_true rfl, Nat.le_of_ble_eq_true rfl⟩)) (fun r_1 hr_1 => ?_)
    rw [hr_1]
    refine vx_ret ?_
    refine W.widen (k := 1) (n := 6) (Nat.le_of_ble_eq_true rfl) (Nat.le_of_ble_eq_true rfl) ?_
    exact W.zret (ty := .boolean) (v := b01 (outS σ i)) hx hb hr (b01_nar _) (fun t ht hW => ⟨⟨_, (), rfl, (by unfold rdO; rw [hix1]; first | done | rfl), ht⟩, hS.F ht⟩) hS.2.2 dX1_isExpelled_8
set_option maxHeartbeats 4000000 in
set_option maxRecDepth 100000 in
/-- shadowOf: reads of one member -/
theorem x_X1_shadowOf (l : Launch) (hlf : l.stackTraces = false) (D : va_G) (cs : Cs) (ρ : Rf) {B : Nat} {σ : PS} (hI : InvS B σ) (hap : AptA ρ (sK σ)) (H0 : Heap) (a : Int32) : vx_Met l yX1_shadowOf wsX1_shadowOf ({ frames := 7, cells := 1, slots := 6, locals := 103 }) (va_Pc [.ref (r_h ρ), .int a] (TBp D cs (fun X => X = H0 ∧ Soc D cs ρ σ X))) (va_Qi (fun (r : Int32) (_ : Unit) => rdO σ a (fun i => shadS σ i (dayOf σ)) = (0, r)) (fun _ t => t.heap = H0) (fun q => H0.size ≤ q)) (vx_X (fun _ : Unit => True) (fun E _ _ => E = eIob ∧ (rdO σ a (fun i => shadS σ i (dayOf σ))).1 = 1) (fun q => H0.size ≤ q)) 1 6 (fun q => H0.size ≤ q) := by
  refine vx_ofW (cc := cX1_shadowOf) (maxL := 2) (ret := (some .int)) (by decide) rfl ?_
  intro p e s m args below meth c s₁ B0 hml hte hv
  obtain ⟨rfl, ⟨⟨hH, hP⟩, hK, hN⟩, hT⟩ := hv
  subst hH
  have hx := B0.exec
  have hb := B0.bytes
  have hr := B0.returns
  have hts := atoms_spec (ws := wsX1_shadowOf) B0.pre
  have hown : s.vm.findClass RX1 = some m.cls := findClass_of_methodNamed B0.named
  have hlocks := B0.notSynchronized
  have hJ := hap.1
  have hS : va_S (fun q => s.heap.size ≤ q) s.heap s.heap [] := va_S.rf
  have hl := lv_entry ([.ref (r_h ρ), .int a]) (n := 2) (Nat.le_of_ble_eq_true rfl)
  rw [lg_entry_eq]
  generalize (lg_sl ([.ref (r_h ρ), .int a]) ++ List.replicate (2 - (lg_sl ([.ref (r_h ρ), .int a])).length) Slot.unset).toArray = ls at hl ⊢
  have hl : lv_has ls 2 [(0, .ref (r_h ρ)), (1, .int a)] := hl
  refine lv_aload_n hx hb dX1_shadowOf_0 rfl (lv_at hl 0 rfl) ?_
  refine lv_iload_n hx hb dX1_shadowOf_1 rfl (lv_at hl 1 rfl) ?_
  refine vx_callq (vx_runV (As := [.int a]) (rest := []) ⟨hx, hb, hml, hown, hts⟩ (x_X1_memberNumbered l hlf D cs ρ hI hap s.heap a) (cwV 1 hts gX1_shadowOf_X1_memberNumbered rfl rfl rfl (by decide +kernel) ⟨Nat.le_of_ble_eq_true rfl, Nat.le_of_ble_eq_true rfl⟩) (tb_V hK hN ⟨rfl, hP⟩ hT (Nat.le_refl _) (fun _ _ => rfl) (va_recv hK (one_P hP.1) (ci := 2) (q0 := 0) rfl rfl)) rfl rfl hl.1 rfl (lv_room (Nat.le_of_ble_eq_true rfl)) dX1_shadowOf_2 ⟨Nat.le_of_ble_eq_true rfl, Nat.le_of_ble_eq_true rfl⟩) hS (fun q _ h => h) (fun q h => h) (fun q _ h => h) (fun E ce q9 u t H1 locs ht hvm hu hB hz1 hk1 hS hce hcv hcl => ?_) (fun r u t H1 locs ht hvm hw hB hz1 hk1 hS => ?_)
  · exact vx_out (fun x h9 => (hte x h9).elim) hlocks hce hcv hcl (fun t2 ht2 _ => ⟨(), trivial, (⟨hB.1, (by unfold rdO; rw [hB.2]; first | done | rfl)⟩), by rw [ht2]; exact hz1, fun q h9 h8 => by rw [ht2]; exact hk1 q h9 h8⟩) (fun z h9 => (hS.2.2 z h9)) (Nat.le_of_ble_eq_true rfl) (Nat.le_of_ble_eq_true rfl)
  · obtain ⟨i, hi, ha1, rfl⟩ := hw
    have hH1 : H1 = s.heap := ht.symm.trans hB
    subst hH1
    have hix1 : ixS σ a = some i := by rw [ha1]; exact ix_s hI hi
    refine lv_aload_n hx hb dX1_shadowOf_5 rfl (lv_at hl 0 rfl) ?_
    refine vp_callSi (va_Run.run (va_runV (As := []) (rest := [.ref (r_a ρ i)]) ⟨hx, hb, hml, hown, hts⟩ (c_X1_hourOfDay l D cs ρ hI hap.1) (cwV 0 hts gX1_shadowOf_X1_hourOfDay rfl rfl rfl (by decide +kernel) ⟨Nat.le_of_ble_eq_true rfl, Nat.le_of_ble_eq_true rfl⟩) (rb_V hK hN hP (va_recv hK (one_P hP.1) (ci := 2) (q0 := 0) rfl rfl)) rfl rfl hl.1 rfl (lv_room (Nat.le_of_ble_eq_true rfl)) dX1_shadowOf_6 ⟨Nat.le_of_ble_eq_true rfl, Nat.le_of_ble_eq_true rfl⟩)) (fun r_1 hr_1 => ?_)
    rw [hr_1]
    refine vp_callSi (va_Run.run (va_runVN (As := [.int (dayOf σ)]) (rest := []) ⟨hx, hb, hml, hown, hts⟩ (c_X0_shadowAt l D cs ρ hI hap.1 i hi (dayOf σ)) ⟨va_cnB 1 hts gX1_shadowOf_X0_shadowAt_n113 rfl rfl rfl (hN (.methodLinkNest "ShadowSociety" 113 ⟨"ShadowSociety$Member", "shadowAt", "(I)I"⟩ "ShadowSociety") (by decide +kernel)) (hts (.initialized RX0) (List.mem_of_getElem? (i := 39) (by decide +kernel))) (by decide +kernel) ⟨Nat.le_of_ble_eq_true rfl, Nat.le_of_ble_eq_true rfl⟩, hts (.instanceMethod yX0_shadowAt) (List.mem_of_getElem? (i := 38) (by decide +kernel)), hts (.selects RX0 yX0_shadowAt yX0_shadowAt) (List.mem_of_getElem? (i := 40) (by decide +kernel))⟩ (rb_V hK hN hP.2.2 (va_recv hK (one_P (hP.2.2 i hi)) (ci := 1) (q0 := 0) rfl rfl)) rfl rfl hl.1 rfl (lv_room (Nat.le_of_ble_eq_true rfl)) dX1_shadowOf_9 ⟨Nat.le_of_ble_eq_true rfl, Nat.le_of_ble_eq_true rfl⟩)) (fun r_2 hr_2 => ?_)
    rw [hr_2]
    refine vx_ret ?_
    refine W.widen (k := 1) (n := 6) (Nat.le_of_ble_eq_true rfl) (Nat.le_of_ble_eq_true rfl) ?_
    exact W.iret (v := shadS σ i (dayOf σ)) hx hb hr (fun t ht hW => ⟨⟨_, (), rfl, (by unfold rdO; rw [hix1]; first | done | rfl), ht⟩, hS.F ht⟩) hS.2.2 dX1_shadowOf_12
theorem in_X1_certified_X0 : ∀ w ∈ wsX00, w ∈ wsX1_certified := by decide +kernel
set_option maxHeartbeats 4000000 in
set_option maxRecDepth 100000 in
/-- certified: reads of one member -/
theorem x_X1_certified (l : Launch) (hlf : l.stackTraces = false) (D : va_G) (cs : Cs) (ρ : Rf) {B : Nat} {σ : PS} (hI : InvS B σ) (hap : AptA ρ (sK σ)) (H0 : Heap) (a : Int32) : vx_Met l yX1_certified wsX1_certified ({ frames := 7, cells := 1, slots := 6, locals := 103 }) (va_Pc [.ref (r_h ρ), .int a] (TBp D cs (fun X => X = H0 ∧ Soc D cs ρ σ X))) (va_Qi (fun (r : Int32) (_ : Unit) => rdO σ a (fun i => sCe σ i) = (0, r)) (fun _ t => t.heap = H0) (fun q => H0.size ≤ q)) (vx_X (fun _ : Unit => True) (fun E _ _ => E = eIob ∧ (rdO σ a (fun i => sCe σ i)).1 = 1) (fun q => H0.size ≤ q)) 1 6 (fun q => H0.size ≤ q) := by
  refine vx_ofW (cc := cX1_certified) (maxL := 2) (ret := (some .int)) (by decide) rfl ?_
  intro p e s m args below meth c s₁ B0 hml hte hv
  obtain ⟨rfl, ⟨⟨hH, hP⟩, hK, hN⟩, hT⟩ := hv
  subst hH
  have hx := B0.exec
  have hb := B0.bytes
  have hr := B0.returns
  have hts := atoms_spec (ws := wsX1_certified) B0.pre
  have hown : s.vm.findClass RX1 = some m.cls := findClass_of_methodNamed B0.named
  have hlocks := B0.notSynchronized
  have hJ := hap.1
  have hS : va_S (fun q => s.heap.size ≤ q) s.heap s.heap [] := va_S.rf
  have hl := lv_entry ([.ref (r_h ρ), .int a]) (n := 2) (Nat.le_of_ble_eq_true rfl)
  rw [lg_entry_eq]
  generalize (lg_sl ([.ref (r_h ρ), .int a]) ++ List.replicate (2 - (lg_sl ([.ref (r_h ρ), .int a])).length) Slot.unset).toArray = ls at hl ⊢
  have hl : lv_has ls 2 [(0, .ref (r_h ρ)), (1, .int a)] := hl
  refine lv_aload_n hx hb dX1_certified_0 rfl (lv_at hl 0 rfl) ?_
  refine lv_iload_n hx hb dX1_certified_1 rfl (lv_at hl 1 rfl) ?_
  refine vx_callq (vx_runV (As := [.int a]) (rest := []) ⟨hx, hb, hml, hown, hts⟩ (x_X1_memberNumbered l hlf D cs ρ hI hap s.heap a) (cwV 1 hts gX1_certified_X1_memberNumbered rfl rfl rfl (by decide +kernel) ⟨Nat.le_of_ble_eq_true rfl, Nat.le_of_ble_eq_true rfl⟩) (tb_V hK hN ⟨rfl, hP⟩ hT (Nat.le_refl _) (fun _ _ => rfl) (va_recv hK (one_P hP.1) (ci := 2) (q0 := 0) rfl rfl)) rfl rfl hl.1 rfl (lv_room (Nat.le_of_ble_eq_true rfl)) dX1_certified_2 ⟨Nat.le_of_ble_eq_true rfl, Nat.le_of_ble_eq_true rfl⟩) hS (fun q _ h => h) (fun q h => h) (fun q _ h => h) (fun E ce q9 u t H1 locs ht hvm hu hB hz1 hk1 hS hce hcv hcl => ?_) (fun r u t H1 locs ht hvm hw hB hz1 hk1 hS => ?_)
  · exact vx_out (fun x h9 => (hte x h9).elim) hlocks hce hcv hcl (fun t2 ht2 _ => ⟨(), trivial, (⟨hB.1, (by unfold rdO; rw [hB.2]; first | done | rfl)⟩), by rw [ht2]; exact hz1, fun q h9 h8 => by rw [ht2]; exact hk1 q h9 h8⟩) (fun z h9 => (hS.2.2 z h9)) (Nat.le_of_ble_eq_true rfl) (Nat.le_of_ble_eq_true rfl)
  · obtain ⟨i, hi, ha1, rfl⟩ := hw
    have hH1 : H1 = s.heap := ht.symm.trans hB
    subst hH1
    have hix1 : ixS σ a = some i := by rw [ha1]; exact ix_s hI hi
    refine va_getN (D := D) (ci := 1) (v := .int (sCe σ i)) (C := RX0) (T := TX0) (N := 9) hx hb hts in_X1_certified_X0 hown hK (one_P (hP.2.2 i hi)) 0 rfl rfl 6 (by decide) (Nst.use hN (w := .fieldLinkNest "ShadowSociety" 117 "ShadowSociety$Member" "certifiedLength" "I" "ShadowSociety") (by decide +kernel)) (fun _ h9 => h9) rfl dX1_certified_5 ?_
    refine vx_ret ?_
    refine W.widen (k := 1) (n := 6) (Nat.le_of_ble_eq_true rfl) (Nat.le_of_ble_eq_true rfl) ?_
    exact W.iret (v := sCe σ i) hx hb hr (fun t ht hW => ⟨⟨_, (), rfl, (by unfold rdO; rw [hix1]; first | done | rfl), ht⟩, hS.F ht⟩) hS.2.2 dX1_certified_8
set_option maxHeartbeats 4000000 in
set_option maxRecDepth 100000 in
/-- auditBrings: reads of one member -/
theorem x_X1_auditBrings (l : Launch) (hlf : l.stackTraces = false) (D : va_G) (cs : Cs) (ρ : Rf) {B : Nat} {σ : PS} (hI : InvS B σ) (hap : AptA ρ (sK σ)) (H0 : Heap) (a : Int32) : vx_Met l yX1_auditBrings wsX1_auditBrings ({ frames := 7, cells := 1, slots := 6, locals := 116 }) (va_Pc [.ref (r_h ρ), .int a] (TBp D cs (fun X => X = H0 ∧ Soc D cs ρ σ X))) (va_Qi (fun (r : Int32) (_ : Unit) => rdO σ a (fun i => gainS σ i) = (0, r)) (fun _ t => t.heap = H0) (fun q => H0.size ≤ q)) (vx_X (fun _ : Unit => True) (fun E _ _ => E = eIob ∧ (rdO σ a (fun i => gainS σ i)).1 = 1) (fun q => H0.size ≤ q)) 1 6 (fun q => H0.size ≤ q) := by
  refine vx_ofW (cc := cX1_auditBrings) (maxL := 2) (ret := (some .int)) (by decide) rfl ?_
  intro p e s m args below meth c s₁ B0 hml hte hv
  obtain ⟨rfl, ⟨⟨hH, hP⟩, hK, hN⟩, hT⟩ := hv
  subst hH
  have hx := B0.exec
  have hb := B0.bytes
  have hr := B0.returns
  have hts := atoms_spec (ws := wsX1_auditBrings) B0.pre
  have hown : s.vm.findClass RX1 = some m.cls := findClass_of_methodNamed B0.named
  have hlocks := B0.notSynchronized
  have hJ := hap.1
  have hS : va_S (fun q => s.heap.size ≤ q) s.heap s.heap [] := va_S.rf
  have hl := lv_entry ([.ref (r_h ρ), .int a]) (n := 2) (Nat.le_of_ble_eq_true rfl)
  rw [lg_entry_eq]
  generalize (lg_sl ([.ref (r_h ρ), .int a]) ++ List.replicate (2 - (lg_sl ([.ref (r_h ρ), .int a])).length) Slot.unset).toArray = ls at hl ⊢
  have hl : lv_has ls 2 [(0, .ref (r_h ρ)), (1, .int a)] := hl
  refine lv_aload_n hx hb dX1_auditBrings_0 rfl (lv_at hl 0 rfl) ?_
  refine lv_iload_n hx hb dX1_auditBrings_1 rfl (lv_at hl 1 rfl) ?_
  refine vx_callq (vx_runV (As := [.int a]) (rest := []) ⟨hx, hb, hml, hown, hts⟩ (x_X1_memberNumbered l hlf D cs ρ hI hap s.heap a) (cwV 1 hts gX1_auditBrings_X1_memberNumbered rfl rfl rfl (by decide +kernel) ⟨Nat.le_of_ble_eq_true rfl, Nat.le_of_ble_eq_true rfl⟩) (tb_V hK hN ⟨rfl, hP⟩ hT (Nat.le_refl _) (fun _ _ => rfl) (va_recv hK (one_P hP.1) (ci := 2) (q0 := 0) rfl rfl)) rfl rfl hl.1 rfl (lv_room (Nat.le_of_ble_eq_true rfl)) dX1_auditBrings_2 ⟨Nat.le_of_ble_eq_true rfl, Nat.le_of_ble_eq_true rfl⟩) hS (fun q _ h => h) (fun q h => h) (fun q _ h => h) (fun E ce q9 u t H1 locs ht hvm hu hB hz1 hk1 hS hce hcv hcl => ?_) (fun r u t H1 locs ht hvm hw hB hz1 hk1 hS => ?_)
  · exact vx_out (fun x h9 => (hte x h9).elim) hlocks hce hcv hcl (fun t2 ht2 _ => ⟨(), trivial, (⟨hB.1, (by unfold rdO; rw [hB.2]; first | done | rfl)⟩), by rw [ht2]; exact hz1, fun q h9 h8 => by rw [ht2]; exact hk1 q h9 h8⟩) (fun z h9 => (hS.2.2 z h9)) (Nat.le_of_ble_eq_true rfl) (Nat.le_of_ble_eq_true rfl)
  · obtain ⟨i, hi, ha1, rfl⟩ := hw
    have hH1 : H1 = s.heap := ht.symm.trans hB
    subst hH1
    have hix1 : ixS σ a = some i := by rw [ha1]; exact ix_s hI hi
    refine vp_callSi (va_Run.run (va_runVN (As := []) (rest := []) ⟨hx, hb, hml, hown, hts⟩ (c_X0_gainAtAudit l D cs ρ hI hap.1 i hi) ⟨va_cnB 0 hts gX1_auditBrings_X0_gainAtAudit_n151 rfl rfl rfl (hN (.methodLinkNest "ShadowSociety" 151 ⟨"ShadowSociety$Member", "gainAtAudit", "()I"⟩ "ShadowSociety") (by decide +kernel)) (hts (.initialized RX0) (List.mem_of_getElem? (i := 34) (by decide +kernel))) (by decide +kernel) ⟨Nat.le_of_ble_eq_true rfl, Nat.le_of_ble_eq_true rfl⟩, hts (.instanceMethod yX0_gainAtAudit) (List.mem_of_getElem? (i := 33) (by decide +kernel)), hts (.selects RX0 yX0_gainAtAudit yX0_gainAtAudit) (List.mem_of_getElem? (i := 35) (by decide +kernel))⟩ (rb_V hK hN hP.2.2 (va_recv hK (one_P (hP.2.2 i hi)) (ci := 1) (q0 := 0) rfl rfl)) rfl rfl hl.1 rfl (lv_room (Nat.le_of_ble_eq_true rfl)) dX1_auditBrings_5 ⟨Nat.le_of_ble_eq_true rfl, Nat.le_of_ble_eq_true rfl⟩)) (fun r_1 hr_1 => ?_)
    rw [hr_1]
    refine vx_ret ?_
    refine W.widen (k := 1) (n := 6) (Nat.le_of_ble_eq_true rfl) (Nat.le_of_ble_eq_true rfl) ?_
    exact W.iret (v := gainS σ i) hx hb hr (fun t ht hW => ⟨⟨_, (), rfl, (by unfold rdO; rw [hix1]; first | done | rfl), ht⟩, hS.F ht⟩) hS.2.2 dX1_auditBrings_8
set_option maxHeartbeats 4000000 in
set_option maxRecDepth 100000 in
/-- bestHat: reads of one member -/
theorem x_X1_bestHat (l : Launch) (hlf : l.stackTraces = false) (D : va_G) (cs : Cs) (ρ : Rf) {B : Nat} {σ : PS} (hI : InvS B σ) (hap : AptA ρ (sK σ)) (H0 : Heap) (a : Int32) : vx_Met l yX1_bestHat wsX1_bestHat ({ frames := 7, cells := 1, slots := 6, locals := 103 }) (va_Pc [.ref (r_h ρ), .int a] (TBp D cs (fun X => X = H0 ∧ Soc D cs ρ σ X))) (va_Qi (fun (r : Int32) (_ : Unit) => rdO σ a (fun i => bestS σ i) = (0, r)) (fun _ t => t.heap = H0) (fun q => H0.size ≤ q)) (vx_X (fun _ : Unit => True) (fun E _ _ => E = eIob ∧ (rdO σ a (fun i => bestS σ i)).1 = 1) (fun q => H0.size ≤ q)) 1 6 (fun q => H0.size ≤ q) := by
  refine vx_ofW (cc := cX1_bestHat) (maxL := 2) (ret := (some .int)) (by decide) rfl ?_
  intro p e s m args below meth c s₁ B0 hml hte hv
  obtain ⟨rfl, ⟨⟨hH, hP⟩, hK, hN⟩, hT⟩ := hv
  subst hH
  have hx := B0.exec
  have hb := B0.bytes
  have hr := B0.returns
  have hts := atoms_spec (ws := wsX1_bestHat) B0.pre
  have hown : s.vm.findClass RX1 = some m.cls := findClass_of_methodNamed B0.named
  have hlocks := B0.notSynchronized
  have hJ := hap.1
  have hS : va_S (fun q => s.heap.size ≤ q) s.heap s.heap [] := va_S.rf
  have hl := lv_entry ([.ref (r_h ρ), .int a]) (n := 2) (Nat.le_of_ble_eq_true rfl)
  rw [lg_entry_eq]
  generalize (lg_sl ([.ref (r_h ρ), .int a]) ++ List.replicate (2 - (lg_sl ([.ref (r_h ρ), .int a])).length) Slot.unset).toArray = ls at hl ⊢
  have hl : lv_has ls 2 [(0, .ref (r_h ρ)), (1, .int a)] := hl
  refine lv_aload_n hx hb dX1_bestHat_0 rfl (lv_at hl 0 rfl) ?_
  refine lv_aload_n hx hb dX1_bestHat_1 rfl (lv_at hl 0 rfl) ?_
  refine lv_iload_n hx hb dX1_bestHat_2 rfl (lv_at hl 1 rfl) ?_
  refine vx_callq (vx_runV (As := [.int a]) (rest := [.ref (r_h ρ)]) ⟨hx, hb, hml, hown, hts⟩ (x_X1_memberNumbered l hlf D cs ρ hI hap s.heap a) (cwV 1 hts gX1_bestHat_X1_memberNumbered rfl rfl rfl (by decide +kernel) ⟨Nat.le_of_ble_eq_true rfl, Nat.le_of_ble_eq_true rfl⟩) (tb_V hK hN ⟨rfl, hP⟩ hT (Nat.le_refl _) (fun _ _ => rfl) (va_recv hK (one_P hP.1) (ci := 2) (q0 := 0) rfl rfl)) rfl rfl hl.1 rfl (lv_room (Nat.le_of_ble_eq_true rfl)) dX1_bestHat_3 ⟨Nat.le_of_ble_eq_true rfl, Nat.le_of_ble_eq_true rfl⟩) hS (fun q _ h => h) (fun q h => h) (fun q _ h => h) (fun E ce q9 u t H1 locs ht hvm hu hB hz1 hk1 hS hce hcv hcl => ?_) (fun r u t H1 locs ht hvm hw hB hz1 hk1 hS => ?_)
  · exact vx_out (fun x h9 => (hte x h9).elim) hlocks hce hcv hcl (fun t2 ht2 _ => ⟨(), trivial, (⟨hB.1, (by unfold rdO; rw [hB.2]; first | done | rfl)⟩), by rw [ht2]; exact hz1, fun q h9 h8 => by rw [ht2]; exact hk1 q h9 h8⟩) (fun z h9 => (hS.2.2 z h9)) (Nat.le_of_ble_eq_true rfl) (Nat.le_of_ble_eq_true rfl)
  · obtain ⟨i, hi, ha1, rfl⟩ := hw
    have hH1 : H1 = s.heap := ht.symm.trans hB
    subst hH1
    have hix1 : ixS σ a = some i := by rw [ha1]; exact ix_s hI hi
    refine vp_callSi (va_Run.run (va_runV (As := [.ref (r_a ρ i)]) (rest := []) ⟨hx, hb, hml, hown, hts⟩ (c_X1_bestHatFor l D cs ρ hI hap.1 i hi) (cwV 1 hts gX1_bestHat_X1_bestHatFor rfl rfl rfl (by decide +kernel) ⟨Nat.le_of_ble_eq_true rfl, Nat.le_of_ble_eq_true rfl⟩) (rb_V hK hN hP (va_recv hK (one_P hP.1) (ci := 2) (q0 := 0) rfl rfl)) rfl rfl hl.1 rfl (lv_room (Nat.le_of_ble_eq_true rfl)) dX1_bestHat_6 ⟨Nat.le_of_ble_eq_true rfl, Nat.le_of_ble_eq_true rfl⟩)) (fun r_1 hr_1 => ?_)
    rw [hr_1]
    refine vx_ret ?_
    refine W.widen (k := 1) (n := 6) (Nat.le_of_ble_eq_true rfl) (Nat.le_of_ble_eq_true rfl) ?_
    exact W.iret (v := bestS σ i) hx hb hr (fun t ht hW => ⟨⟨_, (), rfl, (by unfold rdO; rw [hix1]; first | done | rfl), ht⟩, hS.F ht⟩) hS.2.2 dX1_bestHat_9
set_option maxHeartbeats 4000000 in
set_option maxRecDepth 100000 in
/-- longestIn: reads of one member -/
theorem x_X1_longestIn (l : Launch) (hlf : l.stackTraces = false) (D : va_G) (cs : Cs) (ρ : Rf) {B : Nat} {σ : PS} (hI : InvS B σ) (hap : AptA ρ (sK σ)) (H0 : Heap) (a : Int32) : vx_Met l yX1_longestIn wsX1_longestIn ({ frames := 7, cells := 1, slots := 6, locals := 104 }) (va_Pc [.ref (r_h ρ), .int a] (TBp D cs (fun X => X = H0 ∧ Soc D cs ρ σ X))) (va_Qi (fun (r : Int32) (_ : Unit) => rdO σ a (fun i => longInS σ i) = (0, r)) (fun _ t => t.heap = H0) (fun q => H0.size ≤ q)) (vx_X (fun _ : Unit => True) (fun E _ _ => E = eIob ∧ (rdO σ a (fun i => longInS σ i)).1 = 1) (fun q => H0.size ≤ q)) 1 6 (fun q => H0.size ≤ q) := by
  refine vx_ofW (cc := cX1_longestIn) (maxL := 2) (ret := (some .int)) (by decide) rfl ?_
  intro p e s m args below meth c s₁ B0 hml hte hv
  obtain ⟨rfl, ⟨⟨hH, hP⟩, hK, hN⟩, hT⟩ := hv
  subst hH
  have hx := B0.exec
  have hb := B0.bytes
  have hr := B0.returns
  have hts := atoms_spec (ws := wsX1_longestIn) B0.pre
  have hown : s.vm.findClass RX1 = some m.cls := findClass_of_methodNamed B0.named
  have hlocks := B0.notSynchronized
  have hJ := hap.1
  have hS : va_S (fun q => s.heap.size ≤ q) s.heap s.heap [] := va_S.rf
  have hl := lv_entry ([.ref (r_h ρ), .int a]) (n := 2) (Nat.le_of_ble_eq_true rfl)
  rw [lg_entry_eq]
  generalize (lg_sl ([.ref (r_h ρ), .int a]) ++ List.replicate (2 - (lg_sl ([.ref (r_h ρ), .int a])).length) Slot.unset).toArray = ls at hl ⊢
  have hl : lv_has ls 2 [(0, .ref (r_h ρ)), (1, .int a)] := hl
  refine lv_aload_n hx hb dX1_longestIn_0 rfl (lv_at hl 0 rfl) ?_
  refine lv_aload_n hx hb dX1_longestIn_1 rfl (lv_at hl 0 rfl) ?_
  refine lv_iload_n hx hb dX1_longestIn_2 rfl (lv_at hl 1 rfl) ?_
  refine vx_callq (vx_runV (As := [.int a]) (rest := [.ref (r_h ρ)]) ⟨hx, hb, hml, hown, hts⟩ (x_X1_memberNumbered l hlf D cs ρ hI hap s.heap a) (cwV 1 hts gX1_longestIn_X1_memberNumbered rfl rfl rfl (by decide +kernel) ⟨Nat.le_of_ble_eq_true rfl, Nat.le_of_ble_eq_true rfl⟩) (tb_V hK hN ⟨rfl, hP⟩ hT (Nat.le_refl _) (fun _ _ => rfl) (va_recv hK (one_P hP.1) (ci := 2) (q0 := 0) rfl rfl)) rfl rfl hl.1 rfl (lv_room (Nat.le_of_ble_eq_true rfl)) dX1_longestIn_3 ⟨Nat.le_of_ble_eq_true rfl, Nat.le_of_ble_eq_true rfl⟩) hS (fun q _ h => h) (fun q h => h) (fun q _ h => h) (fun E ce q9 u t H1 locs ht hvm hu hB hz1 hk1 hS hce hcv hcl => ?_) (fun r u t H1 locs ht hvm hw hB hz1 hk1 hS => ?_)
  · exact vx_out (fun x h9 => (hte x h9).elim) hlocks hce hcv hcl (fun t2 ht2 _ => ⟨(), trivial, (⟨hB.1, (by unfold rdO; rw [hB.2]; first | done | rfl)⟩), by rw [ht2]; exact hz1, fun q h9 h8 => by rw [ht2]; exact hk1 q h9 h8⟩) (fun z h9 => (hS.2.2 z h9)) (Nat.le_of_ble_eq_true rfl) (Nat.le_of_ble_eq_true rfl)
  · obtain ⟨i, hi, ha1, rfl⟩ := hw
    have hH1 : H1 = s.heap := ht.symm.trans hB
    subst hH1
    have hix1 : ixS σ a = some i := by rw [ha1]; exact ix_s hI hi
    refine vp_callSi (va_Run.run (va_runV (As := [.ref (r_a ρ i)]) (rest := []) ⟨hx, hb, hml, hown, hts⟩ (c_X1_hoursToLongestShadow l D cs ρ hI hap.1 i hi) (cwV 1 hts gX1_longestIn_X1_hoursToLongestShadow rfl rfl rfl (by decide +kernel) ⟨Nat.le_of_ble_eq_true rfl, Nat.le_of_ble_eq_true rfl⟩) (rb_V hK hN hP (va_recv hK (one_P hP.1) (ci := 2) (q0 := 0) rfl rfl)) rfl rfl hl.1 rfl (lv_room (Nat.le_of_ble_eq_true rfl)) dX1_longestIn_6 ⟨Nat.le_of_ble_eq_true rfl, Nat.le_of_ble_eq_true rfl⟩)) (fun r_1 hr_1 => ?_)
    rw [hr_1]
    refine vx_ret ?_
    refine W.widen (k := 1) (n := 6) (Nat.le_of_ble_eq_true rfl) (Nat.le_of_ble_eq_true rfl) ?_
    exact W.iret (v := longInS σ i) hx hb hr (fun t ht hW => ⟨⟨_, (), rfl, (by unfold rdO; rw [hix1]; first | done | rfl), ht⟩, hS.F ht⟩) hS.2.2 dX1_longestIn_9
set_option maxHeartbeats 4000000 in
set_option maxRecDepth 100000 in
theorem x_X1_honestShadow (l : Launch) (hlf : l.stackTraces = false) (D : va_G) (cs : Cs) (ρ : Rf) {B : Nat} {σ : PS} (hI : InvS B σ) (hap : AptA ρ (sK σ)) (H0 : Heap) (a b : Int32) : vx_Met l yX1_honestShadow wsX1_honestShadow ({ frames := 7, cells := 2, slots := 12, locals := 103 }) (va_Pc [.ref (r_h ρ), .int a, .int b] (TBp D cs (fun X => X = H0 ∧ Soc D cs ρ σ X))) (va_Qi (fun (r : Int32) (_ : Unit) => honO σ a b = (0, r)) (fun _ t => t.heap = H0) (fun q => H0.size ≤ q)) (vx_X (fun _ : Unit => True) (fun E _ _ => E = eIob ∧ (honO σ a b).1 = 1) (fun q => H0.size ≤ q)) 2 12 (fun q => H0.size ≤ q) := by
  refine vx_ofW (cc := cX1_honestShadow) (maxL := 4) (ret := (some .int)) (by decide) rfl ?_
  intro p e s m args below meth c s₁ B0 hml hte hv
  obtain ⟨rfl, ⟨⟨hH, hP⟩, hK, hN⟩, hT⟩ := hv
  subst hH
  have hx := B0.exec
  have hb := B0.bytes
  have hr := B0.returns
  have hts := atoms_spec (ws := wsX1_honestShadow) B0.pre
  have hown : s.vm.findClass RX1 = some m.cls := findClass_of_methodNamed B0.named
  have hlocks := B0.notSynchronized
  have hJ := hap.1
  have hS : va_S (fun q => s.heap.size ≤ q) s.heap s.heap [] := va_S.rf
  have hl := lv_entry ([.ref (r_h ρ), .int a, .int b]) (n := 4) (Nat.le_of_ble_eq_true rfl)
  rw [lg_entry_eq]
  generalize (lg_sl ([.ref (r_h ρ), .int a, .int b]) ++ List.replicate (4 - (lg_sl ([.ref (r_h ρ), .int a, .int b])).length) Slot.unset).toArray = ls at hl ⊢
  have hl : lv_has ls 4 [(0, .ref (r_h ρ)), (1, .int a), (2, .int b)] := hl
  refine lv_aload_n hx hb dX1_honestShadow_0 rfl (lv_at hl 0 rfl) ?_
  refine lv_iload_n hx hb dX1_honestShadow_1 rfl (lv_at hl 1 rfl) ?_
  refine vx_callq (vx_runV (As := [.int a]) (rest := []) ⟨hx, hb, hml, hown, hts⟩ (x_X1_memberNumbered l hlf D cs ρ hI hap s.heap a) (cwV 1 hts gX1_honestShadow_X1_memberNumbered rfl rfl rfl (by decide +kernel) ⟨Nat.le_of_ble_eq_true rfl, Nat.le_of_ble_eq_true rfl⟩) (tb_V hK hN ⟨rfl, hP⟩ hT (Nat.le_refl _) (fun _ _ => rfl) (va_recv hK (one_P hP.1) (ci := 2) (q0 := 0) rfl rfl)) rfl rfl hl.1 rfl (lv_room (Nat.le_of_ble_eq_true rfl)) dX1_honestShadow_2 ⟨Nat.le_of_ble_eq_true rfl, Nat.le_of_ble_eq_true rfl⟩) hS (fun q _ h => h) (fun q h => h) (fun q _ h => h) (fun E ce q9 u t H1 locs ht hvm hu hB hz1 hk1 hS hce hcv hcl => ?_) (fun r u t H1 locs ht hvm hw hB hz1 hk1 hS => ?_)
  · exact vx_out (fun x h9 => (hte x h9).elim) hlocks hce hcv hcl (fun t2 ht2 _ => ⟨(), trivial, (⟨hB.1, (by unfold honO; rw [hB.2]; first | done | rfl)⟩), by rw [ht2]; exact hz1, fun q h9 h8 => by rw [ht2]; exact hk1 q h9 h8⟩) (fun z h9 => (hS.2.2 z h9)) (Nat.le_of_ble_eq_true rfl) (Nat.le_of_ble_eq_true rfl)
  · obtain ⟨i, hi, ha1, rfl⟩ := hw
    have hH1 : H1 = s.heap := ht.symm.trans hB
    subst hH1
    have hix1 : ixS σ a = some i := by rw [ha1]; exact ix_s hI hi
    refine lv_astore_n (lv' := [(3, .ref (r_a ρ i)), (0, .ref (r_h ρ)), (1, .int a), (2, .int b)]) hx hb dX1_honestShadow_5 rfl hl (by decide) rfl (fun ls hl => ?_)
    refine lv_iload_n hx hb dX1_honestShadow_6 rfl (lv_at hl 3 rfl) ?_
    refine lv_if_lt (tgt := 16) hx hb dX1_honestShadow_7 (by decide) (fun c_1 => ?_) (fun c_1 => ?_)
    · obtain ⟨sa_2, hsa_2⟩ := hT.1 (143, "hour is not 0 to 23") (by decide +kernel)
      exact vx_throwS (names := nms2) (A := fun q => s.heap.size ≤ q) hx hb hlf hown (by decide +kernel) (by decide +kernel) (hts (.classLink RX1 141 "java/lang/IndexOutOfBoundsException") (List.mem_of_getElem? (i := 1) (by decide +kernel))) (hts (.initialized "java/lang/IndexOutOfBoundsException") (List.mem_of_getElem? (i := 2) (by decide +kernel))) hsa_2 (hat_eIob (fun w h9 => hts w (List.mem_cons_of_mem _ (List.mem_append_right _ h9))) hN) hgd_eIob hT.2.1 hT.2.2 hS (by rw [hml]; exact hl.1) dX1_honestShadow_16 dX1_honestShadow_19 dX1_honestShadow_20 dX1_honestShadow_22 dX1_honestShadow_25 (fun x h9 => (hte x h9).elim) (Nat.le_of_ble_eq_true rfl) (Nat.le_of_ble_eq_true rfl) (Nat.le_of_ble_eq_true rfl) (Nat.le_of_ble_eq_true rfl) hlocks (fun t hA hz hk => ⟨(), trivial, (⟨rfl, (by unfold honO; rw [hix1]; (try dsimp only); rw [if_pos c_1]; first | done | rfl)⟩), hz, fun q h9 _ => hk q h9⟩) (fun z h9 => (hS.2.2 z h9)) (Nat.le_of_ble_eq_true rfl) (Nat.le_of_ble_eq_true rfl)
    · refine lv_iload_n hx hb dX1_honestShadow_10 rfl (lv_at hl 3 rfl) ?_
      refine lv_bipush (v := 24) hx hb dX1_honestShadow_11 (by decide) ?_
      refine lv_icmp_lt (tgt := 26) hx hb dX1_honestShadow_13 (by decide) (fun c_3 => ?_) (fun c_3 => ?_)
      · refine lv_aload_n hx hb dX1_honestShadow_26 rfl (lv_at hl 0 rfl) ?_
        refine lv_iload_n hx hb dX1_honestShadow_27 rfl (lv_at hl 3 rfl) ?_
        refine vp_callSi (va_Run.run (va_runVN (As := [.int b]) (rest := []) ⟨hx, hb, hml, hown, hts⟩ (c_X0_honestShadowAt l D cs ρ hI hap.1 i hi b) ⟨va_cnB 1 hts gX1_honestShadow_X0_honestShadowAt_n146 rfl rfl rfl (hN (.methodLinkNest "ShadowSociety" 146 ⟨"ShadowSociety$Member", "honestShadowAt", "(I)I"⟩ "ShadowSociety") (by decide +kernel)) (hts (.initialized RX0) (List.mem_of_getElem? (i := 34) (by decide +kernel))) (by decide +kernel) ⟨Nat.le_of_ble_eq_true rfl, Nat.le_of_ble_eq_true rfl⟩, hts (.instanceMethod yX0_honestShadowAt) (List.mem_of_getElem? (i := 33) (by decide +kernel)), hts (.selects RX0 yX0_honestShadowAt yX0_honestShadowAt) (List.mem_of_getElem? (i := 35) (by decide +kernel))⟩ (rb_V hK hN hP.2.2 (va_recv hK (one_P (hP.2.2 i hi)) (ci := 1) (q0 := 0) rfl rfl)) rfl rfl hl.1 rfl (lv_room (Nat.le_of_ble_eq_true rfl)) dX1_honestShadow_28 ⟨Nat.le_of_ble_eq_true rfl, Nat.le_of_ble_eq_true rfl⟩)) (fun r_4 hr_4 => ?_)
        rw [hr_4]
        refine vx_ret ?_
        refine W.widen (k := 2) (n := 12) (Nat.le_of_ble_eq_true rfl) (Nat.le_of_ble_eq_true rfl) ?_
        exact W.iret (v := honsS σ i b) hx hb hr (fun t ht hW => ⟨⟨_, (), rfl, (by unfold honO; rw [hix1]; (try dsimp only); rw [if_neg c_1]; rw [if_pos c_3]; first | done | rfl), ht⟩, hS.F ht⟩) hS.2.2 dX1_honestShadow_31
      · obtain ⟨sa_5, hsa_5⟩ := hT.1 (143, "hour is not 0 to 23") (by decide +kernel)
        exact vx_throwS (names := nms2) (A := fun q => s.heap.size ≤ q) hx hb hlf hown (by decide +kernel) (by decide +kernel) (hts (.classLink RX1 141 "java/lang/IndexOutOfBoundsException") (List.mem_of_getElem? (i := 1) (by decide +kernel))) (hts (.initialized "java/lang/IndexOutOfBoundsException") (List.mem_of_getElem? (i := 2) (by decide +kernel))) hsa_5 (hat_eIob (fun w h9 => hts w (List.mem_cons_of_mem _ (List.mem_append_right _ h9))) hN) hgd_eIob hT.2.1 hT.2.2 hS (by rw [hml]; exact hl.1) dX1_honestShadow_16 dX1_honestShadow_19 dX1_honestShadow_20 dX1_honestShadow_22 dX1_honestShadow_25 (fun x h9 => (hte x h9).elim) (Nat.le_of_ble_eq_true rfl) (Nat.le_of_ble_eq_true rfl) (Nat.le_of_ble_eq_true rfl) (Nat.le_of_ble_eq_true rfl) hlocks (fun t hA hz hk => ⟨(), trivial, (⟨rfl, (by unfold honO; rw [hix1]; (try dsimp only); rw [if_neg c_1]; rw [if_neg c_3]; first | done | rfl)⟩), hz, fun q h9 _ => hk q h9⟩) (fun z h9 => (hS.2.2 z h9)) (Nat.le_of_ble_eq_true rfl) (Nat.le_of_ble_eq_true rfl)
set_option maxHeartbeats 4000000 in
set_option maxRecDepth 100000 in
theorem x_X1_isHonest (l : Launch) (hlf : l.stackTraces = false) (D : va_G) (cs : Cs) (ρ : Rf) {B : Nat} {σ : PS} (hI : InvS B σ) (hap : AptA ρ (sK σ)) (H0 : Heap) (a : Int32) : vx_Met l yX1_isHonest wsX1_isHonest ({ frames := 7, cells := 2, slots := 12, locals := 103 }) (va_Pc [.ref (r_h ρ), .int a] (TBp D cs (fun X => X = H0 ∧ Soc D cs ρ σ X))) (va_Qi (fun (r : Int32) (_ : Unit) => isHO σ a = (0, r)) (fun _ t => t.heap = H0) (fun q => H0.size ≤ q)) (vx_X (fun _ : Unit => True) (fun E _ _ => xE2 E ((isHO σ a).1)) (fun q => H0.size ≤ q)) 2 12 (fun q => H0.size ≤ q) := by
  refine vx_ofW (cc := cX1_isHonest) (maxL := 3) (ret := (some .boolean)) (by decide) rfl ?_
  intro p e s m args below meth c s₁ B0 hml hte hv
  obtain ⟨rfl, ⟨⟨hH, hP⟩, hK, hN⟩, hT⟩ := hv
  subst hH
  have hx := B0.exec
  have hb := B0.bytes
  have hr := B0.returns
  have hts := atoms_spec (ws := wsX1_isHonest) B0.pre
  have hown : s.vm.findClass RX1 = some m.cls := findClass_of_methodNamed B0.named
  have hlocks := B0.notSynchronized
  have hJ := hap.1
  have hS : va_S (fun q => s.heap.size ≤ q) s.heap s.heap [] := va_S.rf
  have hl := lv_entry ([.ref (r_h ρ), .int a]) (n := 3) (Nat.le_of_ble_eq_true rfl)
  rw [lg_entry_eq]
  generalize (lg_sl ([.ref (r_h ρ), .int a]) ++ List.replicate (3 - (lg_sl ([.ref (r_h ρ), .int a])).length) Slot.unset).toArray = ls at hl ⊢
  have hl : lv_has ls 3 [(0, .ref (r_h ρ)), (1, .int a)] := hl
  refine lv_aload_n hx hb dX1_isHonest_0 rfl (lv_at hl 0 rfl) ?_
  refine lv_iload_n hx hb dX1_isHonest_1 rfl (lv_at hl 1 rfl) ?_
  refine vx_callq (vx_runV (As := [.int a]) (rest := []) ⟨hx, hb, hml, hown, hts⟩ (x_X1_memberNumbered l hlf D cs ρ hI hap s.heap a) (cwV 1 hts gX1_isHonest_X1_memberNumbered rfl rfl rfl (by decide +kernel) ⟨Nat.le_of_ble_eq_true rfl, Nat.le_of_ble_eq_true rfl⟩) (tb_V hK hN ⟨rfl, hP⟩ hT (Nat.le_refl _) (fun _ _ => rfl) (va_recv hK (one_P hP.1) (ci := 2) (q0 := 0) rfl rfl)) rfl rfl hl.1 rfl (lv_room (Nat.le_of_ble_eq_true rfl)) dX1_isHonest_2 ⟨Nat.le_of_ble_eq_true rfl, Nat.le_of_ble_eq_true rfl⟩) hS (fun q _ h => h) (fun q h => h) (fun q _ h => h) (fun E ce q9 u t H1 locs ht hvm hu hB hz1 hk1 hS hce hcv hcl => ?_) (fun r u t H1 locs ht hvm hw hB hz1 hk1 hS => ?_)
  · exact vx_out (fun x h9 => (hte x h9).elim) hlocks hce hcv hcl (fun t2 ht2 _ => ⟨(), trivial, (Or.inl ⟨hB.1, (by unfold isHO; rw [hB.2]; first | done | rfl)⟩), by rw [ht2]; exact hz1, fun q h9 h8 => by rw [ht2]; exact hk1 q h9 h8⟩) (fun z h9 => (hS.2.2 z h9)) (Nat.le_of_ble_eq_true rfl) (Nat.le_of_ble_eq_true rfl)
  · obtain ⟨i, hi, ha1, rfl⟩ := hw
    have hH1 : H1 = s.heap := ht.symm.trans hB
    subst hH1
    have hix1 : ixS σ a = some i := by rw [ha1]; exact ix_s hI hi
    refine lv_astore_n (lv' := [(2, .ref (r_a ρ i)), (0, .ref (r_h ρ)), (1, .int a)]) hx hb dX1_isHonest_5 rfl hl (by decide) rfl (fun ls hl => ?_)
    refine lv_aload_n hx hb dX1_isHonest_6 rfl (lv_at hl 0 rfl) ?_
    refine vp_callSi (va_Run.run (va_runVN (As := []) (rest := []) ⟨hx, hb, hml, hown, hts⟩ (c_X0_hasCertificate l D cs ρ hI hap.1 i hi) ⟨va_cnB 0 hts gX1_isHonest_X0_hasCertificate_n129 rfl rfl rfl (hN (.methodLinkNest "ShadowSociety" 129 ⟨"ShadowSociety$Member", "hasCertificate", "()Z"⟩ "ShadowSociety") (by decide +kernel)) (hts (.initialized RX0) (List.mem_of_getElem? (i := 36) (by decide +kernel))) (by decide +kernel) ⟨Nat.le_of_ble_eq_true rfl, Nat.le_of_ble_eq_true rfl⟩, hts (.instanceMethod yX0_hasCertificate) (List.mem_of_getElem? (i := 35) (by decide +kernel)), hts (.selects RX0 yX0_hasCertificate yX0_hasCertificate) (List.mem_of_getElem? (i := 37) (by decide +kernel))⟩ (rb_V hK hN hP.2.2 (va_recv hK (one_P (hP.2.2 i hi)) (ci := 1) (q0 := 0) rfl rfl)) rfl rfl hl.1 rfl (lv_room (Nat.le_of_ble_eq_true rfl)) dX1_isHonest_7 ⟨Nat.le_of_ble_eq_true rfl, Nat.le_of_ble_eq_true rfl⟩)) (fun r_1 hr_1 => ?_)
    rw [hr_1]
    refine lv_if_ne (tgt := 23) hx hb dX1_isHonest_10 (by decide) (fun c_2 => ?_) (fun c_2 => ?_)
    · refine lv_aload_n hx hb dX1_isHonest_23 rfl (lv_at hl 0 rfl) ?_
      refine vp_callSi (va_Run.run (va_runVN (As := []) (rest := []) ⟨hx, hb, hml, hown, hts⟩ (c_X0_hasHonestCertificate l D cs ρ hI hap.1 i hi) ⟨va_cnB 0 hts gX1_isHonest_X0_hasHonestCertificate_n132 rfl rfl rfl (hN (.methodLinkNest "ShadowSociety" 132 ⟨"ShadowSociety$Member", "hasHonestCertificate", "()Z"⟩ "ShadowSociety") (by decide +kernel)) (hts (.initialized RX0) (List.mem_of_getElem? (i := 36) (by decide +kernel))) (by decide +kernel) ⟨Nat.le_of_ble_eq_true rfl, Nat.le_of_ble_eq_true rfl⟩, hts (.instanceMethod yX0_hasHonestCertificate) (List.mem_of_getElem? (i := 40) (by decide +kernel)), hts (.selects RX0 yX0_hasHonestCertificate yX0_hasHonestCertificate) (List.mem_of_getElem? (i := 41) (by decide +kernel))⟩ (rb_V hK hN hP.2.2 (va_recv hK (one_P (hP.2.2 i hi)) (ci := 1) (q0 := 0) rfl rfl)) rfl rfl hl.1 rfl (lv_room (Nat.le_of_ble_eq_true rfl)) dX1_isHonest_24 ⟨Nat.le_of_ble_eq_true rfl, Nat.le_of_ble_eq_true rfl⟩)) (fun r_3 hr_3 => ?_)
      rw [hr_3]
      refine vx_ret ?_
      refine W.widen (k := 2) (n := 12) (Nat.le_of_ble_eq_true rfl) (Nat.le_of_ble_eq_true rfl) ?_
      exact W.zret (ty := .boolean) (v := b01 (hasC σ i ∧ truC σ i)) hx hb hr (b01_nar _) (fun t ht hW => ⟨⟨_, (), rfl, (by unfold isHO; rw [hix1]; (try dsimp only); rw [if_pos (b01_n.mp c_2)]; first | done | rfl), ht⟩, hS.F ht⟩) hS.2.2 dX1_isHonest_27
    · obtain ⟨sa_4, hsa_4⟩ := hT.1 (149, "there is no certificate") (by decide +kernel)
      exact vx_throwS (names := nms2) (A := fun q => s.heap.size ≤ q) hx hb hlf hown (by decide +kernel) (by decide +kernel) (hts (.classLink RX1 39 "java/lang/IllegalStateException") (List.mem_of_getElem? (i := 1) (by decide +kernel))) (hts (.initialized "java/lang/IllegalStateException") (List.mem_of_getElem? (i := 2) (by decide +kernel))) hsa_4 (hat_eIse (fun w h9 => hts w (List.mem_cons_of_mem _ (List.mem_append_left _ (List.mem_append_right _ h9)))) hN) hgd_eIse hT.2.1 hT.2.2 hS (by rw [hml]; exact hl.1) dX1_isHonest_13 dX1_isHonest_16 dX1_isHonest_17 dX1_isHonest_19 dX1_isHonest_22 (fun x h9 => (hte x h9).elim) (Nat.le_of_ble_eq_true rfl) (Nat.le_of_ble_eq_true rfl) (Nat.le_of_ble_eq_true rfl) (Nat.le_of_ble_eq_true rfl) hlocks (fun t hA hz hk => ⟨(), trivial, (Or.inr (⟨rfl, (by unfold isHO; rw [hix1]; (try dsimp only); rw [if_neg (b01_0.mp c_2)]; first | done | rfl)⟩)), hz, fun q h9 _ => hk q h9⟩) (fun z h9 => (hS.2.2 z h9)) (Nat.le_of_ble_eq_true rfl) (Nat.le_of_ble_eq_true rfl)
theorem in_X1_buyLamp_X0 : ∀ w ∈ wsX00, w ∈ wsX1_buyLamp := by decide +kernel
set_option maxHeartbeats 4000000 in
set_option maxRecDepth 100000 in
theorem x_X1_buyLamp (l : Launch) (hlf : l.stackTraces = false) (D : va_G) (cs : Cs) (ρ : Rf) {B : Nat} {σ : PS} (hI : InvS B σ) (hap : AptA ρ (sK σ)) (H0 : Heap) (a b : Int32) : vx_Met l yX1_buyLamp wsX1_buyLamp ({ frames := 7, cells := 2, slots := 12, locals := 103 }) (va_Pc [.ref (r_h ρ), .int a, .int b] (TBp D cs (fun X => X = H0 ∧ Soc D cs ρ σ X))) (va_Qi (fun (r : Int32) (u : PS) => buyO σ a b = (0, r, u)) (fun u t => Soc D cs ρ u t.heap) (ownA ρ (sK σ) H0)) (vx_X (fun _ : Unit => True) (fun E _ _ => xE1 E ((buyO σ a b).1)) (fun q => H0.size ≤ q)) 2 12 (ownA ρ (sK σ) H0) := by
  refine vx_ofW (cc := cX1_buyLamp) (maxL := 4) (ret := (some .int)) (by decide) rfl ?_
  intro p e s m args below meth c s₁ B0 hml hte hv
  obtain ⟨rfl, ⟨⟨hH, hP⟩, hK, hN⟩, hT⟩ := hv
  subst hH
  have hx := B0.exec
  have hb := B0.bytes
  have hr := B0.returns
  have hts := atoms_spec (ws := wsX1_buyLamp) B0.pre
  have hown : s.vm.findClass RX1 = some m.cls := findClass_of_methodNamed B0.named
  have hlocks := B0.notSynchronized
  have hJ := hap.1
  have hS : va_S (fun q => s.heap.size ≤ q) s.heap s.heap [] := va_S.rf
  have hl := lv_entry ([.ref (r_h ρ), .int a, .int b]) (n := 4) (Nat.le_of_ble_eq_true rfl)
  rw [lg_entry_eq]
  generalize (lg_sl ([.ref (r_h ρ), .int a, .int b]) ++ List.replicate (4 - (lg_sl ([.ref (r_h ρ), .int a, .int b])).length) Slot.unset).toArray = ls at hl ⊢
  have hl : lv_has ls 4 [(0, .ref (r_h ρ)), (1, .int a), (2, .int b)] := hl
  refine lv_aload_n hx hb dX1_buyLamp_0 rfl (lv_at hl 0 rfl) ?_
  refine lv_iload_n hx hb dX1_buyLamp_1 rfl (lv_at hl 1 rfl) ?_
  refine vx_callq (vx_runV (As := [.int a]) (rest := []) ⟨hx, hb, hml, hown, hts⟩ (x_X1_memberNumbered l hlf D cs ρ hI hap s.heap a) (cwV 1 hts gX1_buyLamp_X1_memberNumbered rfl rfl rfl (by decide +kernel) ⟨Nat.le_of_ble_eq_true rfl, Nat.le_of_ble_eq_true rfl⟩) (tb_V hK hN ⟨rfl, hP⟩ hT (Nat.le_refl _) (fun _ _ => rfl) (va_recv hK (one_P hP.1) (ci := 2) (q0 := 0) rfl rfl)) rfl rfl hl.1 rfl (lv_room (Nat.le_of_ble_eq_true rfl)) dX1_buyLamp_2 ⟨Nat.le_of_ble_eq_true rfl, Nat.le_of_ble_eq_true rfl⟩) hS (fun q _ h => h) (fun q h => h) (fun q _ h => h) (fun E ce q9 u t H1 locs ht hvm hu hB hz1 hk1 hS hce hcv hcl => ?_) (fun r u t H1 locs ht hvm hw hB hz1 hk1 hS => ?_)
  · exact vx_out (fun x h9 => (hte x h9).elim) hlocks hce hcv hcl (fun t2 ht2 _ => ⟨(), trivial, (Or.inl ⟨hB.1, (by unfold buyO; rw [hB.2]; first | done | rfl)⟩), by rw [ht2]; exact hz1, fun q h9 h8 => by rw [ht2]; exact hk1 q h9 h8⟩) (fun z h9 => Or.inr (hS.2.2 z h9)) (Nat.le_of_ble_eq_true rfl) (Nat.le_of_ble_eq_true rfl)
  · obtain ⟨i, hi, ha1, rfl⟩ := hw
    have hH1 : H1 = s.heap := ht.symm.trans hB
    subst hH1
    have hix1 : ixS σ a = some i := by rw [ha1]; exact ix_s hI hi
    refine lv_astore_n (lv' := [(3, .ref (r_a ρ i)), (0, .ref (r_h ρ)), (1, .int a), (2, .int b)]) hx hb dX1_buyLamp_5 rfl hl (by decide) rfl (fun ls hl => ?_)
    refine lv_iload_n hx hb dX1_buyLamp_6 rfl (lv_at hl 3 rfl) ?_
    refine lv_iconst (v := 1) hx hb dX1_buyLamp_7 (by decide) ?_
    refine lv_icmp_lt (tgt := 17) hx hb dX1_buyLamp_8 (by decide) (fun c_1 => ?_) (fun c_1 => ?_)
    · obtain ⟨sa_2, hsa_2⟩ := hT.1 (63, "brightness is not 1 to 9") (by decide +kernel)
      exact vx_throwS (names := nms2) (A := fun q => s.heap.size ≤ q) hx hb hlf hown (by decide +kernel) (by decide +kernel) (hts (.classLink RX1 26 "java/lang/IllegalArgumentException") (List.mem_of_getElem? (i := 1) (by decide +kernel))) (hts (.initialized "java/lang/IllegalArgumentException") (List.mem_of_getElem? (i := 2) (by decide +kernel))) hsa_2 (hat_eIae (fun w h9 => hts w (List.mem_cons_of_mem _ (List.mem_append_left _ (List.mem_append_left _ (List.mem_append_right _ h9))))) hN) hgd_eIae hT.2.1 hT.2.2 hS (by rw [hml]; exact hl.1) dX1_buyLamp_17 dX1_buyLamp_20 dX1_buyLamp_21 dX1_buyLamp_23 dX1_buyLamp_26 (fun x h9 => (hte x h9).elim) (Nat.le_of_ble_eq_true rfl) (Nat.le_of_ble_eq_true rfl) (Nat.le_of_ble_eq_true rfl) (Nat.le_of_ble_eq_true rfl) hlocks (fun t hA hz hk => ⟨(), trivial, (Or.inr (Or.inl ⟨rfl, (by unfold buyO; rw [hix1]; (try dsimp only); rw [if_pos c_1]; first | done | rfl)⟩)), hz, fun q h9 _ => hk q h9⟩) (fun z h9 => Or.inr (hS.2.2 z h9)) (Nat.le_of_ble_eq_true rfl) (Nat.le_of_ble_eq_true rfl)
    · refine lv_iload_n hx hb dX1_buyLamp_11 rfl (lv_at hl 3 rfl) ?_
      refine lv_bipush (v := 9) hx hb dX1_buyLamp_12 (by decide) ?_
      refine lv_icmp_le (tgt := 27) hx hb dX1_buyLamp_14 (by decide) (fun c_3 => ?_) (fun c_3 => ?_)
      · refine lv_aload_n hx hb dX1_buyLamp_27 rfl (lv_at hl 0 rfl) ?_
        refine va_getN (D := D) (ci := 1) (v := .int (sLa σ i)) (C := RX0) (T := TX0) (N := 9) hx hb hts in_X1_buyLamp_X0 hown hK (one_P (hP.2.2 i hi)) 0 rfl rfl 4 (by decide) (Nst.use hN (w := .fieldLinkNest "ShadowSociety" 65 "ShadowSociety$Member" "lamp" "I" "ShadowSociety") (by decide +kernel)) (fun _ h9 => h9) rfl dX1_buyLamp_28 ?_
        refine lv_if_le (tgt := 44) hx hb dX1_buyLamp_31 (by decide) (fun c_4 => ?_) (fun c_4 => ?_)
        · refine lv_aload_n hx hb dX1_buyLamp_44 rfl (lv_at hl 0 rfl) ?_
          refine va_getN (D := D) (ci := 1) (v := .int (sPu σ i)) (C := RX0) (T := TX0) (N := 9) hx hb hts in_X1_buyLamp_X0 hown hK (one_P (hP.2.2 i hi)) 0 rfl rfl 3 (by decide) (Nst.use hN (w := .fieldLinkNest "ShadowSociety" 70 "ShadowSociety$Member" "purse" "I" "ShadowSociety") (by decide +kernel)) (fun _ h9 => h9) rfl dX1_buyLamp_45 ?_
          refine lv_iload_n hx hb dX1_buyLamp_48 rfl (lv_at hl 3 rfl) ?_
          refine lv_icmp_ge (tgt := 62) hx hb dX1_buyLamp_49 (by decide) (fun c_5 => ?_) (fun c_5 => ?_)
          · refine lv_aload_n hx hb dX1_buyLamp_62 rfl (lv_at hl 0 rfl) ?_
            refine lv_dup hx hb dX1_buyLamp_63 rfl ?_
            refine va_getN (D := D) (ci := 1) (v := .int (sPu σ i)) (C := RX0) (T := TX0) (N := 9) hx hb hts in_X1_buyLamp_X0 hown hK (one_P (hP.2.2 i hi)) 0 rfl rfl 3 (by decide) (Nst.use hN (w := .fieldLinkNest "ShadowSociety" 70 "ShadowSociety$Member" "purse" "I" "ShadowSociety") (by decide +kernel)) (fun _ h9 => h9) rfl dX1_buyLamp_64 ?_
            refine lv_iload_n hx hb dX1_buyLamp_67 rfl (lv_at hl 3 rfl) ?_
            refine lv_isub hx hb dX1_buyLamp_68 ?_
            have hS := vs_up (B := ownA ρ (sK σ) s.heap) hS (fun q h => Or.inr h)
            refine va_putN (D := D) (ci := 1) (v := .int ((sPu σ i) - b)) (ty := .int) (C := RX0) (T := TX0) (N := 9) hx hb hts in_X1_buyLamp_X0 tyX0 tyX0_ok nmX0 hown hK (soc_P hP) (soc_D hap (fun q h => Or.inl h)) hS (2 + i) (socW_at hi) rfl 3 (by decide) (Nst.use hN (w := .fieldLinkNest "ShadowSociety" 70 "ShadowSociety$Member" "purse" "I" "ShadowSociety") (by decide +kernel)) (fun _ h9 => h9) rfl (by decide +kernel) rfl rfl (Nat.le_of_ble_eq_true rfl) dX1_buyLamp_69 (fun H locs hP hD hS => ?_)
            have hP : Soc D cs ρ (setPu σ (upd (sPu σ) i ((sPu σ i) - b))) H := P_soc (by rw [s_Pu (cs := cs) (ρ := ρ) (σ := σ) hi] at hP; exact hP)
            have hI_6 : InvS B (setPu σ (upd (sPu σ) i ((sPu σ i) - b))) := hI
            refine lv_aload_n hx hb dX1_buyLamp_72 rfl (lv_at hl 0 rfl) ?_
            refine lv_iload_n hx hb dX1_buyLamp_73 rfl (lv_at hl 3 rfl) ?_
            refine va_putN (D := D) (ci := 1) (v := .int b) (ty := .int) (C := RX0) (T := TX0) (N := 9) hx hb hts in_X1_buyLamp_X0 tyX0 tyX0_ok nmX0 hown hK (soc_P hP) (soc_D hap (fun q h => Or.inl h)) hS (2 + i) (socW_at hi) rfl 4 (by decide) (Nst.use hN (w := .fieldLinkNest "ShadowSociety" 65 "ShadowSociety$Member" "lamp" "I" "ShadowSociety") (by decide +kernel)) (fun _ h9 => h9) rfl (by decide +kernel) rfl rfl (Nat.le_of_ble_eq_true rfl) dX1_buyLamp_74 (fun H locs hP hD hS => ?_)
            have hP : Soc D cs ρ (setLa (setPu σ (upd (sPu σ) i ((sPu σ i) - b))) (upd (sLa (setPu σ (upd (sPu σ) i ((sPu σ i) - b)))) i b)) H := P_soc (by rw [s_La (cs := cs) (ρ := ρ) (σ := setPu σ (upd (sPu σ) i ((sPu σ i) - b))) hi] at hP; exact hP)
            have hI_7 : InvS B (setLa (setPu σ (upd (sPu σ) i ((sPu σ i) - b))) (upd (sLa (setPu σ (upd (sPu σ) i ((sPu σ i) - b)))) i b)) := hI_6
            refine lv_aload_n hx hb dX1_buyLamp_77 rfl (lv_at hl 0 rfl) ?_
            refine va_getN (D := D) (ci := 1) (v := .int ((sPu σ i) - b)) (C := RX0) (T := TX0) (N := 9) hx hb hts in_X1_buyLamp_X0 hown hK (one_P (hP.2.2 i hi)) 0 rfl rfl 3 (by decide) (Nst.use hN (w := .fieldLinkNest "ShadowSociety" 70 "ShadowSociety$Member" "purse" "I" "ShadowSociety") (by decide +kernel)) (fun _ h9 => h9) (show some (Value.int (sPu (setLa (setPu σ (upd (sPu σ) i ((sPu σ i) - b))) (upd (sLa (setPu σ (upd (sPu σ) i ((sPu σ i) - b)))) i b)) i)) = some (Value.int ((sPu σ i) - b)) from by rw [show sPu (setLa (setPu σ (upd (sPu σ) i ((sPu σ i) - b))) (upd (sLa (setPu σ (upd (sPu σ) i ((sPu σ i) - b)))) i b)) i = (sPu σ i) - b from pk_us]) dX1_buyLamp_78 ?_
            refine vx_ret ?_
            refine W.widen (k := 2) (n := 12) (Nat.le_of_ble_eq_true rfl) (Nat.le_of_ble_eq_true rfl) ?_
            exact W.iret (v := (sPu σ i) - b) hx hb hr (fun t ht hW => ⟨⟨_, (setLa (setPu σ (upd (sPu σ) i ((sPu σ i) - b))) (upd (sLa (setPu σ (upd (sPu σ) i ((sPu σ i) - b)))) i b)), rfl, (by unfold buyO; rw [hix1]; (try dsimp only); rw [if_neg c_1]; rw [if_pos c_3]; rw [if_pos c_4]; rw [if_pos c_5]; first | done | rfl), by show Soc D cs ρ _ t.heap; rw [ht]; exact hP⟩, hS.F ht⟩) hS.2.2 dX1_buyLamp_81
          · obtain ⟨sa_8, hsa_8⟩ := hT.1 (73, "the purse has less") (by decide +kernel)
            exact vx_throwS (names := nms2) (A := fun q => s.heap.size ≤ q) hx hb hlf hown (by decide +kernel) (by decide +kernel) (hts (.classLink RX1 39 "java/lang/IllegalStateException") (List.mem_of_getElem? (i := 3) (by decide +kernel))) (hts (.initialized "java/lang/IllegalStateException") (List.mem_of_getElem? (i := 4) (by decide +kernel))) hsa_8 (hat_eIse (fun w h9 => hts w (List.mem_cons_of_mem _ (List.mem_append_left _ (List.mem_append_right _ h9)))) hN) hgd_eIse hT.2.1 hT.2.2 hS (by rw [hml]; exact hl.1) dX1_buyLamp_52 dX1_buyLamp_55 dX1_buyLamp_56 dX1_buyLamp_58 dX1_buyLamp_61 (fun x h9 => (hte x h9).elim) (Nat.le_of_ble_eq_true rfl) (Nat.le_of_ble_eq_true rfl) (Nat.le_of_ble_eq_true rfl) (Nat.le_of_ble_eq_true rfl) hlocks (fun t hA hz hk => ⟨(), trivial, (Or.inr (Or.inr (⟨rfl, (by unfold buyO; rw [hix1]; (try dsimp only); rw [if_neg c_1]; rw [if_pos c_3]; rw [if_pos c_4]; rw [if_neg c_5]; first | done | rfl)⟩))), hz, fun q h9 _ => hk q h9⟩) (fun z h9 => Or.inr (hS.2.2 z h9)) (Nat.le_of_ble_eq_true rfl) (Nat.le_of_ble_eq_true rfl)
        · obtain ⟨sa_9, hsa_9⟩ := hT.1 (68, "this one has a lamp") (by decide +kernel)
          exact vx_throwS (names := nms2) (A := fun q => s.heap.size ≤ q) hx hb hlf hown (by decide +kernel) (by decide +kernel) (hts (.classLink RX1 39 "java/lang/IllegalStateException") (List.mem_of_getElem? (i := 3) (by decide +kernel))) (hts (.initialized "java/lang/IllegalStateException") (List.mem_of_getElem? (i := 4) (by decide +kernel))) hsa_9 (hat_eIse (fun w h9 => hts w (List.mem_cons_of_mem _ (List.mem_append_left _ (List.mem_append_right _ h9)))) hN) hgd_eIse hT.2.1 hT.2.2 hS (by rw [hml]; exact hl.1) dX1_buyLamp_34 dX1_buyLamp_37 dX1_buyLamp_38 dX1_buyLamp_40 dX1_buyLamp_43 (fun x h9 => (hte x h9).elim) (Nat.le_of_ble_eq_true rfl) (Nat.le_of_ble_eq_true rfl) (Nat.le_of_ble_eq_true rfl) (Nat.le_of_ble_eq_true rfl) hlocks (fun t hA hz hk => ⟨(), trivial, (Or.inr (Or.inr (⟨rfl, (by unfold buyO; rw [hix1]; (try dsimp only); rw [if_neg c_1]; rw [if_pos c_3]; rw [if_neg c_4]; first | done | rfl)⟩))), hz, fun q h9 _ => hk q h9⟩) (fun z h9 => Or.inr (hS.2.2 z h9)) (Nat.le_of_ble_eq_true rfl) (Nat.le_of_ble_eq_true rfl)
      · obtain ⟨sa_10, hsa_10⟩ := hT.1 (63, "brightness is not 1 to 9") (by decide +kernel)
        exact vx_throwS (names := nms2) (A := fun q => s.heap.size ≤ q) hx hb hlf hown (by decide +kernel) (by decide +kernel) (hts (.classLink RX1 26 "java/lang/IllegalArgumentException") (List.mem_of_getElem? (i := 1) (by decide +kernel))) (hts (.initialized "java/lang/IllegalArgumentException") (List.mem_of_getElem? (i := 2) (by decide +kernel))) hsa_10 (hat_eIae (fun w h9 => hts w (List.mem_cons_of_mem _ (List.mem_append_left _ (List.mem_append_left _ (List.mem_append_right _ h9))))) hN) hgd_eIae hT.2.1 hT.2.2 hS (by rw [hml]; exact hl.1) dX1_buyLamp_17 dX1_buyLamp_20 dX1_buyLamp_21 dX1_buyLamp_23 dX1_buyLamp_26 (fun x h9 => (hte x h9).elim) (Nat.le_of_ble_eq_true rfl) (Nat.le_of_ble_eq_true rfl) (Nat.le_of_ble_eq_true rfl) (Nat.le_of_ble_eq_true rfl) hlocks (fun t hA hz hk => ⟨(), trivial, (Or.inr (Or.inl ⟨rfl, (by unfold buyO; rw [hix1]; (try dsimp only); rw [if_neg c_1]; rw [if_neg c_3]; first | done | rfl)⟩)), hz, fun q h9 _ => hk q h9⟩) (fun z h9 => Or.inr (hS.2.2 z h9)) (Nat.le_of_ble_eq_true rfl) (Nat.le_of_ble_eq_true rfl)
theorem in_X1_dropLamp_X0 : ∀ w ∈ wsX00, w ∈ wsX1_dropLamp := by decide +kernel
set_option maxHeartbeats 4000000 in
set_option maxRecDepth 100000 in
theorem x_X1_dropLamp (l : Launch) (hlf : l.stackTraces = false) (D : va_G) (cs : Cs) (ρ : Rf) {B : Nat} {σ : PS} (hI : InvS B σ) (hap : AptA ρ (sK σ)) (H0 : Heap) (a : Int32) : vx_Met l yX1_dropLamp wsX1_dropLamp ({ frames := 7, cells := 2, slots := 12, locals := 103 }) (va_Pc [.ref (r_h ρ), .int a] (TBp D cs (fun X => X = H0 ∧ Soc D cs ρ σ X))) (va_Qi (fun (r : Int32) (u : PS) => dropO σ a = (0, r, u)) (fun u t => Soc D cs ρ u t.heap) (ownA ρ (sK σ) H0)) (vx_X (fun _ : Unit => True) (fun E _ _ => xE2 E ((dropO σ a).1)) (fun q => H0.size ≤ q)) 2 12 (ownA ρ (sK σ) H0) := by
  refine vx_ofW (cc := cX1_dropLamp) (maxL := 4) (ret := (some .int)) (by decide) rfl ?_
  intro p e s m args below meth c s₁ B0 hml hte hv
  obtain ⟨rfl, ⟨⟨hH, hP⟩, hK, hN⟩, hT⟩ := hv
  subst hH
  have hx := B0.exec
  have hb := B0.bytes
  have hr := B0.returns
  have hts := atoms_spec (ws := wsX1_dropLamp) B0.pre
  have hown : s.vm.findClass RX1 = some m.cls := findClass_of_methodNamed B0.named
  have hlocks := B0.notSynchronized
  have hJ := hap.1
  have hS : va_S (fun q => s.heap.size ≤ q) s.heap s.heap [] := va_S.rf
  have hl := lv_entry ([.ref (r_h ρ), .int a]) (n := 4) (Nat.le_of_ble_eq_true rfl)
  rw [lg_entry_eq]
  generalize (lg_sl ([.ref (r_h ρ), .int a]) ++ List.replicate (4 - (lg_sl ([.ref (r_h ρ), .int a])).length) Slot.unset).toArray = ls at hl ⊢
  have hl : lv_has ls 4 [(0, .ref (r_h ρ)), (1, .int a)] := hl
  refine lv_aload_n hx hb dX1_dropLamp_0 rfl (lv_at hl 0 rfl) ?_
  refine lv_iload_n hx hb dX1_dropLamp_1 rfl (lv_at hl 1 rfl) ?_
  refine vx_callq (vx_runV (As := [.int a]) (rest := []) ⟨hx, hb, hml, hown, hts⟩ (x_X1_memberNumbered l hlf D cs ρ hI hap s.heap a) (cwV 1 hts gX1_dropLamp_X1_memberNumbered rfl rfl rfl (by decide +kernel) ⟨Nat.le_of_ble_eq_true rfl, Nat.le_of_ble_eq_true rfl⟩) (tb_V hK hN ⟨rfl, hP⟩ hT (Nat.le_refl _) (fun _ _ => rfl) (va_recv hK (one_P hP.1) (ci := 2) (q0 := 0) rfl rfl)) rfl rfl hl.1 rfl (lv_room (Nat.le_of_ble_eq_true rfl)) dX1_dropLamp_2 ⟨Nat.le_of_ble_eq_true rfl, Nat.le_of_ble_eq_true rfl⟩) hS (fun q _ h => h) (fun q h => h) (fun q _ h => h) (fun E ce q9 u t H1 locs ht hvm hu hB hz1 hk1 hS hce hcv hcl => ?_) (fun r u t H1 locs ht hvm hw hB hz1 hk1 hS => ?_)
  · exact vx_out (fun x h9 => (hte x h9).elim) hlocks hce hcv hcl (fun t2 ht2 _ => ⟨(), trivial, (Or.inl ⟨hB.1, (by unfold dropO; rw [hB.2]; first | done | rfl)⟩), by rw [ht2]; exact hz1, fun q h9 h8 => by rw [ht2]; exact hk1 q h9 h8⟩) (fun z h9 => Or.inr (hS.2.2 z h9)) (Nat.le_of_ble_eq_true rfl) (Nat.le_of_ble_eq_true rfl)
  · obtain ⟨i, hi, ha1, rfl⟩ := hw
    have hH1 : H1 = s.heap := ht.symm.trans hB
    subst hH1
    have hix1 : ixS σ a = some i := by rw [ha1]; exact ix_s hI hi
    refine lv_astore_n (lv' := [(2, .ref (r_a ρ i)), (0, .ref (r_h ρ)), (1, .int a)]) hx hb dX1_dropLamp_5 rfl hl (by decide) rfl (fun ls hl => ?_)
    refine lv_aload_n hx hb dX1_dropLamp_6 rfl (lv_at hl 0 rfl) ?_
    refine va_getN (D := D) (ci := 1) (v := .int (sLa σ i)) (C := RX0) (T := TX0) (N := 9) hx hb hts in_X1_dropLamp_X0 hown hK (one_P (hP.2.2 i hi)) 0 rfl rfl 4 (by decide) (Nst.use hN (w := .fieldLinkNest "ShadowSociety" 65 "ShadowSociety$Member" "lamp" "I" "ShadowSociety") (by decide +kernel)) (fun _ h9 => h9) rfl dX1_dropLamp_7 ?_
    refine lv_istore_n (lv' := [(3, .int (sLa σ i)), (2, .ref (r_a ρ i)), (0, .ref (r_h ρ)), (1, .int a)]) hx hb dX1_dropLamp_10 rfl hl (by decide) rfl (fun ls hl => ?_)
    refine lv_iload_n hx hb dX1_dropLamp_11 rfl (lv_at hl 0 rfl) ?_
    refine lv_if_ne (tgt := 25) hx hb dX1_dropLamp_12 (by decide) (fun c_1 => ?_) (fun c_1 => ?_)
    · refine lv_aload_n hx hb dX1_dropLamp_25 rfl (lv_at hl 1 rfl) ?_
      refine lv_iconst (v := 0) hx hb dX1_dropLamp_26 (by decide) ?_
      have hS := vs_up (B := ownA ρ (sK σ) s.heap) hS (fun q h => Or.inr h)
      refine va_putN (D := D) (ci := 1) (v := .int 0) (ty := .int) (C := RX0) (T := TX0) (N := 9) hx hb hts in_X1_dropLamp_X0 tyX0 tyX0_ok nmX0 hown hK (soc_P hP) (soc_D hap (fun q h => Or.inl h)) hS (2 + i) (socW_at hi) rfl 4 (by decide) (Nst.use hN (w := .fieldLinkNest "ShadowSociety" 65 "ShadowSociety$Member" "lamp" "I" "ShadowSociety") (by decide +kernel)) (fun _ h9 => h9) rfl (by decide +kernel) rfl rfl (Nat.le_of_ble_eq_true rfl) dX1_dropLamp_27 (fun H locs hP hD hS => ?_)
      have hP : Soc D cs ρ (setLa σ (upd (sLa σ) i 0)) H := P_soc (by rw [s_La (cs := cs) (ρ := ρ) (σ := σ) hi] at hP; exact hP)
      have hI_2 : InvS B (setLa σ (upd (sLa σ) i 0)) := hI
      refine lv_iload_n hx hb dX1_dropLamp_30 rfl (lv_at hl 0 rfl) ?_
      refine vx_ret ?_
      refine W.widen (k := 2) (n := 12) (Nat.le_of_ble_eq_true rfl) (Nat.le_of_ble_eq_true rfl) ?_
      exact W.iret (v := sLa σ i) hx hb hr (fun t ht hW => ⟨⟨_, (setLa σ (upd (sLa σ) i 0)), rfl, (by unfold dropO; rw [hix1]; (try dsimp only); rw [if_pos c_1]; first | done | rfl), by show Soc D cs ρ _ t.heap; rw [ht]; exact hP⟩, hS.F ht⟩) hS.2.2 dX1_dropLamp_31
    · obtain ⟨sa_3, hsa_3⟩ := hT.1 (75, "there is no lamp") (by decide +kernel)
      exact vx_throwS (names := nms2) (A := fun q => s.heap.size ≤ q) hx hb hlf hown (by decide +kernel) (by decide +kernel) (hts (.classLink RX1 39 "java/lang/IllegalStateException") (List.mem_of_getElem? (i := 1) (by decide +kernel))) (hts (.initialized "java/lang/IllegalStateException") (List.mem_of_getElem? (i := 2) (by decide +kernel))) hsa_3 (hat_eIse (fun w h9 => hts w (List.mem_cons_of_mem _ (List.mem_append_left _ (List.mem_append_right _ h9)))) hN) hgd_eIse hT.2.1 hT.2.2 hS (by rw [hml]; exact hl.1) dX1_dropLamp_15 dX1_dropLamp_18 dX1_dropLamp_19 dX1_dropLamp_21 dX1_dropLamp_24 (fun x h9 => (hte x h9).elim) (Nat.le_of_ble_eq_true rfl) (Nat.le_of_ble_eq_true rfl) (Nat.le_of_ble_eq_true rfl) (Nat.le_of_ble_eq_true rfl) hlocks (fun t hA hz hk => ⟨(), trivial, (Or.inr (⟨rfl, (by unfold dropO; rw [hix1]; (try dsimp only); rw [if_neg (fun q => q c_1)]; first | done | rfl)⟩)), hz, fun q h9 _ => hk q h9⟩) (fun z h9 => Or.inr (hS.2.2 z h9)) (Nat.le_of_ble_eq_true rfl) (Nat.le_of_ble_eq_true rfl)
theorem in_X1_certify_X0 : ∀ w ∈ wsX00, w ∈ wsX1_certify := by decide +kernel
set_option maxHeartbeats 4000000 in
set_option maxRecDepth 100000 in
theorem x_X1_certify (l : Launch) (hlf : l.stackTraces = false) (D : va_G) (cs : Cs) (ρ : Rf) {B : Nat} {σ : PS} (hI : InvS B σ) (hap : AptA ρ (sK σ)) (H0 : Heap) (a : Int32) : vx_Met l yX1_certify wsX1_certify ({ frames := 7, cells := 2, slots := 12, locals := 103 }) (va_Pc [.ref (r_h ρ), .int a] (TBp D cs (fun X => X = H0 ∧ Soc D cs ρ σ X))) (va_Qi (fun (r : Int32) (u : PS) => certO σ a = (0, r, u)) (fun u t => Soc D cs ρ u t.heap) (ownA ρ (sK σ) H0)) (vx_X (fun _ : Unit => True) (fun E _ _ => xE2 E ((certO σ a).1)) (fun q => H0.size ≤ q)) 2 12 (ownA ρ (sK σ) H0) := by
  refine vx_ofW (cc := cX1_certify) (maxL := 3) (ret := (some .int)) (by decide) rfl ?_
  intro p e s m args below meth c s₁ B0 hml hte hv
  obtain ⟨rfl, ⟨⟨hH, hP⟩, hK, hN⟩, hT⟩ := hv
  subst hH
  have hx := B0.exec
  have hb := B0.bytes
  have hr := B0.returns
  have hts := atoms_spec (ws := wsX1_certify) B0.pre
  have hown : s.vm.findClass RX1 = some m.cls := findClass_of_methodNamed B0.named
  have hlocks := B0.notSynchronized
  have hJ := hap.1
  have hS : va_S (fun q => s.heap.size ≤ q) s.heap s.heap [] := va_S.rf
  have hl := lv_entry ([.ref (r_h ρ), .int a]) (n := 3) (Nat.le_of_ble_eq_true rfl)
  rw [lg_entry_eq]
  generalize (lg_sl ([.ref (r_h ρ), .int a]) ++ List.replicate (3 - (lg_sl ([.ref (r_h ρ), .int a])).length) Slot.unset).toArray = ls at hl ⊢
  have hl : lv_has ls 3 [(0, .ref (r_h ρ)), (1, .int a)] := hl
  refine lv_aload_n hx hb dX1_certify_0 rfl (lv_at hl 0 rfl) ?_
  refine lv_iload_n hx hb dX1_certify_1 rfl (lv_at hl 1 rfl) ?_
  refine vx_callq (vx_runV (As := [.int a]) (rest := []) ⟨hx, hb, hml, hown, hts⟩ (x_X1_memberNumbered l hlf D cs ρ hI hap s.heap a) (cwV 1 hts gX1_certify_X1_memberNumbered rfl rfl rfl (by decide +kernel) ⟨Nat.le_of_ble_eq_true rfl, Nat.le_of_ble_eq_true rfl⟩) (tb_V hK hN ⟨rfl, hP⟩ hT (Nat.le_refl _) (fun _ _ => rfl) (va_recv hK (one_P hP.1) (ci := 2) (q0 := 0) rfl rfl)) rfl rfl hl.1 rfl (lv_room (Nat.le_of_ble_eq_true rfl)) dX1_certify_2 ⟨Nat.le_of_ble_eq_true rfl, Nat.le_of_ble_eq_true rfl⟩) hS (fun q _ h => h) (fun q h => h) (fun q _ h => h) (fun E ce q9 u t H1 locs ht hvm hu hB hz1 hk1 hS hce hcv hcl => ?_) (fun r u t H1 locs ht hvm hw hB hz1 hk1 hS => ?_)
  · exact vx_out (fun x h9 => (hte x h9).elim) hlocks hce hcv hcl (fun t2 ht2 _ => ⟨(), trivial, (Or.inl ⟨hB.1, (by unfold certO; rw [hB.2]; first | done | rfl)⟩), by rw [ht2]; exact hz1, fun q h9 h8 => by rw [ht2]; exact hk1 q h9 h8⟩) (fun z h9 => Or.inr (hS.2.2 z h9)) (Nat.le_of_ble_eq_true rfl) (Nat.le_of_ble_eq_true rfl)
  · obtain ⟨i, hi, ha1, rfl⟩ := hw
    have hH1 : H1 = s.heap := ht.symm.trans hB
    subst hH1
    have hix1 : ixS σ a = some i := by rw [ha1]; exact ix_s hI hi
    refine lv_astore_n (lv' := [(2, .ref (r_a ρ i)), (0, .ref (r_h ρ)), (1, .int a)]) hx hb dX1_certify_5 rfl hl (by decide) rfl (fun ls hl => ?_)
    refine lv_aload_n hx hb dX1_certify_6 rfl (lv_at hl 0 rfl) ?_
    refine vp_callSi (va_Run.run (va_runVN (As := []) (rest := []) ⟨hx, hb, hml, hown, hts⟩ (c_X0_isOut l D cs ρ hI hap.1 i hi) ⟨va_cnB 0 hts gX1_certify_X0_isOut_n102 rfl rfl rfl (hN (.methodLinkNest "ShadowSociety" 102 ⟨"ShadowSociety$Member", "isOut", "()Z"⟩ "ShadowSociety") (by decide +kernel)) (hts (.initialized RX0) (List.mem_of_getElem? (i := 36) (by decide +kernel))) (by decide +kernel) ⟨Nat.le_of_ble_eq_true rfl, Nat.le_of_ble_eq_true rfl⟩, hts (.instanceMethod yX0_isOut) (List.mem_of_getElem? (i := 35) (by decide +kernel)), hts (.selects RX0 yX0_isOut yX0_isOut) (List.mem_of_getElem? (i := 37) (by decide +kernel))⟩ (rb_V hK hN hP.2.2 (va_recv hK (one_P (hP.2.2 i hi)) (ci := 1) (q0 := 0) rfl rfl)) rfl rfl hl.1 rfl (lv_room (Nat.le_of_ble_eq_true rfl)) dX1_certify_7 ⟨Nat.le_of_ble_eq_true rfl, Nat.le_of_ble_eq_true rfl⟩)) (fun r_1 hr_1 => ?_)
    rw [hr_1]
    refine lv_if_eq (tgt := 23) hx hb dX1_certify_10 (by decide) (fun c_2 => ?_) (fun c_2 => ?_)
    · refine lv_aload_n hx hb dX1_certify_23 rfl (lv_at hl 0 rfl) ?_
      refine lv_aload_n hx hb dX1_certify_24 rfl (lv_at hl 1 rfl) ?_
      refine vp_callSi (va_Run.run (va_runV (As := []) (rest := [.ref (r_a ρ i)]) ⟨hx, hb, hml, hown, hts⟩ (c_X1_hourOfDay l D cs ρ hI hap.1) (cwV 0 hts gX1_certify_X1_hourOfDay rfl rfl rfl (by decide +kernel) ⟨Nat.le_of_ble_eq_true rfl, Nat.le_of_ble_eq_true rfl⟩) (rb_V hK hN hP (va_recv hK (one_P hP.1) (ci := 2) (q0 := 0) rfl rfl)) rfl rfl hl.1 rfl (lv_room (Nat.le_of_ble_eq_true rfl)) dX1_certify_25 ⟨Nat.le_of_ble_eq_true rfl, Nat.le_of_ble_eq_true rfl⟩)) (fun r_3 hr_3 => ?_)
      rw [hr_3]
      have hS := vs_up (B := ownA ρ (sK σ) s.heap) hS (fun q h => Or.inr h)
      refine va_putN (D := D) (ci := 1) (v := .int (dayOf σ)) (ty := .int) (C := RX0) (T := TX0) (N := 9) hx hb hts in_X1_certify_X0 tyX0 tyX0_ok nmX0 hown hK (soc_P hP) (soc_D hap (fun q h => Or.inl h)) hS (2 + i) (socW_at hi) rfl 7 (by decide) (Nst.use hN (w := .fieldLinkNest "ShadowSociety" 110 "ShadowSociety$Member" "certifiedHour" "I" "ShadowSociety") (by decide +kernel)) (fun _ h9 => h9) rfl (by decide +kernel) rfl rfl (Nat.le_of_ble_eq_true rfl) dX1_certify_28 (fun H locs hP hD hS => ?_)
      have hP : Soc D cs ρ (setAt σ (upd (sAt σ) i (dayOf σ))) H := P_soc (by rw [s_At (cs := cs) (ρ := ρ) (σ := σ) hi] at hP; exact hP)
      have hI_4 : InvS B (setAt σ (upd (sAt σ) i (dayOf σ))) := hI
      refine lv_aload_n hx hb dX1_certify_31 rfl (lv_at hl 0 rfl) ?_
      refine lv_aload_n hx hb dX1_certify_32 rfl (lv_at hl 0 rfl) ?_
      refine lv_aload_n hx hb dX1_certify_33 rfl (lv_at hl 1 rfl) ?_
      refine vp_callSi (va_Run.run (va_runV (As := []) (rest := [.ref (r_a ρ i), .ref (r_a ρ i)]) ⟨hx, hb, hml, hown, hts⟩ (c_X1_hourOfDay l D cs ρ hI_4 hap.1) (cwV 0 hts gX1_certify_X1_hourOfDay rfl rfl rfl (by decide +kernel) ⟨Nat.le_of_ble_eq_true rfl, Nat.le_of_ble_eq_true rfl⟩) (rb_V hK hN hP (va_recv hK (one_P hP.1) (ci := 2) (q0 := 0) rfl rfl)) rfl rfl hl.1 rfl (lv_room (Nat.le_of_ble_eq_true rfl)) dX1_certify_34 ⟨Nat.le_of_ble_eq_true rfl, Nat.le_of_ble_eq_true rfl⟩)) (fun r_5 hr_5 => ?_)
      rw [hr_5]
      refine vp_callSi (va_Run.run (va_runVN (As := [.int (dayOf (setAt σ (upd (sAt σ) i (dayOf σ))))]) (rest := [.ref (r_a ρ i)]) ⟨hx, hb, hml, hown, hts⟩ (c_X0_shadowAt l D cs ρ hI_4 hap.1 i hi (dayOf (setAt σ (upd (sAt σ) i (dayOf σ))))) ⟨va_cnB 1 hts gX1_certify_X0_shadowAt_n113 rfl rfl rfl (hN (.methodLinkNest "ShadowSociety" 113 ⟨"ShadowSociety$Member", "shadowAt", "(I)I"⟩ "ShadowSociety") (by decide +kernel)) (hts (.initialized RX0) (List.mem_of_getElem? (i := 36) (by decide +kernel))) (by decide +kernel) ⟨Nat.le_of_ble_eq_true rfl, Nat.le_of_ble_eq_true rfl⟩, hts (.instanceMethod yX0_shadowAt) (List.mem_of_getElem? (i := 45) (by decide +kernel)), hts (.selects RX0 yX0_shadowAt yX0_shadowAt) (List.mem_of_getElem? (i := 46) (by decide +kernel))⟩ (rb_V hK hN hP.2.2 (va_recv hK (one_P (hP.2.2 i hi)) (ci := 1) (q0 := 0) rfl rfl)) rfl rfl hl.1 rfl (lv_room (Nat.le_of_ble_eq_true rfl)) dX1_certify_37 ⟨Nat.le_of_ble_eq_true rfl, Nat.le_of_ble_eq_true rfl⟩)) (fun r_6 hr_6 => ?_)
      rw [hr_6]
      refine va_putN (D := D) (ci := 1) (v := .int (shadS (setAt σ (upd (sAt σ) i (dayOf σ))) i (dayOf (setAt σ (upd (sAt σ) i (dayOf σ)))))) (ty := .int) (C := RX0) (T := TX0) (N := 9) hx hb hts in_X1_certify_X0 tyX0 tyX0_ok nmX0 hown hK (soc_P hP) (soc_D hap (fun q h => Or.inl h)) hS (2 + i) (socW_at hi) rfl 6 (by decide) (Nst.use hN (w := .fieldLinkNest "ShadowSociety" 117 "ShadowSociety$Member" "certifiedLength" "I" "ShadowSociety") (by decide +kernel)) (fun _ h9 => h9) rfl (by decide +kernel) rfl rfl (Nat.le_of_ble_eq_true rfl) dX1_certify_40 (fun H locs hP hD hS => ?_)
      have hP : Soc D cs ρ (setCe (setAt σ (upd (sAt σ) i (dayOf σ))) (upd (sCe (setAt σ (upd (sAt σ) i (dayOf σ)))) i (shadS (setAt σ (upd (sAt σ) i (dayOf σ))) i (dayOf (setAt σ (upd (sAt σ) i (dayOf σ))))))) H := P_soc (by rw [s_Ce (cs := cs) (ρ := ρ) (σ := setAt σ (upd (sAt σ) i (dayOf σ))) hi] at hP; exact hP)
      have hI_7 : InvS B (setCe (setAt σ (upd (sAt σ) i (dayOf σ))) (upd (sCe (setAt σ (upd (sAt σ) i (dayOf σ)))) i (shadS (setAt σ (upd (sAt σ) i (dayOf σ))) i (dayOf (setAt σ (upd (sAt σ) i (dayOf σ))))))) := hI_4
      refine lv_aload_n hx hb dX1_certify_43 rfl (lv_at hl 0 rfl) ?_
      refine va_getN (D := D) (ci := 1) (v := .int (shadS (setAt σ (upd (sAt σ) i (dayOf σ))) i (dayOf (setAt σ (upd (sAt σ) i (dayOf σ)))))) (C := RX0) (T := TX0) (N := 9) hx hb hts in_X1_certify_X0 hown hK (one_P (hP.2.2 i hi)) 0 rfl rfl 6 (by decide) (Nst.use hN (w := .fieldLinkNest "ShadowSociety" 117 "ShadowSociety$Member" "certifiedLength" "I" "ShadowSociety") (by decide +kernel)) (fun _ h9 => h9) (show some (Value.int (sCe (setCe (setAt σ (upd (sAt σ) i (dayOf σ))) (upd (sCe (setAt σ (upd (sAt σ) i (dayOf σ)))) i (shadS (setAt σ (upd (sAt σ) i (dayOf σ))) i (dayOf (setAt σ (upd (sAt σ) i (dayOf σ))))))) i)) = some (Value.int (shadS (setAt σ (upd (sAt σ) i (dayOf σ))) i (dayOf (setAt σ (upd (sAt σ) i (dayOf σ)))))) from by rw [show sCe (setCe (setAt σ (upd (sAt σ) i (dayOf σ))) (upd (sCe (setAt σ (upd (sAt σ) i (dayOf σ)))) i (shadS (setAt σ (upd (sAt σ) i (dayOf σ))) i (dayOf (setAt σ (upd (sAt σ) i (dayOf σ))))))) i = shadS (setAt σ (upd (sAt σ) i (dayOf σ))) i (dayOf (setAt σ (upd (sAt σ) i (dayOf σ)))) from pk_us]) dX1_certify_44 ?_
      refine vx_ret ?_
      refine W.widen (k := 2) (n := 12) (Nat.le_of_ble_eq_true rfl) (Nat.le_of_ble_eq_true rfl) ?_
      exact W.iret (v := shadS (setAt σ (upd (sAt σ) i (dayOf σ))) i (dayOf (setAt σ (upd (sAt σ) i (dayOf σ))))) hx hb hr (fun t ht hW => ⟨⟨_, (setCe (setAt σ (upd (sAt σ) i (dayOf σ))) (upd (sCe (setAt σ (upd (sAt σ) i (dayOf σ)))) i (shadS (setAt σ (upd (sAt σ) i (dayOf σ))) i (dayOf (setAt σ (upd (sAt σ) i (dayOf σ))))))), rfl, (by unfold certO; rw [hix1]; (try dsimp only); rw [if_neg (b01_0.mp c_2)]; first | done | rfl), by show Soc D cs ρ _ t.heap; rw [ht]; exact hP⟩, hS.F ht⟩) hS.2.2 dX1_certify_47
    · obtain ⟨sa_8, hsa_8⟩ := hT.1 (105, "this one is expelled") (by decide +kernel)
      exact vx_throwS (names := nms2) (A := fun q => s.heap.size ≤ q) hx hb hlf hown (by decide +kernel) (by decide +kernel) (hts (.classLink RX1 39 "java/lang/IllegalStateException") (List.mem_of_getElem? (i := 1) (by decide +kernel))) (hts (.initialized "java/lang/IllegalStateException") (List.mem_of_getElem? (i := 2) (by decide +kernel))) hsa_8 (hat_eIse (fun w h9 => hts w (List.mem_cons_of_mem _ (List.mem_append_left _ (List.mem_append_right _ h9)))) hN) hgd_eIse hT.2.1 hT.2.2 hS (by rw [hml]; exact hl.1) dX1_certify_13 dX1_certify_16 dX1_certify_17 dX1_certify_19 dX1_certify_22 (fun x h9 => (hte x h9).elim) (Nat.le_of_ble_eq_true rfl) (Nat.le_of_ble_eq_true rfl) (Nat.le_of_ble_eq_true rfl) (Nat.le_of_ble_eq_true rfl) hlocks (fun t hA hz hk => ⟨(), trivial, (Or.inr (⟨rfl, (by unfold certO; rw [hix1]; (try dsimp only); rw [if_pos (b01_n.mp c_2)]; first | done | rfl)⟩)), hz, fun q h9 _ => hk q h9⟩) (fun z h9 => Or.inr (hS.2.2 z h9)) (Nat.le_of_ble_eq_true rfl) (Nat.le_of_ble_eq_true rfl)
