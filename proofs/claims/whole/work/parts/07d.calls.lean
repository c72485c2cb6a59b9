/-! THE REFERENCE'S CALLS THAT ONLY READ (laid by wip/whole/gen/mpub.py) -/
theorem in_X2_no_X2 : ∀ w ∈ wsX20, w ∈ wsX2_no := by decide +kernel
set_option maxHeartbeats 4000000 in
set_option maxRecDepth 100000 in
theorem c_X2_no (l : Launch) (D : va_G) (cs : Cs) (M : Nat × (Nat → Nat)) (th : Int32) {σ : PS} (hap : AptM M) (H0 : Heap) (x : Int32) : Met l yX2_no wsX2_no ({ frames := 0, cells := 0, slots := 0, locals := 0 }) (va_Pc [.ref M.1, .int x] (RBp D cs (fun X => X = H0 ∧ va_P D vwCl (modW cs M th σ) X))) (va_Qi (fun (r : Int32) (_ : Unit) => r = 0) (fun _ t => va_P D vwCl (modW cs M x σ) t.heap) (mdA M H0)) 0 0 (mdA M H0) := by
  refine Met.ofW (cc := cX2_no) (maxL := 2) (ret := (some .int)) (by decide) rfl ?_
  intro p e s m args below meth c s₁ B0 hml hv
  obtain ⟨rfl, ⟨hH, hP⟩, hK, hN⟩ := hv
  subst hH
  have hx := B0.exec
  have hb := B0.bytes
  have hr := B0.returns
  have hts := atoms_spec (ws := wsX2_no) B0.pre
  have hown : s.vm.findClass RX2 = some m.cls := findClass_of_methodNamed B0.named
  have hlocks := B0.notSynchronized
  have hS : va_S (mdA M s.heap) s.heap s.heap [] := va_S.rf
  have hl := lv_entry ([.ref M.1, .int x]) (n := 2) (Nat.le_of_ble_eq_true rfl)
  rw [lg_entry_eq]
  generalize (lg_sl ([.ref M.1, .int x]) ++ List.replicate (2 - (lg_sl ([.ref M.1, .int x])).length) Slot.unset).toArray = ls at hl ⊢
  have hl : lv_has ls 2 [(0, .ref M.1), (1, .int x)] := hl
  refine lv_aload_n hx hb dX2_no_0 rfl (lv_at hl 0 rfl) ?_
  refine lv_iload_n hx hb dX2_no_1 rfl (lv_at hl 1 rfl) ?_
  refine va_put (D := D) (ci := 3) (v := .int x) (ty := .int) (C := RX2) (T := TX2) (N := 13) hx hb hts in_X2_no_X2 tyX2 tyX2_ok nmX2 hown hK hP (mod_D hap (fun q h => Or.inl h)) hS 0 rfl rfl 0 (by decide) (hts (.fieldLink RX2 34 "ShadowSocietyModel" "thrown" "I") (List.mem_of_getElem? (i := 1) (by decide +kernel))) (fun _ h9 => h9) rfl (by decide +kernel) rfl rfl (Nat.le_of_ble_eq_true rfl) dX2_no_2 (fun H locs hP hD hS => ?_)
  have hP : va_P D vwCl (modW cs M x (σ)) H := hP
  refine lv_iconst (v := 0) hx hb dX2_no_5 (by decide) ?_
  exact W.iret (v := 0) hx hb hr (fun t ht hW => ⟨⟨_, (), rfl, rfl, by show va_P D vwCl (modW cs M x σ) t.heap; rw [ht]; exact hP⟩, hS.F ht⟩) hS.2.2 dX2_no_6
theorem in_X2_isNot_X2 : ∀ w ∈ wsX20, w ∈ wsX2_isNot := by decide +kernel
set_option maxHeartbeats 4000000 in
set_option maxRecDepth 100000 in
theorem c_X2_isNot (l : Launch) (D : va_G) (cs : Cs) (M : Nat × (Nat → Nat)) (th : Int32) {σ : PS} (hap : AptM M) (H0 : Heap) (x : Int32) : Met l yX2_isNot wsX2_isNot ({ frames := 0, cells := 0, slots := 0, locals := 0 }) (va_Pc [.ref M.1, .int x] (RBp D cs (fun X => X = H0 ∧ va_P D vwCl (modW cs M th σ) X))) (va_Qi (fun (r : Int32) (_ : Unit) => r = 0) (fun _ t => va_P D vwCl (modW cs M x σ) t.heap) (mdA M H0)) 0 0 (mdA M H0) := by
  refine Met.ofW (cc := cX2_isNot) (maxL := 2) (ret := (some .boolean)) (by decide) rfl ?_
  intro p e s m args below meth c s₁ B0 hml hv
  obtain ⟨rfl, ⟨hH, hP⟩, hK, hN⟩ := hv
  subst hH
  have hx := B0.exec
  have hb := B0.bytes
  have hr := B0.returns
  have hts := atoms_spec (ws := wsX2_isNot) B0.pre
  have hown : s.vm.findClass RX2 = some m.cls := findClass_of_methodNamed B0.named
  have hlocks := B0.notSynchronized
  have hS : va_S (mdA M s.heap) s.heap s.heap [] := va_S.rf
  have hl := lv_entry ([.ref M.1, .int x]) (n := 2) (Nat.le_of_ble_eq_true rfl)
  rw [lg_entry_eq]
  generalize (lg_sl ([.ref M.1, .int x]) ++ List.replicate (2 - (lg_sl ([.ref M.1, .int x])).length) Slot.unset).toArray = ls at hl ⊢
  have hl : lv_has ls 2 [(0, .ref M.1), (1, .int x)] := hl
  refine lv_aload_n hx hb dX2_isNot_0 rfl (lv_at hl 0 rfl) ?_
  refine lv_iload_n hx hb dX2_isNot_1 rfl (lv_at hl 1 rfl) ?_
  refine va_put (D := D) (ci := 3) (v := .int x) (ty := .int) (C := RX2) (T := TX2) (N := 13) hx hb hts in_X2_isNot_X2 tyX2 tyX2_ok nmX2 hown hK hP (mod_D hap (fun q h => Or.inl h)) hS 0 rfl rfl 0 (by decide) (hts (.fieldLink RX2 34 "ShadowSocietyModel" "thrown" "I") (List.mem_of_getElem? (i := 1) (by decide +kernel))) (fun _ h9 => h9) rfl (by decide +kernel) rfl rfl (Nat.le_of_ble_eq_true rfl) dX2_isNot_2 (fun H locs hP hD hS => ?_)
  have hP : va_P D vwCl (modW cs M x (σ)) H := hP
  refine lv_iconst (v := 0) hx hb dX2_isNot_5 (by decide) ?_
  exact W.zret (ty := .boolean) (v := 0) hx hb hr rfl (fun t ht hW => ⟨⟨_, (), rfl, rfl, by show va_P D vwCl (modW cs M x σ) t.heap; rw [ht]; exact hP⟩, hS.F ht⟩) hS.2.2 dX2_isNot_6
theorem in_X2_ok_X2 : ∀ w ∈ wsX20, w ∈ wsX2_ok := by decide +kernel
set_option maxHeartbeats 4000000 in
set_option maxRecDepth 100000 in
theorem c_X2_ok (l : Launch) (D : va_G) (cs : Cs) (M : Nat × (Nat → Nat)) (th : Int32) {σ : PS} (hap : AptM M) (H0 : Heap) (x : Int32) : Met l yX2_ok wsX2_ok ({ frames := 0, cells := 0, slots := 0, locals := 0 }) (va_Pc [.ref M.1, .int x] (RBp D cs (fun X => X = H0 ∧ va_P D vwCl (modW cs M th σ) X))) (va_Qi (fun (r : Int32) (_ : Unit) => r = x) (fun _ t => va_P D vwCl (modW cs M 0 σ) t.heap) (mdA M H0)) 0 0 (mdA M H0) := by
  refine Met.ofW (cc := cX2_ok) (maxL := 2) (ret := (some .int)) (by decide) rfl ?_
  intro p e s m args below meth c s₁ B0 hml hv
  obtain ⟨rfl, ⟨hH, hP⟩, hK, hN⟩ := hv
  subst hH
  have hx := B0.exec
  have hb := B0.bytes
  have hr := B0.returns
  have hts := atoms_spec (ws := wsX2_ok) B0.pre
  have hown : s.vm.findClass RX2 = some m.cls := findClass_of_methodNamed B0.named
  have hlocks := B0.notSynchronized
  have hS : va_S (mdA M s.heap) s.heap s.heap [] := va_S.rf
  have hl := lv_entry ([.ref M.1, .int x]) (n := 2) (Nat.le_of_ble_eq_true rfl)
  rw [lg_entry_eq]
  generalize (lg_sl ([.ref M.1, .int x]) ++ List.replicate (2 - (lg_sl ([.ref M.1, .int x])).length) Slot.unset).toArray = ls at hl ⊢
  have hl : lv_has ls 2 [(0, .ref M.1), (1, .int x)] := hl
  refine lv_aload_n hx hb dX2_ok_0 rfl (lv_at hl 0 rfl) ?_
  refine lv_iconst (v := 0) hx hb dX2_ok_1 (by decide) ?_
  refine va_put (D := D) (ci := 3) (v := .int 0) (ty := .int) (C := RX2) (T := TX2) (N := 13) hx hb hts in_X2_ok_X2 tyX2 tyX2_ok nmX2 hown hK hP (mod_D hap (fun q h => Or.inl h)) hS 0 rfl rfl 0 (by decide) (hts (.fieldLink RX2 34 "ShadowSocietyModel" "thrown" "I") (List.mem_of_getElem? (i := 1) (by decide +kernel))) (fun _ h9 => h9) rfl (by decide +kernel) rfl rfl (Nat.le_of_ble_eq_true rfl) dX2_ok_2 (fun H locs hP hD hS => ?_)
  have hP : va_P D vwCl (modW cs M 0 (σ)) H := hP
  refine lv_iload_n hx hb dX2_ok_5 rfl (lv_at hl 1 rfl) ?_
  exact W.iret (v := x) hx hb hr (fun t ht hW => ⟨⟨_, (), rfl, rfl, by show va_P D vwCl (modW cs M 0 σ) t.heap; rw [ht]; exact hP⟩, hS.F ht⟩) hS.2.2 dX2_ok_6
theorem in_X2_isOut_X2 : ∀ w ∈ wsX20, w ∈ wsX2_isOut := by decide +kernel
set_option maxHeartbeats 4000000 in
set_option maxRecDepth 100000 in
/-- is expelled -/
theorem c_X2_isOut (l : Launch) (D : va_G) (cs : Cs) (M : Nat × (Nat → Nat)) (th : Int32) {B : Nat} {σ : PS} (hI : InvS B σ) (i : Nat) (hi : i < sK σ) : Met l yX2_isOut wsX2_isOut ({ frames := 0, cells := 0, slots := 0, locals := 0 }) (va_Pc [.ref M.1, .int (nI i)] (RBp D cs (va_P D vwCl (modW cs M th σ)))) (vp_Si (fun r : Int32 => r = b01 (outS σ i))) 0 0 (fun _ => False) := by
  refine Met.ofW (cc := cX2_isOut) (maxL := 2) (ret := (some .boolean)) (by decide) rfl ?_
  intro p e s m args below meth c s₁ B0 hml hv
  obtain ⟨rfl, hP, hK, hN⟩ := hv
  have hx := B0.exec
  have hb := B0.bytes
  have hr := B0.returns
  have hts := atoms_spec (ws := wsX2_isOut) B0.pre
  have hown : s.vm.findClass RX2 = some m.cls := findClass_of_methodNamed B0.named
  have hlocks := B0.notSynchronized
  have hl := lv_entry ([.ref M.1, .int (nI i)]) (n := 2) (Nat.le_of_ble_eq_true rfl)
  rw [lg_entry_eq]
  generalize (lg_sl ([.ref M.1, .int (nI i)]) ++ List.replicate (2 - (lg_sl ([.ref M.1, .int (nI i)])).length) Slot.unset).toArray = ls at hl ⊢
  have hl : lv_has ls 2 [(0, .ref M.1), (1, .int (nI i))] := hl
  refine lv_aload_n hx hb dX2_isOut_0 rfl (lv_at hl 0 rfl) ?_
  refine va_get (D := D) (ci := 3) (v := .ref (M.2 7)) (C := RX2) (T := TX2) (N := 13) hx hb hts in_X2_isOut_X2 hown hK hP 0 rfl rfl 12 (by decide) (hts (.fieldLink RX2 31 "ShadowSocietyModel" "lost" "[I") (List.mem_of_getElem? (i := 1) (by decide +kernel))) (fun _ h9 => h9) rfl dX2_isOut_1 ?_
  refine lv_iload_n hx hb dX2_isOut_4 rfl (lv_at hl 1 rfl) ?_
  refine va_iald hx hb hK hP 8 0 rfl rfl (vp_in_nI (by have := hI.1; omega) (by decide)) dX2_isOut_5 ?_
  rw [show (nI i).toNatClampNeg = i from nI_clamp (by have := hI.1; omega)]
  refine lv_iconst (v := 2) hx hb dX2_isOut_6 (by decide) ?_
  refine lv_icmp_le (tgt := 14) hx hb dX2_isOut_7 (by decide) (fun c_1 => ?_) (fun c_1 => ?_)
  · refine lv_iconst (v := 0) hx hb dX2_isOut_14 (by decide) ?_
    exact W.zret (ty := .boolean) (v := 0) hx hb hr rfl (fun t ht hW => ⟨_, rfl, (b01_f (fun q => (ge_3 _).mpr q c_1)).symm, ht⟩) (fun q hq => absurd hq List.not_mem_nil) dX2_isOut_15
  · refine lv_iconst (v := 1) hx hb dX2_isOut_10 (by decide) ?_
    refine lv_goto (tgt := 15) hx hb dX2_isOut_11 (by decide) ?_
    exact W.zret (ty := .boolean) (v := 1) hx hb hr rfl (fun t ht hW => ⟨_, rfl, (b01_t ((ge_3 _).mp c_1)).symm, ht⟩) (fun q hq => absurd hq List.not_mem_nil) dX2_isOut_15
theorem in_X2_of_X2 : ∀ w ∈ wsX20, w ∈ wsX2_of := by decide +kernel
set_option maxHeartbeats 4000000 in
set_option maxRecDepth 100000 in
/-- what is written of a member -/
theorem c_X2_of (l : Launch) (D : va_G) (cs : Cs) (M : Nat × (Nat → Nat)) (th : Int32) {B : Nat} {σ : PS} (hI : InvS B σ) (hap : AptM M) (H0 : Heap) (a : Int32) (j : Nat) (f : Nat → Int32) (hj : ∀ th, (modW cs M th σ)[j + 1]? = some (M.2 j, .inl (cs.1, 10, .inl f))) : Met l yX2_of wsX2_of ({ frames := 2, cells := 0, slots := 0, locals := 43 }) (va_Pc [.ref M.1, .int a, .ref (M.2 j)] (RBp D cs (fun X => X = H0 ∧ va_P D vwCl (modW cs M th σ) X))) (va_Qi (fun (r : Int32) (u : Nat × PS) => mO r u (rdO σ a f) (σ)) (fun u t => va_P D vwCl (modW cs M (nI u.1) u.2) t.heap) (mdA M H0)) 0 0 (mdA M H0) := by
  refine Met.ofW (cc := cX2_of) (maxL := 3) (ret := (some .int)) (by decide) rfl ?_
  intro p e s m args below meth c s₁ B0 hml hv
  obtain ⟨rfl, ⟨hH, hP⟩, hK, hN⟩ := hv
  subst hH
  have hx := B0.exec
  have hb := B0.bytes
  have hr := B0.returns
  have hts := atoms_spec (ws := wsX2_of) B0.pre
  have hown : s.vm.findClass RX2 = some m.cls := findClass_of_methodNamed B0.named
  have hlocks := B0.notSynchronized
  have hS : va_S (mdA M s.heap) s.heap s.heap [] := va_S.rf
  have hl := lv_entry ([.ref M.1, .int a, .ref (M.2 j)]) (n := 3) (Nat.le_of_ble_eq_true rfl)
  rw [lg_entry_eq]
  generalize (lg_sl ([.ref M.1, .int a, .ref (M.2 j)]) ++ List.replicate (3 - (lg_sl ([.ref M.1, .int a, .ref (M.2 j)])).length) Slot.unset).toArray = ls at hl ⊢
  have hl : lv_has ls 3 [(0, .ref M.1), (1, .int a), (2, .ref (M.2 j))] := hl
  refine lv_aload_n hx hb dX2_of_0 rfl (lv_at hl 0 rfl) ?_
  refine lv_iconst (v := 0) hx hb dX2_of_1 (by decide) ?_
  refine va_put (D := D) (ci := 3) (v := .int 0) (ty := .int) (C := RX2) (T := TX2) (N := 13) hx hb hts in_X2_of_X2 tyX2 tyX2_ok nmX2 hown hK hP (mod_D hap (fun q h => Or.inl h)) hS 0 rfl rfl 0 (by decide) (hts (.fieldLink RX2 34 "ShadowSocietyModel" "thrown" "I") (List.mem_of_getElem? (i := 1) (by decide +kernel))) (fun _ h9 => h9) rfl (by decide +kernel) rfl rfl (Nat.le_of_ble_eq_true rfl) dX2_of_2 (fun H locs hP hD hS => ?_)
  have hP : va_P D vwCl (modW cs M 0 (σ)) H := hP
  refine lv_aload_n hx hb dX2_of_5 rfl (lv_at hl 0 rfl) ?_
  refine lv_iload_n hx hb dX2_of_6 rfl (lv_at hl 1 rfl) ?_
  refine vp_callSi (va_Run.run (va_runV (As := [.int a]) (rest := []) ⟨hx, hb, hml, hown, hts⟩ (c_X2_isMember l D cs M 0 hI a) (cwV 1 hts gX2_of_X2_isMember rfl rfl rfl (by decide +kernel) ⟨Nat.le_of_ble_eq_true rfl, Nat.le_of_ble_eq_true rfl⟩) (rb_V hK hN hP (va_recv hK hP (ci := 3) (q0 := 0) rfl rfl)) rfl rfl hl.1 rfl (lv_room (Nat.le_of_ble_eq_true rfl)) dX2_of_7 ⟨Nat.le_of_ble_eq_true rfl, Nat.le_of_ble_eq_true rfl⟩)) (fun r_1 hr_1 => ?_)
  rw [hr_1]
  refine lv_if_eq (tgt := 19) hx hb dX2_of_10 (by decide) (fun c_2 => ?_) (fun c_2 => ?_)
  · have hix1 := none_ix c_2
    refine lv_aload_n hx hb dX2_of_19 rfl (lv_at hl 0 rfl) ?_
    refine lv_iconst (v := 1) hx hb dX2_of_20 (by decide) ?_
    refine va_calli (va_runV (As := [.int 1]) (rest := []) ⟨hx, hb, hml, hown, hts⟩ (c_X2_no l D cs M 0 (σ := σ) hap H 1) (cwV 1 hts gX2_of_X2_no rfl rfl rfl (by decide +kernel) ⟨Nat.le_of_ble_eq_true rfl, Nat.le_of_ble_eq_true rfl⟩) (rb_V hK hN ⟨rfl, hP⟩ (va_recv hK hP (ci := 3) (q0 := 0) rfl rfl)) rfl rfl hl.1 rfl (lv_room (Nat.le_of_ble_eq_true rfl)) dX2_of_21 ⟨Nat.le_of_ble_eq_true rfl, Nat.le_of_ble_eq_true rfl⟩) hS (fun q _ h => md_A hS q h) (fun q h => md_A hS q h) (fun r_3 u t H locs ht hvm hr_3 hB hz1 hk1 hS => ?_)
    rw [ht] at hB
    rw [hr_3]
    have hP : va_P D vwCl (modW cs M 1 σ) H := hB
    exact W.iret (v := 0) hx hb hr (fun t ht hW => ⟨⟨_, (1, σ), rfl, mo_n (rd_n (f) hix1), by show va_P D vwCl (modW cs M (nI 1) (σ)) t.heap; rw [ht]; exact hP⟩, hS.F ht⟩) hS.2.2 dX2_of_24
  · obtain ⟨i, hi, rfl, hix1⟩ := some_ix hI c_2
    refine lv_aload_n hx hb dX2_of_13 rfl (lv_at hl 2 rfl) ?_
    refine lv_iload_n hx hb dX2_of_14 rfl (lv_at hl 1 rfl) ?_
    refine va_iald hx hb hK hP (j + 1) 0 (hj _) rfl (vp_in_nI (by have := hI.1; omega) (by decide)) dX2_of_15 ?_
    rw [show (nI i).toNatClampNeg = i from nI_clamp (by have := hI.1; omega)]
    refine lv_goto (tgt := 24) hx hb dX2_of_16 (by decide) ?_
    exact W.iret (v := f i) hx hb hr (fun t ht hW => ⟨⟨_, (0, σ), rfl, mo_0 (rd_s (f) hix1), by show va_P D vwCl (modW cs M (nI 0) (σ)) t.heap; rw [ht]; exact hP⟩, hS.F ht⟩) hS.2.2 dX2_of_24
theorem in_X2_lampOf_X2 : ∀ w ∈ wsX20, w ∈ wsX2_lampOf := by decide +kernel
set_option maxHeartbeats 4000000 in
set_option maxRecDepth 100000 in
theorem c_X2_lampOf (l : Launch) (D : va_G) (cs : Cs) (M : Nat × (Nat → Nat)) (th : Int32) {B : Nat} {σ : PS} (hI : InvS B σ) (hap : AptM M) (H0 : Heap) (a : Int32) : Met l yX2_lampOf wsX2_lampOf ({ frames := 3, cells := 0, slots := 0, locals := 65 }) (va_Pc [.ref M.1, .int a] (RBp D cs (fun X => X = H0 ∧ va_P D vwCl (modW cs M th σ) X))) (va_Qi (fun (r : Int32) (u : Nat × PS) => mO r u (rdO σ a (sLa σ)) (σ)) (fun u t => va_P D vwCl (modW cs M (nI u.1) u.2) t.heap) (mdA M H0)) 0 0 (mdA M H0) := by
  refine Met.ofW (cc := cX2_lampOf) (maxL := 2) (ret := (some .int)) (by decide) rfl ?_
  intro p e s m args below meth c s₁ B0 hml hv
  obtain ⟨rfl, ⟨hH, hP⟩, hK, hN⟩ := hv
  subst hH
  have hx := B0.exec
  have hb := B0.bytes
  have hr := B0.returns
  have hts := atoms_spec (ws := wsX2_lampOf) B0.pre
  have hown : s.vm.findClass RX2 = some m.cls := findClass_of_methodNamed B0.named
  have hlocks := B0.notSynchronized
  have hS : va_S (mdA M s.heap) s.heap s.heap [] := va_S.rf
  have hl := lv_entry ([.ref M.1, .int a]) (n := 2) (Nat.le_of_ble_eq_true rfl)
  rw [lg_entry_eq]
  generalize (lg_sl ([.ref M.1, .int a]) ++ List.replicate (2 - (lg_sl ([.ref M.1, .int a])).length) Slot.unset).toArray = ls at hl ⊢
  have hl : lv_has ls 2 [(0, .ref M.1), (1, .int a)] := hl
  refine lv_aload_n hx hb dX2_lampOf_0 rfl (lv_at hl 0 rfl) ?_
  refine lv_iload_n hx hb dX2_lampOf_1 rfl (lv_at hl 1 rfl) ?_
  refine lv_aload_n hx hb dX2_lampOf_2 rfl (lv_at hl 0 rfl) ?_
  refine va_get (D := D) (ci := 3) (v := .ref (M.2 3)) (C := RX2) (T := TX2) (N := 13) hx hb hts in_X2_lampOf_X2 hown hK hP 0 rfl rfl 8 (by decide) (hts (.fieldLink RX2 19 "ShadowSocietyModel" "lamp" "[I") (List.mem_of_getElem? (i := 1) (by decide +kernel))) (fun _ h9 => h9) rfl dX2_lampOf_3 ?_
  refine va_calli (va_runV (As := [.int a, .ref (M.2 3)]) (rest := []) ⟨hx, hb, hml, hown, hts⟩ (c_X2_of l D cs M th hI hap s.heap a 3 (sLa σ) (fun _ => rfl)) (cwV 2 hts gX2_lampOf_X2_of rfl rfl rfl (by decide +kernel) ⟨Nat.le_of_ble_eq_true rfl, Nat.le_of_ble_eq_true rfl⟩) (rb_V hK hN ⟨rfl, hP⟩ (va_recv hK hP (ci := 3) (q0 := 0) rfl rfl)) rfl rfl hl.1 rfl (lv_room (Nat.le_of_ble_eq_true rfl)) dX2_lampOf_6 ⟨Nat.le_of_ble_eq_true rfl, Nat.le_of_ble_eq_true rfl⟩) hS (fun q _ h => md_A hS q h) (fun q h => md_A hS q h) (fun r u t H locs ht hvm hp hB hz1 hk1 hS => ?_)
  rw [ht] at hB
  exact W.iret (v := r) hx hb hr (fun t ht hW => ⟨⟨_, u, rfl, hp, by show va_P D vwCl (modW cs M (nI u.1) u.2) t.heap; rw [ht]; exact hB⟩, hS.F ht⟩) hS.2.2 dX2_lampOf_9
theorem in_X2_purseOf_X2 : ∀ w ∈ wsX20, w ∈ wsX2_purseOf := by decide +kernel
set_option maxHeartbeats 4000000 in
set_option maxRecDepth 100000 in
theorem c_X2_purseOf (l : Launch) (D : va_G) (cs : Cs) (M : Nat × (Nat → Nat)) (th : Int32) {B : Nat} {σ : PS} (hI : InvS B σ) (hap : AptM M) (H0 : Heap) (a : Int32) : Met l yX2_purseOf wsX2_purseOf ({ frames := 3, cells := 0, slots := 0, locals := 65 }) (va_Pc [.ref M.1, .int a] (RBp D cs (fun X => X = H0 ∧ va_P D vwCl (modW cs M th σ) X))) (va_Qi (fun (r : Int32) (u : Nat × PS) => mO r u (rdO σ a (sPu σ)) (σ)) (fun u t => va_P D vwCl (modW cs M (nI u.1) u.2) t.heap) (mdA M H0)) 0 0 (mdA M H0) := by
  refine Met.ofW (cc := cX2_purseOf) (maxL := 2) (ret := (some .int)) (by decide) rfl ?_
  intro p e s m args below meth c s₁ B0 hml hv
  obtain ⟨rfl, ⟨hH, hP⟩, hK, hN⟩ := hv
  subst hH
  have hx := B0.exec
  have hb := B0.bytes
  have hr := B0.returns
  have hts := atoms_spec (ws := wsX2_purseOf) B0.pre
  have hown : s.vm.findClass RX2 = some m.cls := findClass_of_methodNamed B0.named
  have hlocks := B0.notSynchronized
  have hS : va_S (mdA M s.heap) s.heap s.heap [] := va_S.rf
  have hl := lv_entry ([.ref M.1, .int a]) (n := 2) (Nat.le_of_ble_eq_true rfl)
  rw [lg_entry_eq]
  generalize (lg_sl ([.ref M.1, .int a]) ++ List.replicate (2 - (lg_sl ([.ref M.1, .int a])).length) Slot.unset).toArray = ls at hl ⊢
  have hl : lv_has ls 2 [(0, .ref M.1), (1, .int a)] := hl
  refine lv_aload_n hx hb dX2_purseOf_0 rfl (lv_at hl 0 rfl) ?_
  refine lv_iload_n hx hb dX2_purseOf_1 rfl (lv_at hl 1 rfl) ?_
  refine lv_aload_n hx hb dX2_purseOf_2 rfl (lv_at hl 0 rfl) ?_
  refine va_get (D := D) (ci := 3) (v := .ref (M.2 2)) (C := RX2) (T := TX2) (N := 13) hx hb hts in_X2_purseOf_X2 hown hK hP 0 rfl rfl 7 (by decide) (hts (.fieldLink RX2 16 "ShadowSocietyModel" "purse" "[I") (List.mem_of_getElem? (i := 1) (by decide +kernel))) (fun _ h9 => h9) rfl dX2_purseOf_3 ?_
  refine va_calli (va_runV (As := [.int a, .ref (M.2 2)]) (rest := []) ⟨hx, hb, hml, hown, hts⟩ (c_X2_of l D cs M th hI hap s.heap a 2 (sPu σ) (fun _ => rfl)) (cwV 2 hts gX2_purseOf_X2_of rfl rfl rfl (by decide +kernel) ⟨Nat.le_of_ble_eq_true rfl, Nat.le_of_ble_eq_true rfl⟩) (rb_V hK hN ⟨rfl, hP⟩ (va_recv hK hP (ci := 3) (q0 := 0) rfl rfl)) rfl rfl hl.1 rfl (lv_room (Nat.le_of_ble_eq_true rfl)) dX2_purseOf_6 ⟨Nat.le_of_ble_eq_true rfl, Nat.le_of_ble_eq_true rfl⟩) hS (fun q _ h => md_A hS q h) (fun q h => md_A hS q h) (fun r u t H locs ht hvm hp hB hz1 hk1 hS => ?_)
  rw [ht] at hB
  exact W.iret (v := r) hx hb hr (fun t ht hW => ⟨⟨_, u, rfl, hp, by show va_P D vwCl (modW cs M (nI u.1) u.2) t.heap; rw [ht]; exact hB⟩, hS.F ht⟩) hS.2.2 dX2_purseOf_9
theorem in_X2_wears_X2 : ∀ w ∈ wsX20, w ∈ wsX2_wears := by decide +kernel
set_option maxHeartbeats 4000000 in
set_option maxRecDepth 100000 in
theorem c_X2_wears (l : Launch) (D : va_G) (cs : Cs) (M : Nat × (Nat → Nat)) (th : Int32) {B : Nat} {σ : PS} (hI : InvS B σ) (hap : AptM M) (H0 : Heap) (a : Int32) : Met l yX2_wears wsX2_wears ({ frames := 3, cells := 0, slots := 0, locals := 65 }) (va_Pc [.ref M.1, .int a] (RBp D cs (fun X => X = H0 ∧ va_P D vwCl (modW cs M th σ) X))) (va_Qi (fun (r : Int32) (u : Nat × PS) => mO r u (rdO σ a (sWe σ)) (σ)) (fun u t => va_P D vwCl (modW cs M (nI u.1) u.2) t.heap) (mdA M H0)) 0 0 (mdA M H0) := by
  refine Met.ofW (cc := cX2_wears) (maxL := 2) (ret := (some .int)) (by decide) rfl ?_
  intro p e s m args below meth c s₁ B0 hml hv
  obtain ⟨rfl, ⟨hH, hP⟩, hK, hN⟩ := hv
  subst hH
  have hx := B0.exec
  have hb := B0.bytes
  have hr := B0.returns
  have hts := atoms_spec (ws := wsX2_wears) B0.pre
  have hown : s.vm.findClass RX2 = some m.cls := findClass_of_methodNamed B0.named
  have hlocks := B0.notSynchronized
  have hS : va_S (mdA M s.heap) s.heap s.heap [] := va_S.rf
  have hl := lv_entry ([.ref M.1, .int a]) (n := 2) (Nat.le_of_ble_eq_true rfl)
  rw [lg_entry_eq]
  generalize (lg_sl ([.ref M.1, .int a]) ++ List.replicate (2 - (lg_sl ([.ref M.1, .int a])).length) Slot.unset).toArray = ls at hl ⊢
  have hl : lv_has ls 2 [(0, .ref M.1), (1, .int a)] := hl
  refine lv_aload_n hx hb dX2_wears_0 rfl (lv_at hl 0 rfl) ?_
  refine lv_iload_n hx hb dX2_wears_1 rfl (lv_at hl 1 rfl) ?_
  refine lv_aload_n hx hb dX2_wears_2 rfl (lv_at hl 0 rfl) ?_
  refine va_get (D := D) (ci := 3) (v := .ref (M.2 4)) (C := RX2) (T := TX2) (N := 13) hx hb hts in_X2_wears_X2 hown hK hP 0 rfl rfl 9 (by decide) (hts (.fieldLink RX2 22 "ShadowSocietyModel" "wears" "[I") (List.mem_of_getElem? (i := 1) (by decide +kernel))) (fun _ h9 => h9) rfl dX2_wears_3 ?_
  refine va_calli (va_runV (As := [.int a, .ref (M.2 4)]) (rest := []) ⟨hx, hb, hml, hown, hts⟩ (c_X2_of l D cs M th hI hap s.heap a 4 (sWe σ) (fun _ => rfl)) (cwV 2 hts gX2_wears_X2_of rfl rfl rfl (by decide +kernel) ⟨Nat.le_of_ble_eq_true rfl, Nat.le_of_ble_eq_true rfl⟩) (rb_V hK hN ⟨rfl, hP⟩ (va_recv hK hP (ci := 3) (q0 := 0) rfl rfl)) rfl rfl hl.1 rfl (lv_room (Nat.le_of_ble_eq_true rfl)) dX2_wears_6 ⟨Nat.le_of_ble_eq_true rfl, Nat.le_of_ble_eq_true rfl⟩) hS (fun q _ h => md_A hS q h) (fun q h => md_A hS q h) (fun r u t H locs ht hvm hp hB hz1 hk1 hS => ?_)
  rw [ht] at hB
  exact W.iret (v := r) hx hb hr (fun t ht hW => ⟨⟨_, u, rfl, hp, by show va_P D vwCl (modW cs M (nI u.1) u.2) t.heap; rw [ht]; exact hB⟩, hS.F ht⟩) hS.2.2 dX2_wears_9
theorem in_X2_certified_X2 : ∀ w ∈ wsX20, w ∈ wsX2_certified := by decide +kernel
set_option maxHeartbeats 4000000 in
set_option maxRecDepth 100000 in
theorem c_X2_certified (l : Launch) (D : va_G) (cs : Cs) (M : Nat × (Nat → Nat)) (th : Int32) {B : Nat} {σ : PS} (hI : InvS B σ) (hap : AptM M) (H0 : Heap) (a : Int32) : Met l yX2_certified wsX2_certified ({ frames := 3, cells := 0, slots := 0, locals := 65 }) (va_Pc [.ref M.1, .int a] (RBp D cs (fun X => X = H0 ∧ va_P D vwCl (modW cs M th σ) X))) (va_Qi (fun (r : Int32) (u : Nat × PS) => mO r u (rdO σ a (sCe σ)) (σ)) (fun u t => va_P D vwCl (modW cs M (nI u.1) u.2) t.heap) (mdA M H0)) 0 0 (mdA M H0) := by
  refine Met.ofW (cc := cX2_certified) (maxL := 2) (ret := (some .int)) (by decide) rfl ?_
  intro p e s m args below meth c s₁ B0 hml hv
  obtain ⟨rfl, ⟨hH, hP⟩, hK, hN⟩ := hv
  subst hH
  have hx := B0.exec
  have hb := B0.bytes
  have hr := B0.returns
  have hts := atoms_spec (ws := wsX2_certified) B0.pre
  have hown : s.vm.findClass RX2 = some m.cls := findClass_of_methodNamed B0.named
  have hlocks := B0.notSynchronized
  have hS : va_S (mdA M s.heap) s.heap s.heap [] := va_S.rf
  have hl := lv_entry ([.ref M.1, .int a]) (n := 2) (Nat.le_of_ble_eq_true rfl)
  rw [lg_entry_eq]
  generalize (lg_sl ([.ref M.1, .int a]) ++ List.replicate (2 - (lg_sl ([.ref M.1, .int a])).length) Slot.unset).toArray = ls at hl ⊢
  have hl : lv_has ls 2 [(0, .ref M.1), (1, .int a)] := hl
  refine lv_aload_n hx hb dX2_certified_0 rfl (lv_at hl 0 rfl) ?_
  refine lv_iload_n hx hb dX2_certified_1 rfl (lv_at hl 1 rfl) ?_
  refine lv_aload_n hx hb dX2_certified_2 rfl (lv_at hl 0 rfl) ?_
  refine va_get (D := D) (ci := 3) (v := .ref (M.2 5)) (C := RX2) (T := TX2) (N := 13) hx hb hts in_X2_certified_X2 hown hK hP 0 rfl rfl 10 (by decide) (hts (.fieldLink RX2 25 "ShadowSocietyModel" "length" "[I") (List.mem_of_getElem? (i := 1) (by decide +kernel))) (fun _ h9 => h9) rfl dX2_certified_3 ?_
  refine va_calli (va_runV (As := [.int a, .ref (M.2 5)]) (rest := []) ⟨hx, hb, hml, hown, hts⟩ (c_X2_of l D cs M th hI hap s.heap a 5 (sCe σ) (fun _ => rfl)) (cwV 2 hts gX2_certified_X2_of rfl rfl rfl (by decide +kernel) ⟨Nat.le_of_ble_eq_true rfl, Nat.le_of_ble_eq_true rfl⟩) (rb_V hK hN ⟨rfl, hP⟩ (va_recv hK hP (ci := 3) (q0 := 0) rfl rfl)) rfl rfl hl.1 rfl (lv_room (Nat.le_of_ble_eq_true rfl)) dX2_certified_6 ⟨Nat.le_of_ble_eq_true rfl, Nat.le_of_ble_eq_true rfl⟩) hS (fun q _ h => md_A hS q h) (fun q h => md_A hS q h) (fun r u t H locs ht hvm hp hB hz1 hk1 hS => ?_)
  rw [ht] at hB
  exact W.iret (v := r) hx hb hr (fun t ht hW => ⟨⟨_, u, rfl, hp, by show va_P D vwCl (modW cs M (nI u.1) u.2) t.heap; rw [ht]; exact hB⟩, hS.F ht⟩) hS.2.2 dX2_certified_9
theorem in_X2_hatOn_X2 : ∀ w ∈ wsX20, w ∈ wsX2_hatOn := by decide +kernel
set_option maxHeartbeats 4000000 in
set_option maxRecDepth 100000 in
/-- hatOn -/
theorem c_X2_hatOn (l : Launch) (D : va_G) (cs : Cs) (M : Nat × (Nat → Nat)) (th : Int32) {B : Nat} {σ : PS} (hI : InvS B σ) (hap : AptM M) (H0 : Heap) (a : Int32) : Met l yX2_hatOn wsX2_hatOn ({ frames := 2, cells := 0, slots := 0, locals := 43 }) (va_Pc [.ref M.1, .int a] (RBp D cs (fun X => X = H0 ∧ va_P D vwCl (modW cs M th σ) X))) (va_Qi (fun (r : Int32) (u : Nat × PS) => mO r u (rdO σ a (fun i => wornH σ i)) (σ)) (fun u t => va_P D vwCl (modW cs M (nI u.1) u.2) t.heap) (mdA M H0)) 0 0 (mdA M H0) := by
  refine Met.ofW (cc := cX2_hatOn) (maxL := 2) (ret := (some .int)) (by decide) rfl ?_
  intro p e s m args below meth c s₁ B0 hml hv
  obtain ⟨rfl, ⟨hH, hP⟩, hK, hN⟩ := hv
  subst hH
  have hx := B0.exec
  have hb := B0.bytes
  have hr := B0.returns
  have hts := atoms_spec (ws := wsX2_hatOn) B0.pre
  have hown : s.vm.findClass RX2 = some m.cls := findClass_of_methodNamed B0.named
  have hlocks := B0.notSynchronized
  have hS : va_S (mdA M s.heap) s.heap s.heap [] := va_S.rf
  have hl := lv_entry ([.ref M.1, .int a]) (n := 2) (Nat.le_of_ble_eq_true rfl)
  rw [lg_entry_eq]
  generalize (lg_sl ([.ref M.1, .int a]) ++ List.replicate (2 - (lg_sl ([.ref M.1, .int a])).length) Slot.unset).toArray = ls at hl ⊢
  have hl : lv_has ls 2 [(0, .ref M.1), (1, .int a)] := hl
  refine lv_aload_n hx hb dX2_hatOn_0 rfl (lv_at hl 0 rfl) ?_
  refine lv_iconst (v := 0) hx hb dX2_hatOn_1 (by decide) ?_
  refine va_put (D := D) (ci := 3) (v := .int 0) (ty := .int) (C := RX2) (T := TX2) (N := 13) hx hb hts in_X2_hatOn_X2 tyX2 tyX2_ok nmX2 hown hK hP (mod_D hap (fun q h => Or.inl h)) hS 0 rfl rfl 0 (by decide) (hts (.fieldLink RX2 34 "ShadowSocietyModel" "thrown" "I") (List.mem_of_getElem? (i := 1) (by decide +kernel))) (fun _ h9 => h9) rfl (by decide +kernel) rfl rfl (Nat.le_of_ble_eq_true rfl) dX2_hatOn_2 (fun H locs hP hD hS => ?_)
  have hP : va_P D vwCl (modW cs M 0 (σ)) H := hP
  refine lv_aload_n hx hb dX2_hatOn_5 rfl (lv_at hl 0 rfl) ?_
  refine lv_iload_n hx hb dX2_hatOn_6 rfl (lv_at hl 1 rfl) ?_
  refine vp_callSi (va_Run.run (va_runV (As := [.int a]) (rest := []) ⟨hx, hb, hml, hown, hts⟩ (c_X2_isMember l D cs M 0 hI a) (cwV 1 hts gX2_hatOn_X2_isMember rfl rfl rfl (by decide +kernel) ⟨Nat.le_of_ble_eq_true rfl, Nat.le_of_ble_eq_true rfl⟩) (rb_V hK hN hP (va_recv hK hP (ci := 3) (q0 := 0) rfl rfl)) rfl rfl hl.1 rfl (lv_room (Nat.le_of_ble_eq_true rfl)) dX2_hatOn_7 ⟨Nat.le_of_ble_eq_true rfl, Nat.le_of_ble_eq_true rfl⟩)) (fun r_1 hr_1 => ?_)
  rw [hr_1]
  refine lv_if_eq (tgt := 21) hx hb dX2_hatOn_10 (by decide) (fun c_2 => ?_) (fun c_2 => ?_)
  · have hix1 := none_ix c_2
    refine lv_aload_n hx hb dX2_hatOn_21 rfl (lv_at hl 0 rfl) ?_
    refine lv_iconst (v := 1) hx hb dX2_hatOn_22 (by decide) ?_
    refine va_calli (va_runV (As := [.int 1]) (rest := []) ⟨hx, hb, hml, hown, hts⟩ (c_X2_no l D cs M 0 (σ := σ) hap H 1) (cwV 1 hts gX2_hatOn_X2_no rfl rfl rfl (by decide +kernel) ⟨Nat.le_of_ble_eq_true rfl, Nat.le_of_ble_eq_true rfl⟩) (rb_V hK hN ⟨rfl, hP⟩ (va_recv hK hP (ci := 3) (q0 := 0) rfl rfl)) rfl rfl hl.1 rfl (lv_room (Nat.le_of_ble_eq_true rfl)) dX2_hatOn_23 ⟨Nat.le_of_ble_eq_true rfl, Nat.le_of_ble_eq_true rfl⟩) hS (fun q _ h => md_A hS q h) (fun q h => md_A hS q h) (fun r_3 u t H locs ht hvm hr_3 hB hz1 hk1 hS => ?_)
    rw [ht] at hB
    rw [hr_3]
    have hP : va_P D vwCl (modW cs M 1 σ) H := hB
    exact W.iret (v := 0) hx hb hr (fun t ht hW => ⟨⟨_, (1, σ), rfl, mo_n (rd_n (fun i => wornH σ i) hix1), by show va_P D vwCl (modW cs M (nI 1) (σ)) t.heap; rw [ht]; exact hP⟩, hS.F ht⟩) hS.2.2 dX2_hatOn_26
  · obtain ⟨i, hi, rfl, hix1⟩ := some_ix hI c_2
    refine lv_aload_n hx hb dX2_hatOn_13 rfl (lv_at hl 0 rfl) ?_
    refine lv_iload_n hx hb dX2_hatOn_14 rfl (lv_at hl 1 rfl) ?_
    refine vp_callSi (va_Run.run (va_runV (As := [.int (nI i)]) (rest := []) ⟨hx, hb, hml, hown, hts⟩ (c_X2_worn l D cs M 0 hI i hi) (cwV 1 hts gX2_hatOn_X2_worn rfl rfl rfl (by decide +kernel) ⟨Nat.le_of_ble_eq_true rfl, Nat.le_of_ble_eq_true rfl⟩) (rb_V hK hN hP (va_recv hK hP (ci := 3) (q0 := 0) rfl rfl)) rfl rfl hl.1 rfl (lv_room (Nat.le_of_ble_eq_true rfl)) dX2_hatOn_15 ⟨Nat.le_of_ble_eq_true rfl, Nat.le_of_ble_eq_true rfl⟩)) (fun r_4 hr_4 => ?_)
    rw [hr_4]
    refine lv_goto (tgt := 26) hx hb dX2_hatOn_18 (by decide) ?_
    exact W.iret (v := wornH σ i) hx hb hr (fun t ht hW => ⟨⟨_, (0, σ), rfl, mo_0 (rd_s (fun i => wornH σ i) hix1), by show va_P D vwCl (modW cs M (nI 0) (σ)) t.heap; rw [ht]; exact hP⟩, hS.F ht⟩) hS.2.2 dX2_hatOn_26
theorem in_X2_shadowOf_X2 : ∀ w ∈ wsX20, w ∈ wsX2_shadowOf := by decide +kernel
set_option maxHeartbeats 4000000 in
set_option maxRecDepth 100000 in
/-- shadowOf -/
theorem c_X2_shadowOf (l : Launch) (D : va_G) (cs : Cs) (M : Nat × (Nat → Nat)) (th : Int32) {B : Nat} {σ : PS} (hI : InvS B σ) (hap : AptM M) (H0 : Heap) (a : Int32) : Met l yX2_shadowOf wsX2_shadowOf ({ frames := 4, cells := 0, slots := 0, locals := 86 }) (va_Pc [.ref M.1, .int a] (RBp D cs (fun X => X = H0 ∧ va_P D vwCl (modW cs M th σ) X))) (va_Qi (fun (r : Int32) (u : Nat × PS) => mO r u (rdO σ a (fun i => shadS σ i (dayOf σ))) (σ)) (fun u t => va_P D vwCl (modW cs M (nI u.1) u.2) t.heap) (mdA M H0)) 0 0 (mdA M H0) := by
  refine Met.ofW (cc := cX2_shadowOf) (maxL := 2) (ret := (some .int)) (by decide) rfl ?_
  intro p e s m args below meth c s₁ B0 hml hv
  obtain ⟨rfl, ⟨hH, hP⟩, hK, hN⟩ := hv
  subst hH
  have hx := B0.exec
  have hb := B0.bytes
  have hr := B0.returns
  have hts := atoms_spec (ws := wsX2_shadowOf) B0.pre
  have hown : s.vm.findClass RX2 = some m.cls := findClass_of_methodNamed B0.named
  have hlocks := B0.notSynchronized
  have hS : va_S (mdA M s.heap) s.heap s.heap [] := va_S.rf
  have hl := lv_entry ([.ref M.1, .int a]) (n := 2) (Nat.le_of_ble_eq_true rfl)
  rw [lg_entry_eq]
  generalize (lg_sl ([.ref M.1, .int a]) ++ List.replicate (2 - (lg_sl ([.ref M.1, .int a])).length) Slot.unset).toArray = ls at hl ⊢
  have hl : lv_has ls 2 [(0, .ref M.1), (1, .int a)] := hl
  refine lv_aload_n hx hb dX2_shadowOf_0 rfl (lv_at hl 0 rfl) ?_
  refine lv_iconst (v := 0) hx hb dX2_shadowOf_1 (by decide) ?_
  refine va_put (D := D) (ci := 3) (v := .int 0) (ty := .int) (C := RX2) (T := TX2) (N := 13) hx hb hts in_X2_shadowOf_X2 tyX2 tyX2_ok nmX2 hown hK hP (mod_D hap (fun q h => Or.inl h)) hS 0 rfl rfl 0 (by decide) (hts (.fieldLink RX2 34 "ShadowSocietyModel" "thrown" "I") (List.mem_of_getElem? (i := 1) (by decide +kernel))) (fun _ h9 => h9) rfl (by decide +kernel) rfl rfl (Nat.le_of_ble_eq_true rfl) dX2_shadowOf_2 (fun H locs hP hD hS => ?_)
  have hP : va_P D vwCl (modW cs M 0 (σ)) H := hP
  refine lv_aload_n hx hb dX2_shadowOf_5 rfl (lv_at hl 0 rfl) ?_
  refine lv_iload_n hx hb dX2_shadowOf_6 rfl (lv_at hl 1 rfl) ?_
  refine vp_callSi (va_Run.run (va_runV (As := [.int a]) (rest := []) ⟨hx, hb, hml, hown, hts⟩ (c_X2_isMember l D cs M 0 hI a) (cwV 1 hts gX2_shadowOf_X2_isMember rfl rfl rfl (by decide +kernel) ⟨Nat.le_of_ble_eq_true rfl, Nat.le_of_ble_eq_true rfl⟩) (rb_V hK hN hP (va_recv hK hP (ci := 3) (q0 := 0) rfl rfl)) rfl rfl hl.1 rfl (lv_room (Nat.le_of_ble_eq_true rfl)) dX2_shadowOf_7 ⟨Nat.le_of_ble_eq_true rfl, Nat.le_of_ble_eq_true rfl⟩)) (fun r_1 hr_1 => ?_)
  rw [hr_1]
  refine lv_if_eq (tgt := 21) hx hb dX2_shadowOf_10 (by decide) (fun c_2 => ?_) (fun c_2 => ?_)
  · have hix1 := none_ix c_2
    refine lv_aload_n hx hb dX2_shadowOf_21 rfl (lv_at hl 0 rfl) ?_
    refine lv_iconst (v := 1) hx hb dX2_shadowOf_22 (by decide) ?_
    refine va_calli (va_runV (As := [.int 1]) (rest := []) ⟨hx, hb, hml, hown, hts⟩ (c_X2_no l D cs M 0 (σ := σ) hap H 1) (cwV 1 hts gX2_shadowOf_X2_no rfl rfl rfl (by decide +kernel) ⟨Nat.le_of_ble_eq_true rfl, Nat.le_of_ble_eq_true rfl⟩) (rb_V hK hN ⟨rfl, hP⟩ (va_recv hK hP (ci := 3) (q0 := 0) rfl rfl)) rfl rfl hl.1 rfl (lv_room (Nat.le_of_ble_eq_true rfl)) dX2_shadowOf_23 ⟨Nat.le_of_ble_eq_true rfl, Nat.le_of_ble_eq_true rfl⟩) hS (fun q _ h => md_A hS q h) (fun q h => md_A hS q h) (fun r_3 u t H locs ht hvm hr_3 hB hz1 hk1 hS => ?_)
    rw [ht] at hB
    rw [hr_3]
    have hP : va_P D vwCl (modW cs M 1 σ) H := hB
    exact W.iret (v := 0) hx hb hr (fun t ht hW => ⟨⟨_, (1, σ), rfl, mo_n (rd_n (fun i => shadS σ i (dayOf σ)) hix1), by show va_P D vwCl (modW cs M (nI 1) (σ)) t.heap; rw [ht]; exact hP⟩, hS.F ht⟩) hS.2.2 dX2_shadowOf_26
  · obtain ⟨i, hi, rfl, hix1⟩ := some_ix hI c_2
    refine lv_aload_n hx hb dX2_shadowOf_13 rfl (lv_at hl 0 rfl) ?_
    refine lv_iload_n hx hb dX2_shadowOf_14 rfl (lv_at hl 1 rfl) ?_
    refine vp_callSi (va_Run.run (va_runV (As := [.int (nI i)]) (rest := []) ⟨hx, hb, hml, hown, hts⟩ (c_X2_shadow l D cs M 0 hI i hi) (cwV 1 hts gX2_shadowOf_X2_shadow rfl rfl rfl (by decide +kernel) ⟨Nat.le_of_ble_eq_true rfl, Nat.le_of_ble_eq_true rfl⟩) (rb_V hK hN hP (va_recv hK hP (ci := 3) (q0 := 0) rfl rfl)) rfl rfl hl.1 rfl (lv_room (Nat.le_of_ble_eq_true rfl)) dX2_shadowOf_15 ⟨Nat.le_of_ble_eq_true rfl, Nat.le_of_ble_eq_true rfl⟩)) (fun r_4 hr_4 => ?_)
    rw [hr_4]
    refine lv_goto (tgt := 26) hx hb dX2_shadowOf_18 (by decide) ?_
    exact W.iret (v := shadS σ i (dayOf σ)) hx hb hr (fun t ht hW => ⟨⟨_, (0, σ), rfl, mo_0 (rd_s (fun i => shadS σ i (dayOf σ)) hix1), by show va_P D vwCl (modW cs M (nI 0) (σ)) t.heap; rw [ht]; exact hP⟩, hS.F ht⟩) hS.2.2 dX2_shadowOf_26
theorem in_X2_auditBrings_X2 : ∀ w ∈ wsX20, w ∈ wsX2_auditBrings := by decide +kernel
set_option maxHeartbeats 4000000 in
set_option maxRecDepth 100000 in
/-- auditBrings -/
theorem c_X2_auditBrings (l : Launch) (D : va_G) (cs : Cs) (M : Nat × (Nat → Nat)) (th : Int32) {B : Nat} {σ : PS} (hI : InvS B σ) (hap : AptM M) (H0 : Heap) (a : Int32) : Met l yX2_auditBrings wsX2_auditBrings ({ frames := 6, cells := 0, slots := 0, locals := 129 }) (va_Pc [.ref M.1, .int a] (RBp D cs (fun X => X = H0 ∧ va_P D vwCl (modW cs M th σ) X))) (va_Qi (fun (r : Int32) (u : Nat × PS) => mO r u (rdO σ a (fun i => gainS σ i)) (σ)) (fun u t => va_P D vwCl (modW cs M (nI u.1) u.2) t.heap) (mdA M H0)) 0 0 (mdA M H0) := by
  refine Met.ofW (cc := cX2_auditBrings) (maxL := 2) (ret := (some .int)) (by decide) rfl ?_
  intro p e s m args below meth c s₁ B0 hml hv
  obtain ⟨rfl, ⟨hH, hP⟩, hK, hN⟩ := hv
  subst hH
  have hx := B0.exec
  have hb := B0.bytes
  have hr := B0.returns
  have hts := atoms_spec (ws := wsX2_auditBrings) B0.pre
  have hown : s.vm.findClass RX2 = some m.cls := findClass_of_methodNamed B0.named
  have hlocks := B0.notSynchronized
  have hS : va_S (mdA M s.heap) s.heap s.heap [] := va_S.rf
  have hl := lv_entry ([.ref M.1, .int a]) (n := 2) (Nat.le_of_ble_eq_true rfl)
  rw [lg_entry_eq]
  generalize (lg_sl ([.ref M.1, .int a]) ++ List.replicate (2 - (lg_sl ([.ref M.1, .int a])).length) Slot.unset).toArray = ls at hl ⊢
  have hl : lv_has ls 2 [(0, .ref M.1), (1, .int a)] := hl
  refine lv_aload_n hx hb dX2_auditBrings_0 rfl (lv_at hl 0 rfl) ?_
  refine lv_iconst (v := 0) hx hb dX2_auditBrings_1 (by decide) ?_
  refine va_put (D := D) (ci := 3) (v := .int 0) (ty := .int) (C := RX2) (T := TX2) (N := 13) hx hb hts in_X2_auditBrings_X2 tyX2 tyX2_ok nmX2 hown hK hP (mod_D hap (fun q h => Or.inl h)) hS 0 rfl rfl 0 (by decide) (hts (.fieldLink RX2 34 "ShadowSocietyModel" "thrown" "I") (List.mem_of_getElem? (i := 1) (by decide +kernel))) (fun _ h9 => h9) rfl (by decide +kernel) rfl rfl (Nat.le_of_ble_eq_true rfl) dX2_auditBrings_2 (fun H locs hP hD hS => ?_)
  have hP : va_P D vwCl (modW cs M 0 (σ)) H := hP
  refine lv_aload_n hx hb dX2_auditBrings_5 rfl (lv_at hl 0 rfl) ?_
  refine lv_iload_n hx hb dX2_auditBrings_6 rfl (lv_at hl 1 rfl) ?_
  refine vp_callSi (va_Run.run (va_runV (As := [.int a]) (rest := []) ⟨hx, hb, hml, hown, hts⟩ (c_X2_isMember l D cs M 0 hI a) (cwV 1 hts gX2_auditBrings_X2_isMember rfl rfl rfl (by decide +kernel) ⟨Nat.le_of_ble_eq_true rfl, Nat.le_of_ble_eq_true rfl⟩) (rb_V hK hN hP (va_recv hK hP (ci := 3) (q0 := 0) rfl rfl)) rfl rfl hl.1 rfl (lv_room (Nat.le_of_ble_eq_true rfl)) dX2_auditBrings_7 ⟨Nat.le_of_ble_eq_true rfl, Nat.le_of_ble_eq_true rfl⟩)) (fun r_1 hr_1 => ?_)
  rw [hr_1]
  refine lv_if_eq (tgt := 21) hx hb dX2_auditBrings_10 (by decide) (fun c_2 => ?_) (fun c_2 => ?_)
  · have hix1 := none_ix c_2
    refine lv_aload_n hx hb dX2_auditBrings_21 rfl (lv_at hl 0 rfl) ?_
    refine lv_iconst (v := 1) hx hb dX2_auditBrings_22 (by decide) ?_
    refine va_calli (va_runV (As := [.int 1]) (rest := []) ⟨hx, hb, hml, hown, hts⟩ (c_X2_no l D cs M 0 (σ := σ) hap H 1) (cwV 1 hts gX2_auditBrings_X2_no rfl rfl rfl (by decide +kernel) ⟨Nat.le_of_ble_eq_true rfl, Nat.le_of_ble_eq_true rfl⟩) (rb_V hK hN ⟨rfl, hP⟩ (va_recv hK hP (ci := 3) (q0 := 0) rfl rfl)) rfl rfl hl.1 rfl (lv_room (Nat.le_of_ble_eq_true rfl)) dX2_auditBrings_23 ⟨Nat.le_of_ble_eq_true rfl, Nat.le_of_ble_eq_true rfl⟩) hS (fun q _ h => md_A hS q h) (fun q h => md_A hS q h) (fun r_3 u t H locs ht hvm hr_3 hB hz1 hk1 hS => ?_)
    rw [ht] at hB
    rw [hr_3]
    have hP : va_P D vwCl (modW cs M 1 σ) H := hB
    exact W.iret (v := 0) hx hb hr (fun t ht hW => ⟨⟨_, (1, σ), rfl, mo_n (rd_n (fun i => gainS σ i) hix1), by show va_P D vwCl (modW cs M (nI 1) (σ)) t.heap; rw [ht]; exact hP⟩, hS.F ht⟩) hS.2.2 dX2_auditBrings_26
  · obtain ⟨i, hi, rfl, hix1⟩ := some_ix hI c_2
    refine lv_aload_n hx hb dX2_auditBrings_13 rfl (lv_at hl 0 rfl) ?_
    refine lv_iload_n hx hb dX2_auditBrings_14 rfl (lv_at hl 1 rfl) ?_
    refine vp_callSi (va_Run.run (va_runV (As := [.int (nI i)]) (rest := []) ⟨hx, hb, hml, hown, hts⟩ (c_X2_brings l D cs M 0 hI i hi) (cwV 1 hts gX2_auditBrings_X2_brings rfl rfl rfl (by decide +kernel) ⟨Nat.le_of_ble_eq_true rfl, Nat.le_of_ble_eq_true rfl⟩) (rb_V hK hN hP (va_recv hK hP (ci := 3) (q0 := 0) rfl rfl)) rfl rfl hl.1 rfl (lv_room (Nat.le_of_ble_eq_true rfl)) dX2_auditBrings_15 ⟨Nat.le_of_ble_eq_true rfl, Nat.le_of_ble_eq_true rfl⟩)) (fun r_4 hr_4 => ?_)
    rw [hr_4]
    refine lv_goto (tgt := 26) hx hb dX2_auditBrings_18 (by decide) ?_
    exact W.iret (v := gainS σ i) hx hb hr (fun t ht hW => ⟨⟨_, (0, σ), rfl, mo_0 (rd_s (fun i => gainS σ i) hix1), by show va_P D vwCl (modW cs M (nI 0) (σ)) t.heap; rw [ht]; exact hP⟩, hS.F ht⟩) hS.2.2 dX2_auditBrings_26
theorem in_X2_bestHat_X2 : ∀ w ∈ wsX20, w ∈ wsX2_bestHat := by decide +kernel
set_option maxHeartbeats 4000000 in
set_option maxRecDepth 100000 in
/-- bestHat -/
theorem c_X2_bestHat (l : Launch) (D : va_G) (cs : Cs) (M : Nat × (Nat → Nat)) (th : Int32) {B : Nat} {σ : PS} (hT : InvT B σ) (hap : AptM M) (H0 : Heap) (a : Int32) : Met l yX2_bestHat wsX2_bestHat ({ frames := 4, cells := 0, slots := 0, locals := 89 }) (va_Pc [.ref M.1, .int a] (RBp D cs (fun X => X = H0 ∧ va_P D vwCl (modW cs M th σ) X))) (va_Qi (fun (r : Int32) (u : Nat × PS) => mO r u (rdO σ a (fun i => bestS σ i)) (σ)) (fun u t => va_P D vwCl (modW cs M (nI u.1) u.2) t.heap) (mdA M H0)) 0 0 (mdA M H0) := by
  refine Met.ofW (cc := cX2_bestHat) (maxL := 2) (ret := (some .int)) (by decide) rfl ?_
  intro p e s m args below meth c s₁ B0 hml hv
  obtain ⟨rfl, ⟨hH, hP⟩, hK, hN⟩ := hv
  subst hH
  have hx := B0.exec
  have hb := B0.bytes
  have hr := B0.returns
  have hts := atoms_spec (ws := wsX2_bestHat) B0.pre
  have hown : s.vm.findClass RX2 = some m.cls := findClass_of_methodNamed B0.named
  have hlocks := B0.notSynchronized
  have hS : va_S (mdA M s.heap) s.heap s.heap [] := va_S.rf
  have hI := hT.1
  have hl := lv_entry ([.ref M.1, .int a]) (n := 2) (Nat.le_of_ble_eq_true rfl)
  rw [lg_entry_eq]
  generalize (lg_sl ([.ref M.1, .int a]) ++ List.replicate (2 - (lg_sl ([.ref M.1, .int a])).length) Slot.unset).toArray = ls at hl ⊢
  have hl : lv_has ls 2 [(0, .ref M.1), (1, .int a)] := hl
  refine lv_aload_n hx hb dX2_bestHat_0 rfl (lv_at hl 0 rfl) ?_
  refine lv_iconst (v := 0) hx hb dX2_bestHat_1 (by decide) ?_
  refine va_put (D := D) (ci := 3) (v := .int 0) (ty := .int) (C := RX2) (T := TX2) (N := 13) hx hb hts in_X2_bestHat_X2 tyX2 tyX2_ok nmX2 hown hK hP (mod_D hap (fun q h => Or.inl h)) hS 0 rfl rfl 0 (by decide) (hts (.fieldLink RX2 34 "ShadowSocietyModel" "thrown" "I") (List.mem_of_getElem? (i := 1) (by decide +kernel))) (fun _ h9 => h9) rfl (by decide +kernel) rfl rfl (Nat.le_of_ble_eq_true rfl) dX2_bestHat_2 (fun H locs hP hD hS => ?_)
  have hP : va_P D vwCl (modW cs M 0 (σ)) H := hP
  refine lv_aload_n hx hb dX2_bestHat_5 rfl (lv_at hl 0 rfl) ?_
  refine lv_iload_n hx hb dX2_bestHat_6 rfl (lv_at hl 1 rfl) ?_
  refine vp_callSi (va_Run.run (va_runV (As := [.int a]) (rest := []) ⟨hx, hb, hml, hown, hts⟩ (c_X2_isMember l D cs M 0 hI a) (cwV 1 hts gX2_bestHat_X2_isMember rfl rfl rfl (by decide +kernel) ⟨Nat.le_of_ble_eq_true rfl, Nat.le_of_ble_eq_true rfl⟩) (rb_V hK hN hP (va_recv hK hP (ci := 3) (q0 := 0) rfl rfl)) rfl rfl hl.1 rfl (lv_room (Nat.le_of_ble_eq_true rfl)) dX2_bestHat_7 ⟨Nat.le_of_ble_eq_true rfl, Nat.le_of_ble_eq_true rfl⟩)) (fun r_1 hr_1 => ?_)
  rw [hr_1]
  refine lv_if_eq (tgt := 21) hx hb dX2_bestHat_10 (by decide) (fun c_2 => ?_) (fun c_2 => ?_)
  · have hix1 := none_ix c_2
    refine lv_aload_n hx hb dX2_bestHat_21 rfl (lv_at hl 0 rfl) ?_
    refine lv_iconst (v := 1) hx hb dX2_bestHat_22 (by decide) ?_
    refine va_calli (va_runV (As := [.int 1]) (rest := []) ⟨hx, hb, hml, hown, hts⟩ (c_X2_no l D cs M 0 (σ := σ) hap H 1) (cwV 1 hts gX2_bestHat_X2_no rfl rfl rfl (by decide +kernel) ⟨Nat.le_of_ble_eq_true rfl, Nat.le_of_ble_eq_true rfl⟩) (rb_V hK hN ⟨rfl, hP⟩ (va_recv hK hP (ci := 3) (q0 := 0) rfl rfl)) rfl rfl hl.1 rfl (lv_room (Nat.le_of_ble_eq_true rfl)) dX2_bestHat_23 ⟨Nat.le_of_ble_eq_true rfl, Nat.le_of_ble_eq_true rfl⟩) hS (fun q _ h => md_A hS q h) (fun q h => md_A hS q h) (fun r_3 u t H locs ht hvm hr_3 hB hz1 hk1 hS => ?_)
    rw [ht] at hB
    rw [hr_3]
    have hP : va_P D vwCl (modW cs M 1 σ) H := hB
    exact W.iret (v := 0) hx hb hr (fun t ht hW => ⟨⟨_, (1, σ), rfl, mo_n (rd_n (fun i => bestS σ i) hix1), by show va_P D vwCl (modW cs M (nI 1) (σ)) t.heap; rw [ht]; exact hP⟩, hS.F ht⟩) hS.2.2 dX2_bestHat_26
  · obtain ⟨i, hi, rfl, hix1⟩ := some_ix hI c_2
    refine lv_aload_n hx hb dX2_bestHat_13 rfl (lv_at hl 0 rfl) ?_
    refine lv_iload_n hx hb dX2_bestHat_14 rfl (lv_at hl 1 rfl) ?_
    refine vp_callSi (va_Run.run (va_runV (As := [.int (nI i)]) (rest := []) ⟨hx, hb, hml, hown, hts⟩ (c_X2_hatFor l D cs M 0 hT i hi) (cwV 1 hts gX2_bestHat_X2_hatFor rfl rfl rfl (by decide +kernel) ⟨Nat.le_of_ble_eq_true rfl, Nat.le_of_ble_eq_true rfl⟩) (rb_V hK hN hP (va_recv hK hP (ci := 3) (q0 := 0) rfl rfl)) rfl rfl hl.1 rfl (lv_room (Nat.le_of_ble_eq_true rfl)) dX2_bestHat_15 ⟨Nat.le_of_ble_eq_true rfl, Nat.le_of_ble_eq_true rfl⟩)) (fun r_4 hr_4 => ?_)
    rw [hr_4]
    refine lv_goto (tgt := 26) hx hb dX2_bestHat_18 (by decide) ?_
    exact W.iret (v := bestS σ i) hx hb hr (fun t ht hW => ⟨⟨_, (0, σ), rfl, mo_0 (rd_s (fun i => bestS σ i) hix1), by show va_P D vwCl (modW cs M (nI 0) (σ)) t.heap; rw [ht]; exact hP⟩, hS.F ht⟩) hS.2.2 dX2_bestHat_26
theorem in_X2_longestIn_X2 : ∀ w ∈ wsX20, w ∈ wsX2_longestIn := by decide +kernel
set_option maxHeartbeats 4000000 in
set_option maxRecDepth 100000 in
/-- longestIn -/
theorem c_X2_longestIn (l : Launch) (D : va_G) (cs : Cs) (M : Nat × (Nat → Nat)) (th : Int32) {B : Nat} {σ : PS} (hT : InvT B σ) (hap : AptM M) (H0 : Heap) (a : Int32) : Met l yX2_longestIn wsX2_longestIn ({ frames := 5, cells := 0, slots := 0, locals := 113 }) (va_Pc [.ref M.1, .int a] (RBp D cs (fun X => X = H0 ∧ va_P D vwCl (modW cs M th σ) X))) (va_Qi (fun (r : Int32) (u : Nat × PS) => mO r u (rdO σ a (fun i => longInS σ i)) (σ)) (fun u t => va_P D vwCl (modW cs M (nI u.1) u.2) t.heap) (mdA M H0)) 0 0 (mdA M H0) := by
  refine Met.ofW (cc := cX2_longestIn) (maxL := 2) (ret := (some .int)) (by decide) rfl ?_
  intro p e s m args below meth c s₁ B0 hml hv
  obtain ⟨rfl, ⟨hH, hP⟩, hK, hN⟩ := hv
  subst hH
  have hx := B0.exec
  have hb := B0.bytes
  have hr := B0.returns
  have hts := atoms_spec (ws := wsX2_longestIn) B0.pre
  have hown : s.vm.findClass RX2 = some m.cls := findClass_of_methodNamed B0.named
  have hlocks := B0.notSynchronized
  have hS : va_S (mdA M s.heap) s.heap s.heap [] := va_S.rf
  have hI := hT.1
  have hl := lv_entry ([.ref M.1, .int a]) (n := 2) (Nat.le_of_ble_eq_true rfl)
  rw [lg_entry_eq]
  generalize (lg_sl ([.ref M.1, .int a]) ++ List.replicate (2 - (lg_sl ([.ref M.1, .int a])).length) Slot.unset).toArray = ls at hl ⊢
  have hl : lv_has ls 2 [(0, .ref M.1), (1, .int a)] := hl
  refine lv_aload_n hx hb dX2_longestIn_0 rfl (lv_at hl 0 rfl) ?_
  refine lv_iconst (v := 0) hx hb dX2_longestIn_1 (by decide) ?_
  refine va_put (D := D) (ci := 3) (v := .int 0) (ty := .int) (C := RX2) (T := TX2) (N := 13) hx hb hts in_X2_longestIn_X2 tyX2 tyX2_ok nmX2 hown hK hP (mod_D hap (fun q h => Or.inl h)) hS 0 rfl rfl 0 (by decide) (hts (.fieldLink RX2 34 "ShadowSocietyModel" "thrown" "I") (List.mem_of_getElem? (i := 1) (by decide +kernel))) (fun _ h9 => h9) rfl (by decide +kernel) rfl rfl (Nat.le_of_ble_eq_true rfl) dX2_longestIn_2 (fun H locs hP hD hS => ?_)
  have hP : va_P D vwCl (modW cs M 0 (σ)) H := hP
  refine lv_aload_n hx hb dX2_longestIn_5 rfl (lv_at hl 0 rfl) ?_
  refine lv_iload_n hx hb dX2_longestIn_6 rfl (lv_at hl 1 rfl) ?_
  refine vp_callSi (va_Run.run (va_runV (As := [.int a]) (rest := []) ⟨hx, hb, hml, hown, hts⟩ (c_X2_isMember l D cs M 0 hI a) (cwV 1 hts gX2_longestIn_X2_isMember rfl rfl rfl (by decide +kernel) ⟨Nat.le_of_ble_eq_true rfl, Nat.le_of_ble_eq_true rfl⟩) (rb_V hK hN hP (va_recv hK hP (ci := 3) (q0 := 0) rfl rfl)) rfl rfl hl.1 rfl (lv_room (Nat.le_of_ble_eq_true rfl)) dX2_longestIn_7 ⟨Nat.le_of_ble_eq_true rfl, Nat.le_of_ble_eq_true rfl⟩)) (fun r_1 hr_1 => ?_)
  rw [hr_1]
  refine lv_if_eq (tgt := 21) hx hb dX2_longestIn_10 (by decide) (fun c_2 => ?_) (fun c_2 => ?_)
  · have hix1 := none_ix c_2
    refine lv_aload_n hx hb dX2_longestIn_21 rfl (lv_at hl 0 rfl) ?_
    refine lv_iconst (v := 1) hx hb dX2_longestIn_22 (by decide) ?_
    refine va_calli (va_runV (As := [.int 1]) (rest := []) ⟨hx, hb, hml, hown, hts⟩ (c_X2_no l D cs M 0 (σ := σ) hap H 1) (cwV 1 hts gX2_longestIn_X2_no rfl rfl rfl (by decide +kernel) ⟨Nat.le_of_ble_eq_true rfl, Nat.le_of_ble_eq_true rfl⟩) (rb_V hK hN ⟨rfl, hP⟩ (va_recv hK hP (ci := 3) (q0 := 0) rfl rfl)) rfl rfl hl.1 rfl (lv_room (Nat.le_of_ble_eq_true rfl)) dX2_longestIn_23 ⟨Nat.le_of_ble_eq_true rfl, Nat.le_of_ble_eq_true rfl⟩) hS (fun q _ h => md_A hS q h) (fun q h => md_A hS q h) (fun r_3 u t H locs ht hvm hr_3 hB hz1 hk1 hS => ?_)
    rw [ht] at hB
    rw [hr_3]
    have hP : va_P D vwCl (modW cs M 1 σ) H := hB
    exact W.iret (v := 0) hx hb hr (fun t ht hW => ⟨⟨_, (1, σ), rfl, mo_n (rd_n (fun i => longInS σ i) hix1), by show va_P D vwCl (modW cs M (nI 1) (σ)) t.heap; rw [ht]; exact hP⟩, hS.F ht⟩) hS.2.2 dX2_longestIn_26
  · obtain ⟨i, hi, rfl, hix1⟩ := some_ix hI c_2
    refine lv_aload_n hx hb dX2_longestIn_13 rfl (lv_at hl 0 rfl) ?_
    refine lv_iload_n hx hb dX2_longestIn_14 rfl (lv_at hl 1 rfl) ?_
    refine vp_callSi (va_Run.run (va_runV (As := [.int (nI i)]) (rest := []) ⟨hx, hb, hml, hown, hts⟩ (c_X2_soonestLongest l D cs M 0 hT i hi) (cwV 1 hts gX2_longestIn_X2_soonestLongest rfl rfl rfl (by decide +kernel) ⟨Nat.le_of_ble_eq_true rfl, Nat.le_of_ble_eq_true rfl⟩) (rb_V hK hN hP (va_recv hK hP (ci := 3) (q0 := 0) rfl rfl)) rfl rfl hl.1 rfl (lv_room (Nat.le_of_ble_eq_true rfl)) dX2_longestIn_15 ⟨Nat.le_of_ble_eq_true rfl, Nat.le_of_ble_eq_true rfl⟩)) (fun r_4 hr_4 => ?_)
    rw [hr_4]
    refine lv_goto (tgt := 26) hx hb dX2_longestIn_18 (by decide) ?_
    exact W.iret (v := longInS σ i) hx hb hr (fun t ht hW => ⟨⟨_, (0, σ), rfl, mo_0 (rd_s (fun i => longInS σ i) hix1), by show va_P D vwCl (modW cs M (nI 0) (σ)) t.heap; rw [ht]; exact hP⟩, hS.F ht⟩) hS.2.2 dX2_longestIn_26
theorem in_X2_hasLent_X2 : ∀ w ∈ wsX20, w ∈ wsX2_hasLent := by decide +kernel
set_option maxHeartbeats 4000000 in
set_option maxRecDepth 100000 in
/-- hasLent -/
theorem c_X2_hasLent (l : Launch) (D : va_G) (cs : Cs) (M : Nat × (Nat → Nat)) (th : Int32) {B : Nat} {σ : PS} (hI : InvS B σ) (hap : AptM M) (H0 : Heap) (a : Int32) : Met l yX2_hasLent wsX2_hasLent ({ frames := 2, cells := 0, slots := 0, locals := 43 }) (va_Pc [.ref M.1, .int a] (RBp D cs (fun X => X = H0 ∧ va_P D vwCl (modW cs M th σ) X))) (va_Qi (fun (r : Int32) (u : Nat × PS) => mO r u (rdO σ a (fun i => b01 (lentS σ i))) (σ)) (fun u t => va_P D vwCl (modW cs M (nI u.1) u.2) t.heap) (mdA M H0)) 0 0 (mdA M H0) := by
  refine Met.ofW (cc := cX2_hasLent) (maxL := 2) (ret := (some .boolean)) (by decide) rfl ?_
  intro p e s m args below meth c s₁ B0 hml hv
  obtain ⟨rfl, ⟨hH, hP⟩, hK, hN⟩ := hv
  subst hH
  have hx := B0.exec
  have hb := B0.bytes
  have hr := B0.returns
  have hts := atoms_spec (ws := wsX2_hasLent) B0.pre
  have hown : s.vm.findClass RX2 = some m.cls := findClass_of_methodNamed B0.named
  have hlocks := B0.notSynchronized
  have hS : va_S (mdA M s.heap) s.heap s.heap [] := va_S.rf
  have hl := lv_entry ([.ref M.1, .int a]) (n := 2) (Nat.le_of_ble_eq_true rfl)
  rw [lg_entry_eq]
  generalize (lg_sl ([.ref M.1, .int a]) ++ List.replicate (2 - (lg_sl ([.ref M.1, .int a])).length) Slot.unset).toArray = ls at hl ⊢
  have hl : lv_has ls 2 [(0, .ref M.1), (1, .int a)] := hl
  refine lv_aload_n hx hb dX2_hasLent_0 rfl (lv_at hl 0 rfl) ?_
  refine lv_iconst (v := 0) hx hb dX2_hasLent_1 (by decide) ?_
  refine va_put (D := D) (ci := 3) (v := .int 0) (ty := .int) (C := RX2) (T := TX2) (N := 13) hx hb hts in_X2_hasLent_X2 tyX2 tyX2_ok nmX2 hown hK hP (mod_D hap (fun q h => Or.inl h)) hS 0 rfl rfl 0 (by decide) (hts (.fieldLink RX2 34 "ShadowSocietyModel" "thrown" "I") (List.mem_of_getElem? (i := 1) (by decide +kernel))) (fun _ h9 => h9) rfl (by decide +kernel) rfl rfl (Nat.le_of_ble_eq_true rfl) dX2_hasLent_2 (fun H locs hP hD hS => ?_)
  have hP : va_P D vwCl (modW cs M 0 (σ)) H := hP
  refine lv_aload_n hx hb dX2_hasLent_5 rfl (lv_at hl 0 rfl) ?_
  refine lv_iload_n hx hb dX2_hasLent_6 rfl (lv_at hl 1 rfl) ?_
  refine vp_callSi (va_Run.run (va_runV (As := [.int a]) (rest := []) ⟨hx, hb, hml, hown, hts⟩ (c_X2_isMember l D cs M 0 hI a) (cwV 1 hts gX2_hasLent_X2_isMember rfl rfl rfl (by decide +kernel) ⟨Nat.le_of_ble_eq_true rfl, Nat.le_of_ble_eq_true rfl⟩) (rb_V hK hN hP (va_recv hK hP (ci := 3) (q0 := 0) rfl rfl)) rfl rfl hl.1 rfl (lv_room (Nat.le_of_ble_eq_true rfl)) dX2_hasLent_7 ⟨Nat.le_of_ble_eq_true rfl, Nat.le_of_ble_eq_true rfl⟩)) (fun r_1 hr_1 => ?_)
  rw [hr_1]
  refine lv_if_eq (tgt := 21) hx hb dX2_hasLent_10 (by decide) (fun c_2 => ?_) (fun c_2 => ?_)
  · have hix1 := none_ix c_2
    refine lv_aload_n hx hb dX2_hasLent_21 rfl (lv_at hl 0 rfl) ?_
    refine lv_iconst (v := 1) hx hb dX2_hasLent_22 (by decide) ?_
    refine va_calli (va_runV (As := [.int 1]) (rest := []) ⟨hx, hb, hml, hown, hts⟩ (c_X2_isNot l D cs M 0 (σ := σ) hap H 1) (cwV 1 hts gX2_hasLent_X2_isNot rfl rfl rfl (by decide +kernel) ⟨Nat.le_of_ble_eq_true rfl, Nat.le_of_ble_eq_true rfl⟩) (rb_V hK hN ⟨rfl, hP⟩ (va_recv hK hP (ci := 3) (q0 := 0) rfl rfl)) rfl rfl hl.1 rfl (lv_room (Nat.le_of_ble_eq_true rfl)) dX2_hasLent_23 ⟨Nat.le_of_ble_eq_true rfl, Nat.le_of_ble_eq_true rfl⟩) hS (fun q _ h => md_A hS q h) (fun q h => md_A hS q h) (fun r_3 u t H locs ht hvm hr_3 hB hz1 hk1 hS => ?_)
    rw [ht] at hB
    rw [hr_3]
    have hP : va_P D vwCl (modW cs M 1 σ) H := hB
    exact W.zret (ty := .boolean) (v := 0) hx hb hr rfl (fun t ht hW => ⟨⟨_, (1, σ), rfl, mo_n (rd_n (fun i => b01 (lentS σ i)) hix1), by show va_P D vwCl (modW cs M (nI 1) (σ)) t.heap; rw [ht]; exact hP⟩, hS.F ht⟩) hS.2.2 dX2_hasLent_26
  · obtain ⟨i, hi, rfl, hix1⟩ := some_ix hI c_2
    refine lv_aload_n hx hb dX2_hasLent_13 rfl (lv_at hl 0 rfl) ?_
    refine lv_iload_n hx hb dX2_hasLent_14 rfl (lv_at hl 1 rfl) ?_
    refine vp_callSi (va_Run.run (va_runV (As := [.int (nI i)]) (rest := []) ⟨hx, hb, hml, hown, hts⟩ (c_X2_hasLentOut l D cs M 0 hI i hi) (cwV 1 hts gX2_hasLent_X2_hasLentOut rfl rfl rfl (by decide +kernel) ⟨Nat.le_of_ble_eq_true rfl, Nat.le_of_ble_eq_true rfl⟩) (rb_V hK hN hP (va_recv hK hP (ci := 3) (q0 := 0) rfl rfl)) rfl rfl hl.1 rfl (lv_room (Nat.le_of_ble_eq_true rfl)) dX2_hasLent_15 ⟨Nat.le_of_ble_eq_true rfl, Nat.le_of_ble_eq_true rfl⟩)) (fun r_4 hr_4 => ?_)
    rw [hr_4]
    refine lv_goto (tgt := 26) hx hb dX2_hasLent_18 (by decide) ?_
    exact W.zret (ty := .boolean) (v := b01 (lentS σ i)) hx hb hr (b01_nar _) (fun t ht hW => ⟨⟨_, (0, σ), rfl, mo_0 (rd_s (fun i => b01 (lentS σ i)) hix1), by show va_P D vwCl (modW cs M (nI 0) (σ)) t.heap; rw [ht]; exact hP⟩, hS.F ht⟩) hS.2.2 dX2_hasLent_26
theorem in_X2_isExpelled_X2 : ∀ w ∈ wsX20, w ∈ wsX2_isExpelled := by decide +kernel
set_option maxHeartbeats 4000000 in
set_option maxRecDepth 100000 in
/-- isExpelled -/
theorem c_X2_isExpelled (l : Launch) (D : va_G) (cs : Cs) (M : Nat × (Nat → Nat)) (th : Int32) {B : Nat} {σ : PS} (hI : InvS B σ) (hap : AptM M) (H0 : Heap) (a : Int32) : Met l yX2_isExpelled wsX2_isExpelled ({ frames := 2, cells := 0, slots := 0, locals := 43 }) (va_Pc [.ref M.1, .int a] (RBp D cs (fun X => X = H0 ∧ va_P D vwCl (modW cs M th σ) X))) (va_Qi (fun (r : Int32) (u : Nat × PS) => mO r u (rdO σ a (fun i => b01 (outS σ i))) (σ)) (fun u t => va_P D vwCl (modW cs M (nI u.1) u.2) t.heap) (mdA M H0)) 0 0 (mdA M H0) := by
  refine Met.ofW (cc := cX2_isExpelled) (maxL := 2) (ret := (some .boolean)) (by decide) rfl ?_
  intro p e s m args below meth c s₁ B0 hml hv
  obtain ⟨rfl, ⟨hH, hP⟩, hK, hN⟩ := hv
  subst hH
  have hx := B0.exec
  have hb := B0.bytes
  have hr := B0.returns
  have hts := atoms_spec (ws := wsX2_isExpelled) B0.pre
  have hown : s.vm.findClass RX2 = some m.cls := findClass_of_methodNamed B0.named
  have hlocks := B0.notSynchronized
  have hS : va_S (mdA M s.heap) s.heap s.heap [] := va_S.rf
  have hl := lv_entry ([.ref M.1, .int a]) (n := 2) (Nat.le_of_ble_eq_true rfl)
  rw [lg_entry_eq]
  generalize (lg_sl ([.ref M.1, .int a]) ++ List.replicate (2 - (lg_sl ([.ref M.1, .int a])).length) Slot.unset).toArray = ls at hl ⊢
  have hl : lv_has ls 2 [(0, .ref M.1), (1, .int a)] := hl
  refine lv_aload_n hx hb dX2_isExpelled_0 rfl (lv_at hl 0 rfl) ?_
  refine lv_iconst (v := 0) hx hb dX2_isExpelled_1 (by decide) ?_
  refine va_put (D := D) (ci := 3) (v := .int 0) (ty := .int) (C := RX2) (T := TX2) (N := 13) hx hb hts in_X2_isExpelled_X2 tyX2 tyX2_ok nmX2 hown hK hP (mod_D hap (fun q h => Or.inl h)) hS 0 rfl rfl 0 (by decide) (hts (.fieldLink RX2 34 "ShadowSocietyModel" "thrown" "I") (List.mem_of_getElem? (i := 1) (by decide +kernel))) (fun _ h9 => h9) rfl (by decide +kernel) rfl rfl (Nat.le_of_ble_eq_true rfl) dX2_isExpelled_2 (fun H locs hP hD hS => ?_)
  have hP : va_P D vwCl (modW cs M 0 (σ)) H := hP
  refine lv_aload_n hx hb dX2_isExpelled_5 rfl (lv_at hl 0 rfl) ?_
  refine lv_iload_n hx hb dX2_isExpelled_6 rfl (lv_at hl 1 rfl) ?_
  refine vp_callSi (va_Run.run (va_runV (As := [.int a]) (rest := []) ⟨hx, hb, hml, hown, hts⟩ (c_X2_isMember l D cs M 0 hI a) (cwV 1 hts gX2_isExpelled_X2_isMember rfl rfl rfl (by decide +kernel) ⟨Nat.le_of_ble_eq_true rfl, Nat.le_of_ble_eq_true rfl⟩) (rb_V hK hN hP (va_recv hK hP (ci := 3) (q0 := 0) rfl rfl)) rfl rfl hl.1 rfl (lv_room (Nat.le_of_ble_eq_true rfl)) dX2_isExpelled_7 ⟨Nat.le_of_ble_eq_true rfl, Nat.le_of_ble_eq_true rfl⟩)) (fun r_1 hr_1 => ?_)
  rw [hr_1]
  refine lv_if_eq (tgt := 21) hx hb dX2_isExpelled_10 (by decide) (fun c_2 => ?_) (fun c_2 => ?_)
  · have hix1 := none_ix c_2
    refine lv_aload_n hx hb dX2_isExpelled_21 rfl (lv_at hl 0 rfl) ?_
    refine lv_iconst (v := 1) hx hb dX2_isExpelled_22 (by decide) ?_
    refine va_calli (va_runV (As := [.int 1]) (rest := []) ⟨hx, hb, hml, hown, hts⟩ (c_X2_isNot l D cs M 0 (σ := σ) hap H 1) (cwV 1 hts gX2_isExpelled_X2_isNot rfl rfl rfl (by decide +kernel) ⟨Nat.le_of_ble_eq_true rfl, Nat.le_of_ble_eq_true rfl⟩) (rb_V hK hN ⟨rfl, hP⟩ (va_recv hK hP (ci := 3) (q0 := 0) rfl rfl)) rfl rfl hl.1 rfl (lv_room (Nat.le_of_ble_eq_true rfl)) dX2_isExpelled_23 ⟨Nat.le_of_ble_eq_true rfl, Nat.le_of_ble_eq_true rfl⟩) hS (fun q _ h => md_A hS q h) (fun q h => md_A hS q h) (fun r_3 u t H locs ht hvm hr_3 hB hz1 hk1 hS => ?_)
    rw [ht] at hB
    rw [hr_3]
    have hP : va_P D vwCl (modW cs M 1 σ) H := hB
    exact W.zret (ty := .boolean) (v := 0) hx hb hr rfl (fun t ht hW => ⟨⟨_, (1, σ), rfl, mo_n (rd_n (fun i => b01 (outS σ i)) hix1), by show va_P D vwCl (modW cs M (nI 1) (σ)) t.heap; rw [ht]; exact hP⟩, hS.F ht⟩) hS.2.2 dX2_isExpelled_26
  · obtain ⟨i, hi, rfl, hix1⟩ := some_ix hI c_2
    refine lv_aload_n hx hb dX2_isExpelled_13 rfl (lv_at hl 0 rfl) ?_
    refine lv_iload_n hx hb dX2_isExpelled_14 rfl (lv_at hl 1 rfl) ?_
    refine vp_callSi (va_Run.run (va_runV (As := [.int (nI i)]) (rest := []) ⟨hx, hb, hml, hown, hts⟩ (c_X2_isOut l D cs M 0 hI i hi) (cwV 1 hts gX2_isExpelled_X2_isOut rfl rfl rfl (by decide +kernel) ⟨Nat.le_of_ble_eq_true rfl, Nat.le_of_ble_eq_true rfl⟩) (rb_V hK hN hP (va_recv hK hP (ci := 3) (q0 := 0) rfl rfl)) rfl rfl hl.1 rfl (lv_room (Nat.le_of_ble_eq_true rfl)) dX2_isExpelled_15 ⟨Nat.le_of_ble_eq_true rfl, Nat.le_of_ble_eq_true rfl⟩)) (fun r_4 hr_4 => ?_)
    rw [hr_4]
    refine lv_goto (tgt := 26) hx hb dX2_isExpelled_18 (by decide) ?_
    exact W.zret (ty := .boolean) (v := b01 (outS σ i)) hx hb hr (b01_nar _) (fun t ht hW => ⟨⟨_, (0, σ), rfl, mo_0 (rd_s (fun i => b01 (outS σ i)) hix1), by show va_P D vwCl (modW cs M (nI 0) (σ)) t.heap; rw [ht]; exact hP⟩, hS.F ht⟩) hS.2.2 dX2_isExpelled_26
theorem in_X2_honestShadow_X2 : ∀ w ∈ wsX20, w ∈ wsX2_honestShadow := by decide +kernel
set_option maxHeartbeats 4000000 in
set_option maxRecDepth 100000 in
/-- honestShadow -/
theorem c_X2_honestShadow (l : Launch) (D : va_G) (cs : Cs) (M : Nat × (Nat → Nat)) (th : Int32) {B : Nat} {σ : PS} (hI : InvS B σ) (hap : AptM M) (H0 : Heap) (a b : Int32) : Met l yX2_honestShadow wsX2_honestShadow ({ frames := 4, cells := 0, slots := 0, locals := 87 }) (va_Pc [.ref M.1, .int a, .int b] (RBp D cs (fun X => X = H0 ∧ va_P D vwCl (modW cs M th σ) X))) (va_Qi (fun (r : Int32) (u : Nat × PS) => mO r u (honO σ a b) (σ)) (fun u t => va_P D vwCl (modW cs M (nI u.1) u.2) t.heap) (mdA M H0)) 0 0 (mdA M H0) := by
  refine Met.ofW (cc := cX2_honestShadow) (maxL := 3) (ret := (some .int)) (by decide) rfl ?_
  intro p e s m args below meth c s₁ B0 hml hv
  obtain ⟨rfl, ⟨hH, hP⟩, hK, hN⟩ := hv
  subst hH
  have hx := B0.exec
  have hb := B0.bytes
  have hr := B0.returns
  have hts := atoms_spec (ws := wsX2_honestShadow) B0.pre
  have hown : s.vm.findClass RX2 = some m.cls := findClass_of_methodNamed B0.named
  have hlocks := B0.notSynchronized
  have hS : va_S (mdA M s.heap) s.heap s.heap [] := va_S.rf
  have hl := lv_entry ([.ref M.1, .int a, .int b]) (n := 3) (Nat.le_of_ble_eq_true rfl)
  rw [lg_entry_eq]
  generalize (lg_sl ([.ref M.1, .int a, .int b]) ++ List.replicate (3 - (lg_sl ([.ref M.1, .int a, .int b])).length) Slot.unset).toArray = ls at hl ⊢
  have hl : lv_has ls 3 [(0, .ref M.1), (1, .int a), (2, .int b)] := hl
  refine lv_aload_n hx hb dX2_honestShadow_0 rfl (lv_at hl 0 rfl) ?_
  refine lv_iconst (v := 0) hx hb dX2_honestShadow_1 (by decide) ?_
  refine va_put (D := D) (ci := 3) (v := .int 0) (ty := .int) (C := RX2) (T := TX2) (N := 13) hx hb hts in_X2_honestShadow_X2 tyX2 tyX2_ok nmX2 hown hK hP (mod_D hap (fun q h => Or.inl h)) hS 0 rfl rfl 0 (by decide) (hts (.fieldLink RX2 34 "ShadowSocietyModel" "thrown" "I") (List.mem_of_getElem? (i := 1) (by decide +kernel))) (fun _ h9 => h9) rfl (by decide +kernel) rfl rfl (Nat.le_of_ble_eq_true rfl) dX2_honestShadow_2 (fun H locs hP hD hS => ?_)
  have hP : va_P D vwCl (modW cs M 0 (σ)) H := hP
  refine lv_aload_n hx hb dX2_honestShadow_5 rfl (lv_at hl 0 rfl) ?_
  refine lv_iload_n hx hb dX2_honestShadow_6 rfl (lv_at hl 1 rfl) ?_
  refine vp_callSi (va_Run.run (va_runV (As := [.int a]) (rest := []) ⟨hx, hb, hml, hown, hts⟩ (c_X2_isMember l D cs M 0 hI a) (cwV 1 hts gX2_honestShadow_X2_isMember rfl rfl rfl (by decide +kernel) ⟨Nat.le_of_ble_eq_true rfl, Nat.le_of_ble_eq_true rfl⟩) (rb_V hK hN hP (va_recv hK hP (ci := 3) (q0 := 0) rfl rfl)) rfl rfl hl.1 rfl (lv_room (Nat.le_of_ble_eq_true rfl)) dX2_honestShadow_7 ⟨Nat.le_of_ble_eq_true rfl, Nat.le_of_ble_eq_true rfl⟩)) (fun r_1 hr_1 => ?_)
  rw [hr_1]
  refine lv_if_eq (tgt := 32) hx hb dX2_honestShadow_10 (by decide) (fun c_2 => ?_) (fun c_2 => ?_)
  · have hix1 := none_ix c_2
    refine lv_aload_n hx hb dX2_honestShadow_32 rfl (lv_at hl 0 rfl) ?_
    refine lv_iconst (v := 1) hx hb dX2_honestShadow_33 (by decide) ?_
    refine va_calli (va_runV (As := [.int 1]) (rest := []) ⟨hx, hb, hml, hown, hts⟩ (c_X2_no l D cs M 0 (σ := σ) hap H 1) (cwV 1 hts gX2_honestShadow_X2_no rfl rfl rfl (by decide +kernel) ⟨Nat.le_of_ble_eq_true rfl, Nat.le_of_ble_eq_true rfl⟩) (rb_V hK hN ⟨rfl, hP⟩ (va_recv hK hP (ci := 3) (q0 := 0) rfl rfl)) rfl rfl hl.1 rfl (lv_room (Nat.le_of_ble_eq_true rfl)) dX2_honestShadow_34 ⟨Nat.le_of_ble_eq_true rfl, Nat.le_of_ble_eq_true rfl⟩) hS (fun q _ h => md_A hS q h) (fun q h => md_A hS q h) (fun r_3 u t H locs ht hvm hr_3 hB hz1 hk1 hS => ?_)
    rw [ht] at hB
    rw [hr_3]
    have hP : va_P D vwCl (modW cs M 1 σ) H := hB
    exact W.iret (v := 0) hx hb hr (fun t ht hW => ⟨⟨_, (1, σ), rfl, mo_n (n := 0) (v := 0) (by unfold honO; rw [hix1]), by show va_P D vwCl (modW cs M (nI 1) (σ)) t.heap; rw [ht]; exact hP⟩, hS.F ht⟩) hS.2.2 dX2_honestShadow_37
  · obtain ⟨i, hi, rfl, hix1⟩ := some_ix hI c_2
    refine lv_iload_n hx hb dX2_honestShadow_13 rfl (lv_at hl 2 rfl) ?_
    refine lv_iconst (v := 0) hx hb dX2_honestShadow_14 (by decide) ?_
    refine lv_bipush (v := 23) hx hb dX2_honestShadow_15 (by decide) ?_
    refine vp_callSi (va_Run.run (va_runS (As := [.int b, .int 0, .int 23]) (rest := []) ⟨hx, hb, hml, hown, hts⟩ (c_X2_isIn l D cs b 0 23) (va_cwS 3 hts gX2_honestShadow_X2_isIn rfl rfl rfl (by decide +kernel) ⟨Nat.le_of_ble_eq_true rfl, Nat.le_of_ble_eq_true rfl⟩) (rb_S hK hN trivial) rfl rfl hl.1 rfl (lv_room (Nat.le_of_ble_eq_true rfl)) dX2_honestShadow_17 ⟨Nat.le_of_ble_eq_true rfl, Nat.le_of_ble_eq_true rfl⟩)) (fun r_4 hr_4 => ?_)
    rw [hr_4]
    refine lv_if_eq (tgt := 32) hx hb dX2_honestShadow_20 (by decide) (fun c_5 => ?_) (fun c_5 => ?_)
    · refine lv_aload_n hx hb dX2_honestShadow_32 rfl (lv_at hl 0 rfl) ?_
      refine lv_iconst (v := 1) hx hb dX2_honestShadow_33 (by decide) ?_
      refine va_calli (va_runV (As := [.int 1]) (rest := []) ⟨hx, hb, hml, hown, hts⟩ (c_X2_no l D cs M 0 (σ := σ) hap H 1) (cwV 1 hts gX2_honestShadow_X2_no rfl rfl rfl (by decide +kernel) ⟨Nat.le_of_ble_eq_true rfl, Nat.le_of_ble_eq_true rfl⟩) (rb_V hK hN ⟨rfl, hP⟩ (va_recv hK hP (ci := 3) (q0 := 0) rfl rfl)) rfl rfl hl.1 rfl (lv_room (Nat.le_of_ble_eq_true rfl)) dX2_honestShadow_34 ⟨Nat.le_of_ble_eq_true rfl, Nat.le_of_ble_eq_true rfl⟩) hS (fun q _ h => md_A hS q h) (fun q h => md_A hS q h) (fun r_6 u t H locs ht hvm hr_6 hB hz1 hk1 hS => ?_)
      rw [ht] at hB
      rw [hr_6]
      have hP : va_P D vwCl (modW cs M 1 σ) H := hB
      exact W.iret (v := 0) hx hb hr (fun t ht hW => ⟨⟨_, (1, σ), rfl, mo_n (n := 0) (v := 0) (by unfold honO; rw [hix1]; exact hon_f c_5), by show va_P D vwCl (modW cs M (nI 1) (σ)) t.heap; rw [ht]; exact hP⟩, hS.F ht⟩) hS.2.2 dX2_honestShadow_37
    · refine lv_aload_n hx hb dX2_honestShadow_23 rfl (lv_at hl 0 rfl) ?_
      refine lv_iload_n hx hb dX2_honestShadow_24 rfl (lv_at hl 1 rfl) ?_
      refine lv_iload_n hx hb dX2_honestShadow_25 rfl (lv_at hl 2 rfl) ?_
      refine vp_callSi (va_Run.run (va_runV (As := [.int (nI i), .int b]) (rest := []) ⟨hx, hb, hml, hown, hts⟩ (c_X2_honest l D cs M 0 hI i hi b) (cwV 2 hts gX2_honestShadow_X2_honest rfl rfl rfl (by decide +kernel) ⟨Nat.le_of_ble_eq_true rfl, Nat.le_of_ble_eq_true rfl⟩) (rb_V hK hN hP (va_recv hK hP (ci := 3) (q0 := 0) rfl rfl)) rfl rfl hl.1 rfl (lv_room (Nat.le_of_ble_eq_true rfl)) dX2_honestShadow_26 ⟨Nat.le_of_ble_eq_true rfl, Nat.le_of_ble_eq_true rfl⟩)) (fun r_7 hr_7 => ?_)
      rw [hr_7]
      refine lv_goto (tgt := 37) hx hb dX2_honestShadow_29 (by decide) ?_
      exact W.iret (v := honsS σ i b) hx hb hr (fun t ht hW => ⟨⟨_, (0, σ), rfl, mo_0 (by unfold honO; rw [hix1]; exact hon_t c_5), by show va_P D vwCl (modW cs M (nI 0) (σ)) t.heap; rw [ht]; exact hP⟩, hS.F ht⟩) hS.2.2 dX2_honestShadow_37
theorem in_X2_isHonest_X2 : ∀ w ∈ wsX20, w ∈ wsX2_isHonest := by decide +kernel
set_option maxHeartbeats 4000000 in
set_option maxRecDepth 100000 in
/-- isHonest -/
theorem c_X2_isHonest (l : Launch) (D : va_G) (cs : Cs) (M : Nat × (Nat → Nat)) (th : Int32) {B : Nat} {σ : PS} (hI : InvS B σ) (hap : AptM M) (H0 : Heap) (a : Int32) : Met l yX2_isHonest wsX2_isHonest ({ frames := 5, cells := 0, slots := 0, locals := 108 }) (va_Pc [.ref M.1, .int a] (RBp D cs (fun X => X = H0 ∧ va_P D vwCl (modW cs M th σ) X))) (va_Qi (fun (r : Int32) (u : Nat × PS) => mO r u (isHO σ a) (σ)) (fun u t => va_P D vwCl (modW cs M (nI u.1) u.2) t.heap) (mdA M H0)) 0 0 (mdA M H0) := by
  refine Met.ofW (cc := cX2_isHonest) (maxL := 2) (ret := (some .boolean)) (by decide) rfl ?_
  intro p e s m args below meth c s₁ B0 hml hv
  obtain ⟨rfl, ⟨hH, hP⟩, hK, hN⟩ := hv
  subst hH
  have hx := B0.exec
  have hb := B0.bytes
  have hr := B0.returns
  have hts := atoms_spec (ws := wsX2_isHonest) B0.pre
  have hown : s.vm.findClass RX2 = some m.cls := findClass_of_methodNamed B0.named
  have hlocks := B0.notSynchronized
  have hS : va_S (mdA M s.heap) s.heap s.heap [] := va_S.rf
  have hl := lv_entry ([.ref M.1, .int a]) (n := 2) (Nat.le_of_ble_eq_true rfl)
  rw [lg_entry_eq]
  generalize (lg_sl ([.ref M.1, .int a]) ++ List.replicate (2 - (lg_sl ([.ref M.1, .int a])).length) Slot.unset).toArray = ls at hl ⊢
  have hl : lv_has ls 2 [(0, .ref M.1), (1, .int a)] := hl
  refine lv_aload_n hx hb dX2_isHonest_0 rfl (lv_at hl 0 rfl) ?_
  refine lv_iconst (v := 0) hx hb dX2_isHonest_1 (by decide) ?_
  refine va_put (D := D) (ci := 3) (v := .int 0) (ty := .int) (C := RX2) (T := TX2) (N := 13) hx hb hts in_X2_isHonest_X2 tyX2 tyX2_ok nmX2 hown hK hP (mod_D hap (fun q h => Or.inl h)) hS 0 rfl rfl 0 (by decide) (hts (.fieldLink RX2 34 "ShadowSocietyModel" "thrown" "I") (List.mem_of_getElem? (i := 1) (by decide +kernel))) (fun _ h9 => h9) rfl (by decide +kernel) rfl rfl (Nat.le_of_ble_eq_true rfl) dX2_isHonest_2 (fun H locs hP hD hS => ?_)
  have hP : va_P D vwCl (modW cs M 0 (σ)) H := hP
  refine lv_aload_n hx hb dX2_isHonest_5 rfl (lv_at hl 0 rfl) ?_
  refine lv_iload_n hx hb dX2_isHonest_6 rfl (lv_at hl 1 rfl) ?_
  refine vp_callSi (va_Run.run (va_runV (As := [.int a]) (rest := []) ⟨hx, hb, hml, hown, hts⟩ (c_X2_isMember l D cs M 0 hI a) (cwV 1 hts gX2_isHonest_X2_isMember rfl rfl rfl (by decide +kernel) ⟨Nat.le_of_ble_eq_true rfl, Nat.le_of_ble_eq_true rfl⟩) (rb_V hK hN hP (va_recv hK hP (ci := 3) (q0 := 0) rfl rfl)) rfl rfl hl.1 rfl (lv_room (Nat.le_of_ble_eq_true rfl)) dX2_isHonest_7 ⟨Nat.le_of_ble_eq_true rfl, Nat.le_of_ble_eq_true rfl⟩)) (fun r_1 hr_1 => ?_)
  rw [hr_1]
  refine lv_if_ne (tgt := 19) hx hb dX2_isHonest_10 (by decide) (fun c_2 => ?_) (fun c_2 => ?_)
  · obtain ⟨i, hi, rfl, hix1⟩ := some_ix hI c_2
    refine lv_aload_n hx hb dX2_isHonest_19 rfl (lv_at hl 0 rfl) ?_
    refine va_get (D := D) (ci := 3) (v := .ref (M.2 5)) (C := RX2) (T := TX2) (N := 13) hx hb hts in_X2_isHonest_X2 hown hK hP 0 rfl rfl 10 (by decide) (hts (.fieldLink RX2 25 "ShadowSocietyModel" "length" "[I") (List.mem_of_getElem? (i := 2) (by decide +kernel))) (fun _ h9 => h9) rfl dX2_isHonest_20 ?_
    refine lv_iload_n hx hb dX2_isHonest_23 rfl (lv_at hl 1 rfl) ?_
    refine va_iald hx hb hK hP 6 0 rfl rfl (vp_in_nI (by have := hI.1; omega) (by decide)) dX2_isHonest_24 ?_
    rw [show (nI i).toNatClampNeg = i from nI_clamp (by have := hI.1; omega)]
    refine lv_iconst (v := (-1)) hx hb dX2_isHonest_25 (by decide) ?_
    refine lv_icmp_ne (tgt := 37) hx hb dX2_isHonest_26 (by decide) (fun c_3 => ?_) (fun c_3 => ?_)
    · refine lv_aload_n hx hb dX2_isHonest_37 rfl (lv_at hl 0 rfl) ?_
      refine lv_iload_n hx hb dX2_isHonest_38 rfl (lv_at hl 1 rfl) ?_
      refine vp_callSi (va_Run.run (va_runV (As := [.int (nI i)]) (rest := []) ⟨hx, hb, hml, hown, hts⟩ (c_X2_isTrue l D cs M 0 hI i hi) (cwV 1 hts gX2_isHonest_X2_isTrue rfl rfl rfl (by decide +kernel) ⟨Nat.le_of_ble_eq_true rfl, Nat.le_of_ble_eq_true rfl⟩) (rb_V hK hN hP (va_recv hK hP (ci := 3) (q0 := 0) rfl rfl)) rfl rfl hl.1 rfl (lv_room (Nat.le_of_ble_eq_true rfl)) dX2_isHonest_39 ⟨Nat.le_of_ble_eq_true rfl, Nat.le_of_ble_eq_true rfl⟩)) (fun r_4 hr_4 => ?_)
      rw [hr_4]
      exact W.zret (ty := .boolean) (v := b01 (truC σ i)) hx hb hr (b01_nar _) (fun t ht hW => ⟨⟨_, (0, σ), rfl, mo_0 (by unfold isHO; rw [hix1]; dsimp only; rw [if_pos c_3, show b01 (hasC σ i ∧ truC σ i) = b01 (truC σ i) from b01_and c_3]), by show va_P D vwCl (modW cs M (nI 0) (σ)) t.heap; rw [ht]; exact hP⟩, hS.F ht⟩) hS.2.2 dX2_isHonest_42
    · refine lv_aload_n hx hb dX2_isHonest_29 rfl (lv_at hl 0 rfl) ?_
      refine lv_iconst (v := 2) hx hb dX2_isHonest_30 (by decide) ?_
      refine va_calli (va_runV (As := [.int 2]) (rest := []) ⟨hx, hb, hml, hown, hts⟩ (c_X2_isNot l D cs M 0 (σ := σ) hap H 2) (cwV 1 hts gX2_isHonest_X2_isNot rfl rfl rfl (by decide +kernel) ⟨Nat.le_of_ble_eq_true rfl, Nat.le_of_ble_eq_true rfl⟩) (rb_V hK hN ⟨rfl, hP⟩ (va_recv hK hP (ci := 3) (q0 := 0) rfl rfl)) rfl rfl hl.1 rfl (lv_room (Nat.le_of_ble_eq_true rfl)) dX2_isHonest_31 ⟨Nat.le_of_ble_eq_true rfl, Nat.le_of_ble_eq_true rfl⟩) hS (fun q _ h => md_A hS q h) (fun q h => md_A hS q h) (fun r_5 u t H locs ht hvm hr_5 hB hz1 hk1 hS => ?_)
      rw [ht] at hB
      rw [hr_5]
      have hP : va_P D vwCl (modW cs M 2 σ) H := hB
      refine lv_goto (tgt := 42) hx hb dX2_isHonest_34 (by decide) ?_
      exact W.zret (ty := .boolean) (v := 0) hx hb hr rfl (fun t ht hW => ⟨⟨_, (2, σ), rfl, mo_n (n := 1) (v := 0) (by unfold isHO; rw [hix1]; dsimp only; rw [if_neg (fun q => q c_3)]), by show va_P D vwCl (modW cs M (nI 2) (σ)) t.heap; rw [ht]; exact hP⟩, hS.F ht⟩) hS.2.2 dX2_isHonest_42
  · have hix1 := none_ix c_2
    refine lv_aload_n hx hb dX2_isHonest_13 rfl (lv_at hl 0 rfl) ?_
    refine lv_iconst (v := 1) hx hb dX2_isHonest_14 (by decide) ?_
    refine va_calli (va_runV (As := [.int 1]) (rest := []) ⟨hx, hb, hml, hown, hts⟩ (c_X2_isNot l D cs M 0 (σ := σ) hap H 1) (cwV 1 hts gX2_isHonest_X2_isNot rfl rfl rfl (by decide +kernel) ⟨Nat.le_of_ble_eq_true rfl, Nat.le_of_ble_eq_true rfl⟩) (rb_V hK hN ⟨rfl, hP⟩ (va_recv hK hP (ci := 3) (q0 := 0) rfl rfl)) rfl rfl hl.1 rfl (lv_room (Nat.le_of_ble_eq_true rfl)) dX2_isHonest_15 ⟨Nat.le_of_ble_eq_true rfl, Nat.le_of_ble_eq_true rfl⟩) hS (fun q _ h => md_A hS q h) (fun q h => md_A hS q h) (fun r_6 u t H locs ht hvm hr_6 hB hz1 hk1 hS => ?_)
    rw [ht] at hB
    rw [hr_6]
    have hP : va_P D vwCl (modW cs M 1 σ) H := hB
    exact W.zret (ty := .boolean) (v := 0) hx hb hr rfl (fun t ht hW => ⟨⟨_, (1, σ), rfl, mo_n (n := 0) (v := 0) (by unfold isHO; rw [hix1]), by show va_P D vwCl (modW cs M (nI 1) (σ)) t.heap; rw [ht]; exact hP⟩, hS.F ht⟩) hS.2.2 dX2_isHonest_18
theorem in_X2_members_X2 : ∀ w ∈ wsX20, w ∈ wsX2_members := by decide +kernel
set_option maxHeartbeats 4000000 in
set_option maxRecDepth 100000 in
/-- members -/
theorem c_X2_members (l : Launch) (D : va_G) (cs : Cs) (M : Nat × (Nat → Nat)) (th : Int32) {B : Nat} {σ : PS} (hI : InvS B σ) (hap : AptM M) (H0 : Heap)  : Met l yX2_members wsX2_members ({ frames := 1, cells := 0, slots := 0, locals := 21 }) (va_Pc [.ref M.1] (RBp D cs (fun X => X = H0 ∧ va_P D vwCl (modW cs M th σ) X))) (va_Qi (fun (r : Int32) (u : Nat × PS) => mO r u (((0, nI (sK σ)) : Nat × Int32)) (σ)) (fun u t => va_P D vwCl (modW cs M (nI u.1) u.2) t.heap) (mdA M H0)) 0 0 (mdA M H0) := by
  refine Met.ofW (cc := cX2_members) (maxL := 1) (ret := (some .int)) (by decide) rfl ?_
  intro p e s m args below meth c s₁ B0 hml hv
  obtain ⟨rfl, ⟨hH, hP⟩, hK, hN⟩ := hv
  subst hH
  have hx := B0.exec
  have hb := B0.bytes
  have hr := B0.returns
  have hts := atoms_spec (ws := wsX2_members) B0.pre
  have hown : s.vm.findClass RX2 = some m.cls := findClass_of_methodNamed B0.named
  have hlocks := B0.notSynchronized
  have hS : va_S (mdA M s.heap) s.heap s.heap [] := va_S.rf
  have hl := lv_entry ([.ref M.1]) (n := 1) (Nat.le_of_ble_eq_true rfl)
  rw [lg_entry_eq]
  generalize (lg_sl ([.ref M.1]) ++ List.replicate (1 - (lg_sl ([.ref M.1])).length) Slot.unset).toArray = ls at hl ⊢
  have hl : lv_has ls 1 [(0, .ref M.1)] := hl
  refine lv_aload_n hx hb dX2_members_0 rfl (lv_at hl 0 rfl) ?_
  refine lv_aload_n hx hb dX2_members_1 rfl (lv_at hl 0 rfl) ?_
  refine va_get (D := D) (ci := 3) (v := .int (nI (sK σ))) (C := RX2) (T := TX2) (N := 13) hx hb hts in_X2_members_X2 hown hK hP 0 rfl rfl 1 (by decide) (hts (.fieldLink RX2 38 "ShadowSocietyModel" "members" "I") (List.mem_of_getElem? (i := 1) (by decide +kernel))) (fun _ h9 => h9) rfl dX2_members_2 ?_
  refine va_calli (va_runV (As := [.int (nI (sK σ))]) (rest := []) ⟨hx, hb, hml, hown, hts⟩ (c_X2_ok l D cs M th (σ := σ) hap s.heap (nI (sK σ))) (cwV 1 hts gX2_members_X2_ok rfl rfl rfl (by decide +kernel) ⟨Nat.le_of_ble_eq_true rfl, Nat.le_of_ble_eq_true rfl⟩) (rb_V hK hN ⟨rfl, hP⟩ (va_recv hK hP (ci := 3) (q0 := 0) rfl rfl)) rfl rfl hl.1 rfl (lv_room (Nat.le_of_ble_eq_true rfl)) dX2_members_5 ⟨Nat.le_of_ble_eq_true rfl, Nat.le_of_ble_eq_true rfl⟩) hS (fun q _ h => md_A hS q h) (fun q h => md_A hS q h) (fun r_1 u t H locs ht hvm hr_1 hB hz1 hk1 hS => ?_)
  rw [ht] at hB
  rw [hr_1]
  have hP : va_P D vwCl (modW cs M 0 σ) H := hB
  exact W.iret (v := nI (sK σ)) hx hb hr (fun t ht hW => ⟨⟨_, (0, σ), rfl, mo_0 (rfl), by show va_P D vwCl (modW cs M (nI 0) (σ)) t.heap; rw [ht]; exact hP⟩, hS.F ht⟩) hS.2.2 dX2_members_8
theorem in_X2_hour_X2 : ∀ w ∈ wsX20, w ∈ wsX2_hour := by decide +kernel
set_option maxHeartbeats 4000000 in
set_option maxRecDepth 100000 in
/-- hour -/
theorem c_X2_hour (l : Launch) (D : va_G) (cs : Cs) (M : Nat × (Nat → Nat)) (th : Int32) {B : Nat} {σ : PS} (hI : InvS B σ) (hap : AptM M) (H0 : Heap)  : Met l yX2_hour wsX2_hour ({ frames := 1, cells := 0, slots := 0, locals := 21 }) (va_Pc [.ref M.1] (RBp D cs (fun X => X = H0 ∧ va_P D vwCl (modW cs M th σ) X))) (va_Qi (fun (r : Int32) (u : Nat × PS) => mO r u (((0, sHr σ) : Nat × Int32)) (σ)) (fun u t => va_P D vwCl (modW cs M (nI u.1) u.2) t.heap) (mdA M H0)) 0 0 (mdA M H0) := by
  refine Met.ofW (cc := cX2_hour) (maxL := 1) (ret := (some .int)) (by decide) rfl ?_
  intro p e s m args below meth c s₁ B0 hml hv
  obtain ⟨rfl, ⟨hH, hP⟩, hK, hN⟩ := hv
  subst hH
  have hx := B0.exec
  have hb := B0.bytes
  have hr := B0.returns
  have hts := atoms_spec (ws := wsX2_hour) B0.pre
  have hown : s.vm.findClass RX2 = some m.cls := findClass_of_methodNamed B0.named
  have hlocks := B0.notSynchronized
  have hS : va_S (mdA M s.heap) s.heap s.heap [] := va_S.rf
  have hl := lv_entry ([.ref M.1]) (n := 1) (Nat.le_of_ble_eq_true rfl)
  rw [lg_entry_eq]
  generalize (lg_sl ([.ref M.1]) ++ List.replicate (1 - (lg_sl ([.ref M.1])).length) Slot.unset).toArray = ls at hl ⊢
  have hl : lv_has ls 1 [(0, .ref M.1)] := hl
  refine lv_aload_n hx hb dX2_hour_0 rfl (lv_at hl 0 rfl) ?_
  refine lv_aload_n hx hb dX2_hour_1 rfl (lv_at hl 0 rfl) ?_
  refine va_get (D := D) (ci := 3) (v := .int (sHr σ)) (C := RX2) (T := TX2) (N := 13) hx hb hts in_X2_hour_X2 hown hK hP 0 rfl rfl 2 (by decide) (hts (.fieldLink RX2 45 "ShadowSocietyModel" "hour" "I") (List.mem_of_getElem? (i := 1) (by decide +kernel))) (fun _ h9 => h9) rfl dX2_hour_2 ?_
  refine va_calli (va_runV (As := [.int (sHr σ)]) (rest := []) ⟨hx, hb, hml, hown, hts⟩ (c_X2_ok l D cs M th (σ := σ) hap s.heap (sHr σ)) (cwV 1 hts gX2_hour_X2_ok rfl rfl rfl (by decide +kernel) ⟨Nat.le_of_ble_eq_true rfl, Nat.le_of_ble_eq_true rfl⟩) (rb_V hK hN ⟨rfl, hP⟩ (va_recv hK hP (ci := 3) (q0 := 0) rfl rfl)) rfl rfl hl.1 rfl (lv_room (Nat.le_of_ble_eq_true rfl)) dX2_hour_5 ⟨Nat.le_of_ble_eq_true rfl, Nat.le_of_ble_eq_true rfl⟩) hS (fun q _ h => md_A hS q h) (fun q h => md_A hS q h) (fun r_1 u t H locs ht hvm hr_1 hB hz1 hk1 hS => ?_)
  rw [ht] at hB
  rw [hr_1]
  have hP : va_P D vwCl (modW cs M 0 σ) H := hB
  exact W.iret (v := sHr σ) hx hb hr (fun t ht hW => ⟨⟨_, (0, σ), rfl, mo_0 (rfl), by show va_P D vwCl (modW cs M (nI 0) (σ)) t.heap; rw [ht]; exact hP⟩, hS.F ht⟩) hS.2.2 dX2_hour_8
set_option maxHeartbeats 4000000 in
set_option maxRecDepth 100000 in
/-- hourOfDay -/
theorem c_X2_hourOfDay (l : Launch) (D : va_G) (cs : Cs) (M : Nat × (Nat → Nat)) (th : Int32) {B : Nat} {σ : PS} (hI : InvS B σ) (hap : AptM M) (H0 : Heap)  : Met l yX2_hourOfDay wsX2_hourOfDay ({ frames := 1, cells := 0, slots := 0, locals := 21 }) (va_Pc [.ref M.1] (RBp D cs (fun X => X = H0 ∧ va_P D vwCl (modW cs M th σ) X))) (va_Qi (fun (r : Int32) (u : Nat × PS) => mO r u (((0, dayOf σ) : Nat × Int32)) (σ)) (fun u t => va_P D vwCl (modW cs M (nI u.1) u.2) t.heap) (mdA M H0)) 0 0 (mdA M H0) := by
  refine Met.ofW (cc := cX2_hourOfDay) (maxL := 1) (ret := (some .int)) (by decide) rfl ?_
  intro p e s m args below meth c s₁ B0 hml hv
  obtain ⟨rfl, ⟨hH, hP⟩, hK, hN⟩ := hv
  subst hH
  have hx := B0.exec
  have hb := B0.bytes
  have hr := B0.returns
  have hts := atoms_spec (ws := wsX2_hourOfDay) B0.pre
  have hown : s.vm.findClass RX2 = some m.cls := findClass_of_methodNamed B0.named
  have hlocks := B0.notSynchronized
  have hS : va_S (mdA M s.heap) s.heap s.heap [] := va_S.rf
  have hl := lv_entry ([.ref M.1]) (n := 1) (Nat.le_of_ble_eq_true rfl)
  rw [lg_entry_eq]
  generalize (lg_sl ([.ref M.1]) ++ List.replicate (1 - (lg_sl ([.ref M.1])).length) Slot.unset).toArray = ls at hl ⊢
  have hl : lv_has ls 1 [(0, .ref M.1)] := hl
  refine lv_aload_n hx hb dX2_hourOfDay_0 rfl (lv_at hl 0 rfl) ?_
  refine lv_aload_n hx hb dX2_hourOfDay_1 rfl (lv_at hl 0 rfl) ?_
  refine vp_callSi (va_Run.run (va_runV (As := []) (rest := [.ref M.1]) ⟨hx, hb, hml, hown, hts⟩ (c_X2_ofDay l D cs M th hI) (cwV 0 hts gX2_hourOfDay_X2_ofDay rfl rfl rfl (by decide +kernel) ⟨Nat.le_of_ble_eq_true rfl, Nat.le_of_ble_eq_true rfl⟩) (rb_V hK hN hP (va_recv hK hP (ci := 3) (q0 := 0) rfl rfl)) rfl rfl hl.1 rfl (lv_room (Nat.le_of_ble_eq_true rfl)) dX2_hourOfDay_2 ⟨Nat.le_of_ble_eq_true rfl, Nat.le_of_ble_eq_true rfl⟩)) (fun r_1 hr_1 => ?_)
  rw [hr_1]
  refine va_calli (va_runV (As := [.int (dayOf σ)]) (rest := []) ⟨hx, hb, hml, hown, hts⟩ (c_X2_ok l D cs M th (σ := σ) hap s.heap (dayOf σ)) (cwV 1 hts gX2_hourOfDay_X2_ok rfl rfl rfl (by decide +kernel) ⟨Nat.le_of_ble_eq_true rfl, Nat.le_of_ble_eq_true rfl⟩) (rb_V hK hN ⟨rfl, hP⟩ (va_recv hK hP (ci := 3) (q0 := 0) rfl rfl)) rfl rfl hl.1 rfl (lv_room (Nat.le_of_ble_eq_true rfl)) dX2_hourOfDay_5 ⟨Nat.le_of_ble_eq_true rfl, Nat.le_of_ble_eq_true rfl⟩) hS (fun q _ h => md_A hS q h) (fun q h => md_A hS q h) (fun r_2 u t H locs ht hvm hr_2 hB hz1 hk1 hS => ?_)
  rw [ht] at hB
  rw [hr_2]
  have hP : va_P D vwCl (modW cs M 0 σ) H := hB
  exact W.iret (v := dayOf σ) hx hb hr (fun t ht hW => ⟨⟨_, (0, σ), rfl, mo_0 (rfl), by show va_P D vwCl (modW cs M (nI 0) (σ)) t.heap; rw [ht]; exact hP⟩, hS.F ht⟩) hS.2.2 dX2_hourOfDay_8
theorem in_X2_seized_X2 : ∀ w ∈ wsX20, w ∈ wsX2_seized := by decide +kernel
set_option maxHeartbeats 4000000 in
set_option maxRecDepth 100000 in
/-- seized -/
theorem c_X2_seized (l : Launch) (D : va_G) (cs : Cs) (M : Nat × (Nat → Nat)) (th : Int32) {B : Nat} {σ : PS} (hI : InvS B σ) (hap : AptM M) (H0 : Heap)  : Met l yX2_seized wsX2_seized ({ frames := 1, cells := 0, slots := 0, locals := 21 }) (va_Pc [.ref M.1] (RBp D cs (fun X => X = H0 ∧ va_P D vwCl (modW cs M th σ) X))) (va_Qi (fun (r : Int32) (u : Nat × PS) => mO r u (((0, sSz σ) : Nat × Int32)) (σ)) (fun u t => va_P D vwCl (modW cs M (nI u.1) u.2) t.heap) (mdA M H0)) 0 0 (mdA M H0) := by
  refine Met.ofW (cc := cX2_seized) (maxL := 1) (ret := (some .int)) (by decide) rfl ?_
  intro p e s m args below meth c s₁ B0 hml hv
  obtain ⟨rfl, ⟨hH, hP⟩, hK, hN⟩ := hv
  subst hH
  have hx := B0.exec
  have hb := B0.bytes
  have hr := B0.returns
  have hts := atoms_spec (ws := wsX2_seized) B0.pre
  have hown : s.vm.findClass RX2 = some m.cls := findClass_of_methodNamed B0.named
  have hlocks := B0.notSynchronized
  have hS : va_S (mdA M s.heap) s.heap s.heap [] := va_S.rf
  have hl := lv_entry ([.ref M.1]) (n := 1) (Nat.le_of_ble_eq_true rfl)
  rw [lg_entry_eq]
  generalize (lg_sl ([.ref M.1]) ++ List.replicate (1 - (lg_sl ([.ref M.1])).length) Slot.unset).toArray = ls at hl ⊢
  have hl : lv_has ls 1 [(0, .ref M.1)] := hl
  refine lv_aload_n hx hb dX2_seized_0 rfl (lv_at hl 0 rfl) ?_
  refine lv_aload_n hx hb dX2_seized_1 rfl (lv_at hl 0 rfl) ?_
  refine va_get (D := D) (ci := 3) (v := .int (sSz σ)) (C := RX2) (T := TX2) (N := 13) hx hb hts in_X2_seized_X2 hown hK hP 0 rfl rfl 3 (by decide) (hts (.fieldLink RX2 79 "ShadowSocietyModel" "seized" "I") (List.mem_of_getElem? (i := 1) (by decide +kernel))) (fun _ h9 => h9) rfl dX2_seized_2 ?_
  refine va_calli (va_runV (As := [.int (sSz σ)]) (rest := []) ⟨hx, hb, hml, hown, hts⟩ (c_X2_ok l D cs M th (σ := σ) hap s.heap (sSz σ)) (cwV 1 hts gX2_seized_X2_ok rfl rfl rfl (by decide +kernel) ⟨Nat.le_of_ble_eq_true rfl, Nat.le_of_ble_eq_true rfl⟩) (rb_V hK hN ⟨rfl, hP⟩ (va_recv hK hP (ci := 3) (q0 := 0) rfl rfl)) rfl rfl hl.1 rfl (lv_room (Nat.le_of_ble_eq_true rfl)) dX2_seized_5 ⟨Nat.le_of_ble_eq_true rfl, Nat.le_of_ble_eq_true rfl⟩) hS (fun q _ h => md_A hS q h) (fun q h => md_A hS q h) (fun r_1 u t H locs ht hvm hr_1 hB hz1 hk1 hS => ?_)
  rw [ht] at hB
  rw [hr_1]
  have hP : va_P D vwCl (modW cs M 0 σ) H := hB
  exact W.iret (v := sSz σ) hx hb hr (fun t ht hW => ⟨⟨_, (0, σ), rfl, mo_0 (rfl), by show va_P D vwCl (modW cs M (nI 0) (σ)) t.heap; rw [ht]; exact hP⟩, hS.F ht⟩) hS.2.2 dX2_seized_8
theorem in_X2_revoked_X2 : ∀ w ∈ wsX20, w ∈ wsX2_revoked := by decide +kernel
set_option maxHeartbeats 4000000 in
set_option maxRecDepth 100000 in
/-- revoked -/
theorem c_X2_revoked (l : Launch) (D : va_G) (cs : Cs) (M : Nat × (Nat → Nat)) (th : Int32) {B : Nat} {σ : PS} (hI : InvS B σ) (hap : AptM M) (H0 : Heap)  : Met l yX2_revoked wsX2_revoked ({ frames := 1, cells := 0, slots := 0, locals := 21 }) (va_Pc [.ref M.1] (RBp D cs (fun X => X = H0 ∧ va_P D vwCl (modW cs M th σ) X))) (va_Qi (fun (r : Int32) (u : Nat × PS) => mO r u (((0, sRv σ) : Nat × Int32)) (σ)) (fun u t => va_P D vwCl (modW cs M (nI u.1) u.2) t.heap) (mdA M H0)) 0 0 (mdA M H0) := by
  refine Met.ofW (cc := cX2_revoked) (maxL := 1) (ret := (some .int)) (by decide) rfl ?_
  intro p e s m args below meth c s₁ B0 hml hv
  obtain ⟨rfl, ⟨hH, hP⟩, hK, hN⟩ := hv
  subst hH
  have hx := B0.exec
  have hb := B0.bytes
  have hr := B0.returns
  have hts := atoms_spec (ws := wsX2_revoked) B0.pre
  have hown : s.vm.findClass RX2 = some m.cls := findClass_of_methodNamed B0.named
  have hlocks := B0.notSynchronized
  have hS : va_S (mdA M s.heap) s.heap s.heap [] := va_S.rf
  have hl := lv_entry ([.ref M.1]) (n := 1) (Nat.le_of_ble_eq_true rfl)
  rw [lg_entry_eq]
  generalize (lg_sl ([.ref M.1]) ++ List.replicate (1 - (lg_sl ([.ref M.1])).length) Slot.unset).toArray = ls at hl ⊢
  have hl : lv_has ls 1 [(0, .ref M.1)] := hl
  refine lv_aload_n hx hb dX2_revoked_0 rfl (lv_at hl 0 rfl) ?_
  refine lv_aload_n hx hb dX2_revoked_1 rfl (lv_at hl 0 rfl) ?_
  refine va_get (D := D) (ci := 3) (v := .int (sRv σ)) (C := RX2) (T := TX2) (N := 13) hx hb hts in_X2_revoked_X2 hown hK hP 0 rfl rfl 4 (by decide) (hts (.fieldLink RX2 85 "ShadowSocietyModel" "revoked" "I") (List.mem_of_getElem? (i := 1) (by decide +kernel))) (fun _ h9 => h9) rfl dX2_revoked_2 ?_
  refine va_calli (va_runV (As := [.int (sRv σ)]) (rest := []) ⟨hx, hb, hml, hown, hts⟩ (c_X2_ok l D cs M th (σ := σ) hap s.heap (sRv σ)) (cwV 1 hts gX2_revoked_X2_ok rfl rfl rfl (by decide +kernel) ⟨Nat.le_of_ble_eq_true rfl, Nat.le_of_ble_eq_true rfl⟩) (rb_V hK hN ⟨rfl, hP⟩ (va_recv hK hP (ci := 3) (q0 := 0) rfl rfl)) rfl rfl hl.1 rfl (lv_room (Nat.le_of_ble_eq_true rfl)) dX2_revoked_5 ⟨Nat.le_of_ble_eq_true rfl, Nat.le_of_ble_eq_true rfl⟩) hS (fun q _ h => md_A hS q h) (fun q h => md_A hS q h) (fun r_1 u t H locs ht hvm hr_1 hB hz1 hk1 hS => ?_)
  rw [ht] at hB
  rw [hr_1]
  have hP : va_P D vwCl (modW cs M 0 σ) H := hB
  exact W.iret (v := sRv σ) hx hb hr (fun t ht hW => ⟨⟨_, (0, σ), rfl, mo_0 (rfl), by show va_P D vwCl (modW cs M (nI 0) (σ)) t.heap; rw [ht]; exact hP⟩, hS.F ht⟩) hS.2.2 dX2_revoked_8
set_option maxHeartbeats 4000000 in
set_option maxRecDepth 100000 in
/-- certificates_ -/
theorem c_X2_certificates_ (l : Launch) (D : va_G) (cs : Cs) (M : Nat × (Nat → Nat)) (th : Int32) {B : Nat} {σ : PS} (hI : InvS B σ) (hap : AptM M) (H0 : Heap)  : Met l yX2_certificates_ wsX2_certificates_ ({ frames := 6, cells := 0, slots := 0, locals := 131 }) (va_Pc [.ref M.1] (RBp D cs (fun X => X = H0 ∧ va_P D vwCl (modW cs M th σ) X))) (va_Qi (fun (r : Int32) (u : Nat × PS) => mO r u (((0, certsS σ) : Nat × Int32)) (σ)) (fun u t => va_P D vwCl (modW cs M (nI u.1) u.2) t.heap) (mdA M H0)) 0 0 (mdA M H0) := by
  refine Met.ofW (cc := cX2_certificates_) (maxL := 1) (ret := (some .int)) (by decide) rfl ?_
  intro p e s m args below meth c s₁ B0 hml hv
  obtain ⟨rfl, ⟨hH, hP⟩, hK, hN⟩ := hv
  subst hH
  have hx := B0.exec
  have hb := B0.bytes
  have hr := B0.returns
  have hts := atoms_spec (ws := wsX2_certificates_) B0.pre
  have hown : s.vm.findClass RX2 = some m.cls := findClass_of_methodNamed B0.named
  have hlocks := B0.notSynchronized
  have hS : va_S (mdA M s.heap) s.heap s.heap [] := va_S.rf
  have hl := lv_entry ([.ref M.1]) (n := 1) (Nat.le_of_ble_eq_true rfl)
  rw [lg_entry_eq]
  generalize (lg_sl ([.ref M.1]) ++ List.replicate (1 - (lg_sl ([.ref M.1])).length) Slot.unset).toArray = ls at hl ⊢
  have hl : lv_has ls 1 [(0, .ref M.1)] := hl
  refine lv_aload_n hx hb dX2_certificates__0 rfl (lv_at hl 0 rfl) ?_
  refine lv_aload_n hx hb dX2_certificates__1 rfl (lv_at hl 0 rfl) ?_
  refine lv_iconst (v := 0) hx hb dX2_certificates__2 (by decide) ?_
  refine vp_callSi (va_Run.run (va_runV (As := [.int 0]) (rest := [.ref M.1]) ⟨hx, hb, hml, hown, hts⟩ (c_X2_certificates l D cs M th hI 0) (cwV 1 hts gX2_certificates__X2_certificates rfl rfl rfl (by decide +kernel) ⟨Nat.le_of_ble_eq_true rfl, Nat.le_of_ble_eq_true rfl⟩) (rb_V hK hN hP (va_recv hK hP (ci := 3) (q0 := 0) rfl rfl)) rfl rfl hl.1 rfl (lv_room (Nat.le_of_ble_eq_true rfl)) dX2_certificates__3 ⟨Nat.le_of_ble_eq_true rfl, Nat.le_of_ble_eq_true rfl⟩)) (fun r_1 hr_1 => ?_)
  rw [hr_1]
  refine va_calli (va_runV (As := [.int (cntS (fun j => hasC σ j ∧ (0 = 0 ∨ truC σ j)) (sK σ))]) (rest := []) ⟨hx, hb, hml, hown, hts⟩ (c_X2_ok l D cs M th (σ := σ) hap s.heap (cntS (fun j => hasC σ j ∧ (0 = 0 ∨ truC σ j)) (sK σ))) (cwV 1 hts gX2_certificates__X2_ok rfl rfl rfl (by decide +kernel) ⟨Nat.le_of_ble_eq_true rfl, Nat.le_of_ble_eq_true rfl⟩) (rb_V hK hN ⟨rfl, hP⟩ (va_recv hK hP (ci := 3) (q0 := 0) rfl rfl)) rfl rfl hl.1 rfl (lv_room (Nat.le_of_ble_eq_true rfl)) dX2_certificates__6 ⟨Nat.le_of_ble_eq_true rfl, Nat.le_of_ble_eq_true rfl⟩) hS (fun q _ h => md_A hS q h) (fun q h => md_A hS q h) (fun r_2 u t H locs ht hvm hr_2 hB hz1 hk1 hS => ?_)
  rw [ht] at hB
  rw [hr_2]
  have hP : va_P D vwCl (modW cs M 0 σ) H := hB
  exact W.iret (v := cntS (fun j => hasC σ j ∧ (0 = 0 ∨ truC σ j)) (sK σ)) hx hb hr (fun t ht hW => ⟨⟨_, (0, σ), rfl, mo_0 ((by rw [show certsS σ = cntS (fun j => hasC σ j ∧ ((0 : Int32) = 0 ∨ truC σ j)) (sK σ) from cnt_congr (fun n => ⟨fun h => ⟨h, Or.inl rfl⟩, fun h => h.1⟩) _])), by show va_P D vwCl (modW cs M (nI 0) (σ)) t.heap; rw [ht]; exact hP⟩, hS.F ht⟩) hS.2.2 dX2_certificates__9
set_option maxHeartbeats 4000000 in
set_option maxRecDepth 100000 in
/-- honestOnes -/
theorem c_X2_honestOnes (l : Launch) (D : va_G) (cs : Cs) (M : Nat × (Nat → Nat)) (th : Int32) {B : Nat} {σ : PS} (hI : InvS B σ) (hap : AptM M) (H0 : Heap)  : Met l yX2_honestOnes wsX2_honestOnes ({ frames := 6, cells := 0, slots := 0, locals := 131 }) (va_Pc [.ref M.1] (RBp D cs (fun X => X = H0 ∧ va_P D vwCl (modW cs M th σ) X))) (va_Qi (fun (r : Int32) (u : Nat × PS) => mO r u (((0, honOS σ) : Nat × Int32)) (σ)) (fun u t => va_P D vwCl (modW cs M (nI u.1) u.2) t.heap) (mdA M H0)) 0 0 (mdA M H0) := by
  refine Met.ofW (cc := cX2_honestOnes) (maxL := 1) (ret := (some .int)) (by decide) rfl ?_
  intro p e s m args below meth c s₁ B0 hml hv
  obtain ⟨rfl, ⟨hH, hP⟩, hK, hN⟩ := hv
  subst hH
  have hx := B0.exec
  have hb := B0.bytes
  have hr := B0.returns
  have hts := atoms_spec (ws := wsX2_honestOnes) B0.pre
  have hown : s.vm.findClass RX2 = some m.cls := findClass_of_methodNamed B0.named
  have hlocks := B0.notSynchronized
  have hS : va_S (mdA M s.heap) s.heap s.heap [] := va_S.rf
  have hl := lv_entry ([.ref M.1]) (n := 1) (Nat.le_of_ble_eq_true rfl)
  rw [lg_entry_eq]
  generalize (lg_sl ([.ref M.1]) ++ List.replicate (1 - (lg_sl ([.ref M.1])).length) Slot.unset).toArray = ls at hl ⊢
  have hl : lv_has ls 1 [(0, .ref M.1)] := hl
  refine lv_aload_n hx hb dX2_honestOnes_0 rfl (lv_at hl 0 rfl) ?_
  refine lv_aload_n hx hb dX2_honestOnes_1 rfl (lv_at hl 0 rfl) ?_
  refine lv_iconst (v := 1) hx hb dX2_honestOnes_2 (by decide) ?_
  refine vp_callSi (va_Run.run (va_runV (As := [.int 1]) (rest := [.ref M.1]) ⟨hx, hb, hml, hown, hts⟩ (c_X2_certificates l D cs M th hI 1) (cwV 1 hts gX2_honestOnes_X2_certificates rfl rfl rfl (by decide +kernel) ⟨Nat.le_of_ble_eq_true rfl, Nat.le_of_ble_eq_true rfl⟩) (rb_V hK hN hP (va_recv hK hP (ci := 3) (q0 := 0) rfl rfl)) rfl rfl hl.1 rfl (lv_room (Nat.le_of_ble_eq_true rfl)) dX2_honestOnes_3 ⟨Nat.le_of_ble_eq_true rfl, Nat.le_of_ble_eq_true rfl⟩)) (fun r_1 hr_1 => ?_)
  rw [hr_1]
  refine va_calli (va_runV (As := [.int (cntS (fun j => hasC σ j ∧ (1 = 0 ∨ truC σ j)) (sK σ))]) (rest := []) ⟨hx, hb, hml, hown, hts⟩ (c_X2_ok l D cs M th (σ := σ) hap s.heap (cntS (fun j => hasC σ j ∧ (1 = 0 ∨ truC σ j)) (sK σ))) (cwV 1 hts gX2_honestOnes_X2_ok rfl rfl rfl (by decide +kernel) ⟨Nat.le_of_ble_eq_true rfl, Nat.le_of_ble_eq_true rfl⟩) (rb_V hK hN ⟨rfl, hP⟩ (va_recv hK hP (ci := 3) (q0 := 0) rfl rfl)) rfl rfl hl.1 rfl (lv_room (Nat.le_of_ble_eq_true rfl)) dX2_honestOnes_6 ⟨Nat.le_of_ble_eq_true rfl, Nat.le_of_ble_eq_true rfl⟩) hS (fun q _ h => md_A hS q h) (fun q h => md_A hS q h) (fun r_2 u t H locs ht hvm hr_2 hB hz1 hk1 hS => ?_)
  rw [ht] at hB
  rw [hr_2]
  have hP : va_P D vwCl (modW cs M 0 σ) H := hB
  exact W.iret (v := cntS (fun j => hasC σ j ∧ (1 = 0 ∨ truC σ j)) (sK σ)) hx hb hr (fun t ht hW => ⟨⟨_, (0, σ), rfl, mo_0 ((by rw [show honOS σ = cntS (fun j => hasC σ j ∧ ((1 : Int32) = 0 ∨ truC σ j)) (sK σ) from cnt_congr (fun n => ⟨fun h => ⟨h.1, Or.inr h.2⟩, fun h => ⟨h.1, h.2.elim (fun q => absurd q (by decide)) id⟩⟩) _])), by show va_P D vwCl (modW cs M (nI 0) (σ)) t.heap; rw [ht]; exact hP⟩, hS.F ht⟩) hS.2.2 dX2_honestOnes_9
set_option maxHeartbeats 4000000 in
set_option maxRecDepth 100000 in
/-- longest -/
theorem c_X2_longest (l : Launch) (D : va_G) (cs : Cs) (M : Nat × (Nat → Nat)) (th : Int32) {B : Nat} {σ : PS} (hI : InvS B σ) (hap : AptM M) (H0 : Heap)  : Met l yX2_longest wsX2_longest ({ frames := 5, cells := 0, slots := 0, locals := 108 }) (va_Pc [.ref M.1] (RBp D cs (fun X => X = H0 ∧ va_P D vwCl (modW cs M th σ) X))) (va_Qi (fun (r : Int32) (u : Nat × PS) => mO r u (((0, longS σ) : Nat × Int32)) (σ)) (fun u t => va_P D vwCl (modW cs M (nI u.1) u.2) t.heap) (mdA M H0)) 0 0 (mdA M H0) := by
  refine Met.ofW (cc := cX2_longest) (maxL := 1) (ret := (some .int)) (by decide) rfl ?_
  intro p e s m args below meth c s₁ B0 hml hv
  obtain ⟨rfl, ⟨hH, hP⟩, hK, hN⟩ := hv
  subst hH
  have hx := B0.exec
  have hb := B0.bytes
  have hr := B0.returns
  have hts := atoms_spec (ws := wsX2_longest) B0.pre
  have hown : s.vm.findClass RX2 = some m.cls := findClass_of_methodNamed B0.named
  have hlocks := B0.notSynchronized
  have hS : va_S (mdA M s.heap) s.heap s.heap [] := va_S.rf
  have hl := lv_entry ([.ref M.1]) (n := 1) (Nat.le_of_ble_eq_true rfl)
  rw [lg_entry_eq]
  generalize (lg_sl ([.ref M.1]) ++ List.replicate (1 - (lg_sl ([.ref M.1])).length) Slot.unset).toArray = ls at hl ⊢
  have hl : lv_has ls 1 [(0, .ref M.1)] := hl
  refine lv_aload_n hx hb dX2_longest_0 rfl (lv_at hl 0 rfl) ?_
  refine lv_aload_n hx hb dX2_longest_1 rfl (lv_at hl 0 rfl) ?_
  refine vp_callSi (va_Run.run (va_runV (As := []) (rest := [.ref M.1]) ⟨hx, hb, hml, hown, hts⟩ (c_X2_longestNow l D cs M th hI) (cwV 0 hts gX2_longest_X2_longestNow rfl rfl rfl (by decide +kernel) ⟨Nat.le_of_ble_eq_true rfl, Nat.le_of_ble_eq_true rfl⟩) (rb_V hK hN hP (va_recv hK hP (ci := 3) (q0 := 0) rfl rfl)) rfl rfl hl.1 rfl (lv_room (Nat.le_of_ble_eq_true rfl)) dX2_longest_2 ⟨Nat.le_of_ble_eq_true rfl, Nat.le_of_ble_eq_true rfl⟩)) (fun r_1 hr_1 => ?_)
  rw [hr_1]
  refine va_calli (va_runV (As := [.int (longS σ)]) (rest := []) ⟨hx, hb, hml, hown, hts⟩ (c_X2_ok l D cs M th (σ := σ) hap s.heap (longS σ)) (cwV 1 hts gX2_longest_X2_ok rfl rfl rfl (by decide +kernel) ⟨Nat.le_of_ble_eq_true rfl, Nat.le_of_ble_eq_true rfl⟩) (rb_V hK hN ⟨rfl, hP⟩ (va_recv hK hP (ci := 3) (q0 := 0) rfl rfl)) rfl rfl hl.1 rfl (lv_room (Nat.le_of_ble_eq_true rfl)) dX2_longest_5 ⟨Nat.le_of_ble_eq_true rfl, Nat.le_of_ble_eq_true rfl⟩) hS (fun q _ h => md_A hS q h) (fun q h => md_A hS q h) (fun r_2 u t H locs ht hvm hr_2 hB hz1 hk1 hS => ?_)
  rw [ht] at hB
  rw [hr_2]
  have hP : va_P D vwCl (modW cs M 0 σ) H := hB
  exact W.iret (v := longS σ) hx hb hr (fun t ht hW => ⟨⟨_, (0, σ), rfl, mo_0 (rfl), by show va_P D vwCl (modW cs M (nI 0) (σ)) t.heap; rw [ht]; exact hP⟩, hS.F ht⟩) hS.2.2 dX2_longest_8
set_option maxHeartbeats 4000000 in
set_option maxRecDepth 100000 in
/-- hoursUntilAudit -/
theorem c_X2_hoursUntilAudit (l : Launch) (D : va_G) (cs : Cs) (M : Nat × (Nat → Nat)) (th : Int32) {B : Nat} {σ : PS} (hI : InvS B σ) (hap : AptM M) (H0 : Heap)  : Met l yX2_hoursUntilAudit wsX2_hoursUntilAudit ({ frames := 2, cells := 0, slots := 0, locals := 41 }) (va_Pc [.ref M.1] (RBp D cs (fun X => X = H0 ∧ va_P D vwCl (modW cs M th σ) X))) (va_Qi (fun (r : Int32) (u : Nat × PS) => mO r u (((0, untS σ) : Nat × Int32)) (σ)) (fun u t => va_P D vwCl (modW cs M (nI u.1) u.2) t.heap) (mdA M H0)) 0 0 (mdA M H0) := by
  refine Met.ofW (cc := cX2_hoursUntilAudit) (maxL := 1) (ret := (some .int)) (by decide) rfl ?_
  intro p e s m args below meth c s₁ B0 hml hv
  obtain ⟨rfl, ⟨hH, hP⟩, hK, hN⟩ := hv
  subst hH
  have hx := B0.exec
  have hb := B0.bytes
  have hr := B0.returns
  have hts := atoms_spec (ws := wsX2_hoursUntilAudit) B0.pre
  have hown : s.vm.findClass RX2 = some m.cls := findClass_of_methodNamed B0.named
  have hlocks := B0.notSynchronized
  have hS : va_S (mdA M s.heap) s.heap s.heap [] := va_S.rf
  have hl := lv_entry ([.ref M.1]) (n := 1) (Nat.le_of_ble_eq_true rfl)
  rw [lg_entry_eq]
  generalize (lg_sl ([.ref M.1]) ++ List.replicate (1 - (lg_sl ([.ref M.1])).length) Slot.unset).toArray = ls at hl ⊢
  have hl : lv_has ls 1 [(0, .ref M.1)] := hl
  refine lv_aload_n hx hb dX2_hoursUntilAudit_0 rfl (lv_at hl 0 rfl) ?_
  refine lv_aload_n hx hb dX2_hoursUntilAudit_1 rfl (lv_at hl 0 rfl) ?_
  refine vp_callSi (va_Run.run (va_runV (As := []) (rest := [.ref M.1]) ⟨hx, hb, hml, hown, hts⟩ (c_X2_untilAudit l D cs M th hI) (cwV 0 hts gX2_hoursUntilAudit_X2_untilAudit rfl rfl rfl (by decide +kernel) ⟨Nat.le_of_ble_eq_true rfl, Nat.le_of_ble_eq_true rfl⟩) (rb_V hK hN hP (va_recv hK hP (ci := 3) (q0 := 0) rfl rfl)) rfl rfl hl.1 rfl (lv_room (Nat.le_of_ble_eq_true rfl)) dX2_hoursUntilAudit_2 ⟨Nat.le_of_ble_eq_true rfl, Nat.le_of_ble_eq_true rfl⟩)) (fun r_1 hr_1 => ?_)
  rw [hr_1]
  refine va_calli (va_runV (As := [.int (untS σ)]) (rest := []) ⟨hx, hb, hml, hown, hts⟩ (c_X2_ok l D cs M th (σ := σ) hap s.heap (untS σ)) (cwV 1 hts gX2_hoursUntilAudit_X2_ok rfl rfl rfl (by decide +kernel) ⟨Nat.le_of_ble_eq_true rfl, Nat.le_of_ble_eq_true rfl⟩) (rb_V hK hN ⟨rfl, hP⟩ (va_recv hK hP (ci := 3) (q0 := 0) rfl rfl)) rfl rfl hl.1 rfl (lv_room (Nat.le_of_ble_eq_true rfl)) dX2_hoursUntilAudit_5 ⟨Nat.le_of_ble_eq_true rfl, Nat.le_of_ble_eq_true rfl⟩) hS (fun q _ h => md_A hS q h) (fun q h => md_A hS q h) (fun r_2 u t H locs ht hvm hr_2 hB hz1 hk1 hS => ?_)
  rw [ht] at hB
  rw [hr_2]
  have hP : va_P D vwCl (modW cs M 0 σ) H := hB
  exact W.iret (v := untS σ) hx hb hr (fun t ht hW => ⟨⟨_, (0, σ), rfl, mo_0 (rfl), by show va_P D vwCl (modW cs M (nI 0) (σ)) t.heap; rw [ht]; exact hP⟩, hS.F ht⟩) hS.2.2 dX2_hoursUntilAudit_8
set_option maxHeartbeats 4000000 in
set_option maxRecDepth 100000 in
/-- richestThen -/
theorem c_X2_richestThen (l : Launch) (D : va_G) (cs : Cs) (M : Nat × (Nat → Nat)) (th : Int32) {B : Nat} {σ : PS} (hI : InvS B σ) (hap : AptM M) (H0 : Heap)  : Met l yX2_richestThen wsX2_richestThen ({ frames := 7, cells := 0, slots := 0, locals := 151 }) (va_Pc [.ref M.1] (RBp D cs (fun X => X = H0 ∧ va_P D vwCl (modW cs M th σ) X))) (va_Qi (fun (r : Int32) (u : Nat × PS) => mO r u (((0, richS σ) : Nat × Int32)) (σ)) (fun u t => va_P D vwCl (modW cs M (nI u.1) u.2) t.heap) (mdA M H0)) 0 0 (mdA M H0) := by
  refine Met.ofW (cc := cX2_richestThen) (maxL := 1) (ret := (some .int)) (by decide) rfl ?_
  intro p e s m args below meth c s₁ B0 hml hv
  obtain ⟨rfl, ⟨hH, hP⟩, hK, hN⟩ := hv
  subst hH
  have hx := B0.exec
  have hb := B0.bytes
  have hr := B0.returns
  have hts := atoms_spec (ws := wsX2_richestThen) B0.pre
  have hown : s.vm.findClass RX2 = some m.cls := findClass_of_methodNamed B0.named
  have hlocks := B0.notSynchronized
  have hS : va_S (mdA M s.heap) s.heap s.heap [] := va_S.rf
  have hl := lv_entry ([.ref M.1]) (n := 1) (Nat.le_of_ble_eq_true rfl)
  rw [lg_entry_eq]
  generalize (lg_sl ([.ref M.1]) ++ List.replicate (1 - (lg_sl ([.ref M.1])).length) Slot.unset).toArray = ls at hl ⊢
  have hl : lv_has ls 1 [(0, .ref M.1)] := hl
  refine lv_aload_n hx hb dX2_richestThen_0 rfl (lv_at hl 0 rfl) ?_
  refine lv_aload_n hx hb dX2_richestThen_1 rfl (lv_at hl 0 rfl) ?_
  refine vp_callSi (va_Run.run (va_runV (As := []) (rest := [.ref M.1]) ⟨hx, hb, hml, hown, hts⟩ (c_X2_richest l D cs M th hI) (cwV 0 hts gX2_richestThen_X2_richest rfl rfl rfl (by decide +kernel) ⟨Nat.le_of_ble_eq_true rfl, Nat.le_of_ble_eq_true rfl⟩) (rb_V hK hN hP (va_recv hK hP (ci := 3) (q0 := 0) rfl rfl)) rfl rfl hl.1 rfl (lv_room (Nat.le_of_ble_eq_true rfl)) dX2_richestThen_2 ⟨Nat.le_of_ble_eq_true rfl, Nat.le_of_ble_eq_true rfl⟩)) (fun r_1 hr_1 => ?_)
  rw [hr_1]
  refine va_calli (va_runV (As := [.int (richS σ)]) (rest := []) ⟨hx, hb, hml, hown, hts⟩ (c_X2_ok l D cs M th (σ := σ) hap s.heap (richS σ)) (cwV 1 hts gX2_richestThen_X2_ok rfl rfl rfl (by decide +kernel) ⟨Nat.le_of_ble_eq_true rfl, Nat.le_of_ble_eq_true rfl⟩) (rb_V hK hN ⟨rfl, hP⟩ (va_recv hK hP (ci := 3) (q0 := 0) rfl rfl)) rfl rfl hl.1 rfl (lv_room (Nat.le_of_ble_eq_true rfl)) dX2_richestThen_5 ⟨Nat.le_of_ble_eq_true rfl, Nat.le_of_ble_eq_true rfl⟩) hS (fun q _ h => md_A hS q h) (fun q h => md_A hS q h) (fun r_2 u t H locs ht hvm hr_2 hB hz1 hk1 hS => ?_)
  rw [ht] at hB
  rw [hr_2]
  have hP : va_P D vwCl (modW cs M 0 σ) H := hB
  exact W.iret (v := richS σ) hx hb hr (fun t ht hW => ⟨⟨_, (0, σ), rfl, mo_0 (rfl), by show va_P D vwCl (modW cs M (nI 0) (σ)) t.heap; rw [ht]; exact hP⟩, hS.F ht⟩) hS.2.2 dX2_richestThen_8
