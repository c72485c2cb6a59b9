/-! THE MEAN SHADOW (laid by wip/whole/gen/mean.py) -/
theorem in_X1_meanShadow_X1 : ∀ w ∈ wsX10, w ∈ wsX1_meanShadow := by decide +kernel
set_option maxHeartbeats 4000000 in
set_option maxRecDepth 100000 in
/-- meanShadow -/
theorem c_X1_meanShadow (l : Launch) (D : va_G) (cs : Cs) (ρ : Rf) {B : Nat} {σ : PS} (hI : InvS B σ) (hJ : InjA ρ (sK σ)) (H0 : Heap) : MetD lw_cs l yX1_meanShadow wsX1_meanShadow ({ frames := 3, cells := 0, slots := 0, locals := 64 }) (va_Pc [.ref (r_h ρ)] (RBp D cs (fun X => X = H0 ∧ Soc D cs ρ σ X))) (va_Qd (fun (r : UInt64) (_ : Unit) => mnP σ r) (fun _ t => t.heap = H0) (fun _ => False)) 0 0 (fun _ => False) := by
  refine MetD.ofW (cc := cX1_meanShadow) (maxL := 3) (ret := (some .double)) (by decide) rfl ?_
  intro p e s m args below meth c s₁ B0 hml hv hd0
  obtain ⟨rfl, ⟨hH, hP⟩, hK, hN⟩ := hv
  subst hH
  have hx := B0.exec
  have hb := B0.bytes
  have hr := B0.returns
  have hts := atoms_spec (ws := wsX1_meanShadow) B0.pre
  have hown : s.vm.findClass RX1 = some m.cls := findClass_of_methodNamed B0.named
  have hlocks := B0.notSynchronized
  refine (?_ : W p l e _ s m _ below meth c s.heap [] 0 0 _ _)
  have hl := lv_entry ([.ref (r_h ρ)]) (n := 3) (Nat.le_of_ble_eq_true rfl)
  rw [lg_entry_eq]
  generalize (lg_sl ([.ref (r_h ρ)]) ++ List.replicate (3 - (lg_sl ([.ref (r_h ρ)])).length) Slot.unset).toArray = ls at hl ⊢
  have hl : lv_has ls 3 [(0, .ref (r_h ρ))] := hl
  refine lv_aload_n hx hb dX1_meanShadow_0 rfl (lv_at hl 0 rfl) ?_
  refine va_get (D := D) (ci := 2) (v := .ref (r_q ρ)) (C := RX1) (T := TX1) (N := 4) hx hb hts in_X1_meanShadow_X1 hown hK (one_P hP.1) 0 rfl rfl 0 (by decide) (hts (.fieldLink RX1 10 "ShadowSociety" "roll" "Ljava/util/ArrayList;") (List.mem_of_getElem? (i := 1) (by decide +kernel))) (fun _ h9 => h9) rfl dX1_meanShadow_1 ?_
  refine vp_callSi (va_Run.run (va_runV (As := []) (rest := []) ⟨hx, hb, hml, hown, hts⟩ (c_Jx4a65c_isEmpty_aae02 l D cs ρ hI hJ) (cwV 0 hts gX1_meanShadow_Jx4a65c_isEmpty_aae02 rfl rfl rfl (by decide +kernel) ⟨Nat.le_of_ble_eq_true rfl, Nat.le_of_ble_eq_true rfl⟩) (rb_V hK hN hP.2.1 (va_recv hK (one_P hP.2.1.1) (ci := 0) (q0 := 0) rfl rfl)) rfl rfl hl.1 rfl (lv_room (Nat.le_of_ble_eq_true rfl)) dX1_meanShadow_4 ⟨Nat.le_of_ble_eq_true rfl, Nat.le_of_ble_eq_true rfl⟩)) (fun r_1 hr_1 => ?_)
  rw [hr_1]
  refine lv_if_eq (tgt := 12) hx hb dX1_meanShadow_7 (by decide) (fun c_2 => ?_) (fun c_2 => ?_)
  · refine lv_iconst (v := 0) hx hb dX1_meanShadow_12 (by decide) ?_
    refine lv_istore_n (lv' := [(1, .int 0), (0, .ref (r_h ρ))]) hx hb dX1_meanShadow_13 rfl hl (by decide) rfl (fun ls hl => ?_)
    refine lv_iconst (v := 0) hx hb dX1_meanShadow_14 (by decide) ?_
    refine lv_istore_n (lv' := [(2, .int 0), (1, .int 0), (0, .ref (r_h ρ))]) hx hb dX1_meanShadow_15 rfl hl (by decide) rfl (fun ls hl => ?_)
    refine lv_for (sK σ) (fun ls => F0 m 16 ls []) (fun n9 => [(0, .ref (r_h ρ)), (1, .int (sumS (fun o => shadS σ o (dayOf σ)) n9)), (2, .int (nI n9))]) (fun _ => True) (show lv_has ls 3 [(0, .ref (r_h ρ)), (1, .int (sumS (fun o => shadS σ o (dayOf σ)) 0)), (2, .int (nI 0))] from lv_sub hl [2, 1, 0] rfl) (trivial) (fun n9 ls hn9 hj9 hl K9 => ?_) (fun ls hj9 hl => ?_)
    · have hl : lv_has ls 3 [(0, .ref (r_h ρ)), (1, .int (sumS (fun o => shadS σ o (dayOf σ)) n9)), (2, .int (nI n9))] := hl
      refine lv_iload_n hx hb dX1_meanShadow_16 rfl (lv_at hl 2 rfl) ?_
      refine lv_aload_n hx hb dX1_meanShadow_17 rfl (lv_at hl 0 rfl) ?_
      refine va_get (D := D) (ci := 2) (v := .ref (r_q ρ)) (C := RX1) (T := TX1) (N := 4) hx hb hts in_X1_meanShadow_X1 hown hK (one_P hP.1) 0 rfl rfl 0 (by decide) (hts (.fieldLink RX1 10 "ShadowSociety" "roll" "Ljava/util/ArrayList;") (List.mem_of_getElem? (i := 1) (by decide +kernel))) (fun _ h9 => h9) rfl dX1_meanShadow_18 ?_
      refine vp_callSi (va_Run.run (va_runV (As := []) (rest := [.int (nI n9)]) ⟨hx, hb, hml, hown, hts⟩ (c_Jx4a65c_size_8abf5 l D cs ρ hI hJ) (cwV 0 hts gX1_meanShadow_Jx4a65c_size_8abf5 rfl rfl rfl (by decide +kernel) ⟨Nat.le_of_ble_eq_true rfl, Nat.le_of_ble_eq_true rfl⟩) (rb_V hK hN hP.2.1 (va_recv hK (one_P hP.2.1.1) (ci := 0) (q0 := 0) rfl rfl)) rfl rfl hl.1 rfl (lv_room (Nat.le_of_ble_eq_true rfl)) dX1_meanShadow_21 ⟨Nat.le_of_ble_eq_true rfl, Nat.le_of_ble_eq_true rfl⟩)) (fun r_3 hr_3 => ?_)
      rw [hr_3]
      refine lv_icmp_ge (tgt := 54) hx hb dX1_meanShadow_24 (by decide) (fun c9 => absurd c9 (nI_ge hn9 (by have := hI.1; omega))) (fun _ => ?_)
      refine lv_iload_n hx hb dX1_meanShadow_27 rfl (lv_at hl 1 rfl) ?_
      refine lv_aload_n hx hb dX1_meanShadow_28 rfl (lv_at hl 0 rfl) ?_
      refine va_get (D := D) (ci := 2) (v := .ref (r_q ρ)) (C := RX1) (T := TX1) (N := 4) hx hb hts in_X1_meanShadow_X1 hown hK (one_P hP.1) 0 rfl rfl 0 (by decide) (hts (.fieldLink RX1 10 "ShadowSociety" "roll" "Ljava/util/ArrayList;") (List.mem_of_getElem? (i := 1) (by decide +kernel))) (fun _ h9 => h9) rfl dX1_meanShadow_29 ?_
      refine lv_iload_n hx hb dX1_meanShadow_32 rfl (lv_at hl 2 rfl) ?_
      refine va_csq (va_Run.run (va_runV (As := [.int (nI n9)]) (rest := [.int (sumS (fun o => shadS σ o (dayOf σ)) n9)]) ⟨hx, hb, hml, hown, hts⟩ (c_Jx4a65c_get_915e3 l D cs ρ hI hJ n9 hn9) (cwV 1 hts gX1_meanShadow_Jx4a65c_get_915e3 rfl rfl rfl (by decide +kernel) ⟨Nat.le_of_ble_eq_true rfl, Nat.le_of_ble_eq_true rfl⟩) (rb_V hK hN hP.2.1 (va_recv hK (one_P hP.2.1.1) (ci := 0) (q0 := 0) rfl rfl)) rfl rfl hl.1 rfl (lv_room (Nat.le_of_ble_eq_true rfl)) dX1_meanShadow_33 ⟨Nat.le_of_ble_eq_true rfl, Nat.le_of_ble_eq_true rfl⟩)) (fun r_4 hr_4 => ?_)
      rw [hr_4]
      refine va_castS (nm := RX0) hx hb hown (hts (.classLink RX1 44 RX0) (List.mem_of_getElem? (i := 2) (by decide +kernel))) (hK.1 1 _ rfl).2 (va_recv hK (one_P (hP.2.2 n9 hn9)) (ci := 1) (q0 := 0) rfl rfl) dX1_meanShadow_36 ?_
      refine lv_aload_n hx hb dX1_meanShadow_39 rfl (lv_at hl 0 rfl) ?_
      refine vp_callSi (va_Run.run (va_runV (As := []) (rest := [.ref (r_a ρ n9), .int (sumS (fun o => shadS σ o (dayOf σ)) n9)]) ⟨hx, hb, hml, hown, hts⟩ (c_X1_hourOfDay l D cs ρ hI hJ) (cwV 0 hts gX1_meanShadow_X1_hourOfDay rfl rfl rfl (by decide +kernel) ⟨Nat.le_of_ble_eq_true rfl, Nat.le_of_ble_eq_true rfl⟩) (rb_V hK hN hP (va_recv hK (one_P hP.1) (ci := 2) (q0 := 0) rfl rfl)) rfl rfl hl.1 rfl (lv_room (Nat.le_of_ble_eq_true rfl)) dX1_meanShadow_40 ⟨Nat.le_of_ble_eq_true rfl, Nat.le_of_ble_eq_true rfl⟩)) (fun r_5 hr_5 => ?_)
      rw [hr_5]
      refine vp_callSi (va_Run.run (va_runVN (As := [.int (dayOf σ)]) (rest := [.int (sumS (fun o => shadS σ o (dayOf σ)) n9)]) ⟨hx, hb, hml, hown, hts⟩ (c_X0_shadowAt l D cs ρ hI hJ n9 hn9 (dayOf σ)) ⟨va_cnB 1 hts gX1_meanShadow_X0_shadowAt_n113 rfl rfl rfl (hN (.methodLinkNest "ShadowSociety" 113 ⟨"ShadowSociety$Member", "shadowAt", "(I)I"⟩ "ShadowSociety") (by decide +kernel)) (hts (.initialized RX0) (List.mem_of_getElem? (i := 37) (by decide +kernel))) (by decide +kernel) ⟨Nat.le_of_ble_eq_true rfl, Nat.le_of_ble_eq_true rfl⟩, hts (.instanceMethod yX0_shadowAt) (List.mem_of_getElem? (i := 36) (by decide +kernel)), hts (.selects RX0 yX0_shadowAt yX0_shadowAt) (List.mem_of_getElem? (i := 38) (by decide +kernel))⟩ (rb_V hK hN hP.2.2 (va_recv hK (one_P (hP.2.2 n9 hn9)) (ci := 1) (q0 := 0) rfl rfl)) rfl rfl hl.1 rfl (lv_room (Nat.le_of_ble_eq_true rfl)) dX1_meanShadow_43 ⟨Nat.le_of_ble_eq_true rfl, Nat.le_of_ble_eq_true rfl⟩)) (fun r_6 hr_6 => ?_)
      rw [hr_6]
      refine lv_iadd hx hb dX1_meanShadow_46 ?_
      refine lv_istore_n (lv' := [(1, .int ((sumS (fun o => shadS σ o (dayOf σ)) n9) + (shadS σ n9 (dayOf σ)))), (0, .ref (r_h ρ)), (2, .int (nI n9))]) hx hb dX1_meanShadow_47 rfl hl (by decide) rfl (fun ls hl => ?_)
      refine lv_iinc (v := nI (n9 + 1)) (lv' := [(2, .int (nI (n9 + 1))), (1, .int ((sumS (fun o => shadS σ o (dayOf σ)) n9) + (shadS σ n9 (dayOf σ)))), (0, .ref (r_h ρ))]) hx hb dX1_meanShadow_48 hl (k := 2) rfl (nI_add _ 1) (by decide) rfl (fun ls hl => ?_)
      refine lv_goto (tgt := 16) hx hb dX1_meanShadow_51 (by decide) ?_
      refine K9 ls (trivial) ?_
      show lv_has ls 3 [(0, .ref (r_h ρ)), (1, .int (sumS (fun o => shadS σ o (dayOf σ)) (n9 + 1))), (2, .int (nI (n9 + 1)))]
      rw [show sumS (fun o => shadS σ o (dayOf σ)) (n9 + 1) = (sumS (fun o => shadS σ o (dayOf σ)) n9) + (shadS σ n9 (dayOf σ)) from rfl]
      exact lv_sub hl [2, 1, 0] rfl
    · have hl : lv_has ls 3 [(0, .ref (r_h ρ)), (1, .int (sumS (fun o => shadS σ o (dayOf σ)) (sK σ))), (2, .int (nI (sK σ)))] := hl
      refine lv_iload_n hx hb dX1_meanShadow_16 rfl (lv_at hl 2 rfl) ?_
      refine lv_aload_n hx hb dX1_meanShadow_17 rfl (lv_at hl 0 rfl) ?_
      refine va_get (D := D) (ci := 2) (v := .ref (r_q ρ)) (C := RX1) (T := TX1) (N := 4) hx hb hts in_X1_meanShadow_X1 hown hK (one_P hP.1) 0 rfl rfl 0 (by decide) (hts (.fieldLink RX1 10 "ShadowSociety" "roll" "Ljava/util/ArrayList;") (List.mem_of_getElem? (i := 1) (by decide +kernel))) (fun _ h9 => h9) rfl dX1_meanShadow_18 ?_
      refine vp_callSi (va_Run.run (va_runV (As := []) (rest := [.int (nI (sK σ))]) ⟨hx, hb, hml, hown, hts⟩ (c_Jx4a65c_size_8abf5 l D cs ρ hI hJ) (cwV 0 hts gX1_meanShadow_Jx4a65c_size_8abf5 rfl rfl rfl (by decide +kernel) ⟨Nat.le_of_ble_eq_true rfl, Nat.le_of_ble_eq_true rfl⟩) (rb_V hK hN hP.2.1 (va_recv hK (one_P hP.2.1.1) (ci := 0) (q0 := 0) rfl rfl)) rfl rfl hl.1 rfl (lv_room (Nat.le_of_ble_eq_true rfl)) dX1_meanShadow_21 ⟨Nat.le_of_ble_eq_true rfl, Nat.le_of_ble_eq_true rfl⟩)) (fun r_7 hr_7 => ?_)
      rw [hr_7]
      refine lv_icmp_ge (tgt := 54) hx hb dX1_meanShadow_24 (by decide) (fun _ => ?_) (fun c9 => absurd (nI_le (Nat.le_refl _) (by have := hI.1; omega)) c9)
      refine lv_iload_n hx hb dX1_meanShadow_54 rfl (lv_at hl 1 rfl) ?_
      refine lv_i2d hx hb dX1_meanShadow_55 ?_
      refine lv_aload_n hx hb dX1_meanShadow_56 rfl (lv_at hl 0 rfl) ?_
      refine va_get (D := D) (ci := 2) (v := .ref (r_q ρ)) (C := RX1) (T := TX1) (N := 4) hx hb hts in_X1_meanShadow_X1 hown hK (one_P hP.1) 0 rfl rfl 0 (by decide) (hts (.fieldLink RX1 10 "ShadowSociety" "roll" "Ljava/util/ArrayList;") (List.mem_of_getElem? (i := 1) (by decide +kernel))) (fun _ h9 => h9) rfl dX1_meanShadow_57 ?_
      refine vp_callSi (va_Run.run (va_runV (As := []) (rest := [.double (FP.i2d (sumS (fun o => shadS σ o (dayOf σ)) (sK σ)))]) ⟨hx, hb, hml, hown, hts⟩ (c_Jx4a65c_size_8abf5 l D cs ρ hI hJ) (cwV 0 hts gX1_meanShadow_Jx4a65c_size_8abf5 rfl rfl rfl (by decide +kernel) ⟨Nat.le_of_ble_eq_true rfl, Nat.le_of_ble_eq_true rfl⟩) (rb_V hK hN hP.2.1 (va_recv hK (one_P hP.2.1.1) (ci := 0) (q0 := 0) rfl rfl)) rfl rfl hl.1 rfl (lv_room (Nat.le_of_ble_eq_true rfl)) dX1_meanShadow_60 ⟨Nat.le_of_ble_eq_true rfl, Nat.le_of_ble_eq_true rfl⟩)) (fun r_8 hr_8 => ?_)
      rw [hr_8]
      refine lv_i2d hx hb dX1_meanShadow_63 ?_
      refine W.base ?_
      refine lv_ddiv_any hd0 lw_bits hx hb dX1_meanShadow_64 (fun r d1 hal hd1 => ?_)
      refine W.endD hd1 ?_
      exact W.dret (v := r) hx hb hr (fun t ht hW => ⟨⟨_, (), rfl, ⟨fun q => absurd q (fun q => b01_0.mp c_2 q), fun _ => hal⟩, ht⟩, (va_S.rf (A := fun _ => False) (H0 := s.heap)).F ht⟩) (fun q hq => absurd hq List.not_mem_nil) dX1_meanShadow_65
  · refine lv_dconst0 hx hb dX1_meanShadow_10 ?_
    refine W.base ?_
    refine W.endD hd0 ?_
    exact W.dret (v := FP.dconst0) hx hb hr (fun t ht hW => ⟨⟨_, (), rfl, ⟨fun _ => rfl, fun q => absurd (b01_n.mp c_2) q⟩, ht⟩, (va_S.rf (A := fun _ => False) (H0 := s.heap)).F ht⟩) (fun q hq => absurd hq List.not_mem_nil) dX1_meanShadow_11
