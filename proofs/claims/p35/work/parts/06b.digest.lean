/-! THE CHECKSUM OF THE SOCIETY (laid by wip/p35/gen/society.py) -/
theorem in_X1_mixedWithMember_X0 : ∀ w ∈ wsX00, w ∈ wsX1_mixedWithMember := by decide +kernel
set_option maxHeartbeats 4000000 in
set_option maxRecDepth 100000 in
/-- the checksum with a member -/
theorem c_X1_mixedWithMember (l : Launch) (D : va_G) (cs : Cs) (ρ : Rf) {B : Nat} {σ : PS} (hI : InvS B σ) (hJ : InjA ρ (sK σ)) (d : Int64) (x : Nat) (hy : x < sK σ) : Met l yX1_mixedWithMember wsX1_mixedWithMember ({ frames := 6, cells := 0, slots := 0, locals := 116 }) (va_Pc [.ref (r_h ρ), .long d, .ref (r_a ρ x)] (RBp D cs (Soc D cs ρ σ))) (vp_Sl (fun r : Int64 => r = digM σ d x)) 0 0 (fun _ => False) := by
  refine Met.ofW (cc := cX1_mixedWithMember) (maxL := 6) (ret := (some .long)) (by decide) rfl ?_
  intro p e s m args below meth c s₁ B0 hml hv
  obtain ⟨rfl, hP, hK, hN⟩ := hv
  have hx := B0.exec
  have hb := B0.bytes
  have hr := B0.returns
  have hts := atoms_spec (ws := wsX1_mixedWithMember) B0.pre
  have hown : s.vm.findClass RX1 = some m.cls := findClass_of_methodNamed B0.named
  have hlocks := B0.notSynchronized
  have hl := lv_entry ([.ref (r_h ρ), .long d, .ref (r_a ρ x)]) (n := 6) (Nat.le_of_ble_eq_true rfl)
  rw [lg_entry_eq]
  generalize (lg_sl ([.ref (r_h ρ), .long d, .ref (r_a ρ x)]) ++ List.replicate (6 - (lg_sl ([.ref (r_h ρ), .long d, .ref (r_a ρ x)])).length) Slot.unset).toArray = ls at hl ⊢
  have hl : lv_has ls 6 [(0, .ref (r_h ρ)), (1, .long d), (3, .ref (r_a ρ x))] := hl
  refine lv_lload_n hx hb dX1_mixedWithMember_0 rfl (lv_at hl 1 rfl) ?_
  refine lv_topl (fun dd_1 edd_1 => ?_)
  refine lv_lstore (lv' := [(4, .long dd_1), (0, .ref (r_h ρ)), (1, .long d), (3, .ref (r_a ρ x))]) hx hb dX1_mixedWithMember_1 hl (by decide) rfl (fun ls hl => ?_)
  refine lv_lload hx hb dX1_mixedWithMember_3 (lv_at hl 0 rfl) ?_
  refine lv_aload_n hx hb dX1_mixedWithMember_5 rfl (lv_at hl 3 rfl) ?_
  refine va_getN (D := D) (ci := 1) (v := .int (sLa σ x)) (C := RX0) (T := TX0) (N := 9) hx hb hts in_X1_mixedWithMember_X0 hown hK (one_P (hP.2.2 x hy)) 0 rfl rfl 4 (by decide) (Nst.use hN (w := .fieldLinkNest "ShadowSociety" 65 "ShadowSociety$Member" "lamp" "I" "ShadowSociety") (by decide +kernel)) (fun _ h9 => h9) rfl dX1_mixedWithMember_6 ?_
  refine lv_i2l (v := (sLa σ x).toInt64) hx hb dX1_mixedWithMember_9 rfl ?_
  refine vp_callSl (va_Run.run (va_runS (As := [.long dd_1, .long ((sLa σ x).toInt64)]) (rest := []) ⟨hx, hb, hml, hown, hts⟩ (c_X1_mixed l D cs dd_1 ((sLa σ x).toInt64)) (va_cwS 2 hts gX1_mixedWithMember_X1_mixed rfl rfl rfl (by decide +kernel) ⟨Nat.le_of_ble_eq_true rfl, Nat.le_of_ble_eq_true rfl⟩) (rb_S hK hN trivial) rfl rfl hl.1 rfl (lv_room (Nat.le_of_ble_eq_true rfl)) dX1_mixedWithMember_10 ⟨Nat.le_of_ble_eq_true rfl, Nat.le_of_ble_eq_true rfl⟩)) (fun r_2 hr_2 => ?_)
  rw [hr_2]
  refine lv_topl (fun dd_3 edd_3 => ?_)
  refine lv_lstore (lv' := [(4, .long dd_3), (0, .ref (r_h ρ)), (1, .long d), (3, .ref (r_a ρ x))]) hx hb dX1_mixedWithMember_13 hl (by decide) rfl (fun ls hl => ?_)
  refine lv_lload hx hb dX1_mixedWithMember_15 (lv_at hl 0 rfl) ?_
  refine lv_aload_n hx hb dX1_mixedWithMember_17 rfl (lv_at hl 3 rfl) ?_
  refine va_getN (D := D) (ci := 1) (v := .int (sPu σ x)) (C := RX0) (T := TX0) (N := 9) hx hb hts in_X1_mixedWithMember_X0 hown hK (one_P (hP.2.2 x hy)) 0 rfl rfl 3 (by decide) (Nst.use hN (w := .fieldLinkNest "ShadowSociety" 70 "ShadowSociety$Member" "purse" "I" "ShadowSociety") (by decide +kernel)) (fun _ h9 => h9) rfl dX1_mixedWithMember_18 ?_
  refine lv_i2l (v := (sPu σ x).toInt64) hx hb dX1_mixedWithMember_21 rfl ?_
  refine vp_callSl (va_Run.run (va_runS (As := [.long dd_3, .long ((sPu σ x).toInt64)]) (rest := []) ⟨hx, hb, hml, hown, hts⟩ (c_X1_mixed l D cs dd_3 ((sPu σ x).toInt64)) (va_cwS 2 hts gX1_mixedWithMember_X1_mixed rfl rfl rfl (by decide +kernel) ⟨Nat.le_of_ble_eq_true rfl, Nat.le_of_ble_eq_true rfl⟩) (rb_S hK hN trivial) rfl rfl hl.1 rfl (lv_room (Nat.le_of_ble_eq_true rfl)) dX1_mixedWithMember_22 ⟨Nat.le_of_ble_eq_true rfl, Nat.le_of_ble_eq_true rfl⟩)) (fun r_4 hr_4 => ?_)
  rw [hr_4]
  refine lv_topl (fun dd_5 edd_5 => ?_)
  refine lv_lstore (lv' := [(4, .long dd_5), (0, .ref (r_h ρ)), (1, .long d), (3, .ref (r_a ρ x))]) hx hb dX1_mixedWithMember_25 hl (by decide) rfl (fun ls hl => ?_)
  refine lv_lload hx hb dX1_mixedWithMember_27 (lv_at hl 0 rfl) ?_
  refine lv_aload_n hx hb dX1_mixedWithMember_29 rfl (lv_at hl 3 rfl) ?_
  refine vp_callSi (va_Run.run (va_runVN (As := []) (rest := [.long dd_5]) ⟨hx, hb, hml, hown, hts⟩ (c_X0_numberOfHatOwner l D cs ρ hI hJ x hy) ⟨va_cnB 0 hts gX1_mixedWithMember_X0_numberOfHatOwner_n135 rfl rfl rfl (hN (.methodLinkNest "ShadowSociety" 135 ⟨"ShadowSociety$Member", "numberOfHatOwner", "()I"⟩ "ShadowSociety") (by decide +kernel)) (hts (.initialized RX0) (List.mem_of_getElem? (i := 7) (by decide +kernel))) (by decide +kernel) ⟨Nat.le_of_ble_eq_true rfl, Nat.le_of_ble_eq_true rfl⟩, hts (.instanceMethod yX0_numberOfHatOwner) (List.mem_of_getElem? (i := 6) (by decide +kernel)), hts (.selects RX0 yX0_numberOfHatOwner yX0_numberOfHatOwner) (List.mem_of_getElem? (i := 8) (by decide +kernel))⟩ (rb_V hK hN hP.2.2 (va_recv hK (one_P (hP.2.2 x hy)) (ci := 1) (q0 := 0) rfl rfl)) rfl rfl hl.1 rfl (lv_room (Nat.le_of_ble_eq_true rfl)) dX1_mixedWithMember_30 ⟨Nat.le_of_ble_eq_true rfl, Nat.le_of_ble_eq_true rfl⟩)) (fun r_6 hr_6 => ?_)
  rw [hr_6]
  refine lv_i2l (v := (sWe σ x).toInt64) hx hb dX1_mixedWithMember_33 rfl ?_
  refine vp_callSl (va_Run.run (va_runS (As := [.long dd_5, .long ((sWe σ x).toInt64)]) (rest := []) ⟨hx, hb, hml, hown, hts⟩ (c_X1_mixed l D cs dd_5 ((sWe σ x).toInt64)) (va_cwS 2 hts gX1_mixedWithMember_X1_mixed rfl rfl rfl (by decide +kernel) ⟨Nat.le_of_ble_eq_true rfl, Nat.le_of_ble_eq_true rfl⟩) (rb_S hK hN trivial) rfl rfl hl.1 rfl (lv_room (Nat.le_of_ble_eq_true rfl)) dX1_mixedWithMember_34 ⟨Nat.le_of_ble_eq_true rfl, Nat.le_of_ble_eq_true rfl⟩)) (fun r_7 hr_7 => ?_)
  rw [hr_7]
  refine lv_topl (fun dd_8 edd_8 => ?_)
  refine lv_lstore (lv' := [(4, .long dd_8), (0, .ref (r_h ρ)), (1, .long d), (3, .ref (r_a ρ x))]) hx hb dX1_mixedWithMember_37 hl (by decide) rfl (fun ls hl => ?_)
  refine lv_lload hx hb dX1_mixedWithMember_39 (lv_at hl 0 rfl) ?_
  refine lv_aload_n hx hb dX1_mixedWithMember_41 rfl (lv_at hl 3 rfl) ?_
  refine vp_callSi (va_Run.run (va_runVN (As := []) (rest := [.long dd_8]) ⟨hx, hb, hml, hown, hts⟩ (c_X0_heightOfWornHat l D cs ρ hI hJ x hy) ⟨va_cnB 0 hts gX1_mixedWithMember_X0_heightOfWornHat_n138 rfl rfl rfl (hN (.methodLinkNest "ShadowSociety" 138 ⟨"ShadowSociety$Member", "heightOfWornHat", "()I"⟩ "ShadowSociety") (by decide +kernel)) (hts (.initialized RX0) (List.mem_of_getElem? (i := 7) (by decide +kernel))) (by decide +kernel) ⟨Nat.le_of_ble_eq_true rfl, Nat.le_of_ble_eq_true rfl⟩, hts (.instanceMethod yX0_heightOfWornHat) (List.mem_of_getElem? (i := 12) (by decide +kernel)), hts (.selects RX0 yX0_heightOfWornHat yX0_heightOfWornHat) (List.mem_of_getElem? (i := 13) (by decide +kernel))⟩ (rb_V hK hN hP.2.2 (va_recv hK (one_P (hP.2.2 x hy)) (ci := 1) (q0 := 0) rfl rfl)) rfl rfl hl.1 rfl (lv_room (Nat.le_of_ble_eq_true rfl)) dX1_mixedWithMember_42 ⟨Nat.le_of_ble_eq_true rfl, Nat.le_of_ble_eq_true rfl⟩)) (fun r_9 hr_9 => ?_)
  rw [hr_9]
  refine lv_i2l (v := (wornH σ x).toInt64) hx hb dX1_mixedWithMember_45 rfl ?_
  refine vp_callSl (va_Run.run (va_runS (As := [.long dd_8, .long ((wornH σ x).toInt64)]) (rest := []) ⟨hx, hb, hml, hown, hts⟩ (c_X1_mixed l D cs dd_8 ((wornH σ x).toInt64)) (va_cwS 2 hts gX1_mixedWithMember_X1_mixed rfl rfl rfl (by decide +kernel) ⟨Nat.le_of_ble_eq_true rfl, Nat.le_of_ble_eq_true rfl⟩) (rb_S hK hN trivial) rfl rfl hl.1 rfl (lv_room (Nat.le_of_ble_eq_true rfl)) dX1_mixedWithMember_46 ⟨Nat.le_of_ble_eq_true rfl, Nat.le_of_ble_eq_true rfl⟩)) (fun r_10 hr_10 => ?_)
  rw [hr_10]
  refine lv_topl (fun dd_11 edd_11 => ?_)
  refine lv_lstore (lv' := [(4, .long dd_11), (0, .ref (r_h ρ)), (1, .long d), (3, .ref (r_a ρ x))]) hx hb dX1_mixedWithMember_49 hl (by decide) rfl (fun ls hl => ?_)
  refine lv_lload hx hb dX1_mixedWithMember_51 (lv_at hl 0 rfl) ?_
  refine lv_aload_n hx hb dX1_mixedWithMember_53 rfl (lv_at hl 1 rfl) ?_
  refine lv_aload_n hx hb dX1_mixedWithMember_54 rfl (lv_at hl 3 rfl) ?_
  refine vp_callSi (va_Run.run (va_runV (As := [.ref (r_a ρ x)]) (rest := [.long dd_11]) ⟨hx, hb, hml, hown, hts⟩ (c_X1_isHatLent l D cs ρ hI hJ x hy) (cwV 1 hts gX1_mixedWithMember_X1_isHatLent rfl rfl rfl (by decide +kernel) ⟨Nat.le_of_ble_eq_true rfl, Nat.le_of_ble_eq_true rfl⟩) (rb_V hK hN hP (va_recv hK (one_P hP.1) (ci := 2) (q0 := 0) rfl rfl)) rfl rfl hl.1 rfl (lv_room (Nat.le_of_ble_eq_true rfl)) dX1_mixedWithMember_55 ⟨Nat.le_of_ble_eq_true rfl, Nat.le_of_ble_eq_true rfl⟩)) (fun r_12 hr_12 => ?_)
  rw [hr_12]
  refine lv_cut (F0 m 66 ls [.long ((b01 (lentS σ x)).toInt64), .long dd_11]) ?_ (fun K_13 => ?_)
  · refine vp_callSl (va_Run.run (va_runS (As := [.long dd_11, .long ((b01 (lentS σ x)).toInt64)]) (rest := []) ⟨hx, hb, hml, hown, hts⟩ (c_X1_mixed l D cs dd_11 ((b01 (lentS σ x)).toInt64)) (va_cwS 2 hts gX1_mixedWithMember_X1_mixed rfl rfl rfl (by decide +kernel) ⟨Nat.le_of_ble_eq_true rfl, Nat.le_of_ble_eq_true rfl⟩) (rb_S hK hN trivial) rfl rfl hl.1 rfl (lv_room (Nat.le_of_ble_eq_true rfl)) dX1_mixedWithMember_66 ⟨Nat.le_of_ble_eq_true rfl, Nat.le_of_ble_eq_true rfl⟩)) (fun r_14 hr_14 => ?_)
    rw [hr_14]
    refine lv_topl (fun dd_15 edd_15 => ?_)
    refine lv_lstore (lv' := [(4, .long dd_15), (0, .ref (r_h ρ)), (1, .long d), (3, .ref (r_a ρ x))]) hx hb dX1_mixedWithMember_69 hl (by decide) rfl (fun ls hl => ?_)
    refine lv_lload hx hb dX1_mixedWithMember_71 (lv_at hl 0 rfl) ?_
    refine lv_aload_n hx hb dX1_mixedWithMember_73 rfl (lv_at hl 3 rfl) ?_
    refine vp_callSi (va_Run.run (va_runVN (As := []) (rest := [.long dd_15]) ⟨hx, hb, hml, hown, hts⟩ (c_X0_isOut l D cs ρ hI hJ x hy) ⟨va_cnB 0 hts gX1_mixedWithMember_X0_isOut_n102 rfl rfl rfl (hN (.methodLinkNest "ShadowSociety" 102 ⟨"ShadowSociety$Member", "isOut", "()Z"⟩ "ShadowSociety") (by decide +kernel)) (hts (.initialized RX0) (List.mem_of_getElem? (i := 7) (by decide +kernel))) (by decide +kernel) ⟨Nat.le_of_ble_eq_true rfl, Nat.le_of_ble_eq_true rfl⟩, hts (.instanceMethod yX0_isOut) (List.mem_of_getElem? (i := 45) (by decide +kernel)), hts (.selects RX0 yX0_isOut yX0_isOut) (List.mem_of_getElem? (i := 46) (by decide +kernel))⟩ (rb_V hK hN hP.2.2 (va_recv hK (one_P (hP.2.2 x hy)) (ci := 1) (q0 := 0) rfl rfl)) rfl rfl hl.1 rfl (lv_room (Nat.le_of_ble_eq_true rfl)) dX1_mixedWithMember_74 ⟨Nat.le_of_ble_eq_true rfl, Nat.le_of_ble_eq_true rfl⟩)) (fun r_16 hr_16 => ?_)
    rw [hr_16]
    refine lv_cut (F0 m 85 ls [.long ((b01 (outS σ x)).toInt64), .long dd_15]) ?_ (fun K_17 => ?_)
    · refine vp_callSl (va_Run.run (va_runS (As := [.long dd_15, .long ((b01 (outS σ x)).toInt64)]) (rest := []) ⟨hx, hb, hml, hown, hts⟩ (c_X1_mixed l D cs dd_15 ((b01 (outS σ x)).toInt64)) (va_cwS 2 hts gX1_mixedWithMember_X1_mixed rfl rfl rfl (by decide +kernel) ⟨Nat.le_of_ble_eq_true rfl, Nat.le_of_ble_eq_true rfl⟩) (rb_S hK hN trivial) rfl rfl hl.1 rfl (lv_room (Nat.le_of_ble_eq_true rfl)) dX1_mixedWithMember_85 ⟨Nat.le_of_ble_eq_true rfl, Nat.le_of_ble_eq_true rfl⟩)) (fun r_18 hr_18 => ?_)
      rw [hr_18]
      refine lv_topl (fun dd_19 edd_19 => ?_)
      refine lv_lstore (lv' := [(4, .long dd_19), (0, .ref (r_h ρ)), (1, .long d), (3, .ref (r_a ρ x))]) hx hb dX1_mixedWithMember_88 hl (by decide) rfl (fun ls hl => ?_)
      refine lv_lload hx hb dX1_mixedWithMember_90 (lv_at hl 0 rfl) ?_
      refine lv_aload_n hx hb dX1_mixedWithMember_92 rfl (lv_at hl 3 rfl) ?_
      refine lv_aload_n hx hb dX1_mixedWithMember_93 rfl (lv_at hl 1 rfl) ?_
      refine vp_callSi (va_Run.run (va_runV (As := []) (rest := [.ref (r_a ρ x), .long dd_19]) ⟨hx, hb, hml, hown, hts⟩ (c_X1_hourOfDay l D cs ρ hI hJ) (cwV 0 hts gX1_mixedWithMember_X1_hourOfDay rfl rfl rfl (by decide +kernel) ⟨Nat.le_of_ble_eq_true rfl, Nat.le_of_ble_eq_true rfl⟩) (rb_V hK hN hP (va_recv hK (one_P hP.1) (ci := 2) (q0 := 0) rfl rfl)) rfl rfl hl.1 rfl (lv_room (Nat.le_of_ble_eq_true rfl)) dX1_mixedWithMember_94 ⟨Nat.le_of_ble_eq_true rfl, Nat.le_of_ble_eq_true rfl⟩)) (fun r_20 hr_20 => ?_)
      rw [hr_20]
      refine vp_callSi (va_Run.run (va_runVN (As := [.int (dayOf σ)]) (rest := [.long dd_19]) ⟨hx, hb, hml, hown, hts⟩ (c_X0_shadowAt l D cs ρ hI hJ x hy (dayOf σ)) ⟨va_cnB 1 hts gX1_mixedWithMember_X0_shadowAt_n113 rfl rfl rfl (hN (.methodLinkNest "ShadowSociety" 113 ⟨"ShadowSociety$Member", "shadowAt", "(I)I"⟩ "ShadowSociety") (by decide +kernel)) (hts (.initialized RX0) (List.mem_of_getElem? (i := 7) (by decide +kernel))) (by decide +kernel) ⟨Nat.le_of_ble_eq_true rfl, Nat.le_of_ble_eq_true rfl⟩, hts (.instanceMethod yX0_shadowAt) (List.mem_of_getElem? (i := 54) (by decide +kernel)), hts (.selects RX0 yX0_shadowAt yX0_shadowAt) (List.mem_of_getElem? (i := 55) (by decide +kernel))⟩ (rb_V hK hN hP.2.2 (va_recv hK (one_P (hP.2.2 x hy)) (ci := 1) (q0 := 0) rfl rfl)) rfl rfl hl.1 rfl (lv_room (Nat.le_of_ble_eq_true rfl)) dX1_mixedWithMember_97 ⟨Nat.le_of_ble_eq_true rfl, Nat.le_of_ble_eq_true rfl⟩)) (fun r_21 hr_21 => ?_)
      rw [hr_21]
      refine lv_i2l (v := (shadS σ x (dayOf σ)).toInt64) hx hb dX1_mixedWithMember_100 rfl ?_
      refine vp_callSl (va_Run.run (va_runS (As := [.long dd_19, .long ((shadS σ x (dayOf σ)).toInt64)]) (rest := []) ⟨hx, hb, hml, hown, hts⟩ (c_X1_mixed l D cs dd_19 ((shadS σ x (dayOf σ)).toInt64)) (va_cwS 2 hts gX1_mixedWithMember_X1_mixed rfl rfl rfl (by decide +kernel) ⟨Nat.le_of_ble_eq_true rfl, Nat.le_of_ble_eq_true rfl⟩) (rb_S hK hN trivial) rfl rfl hl.1 rfl (lv_room (Nat.le_of_ble_eq_true rfl)) dX1_mixedWithMember_101 ⟨Nat.le_of_ble_eq_true rfl, Nat.le_of_ble_eq_true rfl⟩)) (fun r_22 hr_22 => ?_)
      rw [hr_22]
      refine lv_topl (fun dd_23 edd_23 => ?_)
      refine lv_lstore (lv' := [(4, .long dd_23), (0, .ref (r_h ρ)), (1, .long d), (3, .ref (r_a ρ x))]) hx hb dX1_mixedWithMember_104 hl (by decide) rfl (fun ls hl => ?_)
      refine lv_lload hx hb dX1_mixedWithMember_106 (lv_at hl 0 rfl) ?_
      refine lv_aload_n hx hb dX1_mixedWithMember_108 rfl (lv_at hl 3 rfl) ?_
      refine va_getN (D := D) (ci := 1) (v := .int (sCe σ x)) (C := RX0) (T := TX0) (N := 9) hx hb hts in_X1_mixedWithMember_X0 hown hK (one_P (hP.2.2 x hy)) 0 rfl rfl 6 (by decide) (Nst.use hN (w := .fieldLinkNest "ShadowSociety" 117 "ShadowSociety$Member" "certifiedLength" "I" "ShadowSociety") (by decide +kernel)) (fun _ h9 => h9) rfl dX1_mixedWithMember_109 ?_
      refine lv_i2l (v := (sCe σ x).toInt64) hx hb dX1_mixedWithMember_112 rfl ?_
      refine vp_callSl (va_Run.run (va_runS (As := [.long dd_23, .long ((sCe σ x).toInt64)]) (rest := []) ⟨hx, hb, hml, hown, hts⟩ (c_X1_mixed l D cs dd_23 ((sCe σ x).toInt64)) (va_cwS 2 hts gX1_mixedWithMember_X1_mixed rfl rfl rfl (by decide +kernel) ⟨Nat.le_of_ble_eq_true rfl, Nat.le_of_ble_eq_true rfl⟩) (rb_S hK hN trivial) rfl rfl hl.1 rfl (lv_room (Nat.le_of_ble_eq_true rfl)) dX1_mixedWithMember_113 ⟨Nat.le_of_ble_eq_true rfl, Nat.le_of_ble_eq_true rfl⟩)) (fun r_24 hr_24 => ?_)
      rw [hr_24]
      refine lv_topl (fun dd_25 edd_25 => ?_)
      refine lv_lstore (lv' := [(4, .long dd_25), (0, .ref (r_h ρ)), (1, .long d), (3, .ref (r_a ρ x))]) hx hb dX1_mixedWithMember_116 hl (by decide) rfl (fun ls hl => ?_)
      refine lv_lload hx hb dX1_mixedWithMember_118 (lv_at hl 0 rfl) ?_
      refine lv_aload_n hx hb dX1_mixedWithMember_120 rfl (lv_at hl 3 rfl) ?_
      refine vp_callSi (va_Run.run (va_runVN (As := []) (rest := [.long dd_25]) ⟨hx, hb, hml, hown, hts⟩ (c_X0_gainAtAudit l D cs ρ hI hJ x hy) ⟨va_cnB 0 hts gX1_mixedWithMember_X0_gainAtAudit_n151 rfl rfl rfl (hN (.methodLinkNest "ShadowSociety" 151 ⟨"ShadowSociety$Member", "gainAtAudit", "()I"⟩ "ShadowSociety") (by decide +kernel)) (hts (.initialized RX0) (List.mem_of_getElem? (i := 7) (by decide +kernel))) (by decide +kernel) ⟨Nat.le_of_ble_eq_true rfl, Nat.le_of_ble_eq_true rfl⟩, hts (.instanceMethod yX0_gainAtAudit) (List.mem_of_getElem? (i := 66) (by decide +kernel)), hts (.selects RX0 yX0_gainAtAudit yX0_gainAtAudit) (List.mem_of_getElem? (i := 67) (by decide +kernel))⟩ (rb_V hK hN hP.2.2 (va_recv hK (one_P (hP.2.2 x hy)) (ci := 1) (q0 := 0) rfl rfl)) rfl rfl hl.1 rfl (lv_room (Nat.le_of_ble_eq_true rfl)) dX1_mixedWithMember_121 ⟨Nat.le_of_ble_eq_true rfl, Nat.le_of_ble_eq_true rfl⟩)) (fun r_26 hr_26 => ?_)
      rw [hr_26]
      refine lv_i2l (v := (gainS σ x).toInt64) hx hb dX1_mixedWithMember_124 rfl ?_
      refine vp_callSl (va_Run.run (va_runS (As := [.long dd_25, .long ((gainS σ x).toInt64)]) (rest := []) ⟨hx, hb, hml, hown, hts⟩ (c_X1_mixed l D cs dd_25 ((gainS σ x).toInt64)) (va_cwS 2 hts gX1_mixedWithMember_X1_mixed rfl rfl rfl (by decide +kernel) ⟨Nat.le_of_ble_eq_true rfl, Nat.le_of_ble_eq_true rfl⟩) (rb_S hK hN trivial) rfl rfl hl.1 rfl (lv_room (Nat.le_of_ble_eq_true rfl)) dX1_mixedWithMember_125 ⟨Nat.le_of_ble_eq_true rfl, Nat.le_of_ble_eq_true rfl⟩)) (fun r_27 hr_27 => ?_)
      rw [hr_27]
      refine lv_topl (fun dd_28 edd_28 => ?_)
      refine lv_lstore (lv' := [(4, .long dd_28), (0, .ref (r_h ρ)), (1, .long d), (3, .ref (r_a ρ x))]) hx hb dX1_mixedWithMember_128 hl (by decide) rfl (fun ls hl => ?_)
      refine lv_lload hx hb dX1_mixedWithMember_130 (lv_at hl 0 rfl) ?_
      refine lv_aload_n hx hb dX1_mixedWithMember_132 rfl (lv_at hl 1 rfl) ?_
      refine lv_aload_n hx hb dX1_mixedWithMember_133 rfl (lv_at hl 3 rfl) ?_
      refine vp_callSi (va_Run.run (va_runV (As := [.ref (r_a ρ x)]) (rest := [.long dd_28]) ⟨hx, hb, hml, hown, hts⟩ (c_X1_bestHatFor l D cs ρ hI hJ x hy) (cwV 1 hts gX1_mixedWithMember_X1_bestHatFor rfl rfl rfl (by decide +kernel) ⟨Nat.le_of_ble_eq_true rfl, Nat.le_of_ble_eq_true rfl⟩) (rb_V hK hN hP (va_recv hK (one_P hP.1) (ci := 2) (q0 := 0) rfl rfl)) rfl rfl hl.1 rfl (lv_room (Nat.le_of_ble_eq_true rfl)) dX1_mixedWithMember_134 ⟨Nat.le_of_ble_eq_true rfl, Nat.le_of_ble_eq_true rfl⟩)) (fun r_29 hr_29 => ?_)
      rw [hr_29]
      refine lv_i2l (v := (bestS σ x).toInt64) hx hb dX1_mixedWithMember_137 rfl ?_
      refine vp_callSl (va_Run.run (va_runS (As := [.long dd_28, .long ((bestS σ x).toInt64)]) (rest := []) ⟨hx, hb, hml, hown, hts⟩ (c_X1_mixed l D cs dd_28 ((bestS σ x).toInt64)) (va_cwS 2 hts gX1_mixedWithMember_X1_mixed rfl rfl rfl (by decide +kernel) ⟨Nat.le_of_ble_eq_true rfl, Nat.le_of_ble_eq_true rfl⟩) (rb_S hK hN trivial) rfl rfl hl.1 rfl (lv_room (Nat.le_of_ble_eq_true rfl)) dX1_mixedWithMember_138 ⟨Nat.le_of_ble_eq_true rfl, Nat.le_of_ble_eq_true rfl⟩)) (fun r_30 hr_30 => ?_)
      rw [hr_30]
      refine lv_topl (fun dd_31 edd_31 => ?_)
      refine lv_lstore (lv' := [(4, .long dd_31), (0, .ref (r_h ρ)), (1, .long d), (3, .ref (r_a ρ x))]) hx hb dX1_mixedWithMember_141 hl (by decide) rfl (fun ls hl => ?_)
      refine lv_lload hx hb dX1_mixedWithMember_143 (lv_at hl 0 rfl) ?_
      refine lv_aload_n hx hb dX1_mixedWithMember_145 rfl (lv_at hl 1 rfl) ?_
      refine lv_aload_n hx hb dX1_mixedWithMember_146 rfl (lv_at hl 3 rfl) ?_
      refine vp_callSi (va_Run.run (va_runV (As := [.ref (r_a ρ x)]) (rest := [.long dd_31]) ⟨hx, hb, hml, hown, hts⟩ (c_X1_hoursToLongestShadow l D cs ρ hI hJ x hy) (cwV 1 hts gX1_mixedWithMember_X1_hoursToLongestShadow rfl rfl rfl (by decide +kernel) ⟨Nat.le_of_ble_eq_true rfl, Nat.le_of_ble_eq_true rfl⟩) (rb_V hK hN hP (va_recv hK (one_P hP.1) (ci := 2) (q0 := 0) rfl rfl)) rfl rfl hl.1 rfl (lv_room (Nat.le_of_ble_eq_true rfl)) dX1_mixedWithMember_147 ⟨Nat.le_of_ble_eq_true rfl, Nat.le_of_ble_eq_true rfl⟩)) (fun r_32 hr_32 => ?_)
      rw [hr_32]
      refine lv_i2l (v := (longInS σ x).toInt64) hx hb dX1_mixedWithMember_150 rfl ?_
      refine vp_callSl (va_Run.run (va_runS (As := [.long dd_31, .long ((longInS σ x).toInt64)]) (rest := []) ⟨hx, hb, hml, hown, hts⟩ (c_X1_mixed l D cs dd_31 ((longInS σ x).toInt64)) (va_cwS 2 hts gX1_mixedWithMember_X1_mixed rfl rfl rfl (by decide +kernel) ⟨Nat.le_of_ble_eq_true rfl, Nat.le_of_ble_eq_true rfl⟩) (rb_S hK hN trivial) rfl rfl hl.1 rfl (lv_room (Nat.le_of_ble_eq_true rfl)) dX1_mixedWithMember_151 ⟨Nat.le_of_ble_eq_true rfl, Nat.le_of_ble_eq_true rfl⟩)) (fun r_33 hr_33 => ?_)
      rw [hr_33]
      refine lv_topl (fun dd_34 edd_34 => ?_)
      refine lv_lstore (lv' := [(4, .long dd_34), (0, .ref (r_h ρ)), (1, .long d), (3, .ref (r_a ρ x))]) hx hb dX1_mixedWithMember_154 hl (by decide) rfl (fun ls hl => ?_)
      refine lv_lload hx hb dX1_mixedWithMember_156 (lv_at hl 0 rfl) ?_
      exact W.lret (v := dd_34) hx hb hr (fun t ht hW => ⟨_, rfl, (by rw [edd_34, edd_31, edd_28, edd_25, edd_23, edd_19, edd_15, edd_11, edd_8, edd_5, edd_3, edd_1]; rfl), ht⟩) (fun q hq => absurd hq List.not_mem_nil) dX1_mixedWithMember_158
    · refine lv_if_eq (tgt := 84) hx hb dX1_mixedWithMember_77 (by decide) (fun c_35 => ?_) (fun c_35 => ?_)
      · refine lv_lconst (v := 0) hx hb dX1_mixedWithMember_84 (by decide) ?_
        rw [b01L_f c_35] at K_17
        exact K_17
      · refine lv_lconst (v := 1) hx hb dX1_mixedWithMember_80 (by decide) ?_
        refine lv_goto (tgt := 85) hx hb dX1_mixedWithMember_81 (by decide) ?_
        rw [b01L_t c_35] at K_17
        exact K_17
  · refine lv_if_eq (tgt := 65) hx hb dX1_mixedWithMember_58 (by decide) (fun c_36 => ?_) (fun c_36 => ?_)
    · refine lv_lconst (v := 0) hx hb dX1_mixedWithMember_65 (by decide) ?_
      rw [b01L_f c_36] at K_13
      exact K_13
    · refine lv_lconst (v := 1) hx hb dX1_mixedWithMember_61 (by decide) ?_
      refine lv_goto (tgt := 66) hx hb dX1_mixedWithMember_62 (by decide) ?_
      rw [b01L_t c_36] at K_13
      exact K_13
theorem in_X1_digest_X1 : ∀ w ∈ wsX10, w ∈ wsX1_digest := by decide +kernel
set_option maxHeartbeats 4000000 in
set_option maxRecDepth 100000 in
/-- the checksum -/
theorem c_X1_digest (l : Launch) (D : va_G) (cs : Cs) (ρ : Rf) {B : Nat} {σ : PS} (hI : InvS B σ) (hJ : InjA ρ (sK σ))  : Met l yX1_digest wsX1_digest ({ frames := 7, cells := 0, slots := 0, locals := 141 }) (va_Pc [.ref (r_h ρ)] (RBp D cs (Soc D cs ρ σ))) (vp_Sl (fun r : Int64 => r = digS σ)) 0 0 (fun _ => False) := by
  refine Met.ofW (cc := cX1_digest) (maxL := 4) (ret := (some .long)) (by decide) rfl ?_
  intro p e s m args below meth c s₁ B0 hml hv
  obtain ⟨rfl, hP, hK, hN⟩ := hv
  have hx := B0.exec
  have hb := B0.bytes
  have hr := B0.returns
  have hts := atoms_spec (ws := wsX1_digest) B0.pre
  have hown : s.vm.findClass RX1 = some m.cls := findClass_of_methodNamed B0.named
  have hlocks := B0.notSynchronized
  have hl := lv_entry ([.ref (r_h ρ)]) (n := 4) (Nat.le_of_ble_eq_true rfl)
  rw [lg_entry_eq]
  generalize (lg_sl ([.ref (r_h ρ)]) ++ List.replicate (4 - (lg_sl ([.ref (r_h ρ)])).length) Slot.unset).toArray = ls at hl ⊢
  have hl : lv_has ls 4 [(0, .ref (r_h ρ))] := hl
  refine lv_ldc2 (v := 1049) hx hb hown (hts (.constantLong RX1 164 (1049)) (List.mem_of_getElem? (i := 1) (by decide +kernel))) dX1_digest_0 ?_
  refine lv_lstore_n (lv' := [(1, .long 1049), (0, .ref (r_h ρ))]) hx hb dX1_digest_3 rfl hl (by decide) rfl (fun ls hl => ?_)
  refine lv_lload_n hx hb dX1_digest_4 rfl (lv_at hl 0 rfl) ?_
  refine lv_aload_n hx hb dX1_digest_5 rfl (lv_at hl 1 rfl) ?_
  refine vp_callSi (va_Run.run (va_runV (As := []) (rest := [.long 1049]) ⟨hx, hb, hml, hown, hts⟩ (c_X1_members l D cs ρ hI hJ) (cwV 0 hts gX1_digest_X1_members rfl rfl rfl (by decide +kernel) ⟨Nat.le_of_ble_eq_true rfl, Nat.le_of_ble_eq_true rfl⟩) (rb_V hK hN hP (va_recv hK (one_P hP.1) (ci := 2) (q0 := 0) rfl rfl)) rfl rfl hl.1 rfl (lv_room (Nat.le_of_ble_eq_true rfl)) dX1_digest_6 ⟨Nat.le_of_ble_eq_true rfl, Nat.le_of_ble_eq_true rfl⟩)) (fun r_1 hr_1 => ?_)
  rw [hr_1]
  refine lv_i2l (v := (nI (sK σ)).toInt64) hx hb dX1_digest_9 rfl ?_
  refine vp_callSl (va_Run.run (va_runS (As := [.long 1049, .long ((nI (sK σ)).toInt64)]) (rest := []) ⟨hx, hb, hml, hown, hts⟩ (c_X1_mixed l D cs 1049 ((nI (sK σ)).toInt64)) (va_cwS 2 hts gX1_digest_X1_mixed rfl rfl rfl (by decide +kernel) ⟨Nat.le_of_ble_eq_true rfl, Nat.le_of_ble_eq_true rfl⟩) (rb_S hK hN trivial) rfl rfl hl.1 rfl (lv_room (Nat.le_of_ble_eq_true rfl)) dX1_digest_10 ⟨Nat.le_of_ble_eq_true rfl, Nat.le_of_ble_eq_true rfl⟩)) (fun r_2 hr_2 => ?_)
  rw [hr_2]
  refine lv_lstore_n (lv' := [(1, .long (mixL 1049 ((nI (sK σ)).toInt64))), (0, .ref (r_h ρ))]) hx hb dX1_digest_13 rfl hl (by decide) rfl (fun ls hl => ?_)
  refine lv_lload_n hx hb dX1_digest_14 rfl (lv_at hl 0 rfl) ?_
  refine lv_aload_n hx hb dX1_digest_15 rfl (lv_at hl 1 rfl) ?_
  refine vp_callSi (va_Run.run (va_runV (As := []) (rest := [.long (mixL 1049 ((nI (sK σ)).toInt64))]) ⟨hx, hb, hml, hown, hts⟩ (c_X1_hour l D cs ρ hI hJ) (cwV 0 hts gX1_digest_X1_hour rfl rfl rfl (by decide +kernel) ⟨Nat.le_of_ble_eq_true rfl, Nat.le_of_ble_eq_true rfl⟩) (rb_V hK hN hP (va_recv hK (one_P hP.1) (ci := 2) (q0 := 0) rfl rfl)) rfl rfl hl.1 rfl (lv_room (Nat.le_of_ble_eq_true rfl)) dX1_digest_16 ⟨Nat.le_of_ble_eq_true rfl, Nat.le_of_ble_eq_true rfl⟩)) (fun r_3 hr_3 => ?_)
  rw [hr_3]
  refine lv_i2l (v := (sHr σ).toInt64) hx hb dX1_digest_19 rfl ?_
  refine vp_callSl (va_Run.run (va_runS (As := [.long (mixL 1049 ((nI (sK σ)).toInt64)), .long ((sHr σ).toInt64)]) (rest := []) ⟨hx, hb, hml, hown, hts⟩ (c_X1_mixed l D cs (mixL 1049 ((nI (sK σ)).toInt64)) ((sHr σ).toInt64)) (va_cwS 2 hts gX1_digest_X1_mixed rfl rfl rfl (by decide +kernel) ⟨Nat.le_of_ble_eq_true rfl, Nat.le_of_ble_eq_true rfl⟩) (rb_S hK hN trivial) rfl rfl hl.1 rfl (lv_room (Nat.le_of_ble_eq_true rfl)) dX1_digest_20 ⟨Nat.le_of_ble_eq_true rfl, Nat.le_of_ble_eq_true rfl⟩)) (fun r_4 hr_4 => ?_)
  rw [hr_4]
  refine lv_lstore_n (lv' := [(1, .long (mixL (mixL 1049 ((nI (sK σ)).toInt64)) ((sHr σ).toInt64))), (0, .ref (r_h ρ))]) hx hb dX1_digest_23 rfl hl (by decide) rfl (fun ls hl => ?_)
  refine lv_lload_n hx hb dX1_digest_24 rfl (lv_at hl 0 rfl) ?_
  refine lv_aload_n hx hb dX1_digest_25 rfl (lv_at hl 1 rfl) ?_
  refine vp_callSi (va_Run.run (va_runV (As := []) (rest := [.long (mixL (mixL 1049 ((nI (sK σ)).toInt64)) ((sHr σ).toInt64))]) ⟨hx, hb, hml, hown, hts⟩ (c_X1_seized l D cs ρ hI hJ) (cwV 0 hts gX1_digest_X1_seized rfl rfl rfl (by decide +kernel) ⟨Nat.le_of_ble_eq_true rfl, Nat.le_of_ble_eq_true rfl⟩) (rb_V hK hN hP (va_recv hK (one_P hP.1) (ci := 2) (q0 := 0) rfl rfl)) rfl rfl hl.1 rfl (lv_room (Nat.le_of_ble_eq_true rfl)) dX1_digest_26 ⟨Nat.le_of_ble_eq_true rfl, Nat.le_of_ble_eq_true rfl⟩)) (fun r_5 hr_5 => ?_)
  rw [hr_5]
  refine lv_i2l (v := (sSz σ).toInt64) hx hb dX1_digest_29 rfl ?_
  refine vp_callSl (va_Run.run (va_runS (As := [.long (mixL (mixL 1049 ((nI (sK σ)).toInt64)) ((sHr σ).toInt64)), .long ((sSz σ).toInt64)]) (rest := []) ⟨hx, hb, hml, hown, hts⟩ (c_X1_mixed l D cs (mixL (mixL 1049 ((nI (sK σ)).toInt64)) ((sHr σ).toInt64)) ((sSz σ).toInt64)) (va_cwS 2 hts gX1_digest_X1_mixed rfl rfl rfl (by decide +kernel) ⟨Nat.le_of_ble_eq_true rfl, Nat.le_of_ble_eq_true rfl⟩) (rb_S hK hN trivial) rfl rfl hl.1 rfl (lv_room (Nat.le_of_ble_eq_true rfl)) dX1_digest_30 ⟨Nat.le_of_ble_eq_true rfl, Nat.le_of_ble_eq_true rfl⟩)) (fun r_6 hr_6 => ?_)
  rw [hr_6]
  refine lv_lstore_n (lv' := [(1, .long (mixL (mixL (mixL 1049 ((nI (sK σ)).toInt64)) ((sHr σ).toInt64)) ((sSz σ).toInt64))), (0, .ref (r_h ρ))]) hx hb dX1_digest_33 rfl hl (by decide) rfl (fun ls hl => ?_)
  refine lv_lload_n hx hb dX1_digest_34 rfl (lv_at hl 0 rfl) ?_
  refine lv_aload_n hx hb dX1_digest_35 rfl (lv_at hl 1 rfl) ?_
  refine vp_callSi (va_Run.run (va_runV (As := []) (rest := [.long (mixL (mixL (mixL 1049 ((nI (sK σ)).toInt64)) ((sHr σ).toInt64)) ((sSz σ).toInt64))]) ⟨hx, hb, hml, hown, hts⟩ (c_X1_revoked l D cs ρ hI hJ) (cwV 0 hts gX1_digest_X1_revoked rfl rfl rfl (by decide +kernel) ⟨Nat.le_of_ble_eq_true rfl, Nat.le_of_ble_eq_true rfl⟩) (rb_V hK hN hP (va_recv hK (one_P hP.1) (ci := 2) (q0 := 0) rfl rfl)) rfl rfl hl.1 rfl (lv_room (Nat.le_of_ble_eq_true rfl)) dX1_digest_36 ⟨Nat.le_of_ble_eq_true rfl, Nat.le_of_ble_eq_true rfl⟩)) (fun r_7 hr_7 => ?_)
  rw [hr_7]
  refine lv_i2l (v := (sRv σ).toInt64) hx hb dX1_digest_39 rfl ?_
  refine vp_callSl (va_Run.run (va_runS (As := [.long (mixL (mixL (mixL 1049 ((nI (sK σ)).toInt64)) ((sHr σ).toInt64)) ((sSz σ).toInt64)), .long ((sRv σ).toInt64)]) (rest := []) ⟨hx, hb, hml, hown, hts⟩ (c_X1_mixed l D cs (mixL (mixL (mixL 1049 ((nI (sK σ)).toInt64)) ((sHr σ).toInt64)) ((sSz σ).toInt64)) ((sRv σ).toInt64)) (va_cwS 2 hts gX1_digest_X1_mixed rfl rfl rfl (by decide +kernel) ⟨Nat.le_of_ble_eq_true rfl, Nat.le_of_ble_eq_true rfl⟩) (rb_S hK hN trivial) rfl rfl hl.1 rfl (lv_room (Nat.le_of_ble_eq_true rfl)) dX1_digest_40 ⟨Nat.le_of_ble_eq_true rfl, Nat.le_of_ble_eq_true rfl⟩)) (fun r_8 hr_8 => ?_)
  rw [hr_8]
  refine lv_lstore_n (lv' := [(1, .long (mixL (mixL (mixL (mixL 1049 ((nI (sK σ)).toInt64)) ((sHr σ).toInt64)) ((sSz σ).toInt64)) ((sRv σ).toInt64))), (0, .ref (r_h ρ))]) hx hb dX1_digest_43 rfl hl (by decide) rfl (fun ls hl => ?_)
  refine lv_lload_n hx hb dX1_digest_44 rfl (lv_at hl 0 rfl) ?_
  refine lv_aload_n hx hb dX1_digest_45 rfl (lv_at hl 1 rfl) ?_
  refine vp_callSi (va_Run.run (va_runV (As := []) (rest := [.long (mixL (mixL (mixL (mixL 1049 ((nI (sK σ)).toInt64)) ((sHr σ).toInt64)) ((sSz σ).toInt64)) ((sRv σ).toInt64))]) ⟨hx, hb, hml, hown, hts⟩ (c_X1_certificates l D cs ρ hI hJ) (cwV 0 hts gX1_digest_X1_certificates rfl rfl rfl (by decide +kernel) ⟨Nat.le_of_ble_eq_true rfl, Nat.le_of_ble_eq_true rfl⟩) (rb_V hK hN hP (va_recv hK (one_P hP.1) (ci := 2) (q0 := 0) rfl rfl)) rfl rfl hl.1 rfl (lv_room (Nat.le_of_ble_eq_true rfl)) dX1_digest_46 ⟨Nat.le_of_ble_eq_true rfl, Nat.le_of_ble_eq_true rfl⟩)) (fun r_9 hr_9 => ?_)
  rw [hr_9]
  refine lv_i2l (v := (certsS σ).toInt64) hx hb dX1_digest_49 rfl ?_
  refine vp_callSl (va_Run.run (va_runS (As := [.long (mixL (mixL (mixL (mixL 1049 ((nI (sK σ)).toInt64)) ((sHr σ).toInt64)) ((sSz σ).toInt64)) ((sRv σ).toInt64)), .long ((certsS σ).toInt64)]) (rest := []) ⟨hx, hb, hml, hown, hts⟩ (c_X1_mixed l D cs (mixL (mixL (mixL (mixL 1049 ((nI (sK σ)).toInt64)) ((sHr σ).toInt64)) ((sSz σ).toInt64)) ((sRv σ).toInt64)) ((certsS σ).toInt64)) (va_cwS 2 hts gX1_digest_X1_mixed rfl rfl rfl (by decide +kernel) ⟨Nat.le_of_ble_eq_true rfl, Nat.le_of_ble_eq_true rfl⟩) (rb_S hK hN trivial) rfl rfl hl.1 rfl (lv_room (Nat.le_of_ble_eq_true rfl)) dX1_digest_50 ⟨Nat.le_of_ble_eq_true rfl, Nat.le_of_ble_eq_true rfl⟩)) (fun r_10 hr_10 => ?_)
  rw [hr_10]
  refine lv_lstore_n (lv' := [(1, .long (mixL (mixL (mixL (mixL (mixL 1049 ((nI (sK σ)).toInt64)) ((sHr σ).toInt64)) ((sSz σ).toInt64)) ((sRv σ).toInt64)) ((certsS σ).toInt64))), (0, .ref (r_h ρ))]) hx hb dX1_digest_53 rfl hl (by decide) rfl (fun ls hl => ?_)
  refine lv_lload_n hx hb dX1_digest_54 rfl (lv_at hl 0 rfl) ?_
  refine lv_aload_n hx hb dX1_digest_55 rfl (lv_at hl 1 rfl) ?_
  refine vp_callSi (va_Run.run (va_runV (As := []) (rest := [.long (mixL (mixL (mixL (mixL (mixL 1049 ((nI (sK σ)).toInt64)) ((sHr σ).toInt64)) ((sSz σ).toInt64)) ((sRv σ).toInt64)) ((certsS σ).toInt64))]) ⟨hx, hb, hml, hown, hts⟩ (c_X1_honestOnes l D cs ρ hI hJ) (cwV 0 hts gX1_digest_X1_honestOnes rfl rfl rfl (by decide +kernel) ⟨Nat.le_of_ble_eq_true rfl, Nat.le_of_ble_eq_true rfl⟩) (rb_V hK hN hP (va_recv hK (one_P hP.1) (ci := 2) (q0 := 0) rfl rfl)) rfl rfl hl.1 rfl (lv_room (Nat.le_of_ble_eq_true rfl)) dX1_digest_56 ⟨Nat.le_of_ble_eq_true rfl, Nat.le_of_ble_eq_true rfl⟩)) (fun r_11 hr_11 => ?_)
  rw [hr_11]
  refine lv_i2l (v := (honOS σ).toInt64) hx hb dX1_digest_59 rfl ?_
  refine vp_callSl (va_Run.run (va_runS (As := [.long (mixL (mixL (mixL (mixL (mixL 1049 ((nI (sK σ)).toInt64)) ((sHr σ).toInt64)) ((sSz σ).toInt64)) ((sRv σ).toInt64)) ((certsS σ).toInt64)), .long ((honOS σ).toInt64)]) (rest := []) ⟨hx, hb, hml, hown, hts⟩ (c_X1_mixed l D cs (mixL (mixL (mixL (mixL (mixL 1049 ((nI (sK σ)).toInt64)) ((sHr σ).toInt64)) ((sSz σ).toInt64)) ((sRv σ).toInt64)) ((certsS σ).toInt64)) ((honOS σ).toInt64)) (va_cwS 2 hts gX1_digest_X1_mixed rfl rfl rfl (by decide +kernel) ⟨Nat.le_of_ble_eq_true rfl, Nat.le_of_ble_eq_true rfl⟩) (rb_S hK hN trivial) rfl rfl hl.1 rfl (lv_room (Nat.le_of_ble_eq_true rfl)) dX1_digest_60 ⟨Nat.le_of_ble_eq_true rfl, Nat.le_of_ble_eq_true rfl⟩)) (fun r_12 hr_12 => ?_)
  rw [hr_12]
  refine lv_lstore_n (lv' := [(1, .long (mixL (mixL (mixL (mixL (mixL (mixL 1049 ((nI (sK σ)).toInt64)) ((sHr σ).toInt64)) ((sSz σ).toInt64)) ((sRv σ).toInt64)) ((certsS σ).toInt64)) ((honOS σ).toInt64))), (0, .ref (r_h ρ))]) hx hb dX1_digest_63 rfl hl (by decide) rfl (fun ls hl => ?_)
  refine lv_lload_n hx hb dX1_digest_64 rfl (lv_at hl 0 rfl) ?_
  refine lv_aload_n hx hb dX1_digest_65 rfl (lv_at hl 1 rfl) ?_
  refine vp_callSi (va_Run.run (va_runV (As := []) (rest := [.long (mixL (mixL (mixL (mixL (mixL (mixL 1049 ((nI (sK σ)).toInt64)) ((sHr σ).toInt64)) ((sSz σ).toInt64)) ((sRv σ).toInt64)) ((certsS σ).toInt64)) ((honOS σ).toInt64))]) ⟨hx, hb, hml, hown, hts⟩ (c_X1_longest l D cs ρ hI hJ) (cwV 0 hts gX1_digest_X1_longest rfl rfl rfl (by decide +kernel) ⟨Nat.le_of_ble_eq_true rfl, Nat.le_of_ble_eq_true rfl⟩) (rb_V hK hN hP (va_recv hK (one_P hP.1) (ci := 2) (q0 := 0) rfl rfl)) rfl rfl hl.1 rfl (lv_room (Nat.le_of_ble_eq_true rfl)) dX1_digest_66 ⟨Nat.le_of_ble_eq_true rfl, Nat.le_of_ble_eq_true rfl⟩)) (fun r_13 hr_13 => ?_)
  rw [hr_13]
  refine lv_i2l (v := (longS σ).toInt64) hx hb dX1_digest_69 rfl ?_
  refine vp_callSl (va_Run.run (va_runS (As := [.long (mixL (mixL (mixL (mixL (mixL (mixL 1049 ((nI (sK σ)).toInt64)) ((sHr σ).toInt64)) ((sSz σ).toInt64)) ((sRv σ).toInt64)) ((certsS σ).toInt64)) ((honOS σ).toInt64)), .long ((longS σ).toInt64)]) (rest := []) ⟨hx, hb, hml, hown, hts⟩ (c_X1_mixed l D cs (mixL (mixL (mixL (mixL (mixL (mixL 1049 ((nI (sK σ)).toInt64)) ((sHr σ).toInt64)) ((sSz σ).toInt64)) ((sRv σ).toInt64)) ((certsS σ).toInt64)) ((honOS σ).toInt64)) ((longS σ).toInt64)) (va_cwS 2 hts gX1_digest_X1_mixed rfl rfl rfl (by decide +kernel) ⟨Nat.le_of_ble_eq_true rfl, Nat.le_of_ble_eq_true rfl⟩) (rb_S hK hN trivial) rfl rfl hl.1 rfl (lv_room (Nat.le_of_ble_eq_true rfl)) dX1_digest_70 ⟨Nat.le_of_ble_eq_true rfl, Nat.le_of_ble_eq_true rfl⟩)) (fun r_14 hr_14 => ?_)
  rw [hr_14]
  refine lv_lstore_n (lv' := [(1, .long (mixL (mixL (mixL (mixL (mixL (mixL (mixL 1049 ((nI (sK σ)).toInt64)) ((sHr σ).toInt64)) ((sSz σ).toInt64)) ((sRv σ).toInt64)) ((certsS σ).toInt64)) ((honOS σ).toInt64)) ((longS σ).toInt64))), (0, .ref (r_h ρ))]) hx hb dX1_digest_73 rfl hl (by decide) rfl (fun ls hl => ?_)
  refine lv_lload_n hx hb dX1_digest_74 rfl (lv_at hl 0 rfl) ?_
  refine lv_aload_n hx hb dX1_digest_75 rfl (lv_at hl 1 rfl) ?_
  refine vp_callSi (va_Run.run (va_runV (As := []) (rest := [.long (mixL (mixL (mixL (mixL (mixL (mixL (mixL 1049 ((nI (sK σ)).toInt64)) ((sHr σ).toInt64)) ((sSz σ).toInt64)) ((sRv σ).toInt64)) ((certsS σ).toInt64)) ((honOS σ).toInt64)) ((longS σ).toInt64))]) ⟨hx, hb, hml, hown, hts⟩ (c_X1_richestThen l D cs ρ hI hJ) (cwV 0 hts gX1_digest_X1_richestThen rfl rfl rfl (by decide +kernel) ⟨Nat.le_of_ble_eq_true rfl, Nat.le_of_ble_eq_true rfl⟩) (rb_V hK hN hP (va_recv hK (one_P hP.1) (ci := 2) (q0 := 0) rfl rfl)) rfl rfl hl.1 rfl (lv_room (Nat.le_of_ble_eq_true rfl)) dX1_digest_76 ⟨Nat.le_of_ble_eq_true rfl, Nat.le_of_ble_eq_true rfl⟩)) (fun r_15 hr_15 => ?_)
  rw [hr_15]
  refine lv_i2l (v := (richS σ).toInt64) hx hb dX1_digest_79 rfl ?_
  refine vp_callSl (va_Run.run (va_runS (As := [.long (mixL (mixL (mixL (mixL (mixL (mixL (mixL 1049 ((nI (sK σ)).toInt64)) ((sHr σ).toInt64)) ((sSz σ).toInt64)) ((sRv σ).toInt64)) ((certsS σ).toInt64)) ((honOS σ).toInt64)) ((longS σ).toInt64)), .long ((richS σ).toInt64)]) (rest := []) ⟨hx, hb, hml, hown, hts⟩ (c_X1_mixed l D cs (mixL (mixL (mixL (mixL (mixL (mixL (mixL 1049 ((nI (sK σ)).toInt64)) ((sHr σ).toInt64)) ((sSz σ).toInt64)) ((sRv σ).toInt64)) ((certsS σ).toInt64)) ((honOS σ).toInt64)) ((longS σ).toInt64)) ((richS σ).toInt64)) (va_cwS 2 hts gX1_digest_X1_mixed rfl rfl rfl (by decide +kernel) ⟨Nat.le_of_ble_eq_true rfl, Nat.le_of_ble_eq_true rfl⟩) (rb_S hK hN trivial) rfl rfl hl.1 rfl (lv_room (Nat.le_of_ble_eq_true rfl)) dX1_digest_80 ⟨Nat.le_of_ble_eq_true rfl, Nat.le_of_ble_eq_true rfl⟩)) (fun r_16 hr_16 => ?_)
  rw [hr_16]
  refine lv_lstore_n (lv' := [(1, .long (mixL (mixL (mixL (mixL (mixL (mixL (mixL (mixL 1049 ((nI (sK σ)).toInt64)) ((sHr σ).toInt64)) ((sSz σ).toInt64)) ((sRv σ).toInt64)) ((certsS σ).toInt64)) ((honOS σ).toInt64)) ((longS σ).toInt64)) ((richS σ).toInt64))), (0, .ref (r_h ρ))]) hx hb dX1_digest_83 rfl hl (by decide) rfl (fun ls hl => ?_)
  refine lv_iconst (v := 0) hx hb dX1_digest_84 (by decide) ?_
  refine lv_istore_n (lv' := [(3, .int 0), (1, .long (mixL (mixL (mixL (mixL (mixL (mixL (mixL (mixL 1049 ((nI (sK σ)).toInt64)) ((sHr σ).toInt64)) ((sSz σ).toInt64)) ((sRv σ).toInt64)) ((certsS σ).toInt64)) ((honOS σ).toInt64)) ((longS σ).toInt64)) ((richS σ).toInt64))), (0, .ref (r_h ρ))]) hx hb dX1_digest_85 rfl hl (by decide) rfl (fun ls hl => ?_)
  refine lv_for (sK σ) (fun ls => F0 m 86 ls []) (fun n9 => [(0, .ref (r_h ρ)), (1, .long (digL σ (mixS (mixS (mixS (mixS (mixS (mixS (mixS (mixS 1049 (nI (sK σ))) (sHr σ)) (sSz σ)) (sRv σ)) (certsS σ)) (honOS σ)) (longS σ)) (richS σ)) n9)), (3, .int (nI n9))]) (fun _ => True) (show lv_has ls 4 [(0, .ref (r_h ρ)), (1, .long (digL σ (mixS (mixS (mixS (mixS (mixS (mixS (mixS (mixS 1049 (nI (sK σ))) (sHr σ)) (sSz σ)) (sRv σ)) (certsS σ)) (honOS σ)) (longS σ)) (richS σ)) 0)), (3, .int (nI 0))] from lv_sub hl [2, 1, 0] rfl) (trivial) (fun n9 ls hn9 hj9 hl K9 => ?_) (fun ls hj9 hl => ?_)
  · have hl : lv_has ls 4 [(0, .ref (r_h ρ)), (1, .long (digL σ (mixS (mixS (mixS (mixS (mixS (mixS (mixS (mixS 1049 (nI (sK σ))) (sHr σ)) (sSz σ)) (sRv σ)) (certsS σ)) (honOS σ)) (longS σ)) (richS σ)) n9)), (3, .int (nI n9))] := hl
    refine lv_iload_n hx hb dX1_digest_86 rfl (lv_at hl 2 rfl) ?_
    refine lv_aload_n hx hb dX1_digest_87 rfl (lv_at hl 0 rfl) ?_
    refine va_get (D := D) (ci := 2) (v := .ref (r_q ρ)) (C := RX1) (T := TX1) (N := 4) hx hb hts in_X1_digest_X1 hown hK (one_P hP.1) 0 rfl rfl 0 (by decide) (hts (.fieldLink RX1 10 "ShadowSociety" "roll" "Ljava/util/ArrayList;") (List.mem_of_getElem? (i := 2) (by decide +kernel))) (fun _ h9 => h9) rfl dX1_digest_88 ?_
    refine vp_callSi (va_Run.run (va_runV (As := []) (rest := [.int (nI n9)]) ⟨hx, hb, hml, hown, hts⟩ (c_Jx4a65c_size_8abf5 l D cs ρ hI hJ) (cwV 0 hts gX1_digest_Jx4a65c_size_8abf5 rfl rfl rfl (by decide +kernel) ⟨Nat.le_of_ble_eq_true rfl, Nat.le_of_ble_eq_true rfl⟩) (rb_V hK hN hP.2.1 (va_recv hK (one_P hP.2.1.1) (ci := 0) (q0 := 0) rfl rfl)) rfl rfl hl.1 rfl (lv_room (Nat.le_of_ble_eq_true rfl)) dX1_digest_91 ⟨Nat.le_of_ble_eq_true rfl, Nat.le_of_ble_eq_true rfl⟩)) (fun r_17 hr_17 => ?_)
    rw [hr_17]
    refine lv_icmp_ge (tgt := 120) hx hb dX1_digest_94 (by decide) (fun c9 => absurd c9 (nI_ge hn9 (by have := hI.1; omega))) (fun _ => ?_)
    refine lv_aload_n hx hb dX1_digest_97 rfl (lv_at hl 0 rfl) ?_
    refine lv_lload_n hx hb dX1_digest_98 rfl (lv_at hl 1 rfl) ?_
    refine lv_aload_n hx hb dX1_digest_99 rfl (lv_at hl 0 rfl) ?_
    refine va_get (D := D) (ci := 2) (v := .ref (r_q ρ)) (C := RX1) (T := TX1) (N := 4) hx hb hts in_X1_digest_X1 hown hK (one_P hP.1) 0 rfl rfl 0 (by decide) (hts (.fieldLink RX1 10 "ShadowSociety" "roll" "Ljava/util/ArrayList;") (List.mem_of_getElem? (i := 2) (by decide +kernel))) (fun _ h9 => h9) rfl dX1_digest_100 ?_
    refine lv_iload_n hx hb dX1_digest_103 rfl (lv_at hl 2 rfl) ?_
    refine va_csq (va_Run.run (va_runV (As := [.int (nI n9)]) (rest := [.long (digL σ (mixS (mixS (mixS (mixS (mixS (mixS (mixS (mixS 1049 (nI (sK σ))) (sHr σ)) (sSz σ)) (sRv σ)) (certsS σ)) (honOS σ)) (longS σ)) (richS σ)) n9), .ref (r_h ρ)]) ⟨hx, hb, hml, hown, hts⟩ (c_Jx4a65c_get_915e3 l D cs ρ hI hJ n9 hn9) (cwV 1 hts gX1_digest_Jx4a65c_get_915e3 rfl rfl rfl (by decide +kernel) ⟨Nat.le_of_ble_eq_true rfl, Nat.le_of_ble_eq_true rfl⟩) (rb_V hK hN hP.2.1 (va_recv hK (one_P hP.2.1.1) (ci := 0) (q0 := 0) rfl rfl)) rfl rfl hl.1 rfl (lv_room (Nat.le_of_ble_eq_true rfl)) dX1_digest_104 ⟨Nat.le_of_ble_eq_true rfl, Nat.le_of_ble_eq_true rfl⟩)) (fun r_18 hr_18 => ?_)
    rw [hr_18]
    refine va_castS (nm := RX0) hx hb hown (hts (.classLink RX1 44 RX0) (List.mem_of_getElem? (i := 3) (by decide +kernel))) (hK.1 1 _ rfl).2 (va_recv hK (one_P (hP.2.2 n9 hn9)) (ci := 1) (q0 := 0) rfl rfl) dX1_digest_107 ?_
    refine vp_callSl (va_Run.run (va_runV (As := [.long (digL σ (mixS (mixS (mixS (mixS (mixS (mixS (mixS (mixS 1049 (nI (sK σ))) (sHr σ)) (sSz σ)) (sRv σ)) (certsS σ)) (honOS σ)) (longS σ)) (richS σ)) n9), .ref (r_a ρ n9)]) (rest := []) ⟨hx, hb, hml, hown, hts⟩ (c_X1_mixedWithMember l D cs ρ hI hJ (digL σ (mixS (mixS (mixS (mixS (mixS (mixS (mixS (mixS 1049 (nI (sK σ))) (sHr σ)) (sSz σ)) (sRv σ)) (certsS σ)) (honOS σ)) (longS σ)) (richS σ)) n9) n9 hn9) (cwV 2 hts gX1_digest_X1_mixedWithMember rfl rfl rfl (by decide +kernel) ⟨Nat.le_of_ble_eq_true rfl, Nat.le_of_ble_eq_true rfl⟩) (rb_V hK hN hP (va_recv hK (one_P hP.1) (ci := 2) (q0 := 0) rfl rfl)) rfl rfl hl.1 rfl (lv_room (Nat.le_of_ble_eq_true rfl)) dX1_digest_110 ⟨Nat.le_of_ble_eq_true rfl, Nat.le_of_ble_eq_true rfl⟩)) (fun r_19 hr_19 => ?_)
    rw [hr_19]
    refine lv_lstore_n (lv' := [(1, .long (digM σ (digL σ (mixS (mixS (mixS (mixS (mixS (mixS (mixS (mixS 1049 (nI (sK σ))) (sHr σ)) (sSz σ)) (sRv σ)) (certsS σ)) (honOS σ)) (longS σ)) (richS σ)) n9) n9)), (0, .ref (r_h ρ)), (3, .int (nI n9))]) hx hb dX1_digest_113 rfl hl (by decide) rfl (fun ls hl => ?_)
    refine lv_iinc (v := nI (n9 + 1)) (lv' := [(3, .int (nI (n9 + 1))), (1, .long (digM σ (digL σ (mixS (mixS (mixS (mixS (mixS (mixS (mixS (mixS 1049 (nI (sK σ))) (sHr σ)) (sSz σ)) (sRv σ)) (certsS σ)) (honOS σ)) (longS σ)) (richS σ)) n9) n9)), (0, .ref (r_h ρ))]) hx hb dX1_digest_114 hl (k := 2) rfl (nI_add _ 1) (by decide) rfl (fun ls hl => ?_)
    refine lv_goto (tgt := 86) hx hb dX1_digest_117 (by decide) ?_
    refine K9 ls (trivial) ?_
    show lv_has ls 4 [(0, .ref (r_h ρ)), (1, .long (digL σ (mixS (mixS (mixS (mixS (mixS (mixS (mixS (mixS 1049 (nI (sK σ))) (sHr σ)) (sSz σ)) (sRv σ)) (certsS σ)) (honOS σ)) (longS σ)) (richS σ)) (n9 + 1))), (3, .int (nI (n9 + 1)))]
    rw [show digL σ (mixS (mixS (mixS (mixS (mixS (mixS (mixS (mixS 1049 (nI (sK σ))) (sHr σ)) (sSz σ)) (sRv σ)) (certsS σ)) (honOS σ)) (longS σ)) (richS σ)) (n9 + 1) = digM σ (digL σ (mixS (mixS (mixS (mixS (mixS (mixS (mixS (mixS 1049 (nI (sK σ))) (sHr σ)) (sSz σ)) (sRv σ)) (certsS σ)) (honOS σ)) (longS σ)) (richS σ)) n9) n9 from rfl]
    exact lv_sub hl [2, 1, 0] rfl
  · have hl : lv_has ls 4 [(0, .ref (r_h ρ)), (1, .long (digL σ (mixS (mixS (mixS (mixS (mixS (mixS (mixS (mixS 1049 (nI (sK σ))) (sHr σ)) (sSz σ)) (sRv σ)) (certsS σ)) (honOS σ)) (longS σ)) (richS σ)) (sK σ))), (3, .int (nI (sK σ)))] := hl
    refine lv_iload_n hx hb dX1_digest_86 rfl (lv_at hl 2 rfl) ?_
    refine lv_aload_n hx hb dX1_digest_87 rfl (lv_at hl 0 rfl) ?_
    refine va_get (D := D) (ci := 2) (v := .ref (r_q ρ)) (C := RX1) (T := TX1) (N := 4) hx hb hts in_X1_digest_X1 hown hK (one_P hP.1) 0 rfl rfl 0 (by decide) (hts (.fieldLink RX1 10 "ShadowSociety" "roll" "Ljava/util/ArrayList;") (List.mem_of_getElem? (i := 2) (by decide +kernel))) (fun _ h9 => h9) rfl dX1_digest_88 ?_
    refine vp_callSi (va_Run.run (va_runV (As := []) (rest := [.int (nI (sK σ))]) ⟨hx, hb, hml, hown, hts⟩ (c_Jx4a65c_size_8abf5 l D cs ρ hI hJ) (cwV 0 hts gX1_digest_Jx4a65c_size_8abf5 rfl rfl rfl (by decide +kernel) ⟨Nat.le_of_ble_eq_true rfl, Nat.le_of_ble_eq_true rfl⟩) (rb_V hK hN hP.2.1 (va_recv hK (one_P hP.2.1.1) (ci := 0) (q0 := 0) rfl rfl)) rfl rfl hl.1 rfl (lv_room (Nat.le_of_ble_eq_true rfl)) dX1_digest_91 ⟨Nat.le_of_ble_eq_true rfl, Nat.le_of_ble_eq_true rfl⟩)) (fun r_20 hr_20 => ?_)
    rw [hr_20]
    refine lv_icmp_ge (tgt := 120) hx hb dX1_digest_94 (by decide) (fun _ => ?_) (fun c9 => absurd (nI_le (Nat.le_refl _) (by have := hI.1; omega)) c9)
    refine lv_lload_n hx hb dX1_digest_120 rfl (lv_at hl 1 rfl) ?_
    exact W.lret (v := digL σ (mixS (mixS (mixS (mixS (mixS (mixS (mixS (mixS 1049 (nI (sK σ))) (sHr σ)) (sSz σ)) (sRv σ)) (certsS σ)) (honOS σ)) (longS σ)) (richS σ)) (sK σ)) hx hb hr (fun t ht hW => ⟨_, rfl, rfl, ht⟩) (fun q hq => absurd hq List.not_mem_nil) dX1_digest_121
