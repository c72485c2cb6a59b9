/-! isSame: THE CLASS AND THE SOCIETY BY HAND ARE TOLD ALIKE (laid by wip/p35/gen/issame.py) -/
theorem lv_cutP {p : Program} {l : Launch} {e : Env} {R : Room} {s : State} {m : MethodId} {args : Array Value} {below : List Frame} {meth : Method} {c : Code} {H : Heap} {locs : List Loc} {cells slots : Nat} {Q : State → Prop} {g : JFrame} {T : Type} (P : T → Prop) (G : T → JFrame) (k1 : ∀ y : T, P y → W p l e R s m args below meth c H locs cells slots Q (G y)) (k2 : (∀ y : T, P y → W p l e R s m args below meth c H locs cells slots Q (G y)) → W p l e R s m args below meth c H locs cells slots Q g) : W p l e R s m args below meth c H locs cells slots Q g := k2 k1
theorem dr_N {s : State} (d : Drawn) (h : Nst s) : Nst (s.setDrawn d) := Nst.vm (u := s) (U := s.setDrawn d) rfl h
theorem in_X2_isSame_X2 : ∀ w ∈ wsX20, w ∈ wsX2_isSame := by decide +kernel
set_option maxHeartbeats 4000000 in
set_option maxRecDepth 100000 in
/-- isSame answers true -/
theorem c_X2_isSame (l : Launch) (D : va_G) (cs : Cs) (ρ : Rf) (M : Mf) {B : Nat} {σ : PS} (hQ : InvQ B σ) (hap : AptJ ρ M (sK σ)) (hk0 : 0 < sK σ) (H0 : Heap) : MetD lw_cs l yX2_isSame wsX2_isSame ({ frames := 5, cells := 0, slots := 0, locals := 108 }) (va_Pc [.ref M.1, .ref (r_h ρ)] (RBp D cs (fun X => X = H0 ∧ Soc D cs ρ σ X ∧ va_P D vwCl (simW cs M σ) X))) (va_Qi (fun (r : Int32) (_ : Unit) => r = 1) (fun _ t => t.heap = H0) (fun _ => False)) 0 0 (fun _ => False) := by
  refine MetD.ofW (cc := cX2_isSame) (maxL := 9) (ret := (some .boolean)) (by decide) rfl ?_
  intro p e s m args below meth c s₁ B0 hml hv hd0
  obtain ⟨rfl, ⟨hH, hP, hM⟩, hK, hN⟩ := hv
  subst hH
  have hx := B0.exec
  have hb := B0.bytes
  have hr := B0.returns
  have hts := atoms_spec (ws := wsX2_isSame) B0.pre
  have hown : s.vm.findClass RX2 = some m.cls := findClass_of_methodNamed B0.named
  have hlocks := B0.notSynchronized
  have hTt := hQ.1
  have hI := hTt.1
  have h10 := hI.1
  have hS : va_S (fun _ : Nat => False) s.heap s.heap [] := va_S.rf
  refine (?_ : W p l e _ s m _ below meth c s.heap [] 0 0 _ _)
  have hl := lv_entry ([.ref M.1, .ref (r_h ρ)]) (n := 9) (Nat.le_of_ble_eq_true rfl)
  rw [lg_entry_eq]
  generalize (lg_sl ([.ref M.1, .ref (r_h ρ)]) ++ List.replicate (9 - (lg_sl ([.ref M.1, .ref (r_h ρ)])).length) Slot.unset).toArray = ls at hl ⊢
  have hl : lv_has ls 9 [(0, .ref M.1), (1, .ref (r_h ρ))] := hl
  refine lv_iconst (v := 0) hx hb dX2_isSame_0 (by decide) ?_
  refine lv_istore_n (lv' := [(2, .int 0), (0, .ref M.1), (1, .ref (r_h ρ))]) hx hb dX2_isSame_1 rfl hl (by decide) rfl (fun ls hl => ?_)
  refine lv_iconst (v := 0) hx hb dX2_isSame_2 (by decide) ?_
  refine lv_istore_n (lv' := [(3, .int 0), (2, .int 0), (0, .ref M.1), (1, .ref (r_h ρ))]) hx hb dX2_isSame_3 rfl hl (by decide) rfl (fun ls hl => ?_)
  refine lv_iconst (v := (-1)) hx hb dX2_isSame_4 (by decide) ?_
  refine lv_istore (lv' := [(4, .int (-1)), (3, .int 0), (2, .int 0), (0, .ref M.1), (1, .ref (r_h ρ))]) hx hb dX2_isSame_5 hl (by decide) rfl (fun ls hl => ?_)
  refine lv_iconst (v := 0) hx hb dX2_isSame_7 (by decide) ?_
  refine lv_istore (lv' := [(5, .int 0), (4, .int (-1)), (3, .int 0), (2, .int 0), (0, .ref M.1), (1, .ref (r_h ρ))]) hx hb dX2_isSame_8 hl (by decide) rfl (fun ls hl => ?_)
  refine lv_aload_n hx hb dX2_isSame_10 rfl (lv_at hl 4 rfl) ?_
  refine va_get (D := D) (ci := 3) (v := .ref M.2.1) (C := RX2) (T := TX2) (N := 4) hx hb hts in_X2_isSame_X2 hown hK hM 0 rfl rfl 3 (by decide) (hts (.fieldLink RX2 9 "ShadowSocietyLaw$Sim" "members" "[[I") (List.mem_of_getElem? (i := 1) (by decide +kernel))) (fun _ h9 => h9) rfl dX2_isSame_11 ?_
  refine va_alen hx hb hK hM 1 2 rfl rfl (v := nI (sK σ)) rfl dX2_isSame_14 ?_
  refine lv_iconst (v := 1) hx hb dX2_isSame_15 (by decide) ?_
  refine lv_isub hx hb dX2_isSame_16 ?_
  refine lv_istore (lv' := [(6, .int ((nI (sK σ)) - 1)), (5, .int 0), (4, .int (-1)), (3, .int 0), (2, .int 0), (0, .ref M.1), (1, .ref (r_h ρ))]) hx hb dX2_isSame_17 hl (by decide) rfl (fun ls hl => ?_)
  refine lv_for (sK σ) (fun ls => F0 m 19 ls []) (fun n9 => [(0, .ref M.1), (1, .ref (r_h ρ)), (2, .int (bsum (fun j => b01 (hasC σ j)) (sK σ) n9)), (3, .int (bsum (fun j => b01 (hasC σ j ∧ truC σ j)) (sK σ) n9)), (4, .int (lgB (fun j => shadS σ j (dayOf σ)) (sK σ) n9)), (5, .int (bsum (fun j => shadS σ j (dayOf σ)) (sK σ) n9)), (6, .int (nI (sK σ - n9) - 1))]) (fun _ => True) (show lv_has ls 9 [(0, .ref M.1), (1, .ref (r_h ρ)), (2, .int (bsum (fun j => b01 (hasC σ j)) (sK σ) 0)), (3, .int (bsum (fun j => b01 (hasC σ j ∧ truC σ j)) (sK σ) 0)), (4, .int (lgB (fun j => shadS σ j (dayOf σ)) (sK σ) 0)), (5, .int (bsum (fun j => shadS σ j (dayOf σ)) (sK σ) 0)), (6, .int (nI (sK σ - 0) - 1))] from lv_sub hl [5, 6, 4, 3, 2, 1, 0] rfl) trivial (fun n9 ls hn9 _ hl K19 => ?_) (fun ls _ hl => ?_)
  · obtain ⟨k, hk⟩ : ∃ k, k = sK σ - 1 - n9 := ⟨_, rfl⟩
    have hkn : k < sK σ := by omega
    have hl : lv_has ls 9 [(0, .ref M.1), (1, .ref (r_h ρ)), (2, .int (bsum (fun j => b01 (hasC σ j)) (sK σ) n9)), (3, .int (bsum (fun j => b01 (hasC σ j ∧ truC σ j)) (sK σ) n9)), (4, .int (lgB (fun j => shadS σ j (dayOf σ)) (sK σ) n9)), (5, .int (bsum (fun j => shadS σ j (dayOf σ)) (sK σ) n9)), (6, .int (nI (sK σ - n9) - 1))] := hl
    rw [show nI (sK σ - n9) - 1 = nI k from (kI_pos hn9).trans (by rw [hk])] at hl
    by_cases hcc : sCe σ k ≥ 0
    · by_cases htr : truC σ k
      · refine lv_iload hx hb dX2_isSame_19 (lv_at hl 6 rfl) ?_
        refine lv_if_lt (tgt := 276) hx hb dX2_isSame_21 (by decide) (fun c9 => absurd c9 (nI_pos (by omega))) (fun _ => ?_)
        refine lv_aload_n hx hb dX2_isSame_24 rfl (lv_at hl 0 rfl) ?_
        refine va_get (D := D) (ci := 3) (v := .ref M.2.1) (C := RX2) (T := TX2) (N := 4) hx hb hts in_X2_isSame_X2 hown hK hM 0 rfl rfl 3 (by decide) (hts (.fieldLink RX2 9 "ShadowSocietyLaw$Sim" "members" "[[I") (List.mem_of_getElem? (i := 1) (by decide +kernel))) (fun _ h9 => h9) rfl dX2_isSame_25 ?_
        refine lv_iload hx hb dX2_isSame_28 (lv_at hl 6 rfl) ?_
        refine va_aldA hx hb hK hM 1 2 rfl rfl (vp_in_nI hkn (Nat.lt_of_le_of_lt hI.1 (by decide))) (elm_at hkn hI.1) dX2_isSame_30 ?_
        refine lv_astore (lv' := [(7, .ref (M.2.2 k)), (0, .ref M.1), (1, .ref (r_h ρ)), (2, .int (bsum (fun j => b01 (hasC σ j)) (sK σ) n9)), (3, .int (bsum (fun j => b01 (hasC σ j ∧ truC σ j)) (sK σ) n9)), (4, .int (lgB (fun j => shadS σ j (dayOf σ)) (sK σ) n9)), (5, .int (bsum (fun j => shadS σ j (dayOf σ)) (sK σ) n9)), (6, .int (nI k))]) hx hb dX2_isSame_31 hl (by decide) rfl (fun ls hl => ?_)
        refine lv_iload_n hx hb dX2_isSame_33 rfl (lv_at hl 3 rfl) ?_
        refine lv_aload hx hb dX2_isSame_34 (lv_at hl 0 rfl) ?_
        refine lv_iconst (v := 5) hx hb dX2_isSame_36 (by decide) ?_
        refine va_iald hx hb hK hM (2 + k) 0 (simW_at hkn) rfl (by unfold vp_in; decide) dX2_isSame_37 ?_
        rw [show rowF σ k (5 : Int32).toNatClampNeg = sCe σ k from rfl]
        refine lv_if_ge (tgt := 45) hx hb dX2_isSame_38 (by decide) (fun _ => ?_) (fun c9 => absurd (hcc) c9)
        refine lv_iconst (v := 1) hx hb dX2_isSame_45 (by decide) ?_
        refine lv_iadd hx hb dX2_isSame_46 ?_
        refine lv_istore_n (lv' := [(2, .int ((bsum (fun j => b01 (hasC σ j)) (sK σ) n9) + 1)), (7, .ref (M.2.2 k)), (0, .ref M.1), (1, .ref (r_h ρ)), (3, .int (bsum (fun j => b01 (hasC σ j ∧ truC σ j)) (sK σ) n9)), (4, .int (lgB (fun j => shadS σ j (dayOf σ)) (sK σ) n9)), (5, .int (bsum (fun j => shadS σ j (dayOf σ)) (sK σ) n9)), (6, .int (nI k))]) hx hb dX2_isSame_47 rfl hl (by decide) rfl (fun ls hl => ?_)
        refine lv_iload_n hx hb dX2_isSame_48 rfl (lv_at hl 4 rfl) ?_
        refine lv_aload hx hb dX2_isSame_49 (lv_at hl 1 rfl) ?_
        refine lv_iconst (v := 5) hx hb dX2_isSame_51 (by decide) ?_
        refine va_iald hx hb hK hM (2 + k) 0 (simW_at hkn) rfl (by unfold vp_in; decide) dX2_isSame_52 ?_
        rw [show rowF σ k (5 : Int32).toNatClampNeg = sCe σ k from rfl]
        refine lv_if_lt (tgt := 69) hx hb dX2_isSame_53 (by decide) (fun c9 => absurd c9 (Int32.not_lt.mpr hcc)) (fun _ => ?_)
        refine lv_aload_n hx hb dX2_isSame_56 rfl (lv_at hl 2 rfl) ?_
        refine lv_iload hx hb dX2_isSame_57 (lv_at hl 7 rfl) ?_
        refine vp_callSi (va_Run.run (va_runV (As := [.int (nI k)]) (rest := [.int (bsum (fun j => b01 (hasC σ j ∧ truC σ j)) (sK σ) n9)]) ⟨hx, hb, hml, hown, hts⟩ (c_X2_isHonest l D cs M hI k hkn) (cwV 1 hts gX2_isSame_X2_isHonest rfl rfl rfl (by decide +kernel) ⟨Nat.le_of_ble_eq_true rfl, Nat.le_of_ble_eq_true rfl⟩) (rb_V hK hN hM (va_recv hK hM (ci := 3) (q0 := 0) rfl rfl)) rfl rfl hl.1 rfl (lv_room (Nat.le_of_ble_eq_true rfl)) dX2_isSame_59 ⟨Nat.le_of_ble_eq_true rfl, Nat.le_of_ble_eq_true rfl⟩)) (fun r_1 hr_1 => ?_)
        rw [hr_1]
        refine lv_if_eq (tgt := 69) hx hb dX2_isSame_62 (by decide) (fun c9 => absurd c9 ((by rw [b01_t htr]; decide))) (fun _ => ?_)
        refine lv_iconst (v := 1) hx hb dX2_isSame_65 (by decide) ?_
        refine lv_goto (tgt := 70) hx hb dX2_isSame_66 (by decide) ?_
        refine lv_iadd hx hb dX2_isSame_70 ?_
        refine lv_istore_n (lv' := [(3, .int ((bsum (fun j => b01 (hasC σ j ∧ truC σ j)) (sK σ) n9) + 1)), (2, .int ((bsum (fun j => b01 (hasC σ j)) (sK σ) n9) + 1)), (7, .ref (M.2.2 k)), (0, .ref M.1), (1, .ref (r_h ρ)), (4, .int (lgB (fun j => shadS σ j (dayOf σ)) (sK σ) n9)), (5, .int (bsum (fun j => shadS σ j (dayOf σ)) (sK σ) n9)), (6, .int (nI k))]) hx hb dX2_isSame_71 rfl hl (by decide) rfl (fun ls hl => ?_)
        refine lv_iload hx hb dX2_isSame_72 (lv_at hl 6 rfl) ?_
        refine lv_aload_n hx hb dX2_isSame_74 rfl (lv_at hl 3 rfl) ?_
        refine lv_iload hx hb dX2_isSame_75 (lv_at hl 7 rfl) ?_
        refine vp_callSi (va_Run.run (va_runV (As := [.int (nI k)]) (rest := [.int (bsum (fun j => shadS σ j (dayOf σ)) (sK σ) n9)]) ⟨hx, hb, hml, hown, hts⟩ (c_X2_shadow l D cs M hI k hkn) (cwV 1 hts gX2_isSame_X2_shadow rfl rfl rfl (by decide +kernel) ⟨Nat.le_of_ble_eq_true rfl, Nat.le_of_ble_eq_true rfl⟩) (rb_V hK hN hM (va_recv hK hM (ci := 3) (q0 := 0) rfl rfl)) rfl rfl hl.1 rfl (lv_room (Nat.le_of_ble_eq_true rfl)) dX2_isSame_77 ⟨Nat.le_of_ble_eq_true rfl, Nat.le_of_ble_eq_true rfl⟩)) (fun r_2 hr_2 => ?_)
        rw [hr_2]
        refine lv_iadd hx hb dX2_isSame_80 ?_
        refine lv_istore (lv' := [(5, .int ((bsum (fun j => shadS σ j (dayOf σ)) (sK σ) n9) + (shadS σ k (dayOf σ)))), (3, .int ((bsum (fun j => b01 (hasC σ j ∧ truC σ j)) (sK σ) n9) + 1)), (2, .int ((bsum (fun j => b01 (hasC σ j)) (sK σ) n9) + 1)), (7, .ref (M.2.2 k)), (0, .ref M.1), (1, .ref (r_h ρ)), (4, .int (lgB (fun j => shadS σ j (dayOf σ)) (sK σ) n9)), (6, .int (nI k))]) hx hb dX2_isSame_81 hl (by decide) rfl (fun ls hl => ?_)
        refine lv_cutP (fun ls => lv_has ls 9 [(5, .int ((bsum (fun j => shadS σ j (dayOf σ)) (sK σ) n9) + (shadS σ k (dayOf σ)))), (3, .int ((bsum (fun j => b01 (hasC σ j ∧ truC σ j)) (sK σ) n9) + 1)), (2, .int ((bsum (fun j => b01 (hasC σ j)) (sK σ) n9) + 1)), (7, .ref (M.2.2 k)), (0, .ref M.1), (1, .ref (r_h ρ)), (6, .int (nI k)), (4, .int (lgB (fun j => shadS σ j (dayOf σ)) (sK σ) (n9 + 1)))]) (fun ls => F0 m 107 ls []) (fun ls hl => ?_) (fun K107 => ?_)
        · have hl : lv_has ls 9 [(5, .int ((bsum (fun j => shadS σ j (dayOf σ)) (sK σ) n9) + (shadS σ k (dayOf σ)))), (3, .int ((bsum (fun j => b01 (hasC σ j ∧ truC σ j)) (sK σ) n9) + 1)), (2, .int ((bsum (fun j => b01 (hasC σ j)) (sK σ) n9) + 1)), (7, .ref (M.2.2 k)), (0, .ref M.1), (1, .ref (r_h ρ)), (6, .int (nI k)), (4, .int (lgB (fun j => shadS σ j (dayOf σ)) (sK σ) (n9 + 1)))] := hl
          refine lv_aload_n hx hb dX2_isSame_107 rfl (lv_at hl 4 rfl) ?_
          refine lv_iload hx hb dX2_isSame_108 (lv_at hl 6 rfl) ?_
          refine vp_callSi (va_Run.run (va_runV (As := [.int (nI k)]) (rest := []) ⟨hx, hb, hml, hown, hts⟩ (c_X2_wearer l D cs M hI (nI k)) (cwV 1 hts gX2_isSame_X2_wearer rfl rfl rfl (by decide +kernel) ⟨Nat.le_of_ble_eq_true rfl, Nat.le_of_ble_eq_true rfl⟩) (rb_V hK hN hM (va_recv hK hM (ci := 3) (q0 := 0) rfl rfl)) rfl rfl hl.1 rfl (lv_room (Nat.le_of_ble_eq_true rfl)) dX2_isSame_110 ⟨Nat.le_of_ble_eq_true rfl, Nat.le_of_ble_eq_true rfl⟩)) (fun r_3 hr_3 => ?_)
          rw [hr_3]
          refine lv_istore (lv' := [(8, .int (wrS (sWe σ) (nI k) (sK σ))), (5, .int ((bsum (fun j => shadS σ j (dayOf σ)) (sK σ) n9) + (shadS σ k (dayOf σ)))), (3, .int ((bsum (fun j => b01 (hasC σ j ∧ truC σ j)) (sK σ) n9) + 1)), (2, .int ((bsum (fun j => b01 (hasC σ j)) (sK σ) n9) + 1)), (7, .ref (M.2.2 k)), (0, .ref M.1), (1, .ref (r_h ρ)), (6, .int (nI k)), (4, .int (lgB (fun j => shadS σ j (dayOf σ)) (sK σ) (n9 + 1)))]) hx hb dX2_isSame_113 hl (by decide) rfl (fun ls hl => ?_)
          refine lv_aload_n hx hb dX2_isSame_115 rfl (lv_at hl 6 rfl) ?_
          refine lv_iload hx hb dX2_isSame_116 (lv_at hl 7 rfl) ?_
          refine vp_callSi (va_Run.run (va_runV (As := [.int (nI k)]) (rest := []) ⟨hx, hb, hml, hown, hts⟩ (n_X1_lampOf l D cs ρ hI hap.1.1 k hkn) (cwV 1 hts gX2_isSame_X1_lampOf rfl rfl rfl (by decide +kernel) ⟨Nat.le_of_ble_eq_true rfl, Nat.le_of_ble_eq_true rfl⟩) (rb_V hK hN hP (va_recv hK (one_P hP.1) (ci := 2) (q0 := 0) rfl rfl)) rfl rfl hl.1 rfl (lv_room (Nat.le_of_ble_eq_true rfl)) dX2_isSame_118 ⟨Nat.le_of_ble_eq_true rfl, Nat.le_of_ble_eq_true rfl⟩)) (fun r_4 hr_4 => ?_)
          rw [hr_4]
          refine lv_aload hx hb dX2_isSame_121 (lv_at hl 4 rfl) ?_
          refine lv_iconst (v := 3) hx hb dX2_isSame_123 (by decide) ?_
          refine va_iald hx hb hK hM (2 + k) 0 (simW_at hkn) rfl (by unfold vp_in; decide) dX2_isSame_124 ?_
          rw [show rowF σ k (3 : Int32).toNatClampNeg = sLa σ k from rfl]
          refine lv_icmp_ne (tgt := 268) hx hb dX2_isSame_125 (by decide) (fun c9 => absurd (rfl) c9) (fun _ => ?_)
          refine lv_aload_n hx hb dX2_isSame_128 rfl (lv_at hl 6 rfl) ?_
          refine lv_iload hx hb dX2_isSame_129 (lv_at hl 7 rfl) ?_
          refine vp_callSi (va_Run.run (va_runV (As := [.int (nI k)]) (rest := []) ⟨hx, hb, hml, hown, hts⟩ (n_X1_purseOf l D cs ρ hI hap.1.1 k hkn) (cwV 1 hts gX2_isSame_X1_purseOf rfl rfl rfl (by decide +kernel) ⟨Nat.le_of_ble_eq_true rfl, Nat.le_of_ble_eq_true rfl⟩) (rb_V hK hN hP (va_recv hK (one_P hP.1) (ci := 2) (q0 := 0) rfl rfl)) rfl rfl hl.1 rfl (lv_room (Nat.le_of_ble_eq_true rfl)) dX2_isSame_131 ⟨Nat.le_of_ble_eq_true rfl, Nat.le_of_ble_eq_true rfl⟩)) (fun r_5 hr_5 => ?_)
          rw [hr_5]
          refine lv_aload hx hb dX2_isSame_134 (lv_at hl 4 rfl) ?_
          refine lv_iconst (v := 2) hx hb dX2_isSame_136 (by decide) ?_
          refine va_iald hx hb hK hM (2 + k) 0 (simW_at hkn) rfl (by unfold vp_in; decide) dX2_isSame_137 ?_
          rw [show rowF σ k (2 : Int32).toNatClampNeg = sPu σ k from rfl]
          refine lv_icmp_ne (tgt := 268) hx hb dX2_isSame_138 (by decide) (fun c9 => absurd (rfl) c9) (fun _ => ?_)
          refine lv_aload_n hx hb dX2_isSame_141 rfl (lv_at hl 6 rfl) ?_
          refine lv_iload hx hb dX2_isSame_142 (lv_at hl 7 rfl) ?_
          refine vp_callSi (va_Run.run (va_runV (As := [.int (nI k)]) (rest := []) ⟨hx, hb, hml, hown, hts⟩ (n_X1_wears l D cs ρ hI hap.1.1 k hkn) (cwV 1 hts gX2_isSame_X1_wears rfl rfl rfl (by decide +kernel) ⟨Nat.le_of_ble_eq_true rfl, Nat.le_of_ble_eq_true rfl⟩) (rb_V hK hN hP (va_recv hK (one_P hP.1) (ci := 2) (q0 := 0) rfl rfl)) rfl rfl hl.1 rfl (lv_room (Nat.le_of_ble_eq_true rfl)) dX2_isSame_144 ⟨Nat.le_of_ble_eq_true rfl, Nat.le_of_ble_eq_true rfl⟩)) (fun r_6 hr_6 => ?_)
          rw [hr_6]
          refine lv_aload hx hb dX2_isSame_147 (lv_at hl 4 rfl) ?_
          refine lv_iconst (v := 4) hx hb dX2_isSame_149 (by decide) ?_
          refine va_iald hx hb hK hM (2 + k) 0 (simW_at hkn) rfl (by unfold vp_in; decide) dX2_isSame_150 ?_
          rw [show rowF σ k (4 : Int32).toNatClampNeg = sWe σ k from rfl]
          refine lv_icmp_ne (tgt := 268) hx hb dX2_isSame_151 (by decide) (fun c9 => absurd (rfl) c9) (fun _ => ?_)
          refine lv_aload_n hx hb dX2_isSame_154 rfl (lv_at hl 6 rfl) ?_
          refine lv_iload hx hb dX2_isSame_155 (lv_at hl 7 rfl) ?_
          refine vp_callSi (va_Run.run (va_runV (As := [.int (nI k)]) (rest := []) ⟨hx, hb, hml, hown, hts⟩ (n_X1_hatOn l D cs ρ hI hap.1.1 k hkn) (cwV 1 hts gX2_isSame_X1_hatOn rfl rfl rfl (by decide +kernel) ⟨Nat.le_of_ble_eq_true rfl, Nat.le_of_ble_eq_true rfl⟩) (rb_V hK hN hP (va_recv hK (one_P hP.1) (ci := 2) (q0 := 0) rfl rfl)) rfl rfl hl.1 rfl (lv_room (Nat.le_of_ble_eq_true rfl)) dX2_isSame_157 ⟨Nat.le_of_ble_eq_true rfl, Nat.le_of_ble_eq_true rfl⟩)) (fun r_7 hr_7 => ?_)
          rw [hr_7]
          refine lv_aload_n hx hb dX2_isSame_160 rfl (lv_at hl 5 rfl) ?_
          refine lv_iload hx hb dX2_isSame_161 (lv_at hl 7 rfl) ?_
          refine vp_callSi (va_Run.run (va_runV (As := [.int (nI k)]) (rest := [.int (wornH σ k)]) ⟨hx, hb, hml, hown, hts⟩ (c_X2_hatOn l D cs M hI k hkn) (cwV 1 hts gX2_isSame_X2_hatOn rfl rfl rfl (by decide +kernel) ⟨Nat.le_of_ble_eq_true rfl, Nat.le_of_ble_eq_true rfl⟩) (rb_V hK hN hM (va_recv hK hM (ci := 3) (q0 := 0) rfl rfl)) rfl rfl hl.1 rfl (lv_room (Nat.le_of_ble_eq_true rfl)) dX2_isSame_163 ⟨Nat.le_of_ble_eq_true rfl, Nat.le_of_ble_eq_true rfl⟩)) (fun r_8 hr_8 => ?_)
          rw [hr_8]
          refine lv_icmp_ne (tgt := 268) hx hb dX2_isSame_166 (by decide) (fun c9 => absurd (rfl) c9) (fun _ => ?_)
          refine lv_aload_n hx hb dX2_isSame_169 rfl (lv_at hl 6 rfl) ?_
          refine lv_iload hx hb dX2_isSame_170 (lv_at hl 7 rfl) ?_
          refine vp_callSi (va_Run.run (va_runV (As := [.int (nI k)]) (rest := []) ⟨hx, hb, hml, hown, hts⟩ (n_X1_hasLent l D cs ρ hI hap.1.1 k hkn) (cwV 1 hts gX2_isSame_X1_hasLent rfl rfl rfl (by decide +kernel) ⟨Nat.le_of_ble_eq_true rfl, Nat.le_of_ble_eq_true rfl⟩) (rb_V hK hN hP (va_recv hK (one_P hP.1) (ci := 2) (q0 := 0) rfl rfl)) rfl rfl hl.1 rfl (lv_room (Nat.le_of_ble_eq_true rfl)) dX2_isSame_172 ⟨Nat.le_of_ble_eq_true rfl, Nat.le_of_ble_eq_true rfl⟩)) (fun r_9 hr_9 => ?_)
          rw [hr_9]
          refine lv_cut (F0 m 192 ls [.int (b01 (lentS σ k)), .int (b01 (lentS σ k))]) ?_ (fun K192 => ?_)
          · refine lv_icmp_ne (tgt := 268) hx hb dX2_isSame_192 (by decide) (fun c9 => absurd (rfl) c9) (fun _ => ?_)
            refine lv_aload_n hx hb dX2_isSame_195 rfl (lv_at hl 6 rfl) ?_
            refine lv_iload hx hb dX2_isSame_196 (lv_at hl 7 rfl) ?_
            refine vp_callSi (va_Run.run (va_runV (As := [.int (nI k)]) (rest := []) ⟨hx, hb, hml, hown, hts⟩ (n_X1_isExpelled l D cs ρ hI hap.1.1 k hkn) (cwV 1 hts gX2_isSame_X1_isExpelled rfl rfl rfl (by decide +kernel) ⟨Nat.le_of_ble_eq_true rfl, Nat.le_of_ble_eq_true rfl⟩) (rb_V hK hN hP (va_recv hK (one_P hP.1) (ci := 2) (q0 := 0) rfl rfl)) rfl rfl hl.1 rfl (lv_room (Nat.le_of_ble_eq_true rfl)) dX2_isSame_198 ⟨Nat.le_of_ble_eq_true rfl, Nat.le_of_ble_eq_true rfl⟩)) (fun r_10 hr_10 => ?_)
            rw [hr_10]
            refine lv_cut (F0 m 215 ls [.int (b01 (outS σ k)), .int (b01 (outS σ k))]) ?_ (fun K215 => ?_)
            · refine lv_icmp_ne (tgt := 268) hx hb dX2_isSame_215 (by decide) (fun c9 => absurd (rfl) c9) (fun _ => ?_)
              refine lv_aload_n hx hb dX2_isSame_218 rfl (lv_at hl 6 rfl) ?_
              refine lv_iload hx hb dX2_isSame_219 (lv_at hl 7 rfl) ?_
              refine vp_callSi (va_Run.run (va_runV (As := [.int (nI k)]) (rest := []) ⟨hx, hb, hml, hown, hts⟩ (n_X1_shadowOf l D cs ρ hI hap.1.1 k hkn) (cwV 1 hts gX2_isSame_X1_shadowOf rfl rfl rfl (by decide +kernel) ⟨Nat.le_of_ble_eq_true rfl, Nat.le_of_ble_eq_true rfl⟩) (rb_V hK hN hP (va_recv hK (one_P hP.1) (ci := 2) (q0 := 0) rfl rfl)) rfl rfl hl.1 rfl (lv_room (Nat.le_of_ble_eq_true rfl)) dX2_isSame_221 ⟨Nat.le_of_ble_eq_true rfl, Nat.le_of_ble_eq_true rfl⟩)) (fun r_11 hr_11 => ?_)
              rw [hr_11]
              refine lv_aload_n hx hb dX2_isSame_224 rfl (lv_at hl 5 rfl) ?_
              refine lv_iload hx hb dX2_isSame_225 (lv_at hl 7 rfl) ?_
              refine vp_callSi (va_Run.run (va_runV (As := [.int (nI k)]) (rest := [.int (shadS σ k (dayOf σ))]) ⟨hx, hb, hml, hown, hts⟩ (c_X2_shadow l D cs M hI k hkn) (cwV 1 hts gX2_isSame_X2_shadow rfl rfl rfl (by decide +kernel) ⟨Nat.le_of_ble_eq_true rfl, Nat.le_of_ble_eq_true rfl⟩) (rb_V hK hN hM (va_recv hK hM (ci := 3) (q0 := 0) rfl rfl)) rfl rfl hl.1 rfl (lv_room (Nat.le_of_ble_eq_true rfl)) dX2_isSame_227 ⟨Nat.le_of_ble_eq_true rfl, Nat.le_of_ble_eq_true rfl⟩)) (fun r_12 hr_12 => ?_)
              rw [hr_12]
              refine lv_icmp_ne (tgt := 268) hx hb dX2_isSame_230 (by decide) (fun c9 => absurd (rfl) c9) (fun _ => ?_)
              refine lv_aload_n hx hb dX2_isSame_233 rfl (lv_at hl 6 rfl) ?_
              refine lv_iload hx hb dX2_isSame_234 (lv_at hl 7 rfl) ?_
              refine vp_callSi (va_Run.run (va_runV (As := [.int (nI k)]) (rest := []) ⟨hx, hb, hml, hown, hts⟩ (n_X1_certified l D cs ρ hI hap.1.1 k hkn) (cwV 1 hts gX2_isSame_X1_certified rfl rfl rfl (by decide +kernel) ⟨Nat.le_of_ble_eq_true rfl, Nat.le_of_ble_eq_true rfl⟩) (rb_V hK hN hP (va_recv hK (one_P hP.1) (ci := 2) (q0 := 0) rfl rfl)) rfl rfl hl.1 rfl (lv_room (Nat.le_of_ble_eq_true rfl)) dX2_isSame_236 ⟨Nat.le_of_ble_eq_true rfl, Nat.le_of_ble_eq_true rfl⟩)) (fun r_13 hr_13 => ?_)
              rw [hr_13]
              refine lv_aload hx hb dX2_isSame_239 (lv_at hl 4 rfl) ?_
              refine lv_iconst (v := 5) hx hb dX2_isSame_241 (by decide) ?_
              refine va_iald hx hb hK hM (2 + k) 0 (simW_at hkn) rfl (by unfold vp_in; decide) dX2_isSame_242 ?_
              rw [show rowF σ k (5 : Int32).toNatClampNeg = sCe σ k from rfl]
              refine lv_icmp_ne (tgt := 268) hx hb dX2_isSame_243 (by decide) (fun c9 => absurd (rfl) c9) (fun _ => ?_)
              refine lv_aload hx hb dX2_isSame_246 (lv_at hl 4 rfl) ?_
              refine lv_iconst (v := 5) hx hb dX2_isSame_248 (by decide) ?_
              refine va_iald hx hb hK hM (2 + k) 0 (simW_at hkn) rfl (by unfold vp_in; decide) dX2_isSame_249 ?_
              rw [show rowF σ k (5 : Int32).toNatClampNeg = sCe σ k from rfl]
              refine lv_if_lt (tgt := 270) hx hb dX2_isSame_250 (by decide) (fun c9 => absurd c9 (Int32.not_lt.mpr hcc)) (fun _ => ?_)
              refine lv_aload_n hx hb dX2_isSame_253 rfl (lv_at hl 6 rfl) ?_
              refine lv_iload hx hb dX2_isSame_254 (lv_at hl 7 rfl) ?_
              refine vp_callSi (va_Run.run (va_runV (As := [.int (nI k)]) (rest := []) ⟨hx, hb, hml, hown, hts⟩ (n_X1_isHonest l D cs ρ hI hap.1.1 k hkn (cer_ge hcc)) (cwV 1 hts gX2_isSame_X1_isHonest rfl rfl rfl (by decide +kernel) ⟨Nat.le_of_ble_eq_true rfl, Nat.le_of_ble_eq_true rfl⟩) (rb_V hK hN hP (va_recv hK (one_P hP.1) (ci := 2) (q0 := 0) rfl rfl)) rfl rfl hl.1 rfl (lv_room (Nat.le_of_ble_eq_true rfl)) dX2_isSame_256 ⟨Nat.le_of_ble_eq_true rfl, Nat.le_of_ble_eq_true rfl⟩)) (fun r_14 hr_14 => ?_)
              rw [hr_14]
              refine lv_aload_n hx hb dX2_isSame_259 rfl (lv_at hl 5 rfl) ?_
              refine lv_iload hx hb dX2_isSame_260 (lv_at hl 7 rfl) ?_
              refine vp_callSi (va_Run.run (va_runV (As := [.int (nI k)]) (rest := [.int (b01 (hasC σ k ∧ truC σ k))]) ⟨hx, hb, hml, hown, hts⟩ (c_X2_isHonest l D cs M hI k hkn) (cwV 1 hts gX2_isSame_X2_isHonest rfl rfl rfl (by decide +kernel) ⟨Nat.le_of_ble_eq_true rfl, Nat.le_of_ble_eq_true rfl⟩) (rb_V hK hN hM (va_recv hK hM (ci := 3) (q0 := 0) rfl rfl)) rfl rfl hl.1 rfl (lv_room (Nat.le_of_ble_eq_true rfl)) dX2_isSame_262 ⟨Nat.le_of_ble_eq_true rfl, Nat.le_of_ble_eq_true rfl⟩)) (fun r_15 hr_15 => ?_)
              rw [hr_15]
              refine lv_icmp_eq (tgt := 270) hx hb dX2_isSame_265 (by decide) (fun _ => ?_) (fun c9 => absurd (b01_and (cer_ge hcc)) c9)
              refine lv_iinc (v := (nI k) + (-1)) (lv' := [(6, .int ((nI k) + (-1))), (8, .int (wrS (sWe σ) (nI k) (sK σ))), (5, .int ((bsum (fun j => shadS σ j (dayOf σ)) (sK σ) n9) + (shadS σ k (dayOf σ)))), (3, .int ((bsum (fun j => b01 (hasC σ j ∧ truC σ j)) (sK σ) n9) + 1)), (2, .int ((bsum (fun j => b01 (hasC σ j)) (sK σ) n9) + 1)), (7, .ref (M.2.2 k)), (0, .ref M.1), (1, .ref (r_h ρ)), (4, .int (lgB (fun j => shadS σ j (dayOf σ)) (sK σ) (n9 + 1)))]) hx hb dX2_isSame_270 hl (k := 7) rfl rfl (by decide) rfl (fun ls hl => ?_)
              refine lv_goto (tgt := 19) hx hb dX2_isSame_273 (by decide) ?_
              refine K19 ls trivial ?_
              show lv_has ls 9 [(0, .ref M.1), (1, .ref (r_h ρ)), (2, .int (bsum (fun j => b01 (hasC σ j)) (sK σ) (n9 + 1))), (3, .int (bsum (fun j => b01 (hasC σ j ∧ truC σ j)) (sK σ) (n9 + 1))), (4, .int (lgB (fun j => shadS σ j (dayOf σ)) (sK σ) (n9 + 1))), (5, .int (bsum (fun j => shadS σ j (dayOf σ)) (sK σ) (n9 + 1))), (6, .int (nI (sK σ - (n9 + 1)) - 1))]
              rw [show bsum (fun j => b01 (hasC σ j)) (sK σ) (n9 + 1) = bsum (fun j => b01 (hasC σ j)) (sK σ) n9 + 1 from (bsum_s hk).trans (congrArg (fun z => bsum (fun j => b01 (hasC σ j)) (sK σ) n9 + z) (b01_t (cer_ge hcc))), show bsum (fun j => b01 (hasC σ j ∧ truC σ j)) (sK σ) (n9 + 1) = bsum (fun j => b01 (hasC σ j ∧ truC σ j)) (sK σ) n9 + 1 from (bsum_s hk).trans (congrArg (fun z => bsum (fun j => b01 (hasC σ j ∧ truC σ j)) (sK σ) n9 + z) (b01_t ⟨cer_ge hcc, htr⟩)), show bsum (fun j => shadS σ j (dayOf σ)) (sK σ) (n9 + 1) = bsum (fun j => shadS σ j (dayOf σ)) (sK σ) n9 + shadS σ k (dayOf σ) from bsum_s hk, kI_next hk hn9]
              exact lv_sub hl [6, 7, 4, 3, 8, 2, 0] rfl
            · refine lv_aload hx hb dX2_isSame_201 (lv_at hl 4 rfl) ?_
              refine lv_bipush (v := 7) hx hb dX2_isSame_203 (by decide) ?_
              refine va_iald hx hb hK hM (2 + k) 0 (simW_at hkn) rfl (by unfold vp_in; decide) dX2_isSame_205 ?_
              rw [show rowF σ k (7 : Int32).toNatClampNeg = sLo σ k from rfl]
              refine lv_iconst (v := 2) hx hb dX2_isSame_206 (by decide) ?_
              refine lv_icmp_le (tgt := 214) hx hb dX2_isSame_207 (by decide) (fun c_16 => ?_) (fun c_16 => ?_)
              · refine lv_iconst (v := 0) hx hb dX2_isSame_214 (by decide) ?_
                refine W.eq (g2 := F0 m 215 ls [.int (b01 (outS σ k)), .int (b01 (outS σ k))]) (by rw [(b01_f (fun q => (ge_3 _).mpr q c_16)).symm]) ?_
                exact K215
              · refine lv_iconst (v := 1) hx hb dX2_isSame_210 (by decide) ?_
                refine lv_goto (tgt := 215) hx hb dX2_isSame_211 (by decide) ?_
                refine W.eq (g2 := F0 m 215 ls [.int (b01 (outS σ k)), .int (b01 (outS σ k))]) (by rw [(b01_t ((ge_3 _).mp c_16)).symm]) ?_
                exact K215
          · refine lv_iload hx hb dX2_isSame_175 (lv_at hl 0 rfl) ?_
            refine lv_if_lt (tgt := 191) hx hb dX2_isSame_177 (by decide) (fun c_17 => ?_) (fun c_17 => ?_)
            · refine lv_iconst (v := 0) hx hb dX2_isSame_191 (by decide) ?_
              refine W.eq (g2 := F0 m 192 ls [.int (b01 (lentS σ k)), .int (b01 (lentS σ k))]) (by rw [(b01_f (wr_neg hI c_17)).symm]) ?_
              exact K192
            · refine lv_iload hx hb dX2_isSame_180 (lv_at hl 0 rfl) ?_
              refine lv_iload hx hb dX2_isSame_182 (lv_at hl 7 rfl) ?_
              refine lv_icmp_eq (tgt := 191) hx hb dX2_isSame_184 (by decide) (fun c_18 => ?_) (fun c_18 => ?_)
              · refine lv_iconst (v := 0) hx hb dX2_isSame_191 (by decide) ?_
                refine W.eq (g2 := F0 m 192 ls [.int (b01 (lentS σ k)), .int (b01 (lentS σ k))]) (by rw [(b01_f (wr_own hTt hkn c_18)).symm]) ?_
                exact K192
              · refine lv_iconst (v := 1) hx hb dX2_isSame_187 (by decide) ?_
                refine lv_goto (tgt := 192) hx hb dX2_isSame_188 (by decide) ?_
                refine W.eq (g2 := F0 m 192 ls [.int (b01 (lentS σ k)), .int (b01 (lentS σ k))]) (by rw [(b01_t (wr_lent2 hI c_17 c_18)).symm]) ?_
                exact K192
        · rcases lgB_c (fun j => shadS σ j (dayOf σ)) (sK σ) (by omega) n9 (by omega) with ⟨-, eL⟩ | ⟨-, bL, hb1, hbL, eL, -⟩
          · rw [eL] at hl
            refine lv_iload hx hb dX2_isSame_83 (lv_at hl 6 rfl) ?_
            refine lv_if_lt (tgt := 103) hx hb dX2_isSame_85 (by decide) (fun _ => ?_) (fun c9 => absurd (by decide) c9)
            refine lv_iload hx hb dX2_isSame_103 (lv_at hl 7 rfl) ?_
            refine lv_istore (lv' := [(4, .int (nI k)), (5, .int ((bsum (fun j => shadS σ j (dayOf σ)) (sK σ) n9) + (shadS σ k (dayOf σ)))), (3, .int ((bsum (fun j => b01 (hasC σ j ∧ truC σ j)) (sK σ) n9) + 1)), (2, .int ((bsum (fun j => b01 (hasC σ j)) (sK σ) n9) + 1)), (7, .ref (M.2.2 k)), (0, .ref M.1), (1, .ref (r_h ρ)), (6, .int (nI k))]) hx hb dX2_isSame_105 hl (by decide) rfl (fun ls hl => ?_)
            refine K107 ls ?_
            show lv_has ls 9 [(5, .int ((bsum (fun j => shadS σ j (dayOf σ)) (sK σ) n9) + (shadS σ k (dayOf σ)))), (3, .int ((bsum (fun j => b01 (hasC σ j ∧ truC σ j)) (sK σ) n9) + 1)), (2, .int ((bsum (fun j => b01 (hasC σ j)) (sK σ) n9) + 1)), (7, .ref (M.2.2 k)), (0, .ref M.1), (1, .ref (r_h ρ)), (6, .int (nI k)), (4, .int (lgB (fun j => shadS σ j (dayOf σ)) (sK σ) (n9 + 1)))]
            rw [lgB_s1 hk eL]
            exact lv_sub hl [1, 2, 3, 4, 5, 6, 7, 0] rfl
          · rw [eL] at hl
            refine lv_iload hx hb dX2_isSame_83 (lv_at hl 6 rfl) ?_
            refine lv_if_lt (tgt := 103) hx hb dX2_isSame_85 (by decide) (fun c9 => absurd c9 (nI_pos (by omega))) (fun _ => ?_)
            refine lv_aload_n hx hb dX2_isSame_88 rfl (lv_at hl 4 rfl) ?_
            refine lv_iload hx hb dX2_isSame_89 (lv_at hl 7 rfl) ?_
            refine vp_callSi (va_Run.run (va_runV (As := [.int (nI k)]) (rest := []) ⟨hx, hb, hml, hown, hts⟩ (c_X2_shadow l D cs M hI k hkn) (cwV 1 hts gX2_isSame_X2_shadow rfl rfl rfl (by decide +kernel) ⟨Nat.le_of_ble_eq_true rfl, Nat.le_of_ble_eq_true rfl⟩) (rb_V hK hN hM (va_recv hK hM (ci := 3) (q0 := 0) rfl rfl)) rfl rfl hl.1 rfl (lv_room (Nat.le_of_ble_eq_true rfl)) dX2_isSame_91 ⟨Nat.le_of_ble_eq_true rfl, Nat.le_of_ble_eq_true rfl⟩)) (fun r_19 hr_19 => ?_)
            rw [hr_19]
            refine lv_aload_n hx hb dX2_isSame_94 rfl (lv_at hl 4 rfl) ?_
            refine lv_iload hx hb dX2_isSame_95 (lv_at hl 6 rfl) ?_
            refine vp_callSi (va_Run.run (va_runV (As := [.int (nI bL)]) (rest := [.int (shadS σ k (dayOf σ))]) ⟨hx, hb, hml, hown, hts⟩ (c_X2_shadow l D cs M hI bL hbL) (cwV 1 hts gX2_isSame_X2_shadow rfl rfl rfl (by decide +kernel) ⟨Nat.le_of_ble_eq_true rfl, Nat.le_of_ble_eq_true rfl⟩) (rb_V hK hN hM (va_recv hK hM (ci := 3) (q0 := 0) rfl rfl)) rfl rfl hl.1 rfl (lv_room (Nat.le_of_ble_eq_true rfl)) dX2_isSame_97 ⟨Nat.le_of_ble_eq_true rfl, Nat.le_of_ble_eq_true rfl⟩)) (fun r_20 hr_20 => ?_)
            rw [hr_20]
            refine lv_icmp_lt (tgt := 107) hx hb dX2_isSame_100 (by decide) (fun c_21 => ?_) (fun c_21 => ?_)
            · refine K107 ls ?_
              show lv_has ls 9 [(5, .int ((bsum (fun j => shadS σ j (dayOf σ)) (sK σ) n9) + (shadS σ k (dayOf σ)))), (3, .int ((bsum (fun j => b01 (hasC σ j ∧ truC σ j)) (sK σ) n9) + 1)), (2, .int ((bsum (fun j => b01 (hasC σ j)) (sK σ) n9) + 1)), (7, .ref (M.2.2 k)), (0, .ref M.1), (1, .ref (r_h ρ)), (6, .int (nI k)), (4, .int (lgB (fun j => shadS σ j (dayOf σ)) (sK σ) (n9 + 1)))]
              rw [lgB_s2 hk (by omega) eL c_21]
              exact lv_sub hl [0, 1, 2, 3, 4, 5, 7, 6] rfl
            · refine lv_iload hx hb dX2_isSame_103 (lv_at hl 7 rfl) ?_
              refine lv_istore (lv' := [(4, .int (nI k)), (5, .int ((bsum (fun j => shadS σ j (dayOf σ)) (sK σ) n9) + (shadS σ k (dayOf σ)))), (3, .int ((bsum (fun j => b01 (hasC σ j ∧ truC σ j)) (sK σ) n9) + 1)), (2, .int ((bsum (fun j => b01 (hasC σ j)) (sK σ) n9) + 1)), (7, .ref (M.2.2 k)), (0, .ref M.1), (1, .ref (r_h ρ)), (6, .int (nI k))]) hx hb dX2_isSame_105 hl (by decide) rfl (fun ls hl => ?_)
              refine K107 ls ?_
              show lv_has ls 9 [(5, .int ((bsum (fun j => shadS σ j (dayOf σ)) (sK σ) n9) + (shadS σ k (dayOf σ)))), (3, .int ((bsum (fun j => b01 (hasC σ j ∧ truC σ j)) (sK σ) n9) + 1)), (2, .int ((bsum (fun j => b01 (hasC σ j)) (sK σ) n9) + 1)), (7, .ref (M.2.2 k)), (0, .ref M.1), (1, .ref (r_h ρ)), (6, .int (nI k)), (4, .int (lgB (fun j => shadS σ j (dayOf σ)) (sK σ) (n9 + 1)))]
              rw [lgB_s3 hk (by omega) eL c_21]
              exact lv_sub hl [1, 2, 3, 4, 5, 6, 7, 0] rfl
      · refine lv_iload hx hb dX2_isSame_19 (lv_at hl 6 rfl) ?_
        refine lv_if_lt (tgt := 276) hx hb dX2_isSame_21 (by decide) (fun c9 => absurd c9 (nI_pos (by omega))) (fun _ => ?_)
        refine lv_aload_n hx hb dX2_isSame_24 rfl (lv_at hl 0 rfl) ?_
        refine va_get (D := D) (ci := 3) (v := .ref M.2.1) (C := RX2) (T := TX2) (N := 4) hx hb hts in_X2_isSame_X2 hown hK hM 0 rfl rfl 3 (by decide) (hts (.fieldLink RX2 9 "ShadowSocietyLaw$Sim" "members" "[[I") (List.mem_of_getElem? (i := 1) (by decide +kernel))) (fun _ h9 => h9) rfl dX2_isSame_25 ?_
        refine lv_iload hx hb dX2_isSame_28 (lv_at hl 6 rfl) ?_
        refine va_aldA hx hb hK hM 1 2 rfl rfl (vp_in_nI hkn (Nat.lt_of_le_of_lt hI.1 (by decide))) (elm_at hkn hI.1) dX2_isSame_30 ?_
        refine lv_astore (lv' := [(7, .ref (M.2.2 k)), (0, .ref M.1), (1, .ref (r_h ρ)), (2, .int (bsum (fun j => b01 (hasC σ j)) (sK σ) n9)), (3, .int (bsum (fun j => b01 (hasC σ j ∧ truC σ j)) (sK σ) n9)), (4, .int (lgB (fun j => shadS σ j (dayOf σ)) (sK σ) n9)), (5, .int (bsum (fun j => shadS σ j (dayOf σ)) (sK σ) n9)), (6, .int (nI k))]) hx hb dX2_isSame_31 hl (by decide) rfl (fun ls hl => ?_)
        refine lv_iload_n hx hb dX2_isSame_33 rfl (lv_at hl 3 rfl) ?_
        refine lv_aload hx hb dX2_isSame_34 (lv_at hl 0 rfl) ?_
        refine lv_iconst (v := 5) hx hb dX2_isSame_36 (by decide) ?_
        refine va_iald hx hb hK hM (2 + k) 0 (simW_at hkn) rfl (by unfold vp_in; decide) dX2_isSame_37 ?_
        rw [show rowF σ k (5 : Int32).toNatClampNeg = sCe σ k from rfl]
        refine lv_if_ge (tgt := 45) hx hb dX2_isSame_38 (by decide) (fun _ => ?_) (fun c9 => absurd (hcc) c9)
        refine lv_iconst (v := 1) hx hb dX2_isSame_45 (by decide) ?_
        refine lv_iadd hx hb dX2_isSame_46 ?_
        refine lv_istore_n (lv' := [(2, .int ((bsum (fun j => b01 (hasC σ j)) (sK σ) n9) + 1)), (7, .ref (M.2.2 k)), (0, .ref M.1), (1, .ref (r_h ρ)), (3, .int (bsum (fun j => b01 (hasC σ j ∧ truC σ j)) (sK σ) n9)), (4, .int (lgB (fun j => shadS σ j (dayOf σ)) (sK σ) n9)), (5, .int (bsum (fun j => shadS σ j (dayOf σ)) (sK σ) n9)), (6, .int (nI k))]) hx hb dX2_isSame_47 rfl hl (by decide) rfl (fun ls hl => ?_)
        refine lv_iload_n hx hb dX2_isSame_48 rfl (lv_at hl 4 rfl) ?_
        refine lv_aload hx hb dX2_isSame_49 (lv_at hl 1 rfl) ?_
        refine lv_iconst (v := 5) hx hb dX2_isSame_51 (by decide) ?_
        refine va_iald hx hb hK hM (2 + k) 0 (simW_at hkn) rfl (by unfold vp_in; decide) dX2_isSame_52 ?_
        rw [show rowF σ k (5 : Int32).toNatClampNeg = sCe σ k from rfl]
        refine lv_if_lt (tgt := 69) hx hb dX2_isSame_53 (by decide) (fun c9 => absurd c9 (Int32.not_lt.mpr hcc)) (fun _ => ?_)
        refine lv_aload_n hx hb dX2_isSame_56 rfl (lv_at hl 2 rfl) ?_
        refine lv_iload hx hb dX2_isSame_57 (lv_at hl 7 rfl) ?_
        refine vp_callSi (va_Run.run (va_runV (As := [.int (nI k)]) (rest := [.int (bsum (fun j => b01 (hasC σ j ∧ truC σ j)) (sK σ) n9)]) ⟨hx, hb, hml, hown, hts⟩ (c_X2_isHonest l D cs M hI k hkn) (cwV 1 hts gX2_isSame_X2_isHonest rfl rfl rfl (by decide +kernel) ⟨Nat.le_of_ble_eq_true rfl, Nat.le_of_ble_eq_true rfl⟩) (rb_V hK hN hM (va_recv hK hM (ci := 3) (q0 := 0) rfl rfl)) rfl rfl hl.1 rfl (lv_room (Nat.le_of_ble_eq_true rfl)) dX2_isSame_59 ⟨Nat.le_of_ble_eq_true rfl, Nat.le_of_ble_eq_true rfl⟩)) (fun r_22 hr_22 => ?_)
        rw [hr_22]
        refine lv_if_eq (tgt := 69) hx hb dX2_isSame_62 (by decide) (fun _ => ?_) (fun c9 => absurd (b01_f htr) c9)
        refine lv_iconst (v := 0) hx hb dX2_isSame_69 (by decide) ?_
        refine lv_iadd hx hb dX2_isSame_70 ?_
        refine lv_istore_n (lv' := [(3, .int ((bsum (fun j => b01 (hasC σ j ∧ truC σ j)) (sK σ) n9) + 0)), (2, .int ((bsum (fun j => b01 (hasC σ j)) (sK σ) n9) + 1)), (7, .ref (M.2.2 k)), (0, .ref M.1), (1, .ref (r_h ρ)), (4, .int (lgB (fun j => shadS σ j (dayOf σ)) (sK σ) n9)), (5, .int (bsum (fun j => shadS σ j (dayOf σ)) (sK σ) n9)), (6, .int (nI k))]) hx hb dX2_isSame_71 rfl hl (by decide) rfl (fun ls hl => ?_)
        refine lv_iload hx hb dX2_isSame_72 (lv_at hl 6 rfl) ?_
        refine lv_aload_n hx hb dX2_isSame_74 rfl (lv_at hl 3 rfl) ?_
        refine lv_iload hx hb dX2_isSame_75 (lv_at hl 7 rfl) ?_
        refine vp_callSi (va_Run.run (va_runV (As := [.int (nI k)]) (rest := [.int (bsum (fun j => shadS σ j (dayOf σ)) (sK σ) n9)]) ⟨hx, hb, hml, hown, hts⟩ (c_X2_shadow l D cs M hI k hkn) (cwV 1 hts gX2_isSame_X2_shadow rfl rfl rfl (by decide +kernel) ⟨Nat.le_of_ble_eq_true rfl, Nat.le_of_ble_eq_true rfl⟩) (rb_V hK hN hM (va_recv hK hM (ci := 3) (q0 := 0) rfl rfl)) rfl rfl hl.1 rfl (lv_room (Nat.le_of_ble_eq_true rfl)) dX2_isSame_77 ⟨Nat.le_of_ble_eq_true rfl, Nat.le_of_ble_eq_true rfl⟩)) (fun r_23 hr_23 => ?_)
        rw [hr_23]
        refine lv_iadd hx hb dX2_isSame_80 ?_
        refine lv_istore (lv' := [(5, .int ((bsum (fun j => shadS σ j (dayOf σ)) (sK σ) n9) + (shadS σ k (dayOf σ)))), (3, .int ((bsum (fun j => b01 (hasC σ j ∧ truC σ j)) (sK σ) n9) + 0)), (2, .int ((bsum (fun j => b01 (hasC σ j)) (sK σ) n9) + 1)), (7, .ref (M.2.2 k)), (0, .ref M.1), (1, .ref (r_h ρ)), (4, .int (lgB (fun j => shadS σ j (dayOf σ)) (sK σ) n9)), (6, .int (nI k))]) hx hb dX2_isSame_81 hl (by decide) rfl (fun ls hl => ?_)
        refine lv_cutP (fun ls => lv_has ls 9 [(5, .int ((bsum (fun j => shadS σ j (dayOf σ)) (sK σ) n9) + (shadS σ k (dayOf σ)))), (3, .int ((bsum (fun j => b01 (hasC σ j ∧ truC σ j)) (sK σ) n9) + 0)), (2, .int ((bsum (fun j => b01 (hasC σ j)) (sK σ) n9) + 1)), (7, .ref (M.2.2 k)), (0, .ref M.1), (1, .ref (r_h ρ)), (6, .int (nI k)), (4, .int (lgB (fun j => shadS σ j (dayOf σ)) (sK σ) (n9 + 1)))]) (fun ls => F0 m 107 ls []) (fun ls hl => ?_) (fun K107 => ?_)
        · have hl : lv_has ls 9 [(5, .int ((bsum (fun j => shadS σ j (dayOf σ)) (sK σ) n9) + (shadS σ k (dayOf σ)))), (3, .int ((bsum (fun j => b01 (hasC σ j ∧ truC σ j)) (sK σ) n9) + 0)), (2, .int ((bsum (fun j => b01 (hasC σ j)) (sK σ) n9) + 1)), (7, .ref (M.2.2 k)), (0, .ref M.1), (1, .ref (r_h ρ)), (6, .int (nI k)), (4, .int (lgB (fun j => shadS σ j (dayOf σ)) (sK σ) (n9 + 1)))] := hl
          refine lv_aload_n hx hb dX2_isSame_107 rfl (lv_at hl 4 rfl) ?_
          refine lv_iload hx hb dX2_isSame_108 (lv_at hl 6 rfl) ?_
          refine vp_callSi (va_Run.run (va_runV (As := [.int (nI k)]) (rest := []) ⟨hx, hb, hml, hown, hts⟩ (c_X2_wearer l D cs M hI (nI k)) (cwV 1 hts gX2_isSame_X2_wearer rfl rfl rfl (by decide +kernel) ⟨Nat.le_of_ble_eq_true rfl, Nat.le_of_ble_eq_true rfl⟩) (rb_V hK hN hM (va_recv hK hM (ci := 3) (q0 := 0) rfl rfl)) rfl rfl hl.1 rfl (lv_room (Nat.le_of_ble_eq_true rfl)) dX2_isSame_110 ⟨Nat.le_of_ble_eq_true rfl, Nat.le_of_ble_eq_true rfl⟩)) (fun r_24 hr_24 => ?_)
          rw [hr_24]
          refine lv_istore (lv' := [(8, .int (wrS (sWe σ) (nI k) (sK σ))), (5, .int ((bsum (fun j => shadS σ j (dayOf σ)) (sK σ) n9) + (shadS σ k (dayOf σ)))), (3, .int ((bsum (fun j => b01 (hasC σ j ∧ truC σ j)) (sK σ) n9) + 0)), (2, .int ((bsum (fun j => b01 (hasC σ j)) (sK σ) n9) + 1)), (7, .ref (M.2.2 k)), (0, .ref M.1), (1, .ref (r_h ρ)), (6, .int (nI k)), (4, .int (lgB (fun j => shadS σ j (dayOf σ)) (sK σ) (n9 + 1)))]) hx hb dX2_isSame_113 hl (by decide) rfl (fun ls hl => ?_)
          refine lv_aload_n hx hb dX2_isSame_115 rfl (lv_at hl 6 rfl) ?_
          refine lv_iload hx hb dX2_isSame_116 (lv_at hl 7 rfl) ?_
          refine vp_callSi (va_Run.run (va_runV (As := [.int (nI k)]) (rest := []) ⟨hx, hb, hml, hown, hts⟩ (n_X1_lampOf l D cs ρ hI hap.1.1 k hkn) (cwV 1 hts gX2_isSame_X1_lampOf rfl rfl rfl (by decide +kernel) ⟨Nat.le_of_ble_eq_true rfl, Nat.le_of_ble_eq_true rfl⟩) (rb_V hK hN hP (va_recv hK (one_P hP.1) (ci := 2) (q0 := 0) rfl rfl)) rfl rfl hl.1 rfl (lv_room (Nat.le_of_ble_eq_true rfl)) dX2_isSame_118 ⟨Nat.le_of_ble_eq_true rfl, Nat.le_of_ble_eq_true rfl⟩)) (fun r_25 hr_25 => ?_)
          rw [hr_25]
          refine lv_aload hx hb dX2_isSame_121 (lv_at hl 4 rfl) ?_
          refine lv_iconst (v := 3) hx hb dX2_isSame_123 (by decide) ?_
          refine va_iald hx hb hK hM (2 + k) 0 (simW_at hkn) rfl (by unfold vp_in; decide) dX2_isSame_124 ?_
          rw [show rowF σ k (3 : Int32).toNatClampNeg = sLa σ k from rfl]
          refine lv_icmp_ne (tgt := 268) hx hb dX2_isSame_125 (by decide) (fun c9 => absurd (rfl) c9) (fun _ => ?_)
          refine lv_aload_n hx hb dX2_isSame_128 rfl (lv_at hl 6 rfl) ?_
          refine lv_iload hx hb dX2_isSame_129 (lv_at hl 7 rfl) ?_
          refine vp_callSi (va_Run.run (va_runV (As := [.int (nI k)]) (rest := []) ⟨hx, hb, hml, hown, hts⟩ (n_X1_purseOf l D cs ρ hI hap.1.1 k hkn) (cwV 1 hts gX2_isSame_X1_purseOf rfl rfl rfl (by decide +kernel) ⟨Nat.le_of_ble_eq_true rfl, Nat.le_of_ble_eq_true rfl⟩) (rb_V hK hN hP (va_recv hK (one_P hP.1) (ci := 2) (q0 := 0) rfl rfl)) rfl rfl hl.1 rfl (lv_room (Nat.le_of_ble_eq_true rfl)) dX2_isSame_131 ⟨Nat.le_of_ble_eq_true rfl, Nat.le_of_ble_eq_true rfl⟩)) (fun r_26 hr_26 => ?_)
          rw [hr_26]
          refine lv_aload hx hb dX2_isSame_134 (lv_at hl 4 rfl) ?_
          refine lv_iconst (v := 2) hx hb dX2_isSame_136 (by decide) ?_
          refine va_iald hx hb hK hM (2 + k) 0 (simW_at hkn) rfl (by unfold vp_in; decide) dX2_isSame_137 ?_
          rw [show rowF σ k (2 : Int32).toNatClampNeg = sPu σ k from rfl]
          refine lv_icmp_ne (tgt := 268) hx hb dX2_isSame_138 (by decide) (fun c9 => absurd (rfl) c9) (fun _ => ?_)
          refine lv_aload_n hx hb dX2_isSame_141 rfl (lv_at hl 6 rfl) ?_
          refine lv_iload hx hb dX2_isSame_142 (lv_at hl 7 rfl) ?_
          refine vp_callSi (va_Run.run (va_runV (As := [.int (nI k)]) (rest := []) ⟨hx, hb, hml, hown, hts⟩ (n_X1_wears l D cs ρ hI hap.1.1 k hkn) (cwV 1 hts gX2_isSame_X1_wears rfl rfl rfl (by decide +kernel) ⟨Nat.le_of_ble_eq_true rfl, Nat.le_of_ble_eq_true rfl⟩) (rb_V hK hN hP (va_recv hK (one_P hP.1) (ci := 2) (q0 := 0) rfl rfl)) rfl rfl hl.1 rfl (lv_room (Nat.le_of_ble_eq_true rfl)) dX2_isSame_144 ⟨Nat.le_of_ble_eq_true rfl, Nat.le_of_ble_eq_true rfl⟩)) (fun r_27 hr_27 => ?_)
          rw [hr_27]
          refine lv_aload hx hb dX2_isSame_147 (lv_at hl 4 rfl) ?_
          refine lv_iconst (v := 4) hx hb dX2_isSame_149 (by decide) ?_
          refine va_iald hx hb hK hM (2 + k) 0 (simW_at hkn) rfl (by unfold vp_in; decide) dX2_isSame_150 ?_
          rw [show rowF σ k (4 : Int32).toNatClampNeg = sWe σ k from rfl]
          refine lv_icmp_ne (tgt := 268) hx hb dX2_isSame_151 (by decide) (fun c9 => absurd (rfl) c9) (fun _ => ?_)
          refine lv_aload_n hx hb dX2_isSame_154 rfl (lv_at hl 6 rfl) ?_
          refine lv_iload hx hb dX2_isSame_155 (lv_at hl 7 rfl) ?_
          refine vp_callSi (va_Run.run (va_runV (As := [.int (nI k)]) (rest := []) ⟨hx, hb, hml, hown, hts⟩ (n_X1_hatOn l D cs ρ hI hap.1.1 k hkn) (cwV 1 hts gX2_isSame_X1_hatOn rfl rfl rfl (by decide +kernel) ⟨Nat.le_of_ble_eq_true rfl, Nat.le_of_ble_eq_true rfl⟩) (rb_V hK hN hP (va_recv hK (one_P hP.1) (ci := 2) (q0 := 0) rfl rfl)) rfl rfl hl.1 rfl (lv_room (Nat.le_of_ble_eq_true rfl)) dX2_isSame_157 ⟨Nat.le_of_ble_eq_true rfl, Nat.le_of_ble_eq_true rfl⟩)) (fun r_28 hr_28 => ?_)
          rw [hr_28]
          refine lv_aload_n hx hb dX2_isSame_160 rfl (lv_at hl 5 rfl) ?_
          refine lv_iload hx hb dX2_isSame_161 (lv_at hl 7 rfl) ?_
          refine vp_callSi (va_Run.run (va_runV (As := [.int (nI k)]) (rest := [.int (wornH σ k)]) ⟨hx, hb, hml, hown, hts⟩ (c_X2_hatOn l D cs M hI k hkn) (cwV 1 hts gX2_isSame_X2_hatOn rfl rfl rfl (by decide +kernel) ⟨Nat.le_of_ble_eq_true rfl, Nat.le_of_ble_eq_true rfl⟩) (rb_V hK hN hM (va_recv hK hM (ci := 3) (q0 := 0) rfl rfl)) rfl rfl hl.1 rfl (lv_room (Nat.le_of_ble_eq_true rfl)) dX2_isSame_163 ⟨Nat.le_of_ble_eq_true rfl, Nat.le_of_ble_eq_true rfl⟩)) (fun r_29 hr_29 => ?_)
          rw [hr_29]
          refine lv_icmp_ne (tgt := 268) hx hb dX2_isSame_166 (by decide) (fun c9 => absurd (rfl) c9) (fun _ => ?_)
          refine lv_aload_n hx hb dX2_isSame_169 rfl (lv_at hl 6 rfl) ?_
          refine lv_iload hx hb dX2_isSame_170 (lv_at hl 7 rfl) ?_
          refine vp_callSi (va_Run.run (va_runV (As := [.int (nI k)]) (rest := []) ⟨hx, hb, hml, hown, hts⟩ (n_X1_hasLent l D cs ρ hI hap.1.1 k hkn) (cwV 1 hts gX2_isSame_X1_hasLent rfl rfl rfl (by decide +kernel) ⟨Nat.le_of_ble_eq_true rfl, Nat.le_of_ble_eq_true rfl⟩) (rb_V hK hN hP (va_recv hK (one_P hP.1) (ci := 2) (q0 := 0) rfl rfl)) rfl rfl hl.1 rfl (lv_room (Nat.le_of_ble_eq_true rfl)) dX2_isSame_172 ⟨Nat.le_of_ble_eq_true rfl, Nat.le_of_ble_eq_true rfl⟩)) (fun r_30 hr_30 => ?_)
          rw [hr_30]
          refine lv_cut (F0 m 192 ls [.int (b01 (lentS σ k)), .int (b01 (lentS σ k))]) ?_ (fun K192 => ?_)
          · refine lv_icmp_ne (tgt := 268) hx hb dX2_isSame_192 (by decide) (fun c9 => absurd (rfl) c9) (fun _ => ?_)
            refine lv_aload_n hx hb dX2_isSame_195 rfl (lv_at hl 6 rfl) ?_
            refine lv_iload hx hb dX2_isSame_196 (lv_at hl 7 rfl) ?_
            refine vp_callSi (va_Run.run (va_runV (As := [.int (nI k)]) (rest := []) ⟨hx, hb, hml, hown, hts⟩ (n_X1_isExpelled l D cs ρ hI hap.1.1 k hkn) (cwV 1 hts gX2_isSame_X1_isExpelled rfl rfl rfl (by decide +kernel) ⟨Nat.le_of_ble_eq_true rfl, Nat.le_of_ble_eq_true rfl⟩) (rb_V hK hN hP (va_recv hK (one_P hP.1) (ci := 2) (q0 := 0) rfl rfl)) rfl rfl hl.1 rfl (lv_room (Nat.le_of_ble_eq_true rfl)) dX2_isSame_198 ⟨Nat.le_of_ble_eq_true rfl, Nat.le_of_ble_eq_true rfl⟩)) (fun r_31 hr_31 => ?_)
            rw [hr_31]
            refine lv_cut (F0 m 215 ls [.int (b01 (outS σ k)), .int (b01 (outS σ k))]) ?_ (fun K215 => ?_)
            · refine lv_icmp_ne (tgt := 268) hx hb dX2_isSame_215 (by decide) (fun c9 => absurd (rfl) c9) (fun _ => ?_)
              refine lv_aload_n hx hb dX2_isSame_218 rfl (lv_at hl 6 rfl) ?_
              refine lv_iload hx hb dX2_isSame_219 (lv_at hl 7 rfl) ?_
              refine vp_callSi (va_Run.run (va_runV (As := [.int (nI k)]) (rest := []) ⟨hx, hb, hml, hown, hts⟩ (n_X1_shadowOf l D cs ρ hI hap.1.1 k hkn) (cwV 1 hts gX2_isSame_X1_shadowOf rfl rfl rfl (by decide +kernel) ⟨Nat.le_of_ble_eq_true rfl, Nat.le_of_ble_eq_true rfl⟩) (rb_V hK hN hP (va_recv hK (one_P hP.1) (ci := 2) (q0 := 0) rfl rfl)) rfl rfl hl.1 rfl (lv_room (Nat.le_of_ble_eq_true rfl)) dX2_isSame_221 ⟨Nat.le_of_ble_eq_true rfl, Nat.le_of_ble_eq_true rfl⟩)) (fun r_32 hr_32 => ?_)
              rw [hr_32]
              refine lv_aload_n hx hb dX2_isSame_224 rfl (lv_at hl 5 rfl) ?_
              refine lv_iload hx hb dX2_isSame_225 (lv_at hl 7 rfl) ?_
              refine vp_callSi (va_Run.run (va_runV (As := [.int (nI k)]) (rest := [.int (shadS σ k (dayOf σ))]) ⟨hx, hb, hml, hown, hts⟩ (c_X2_shadow l D cs M hI k hkn) (cwV 1 hts gX2_isSame_X2_shadow rfl rfl rfl (by decide +kernel) ⟨Nat.le_of_ble_eq_true rfl, Nat.le_of_ble_eq_true rfl⟩) (rb_V hK hN hM (va_recv hK hM (ci := 3) (q0 := 0) rfl rfl)) rfl rfl hl.1 rfl (lv_room (Nat.le_of_ble_eq_true rfl)) dX2_isSame_227 ⟨Nat.le_of_ble_eq_true rfl, Nat.le_of_ble_eq_true rfl⟩)) (fun r_33 hr_33 => ?_)
              rw [hr_33]
              refine lv_icmp_ne (tgt := 268) hx hb dX2_isSame_230 (by decide) (fun c9 => absurd (rfl) c9) (fun _ => ?_)
              refine lv_aload_n hx hb dX2_isSame_233 rfl (lv_at hl 6 rfl) ?_
              refine lv_iload hx hb dX2_isSame_234 (lv_at hl 7 rfl) ?_
              refine vp_callSi (va_Run.run (va_runV (As := [.int (nI k)]) (rest := []) ⟨hx, hb, hml, hown, hts⟩ (n_X1_certified l D cs ρ hI hap.1.1 k hkn) (cwV 1 hts gX2_isSame_X1_certified rfl rfl rfl (by decide +kernel) ⟨Nat.le_of_ble_eq_true rfl, Nat.le_of_ble_eq_true rfl⟩) (rb_V hK hN hP (va_recv hK (one_P hP.1) (ci := 2) (q0 := 0) rfl rfl)) rfl rfl hl.1 rfl (lv_room (Nat.le_of_ble_eq_true rfl)) dX2_isSame_236 ⟨Nat.le_of_ble_eq_true rfl, Nat.le_of_ble_eq_true rfl⟩)) (fun r_34 hr_34 => ?_)
              rw [hr_34]
              refine lv_aload hx hb dX2_isSame_239 (lv_at hl 4 rfl) ?_
              refine lv_iconst (v := 5) hx hb dX2_isSame_241 (by decide) ?_
              refine va_iald hx hb hK hM (2 + k) 0 (simW_at hkn) rfl (by unfold vp_in; decide) dX2_isSame_242 ?_
              rw [show rowF σ k (5 : Int32).toNatClampNeg = sCe σ k from rfl]
              refine lv_icmp_ne (tgt := 268) hx hb dX2_isSame_243 (by decide) (fun c9 => absurd (rfl) c9) (fun _ => ?_)
              refine lv_aload hx hb dX2_isSame_246 (lv_at hl 4 rfl) ?_
              refine lv_iconst (v := 5) hx hb dX2_isSame_248 (by decide) ?_
              refine va_iald hx hb hK hM (2 + k) 0 (simW_at hkn) rfl (by unfold vp_in; decide) dX2_isSame_249 ?_
              rw [show rowF σ k (5 : Int32).toNatClampNeg = sCe σ k from rfl]
              refine lv_if_lt (tgt := 270) hx hb dX2_isSame_250 (by decide) (fun c9 => absurd c9 (Int32.not_lt.mpr hcc)) (fun _ => ?_)
              refine lv_aload_n hx hb dX2_isSame_253 rfl (lv_at hl 6 rfl) ?_
              refine lv_iload hx hb dX2_isSame_254 (lv_at hl 7 rfl) ?_
              refine vp_callSi (va_Run.run (va_runV (As := [.int (nI k)]) (rest := []) ⟨hx, hb, hml, hown, hts⟩ (n_X1_isHonest l D cs ρ hI hap.1.1 k hkn (cer_ge hcc)) (cwV 1 hts gX2_isSame_X1_isHonest rfl rfl rfl (by decide +kernel) ⟨Nat.le_of_ble_eq_true rfl, Nat.le_of_ble_eq_true rfl⟩) (rb_V hK hN hP (va_recv hK (one_P hP.1) (ci := 2) (q0 := 0) rfl rfl)) rfl rfl hl.1 rfl (lv_room (Nat.le_of_ble_eq_true rfl)) dX2_isSame_256 ⟨Nat.le_of_ble_eq_true rfl, Nat.le_of_ble_eq_true rfl⟩)) (fun r_35 hr_35 => ?_)
              rw [hr_35]
              refine lv_aload_n hx hb dX2_isSame_259 rfl (lv_at hl 5 rfl) ?_
              refine lv_iload hx hb dX2_isSame_260 (lv_at hl 7 rfl) ?_
              refine vp_callSi (va_Run.run (va_runV (As := [.int (nI k)]) (rest := [.int (b01 (hasC σ k ∧ truC σ k))]) ⟨hx, hb, hml, hown, hts⟩ (c_X2_isHonest l D cs M hI k hkn) (cwV 1 hts gX2_isSame_X2_isHonest rfl rfl rfl (by decide +kernel) ⟨Nat.le_of_ble_eq_true rfl, Nat.le_of_ble_eq_true rfl⟩) (rb_V hK hN hM (va_recv hK hM (ci := 3) (q0 := 0) rfl rfl)) rfl rfl hl.1 rfl (lv_room (Nat.le_of_ble_eq_true rfl)) dX2_isSame_262 ⟨Nat.le_of_ble_eq_true rfl, Nat.le_of_ble_eq_true rfl⟩)) (fun r_36 hr_36 => ?_)
              rw [hr_36]
              refine lv_icmp_eq (tgt := 270) hx hb dX2_isSame_265 (by decide) (fun _ => ?_) (fun c9 => absurd (b01_and (cer_ge hcc)) c9)
              refine lv_iinc (v := (nI k) + (-1)) (lv' := [(6, .int ((nI k) + (-1))), (8, .int (wrS (sWe σ) (nI k) (sK σ))), (5, .int ((bsum (fun j => shadS σ j (dayOf σ)) (sK σ) n9) + (shadS σ k (dayOf σ)))), (3, .int ((bsum (fun j => b01 (hasC σ j ∧ truC σ j)) (sK σ) n9) + 0)), (2, .int ((bsum (fun j => b01 (hasC σ j)) (sK σ) n9) + 1)), (7, .ref (M.2.2 k)), (0, .ref M.1), (1, .ref (r_h ρ)), (4, .int (lgB (fun j => shadS σ j (dayOf σ)) (sK σ) (n9 + 1)))]) hx hb dX2_isSame_270 hl (k := 7) rfl rfl (by decide) rfl (fun ls hl => ?_)
              refine lv_goto (tgt := 19) hx hb dX2_isSame_273 (by decide) ?_
              refine K19 ls trivial ?_
              show lv_has ls 9 [(0, .ref M.1), (1, .ref (r_h ρ)), (2, .int (bsum (fun j => b01 (hasC σ j)) (sK σ) (n9 + 1))), (3, .int (bsum (fun j => b01 (hasC σ j ∧ truC σ j)) (sK σ) (n9 + 1))), (4, .int (lgB (fun j => shadS σ j (dayOf σ)) (sK σ) (n9 + 1))), (5, .int (bsum (fun j => shadS σ j (dayOf σ)) (sK σ) (n9 + 1))), (6, .int (nI (sK σ - (n9 + 1)) - 1))]
              rw [show bsum (fun j => b01 (hasC σ j)) (sK σ) (n9 + 1) = bsum (fun j => b01 (hasC σ j)) (sK σ) n9 + 1 from (bsum_s hk).trans (congrArg (fun z => bsum (fun j => b01 (hasC σ j)) (sK σ) n9 + z) (b01_t (cer_ge hcc))), show bsum (fun j => b01 (hasC σ j ∧ truC σ j)) (sK σ) (n9 + 1) = bsum (fun j => b01 (hasC σ j ∧ truC σ j)) (sK σ) n9 + 0 from (bsum_s hk).trans (congrArg (fun z => bsum (fun j => b01 (hasC σ j ∧ truC σ j)) (sK σ) n9 + z) (b01_f (fun q => htr q.2))), show bsum (fun j => shadS σ j (dayOf σ)) (sK σ) (n9 + 1) = bsum (fun j => shadS σ j (dayOf σ)) (sK σ) n9 + shadS σ k (dayOf σ) from bsum_s hk, kI_next hk hn9]
              exact lv_sub hl [6, 7, 4, 3, 8, 2, 0] rfl
            · refine lv_aload hx hb dX2_isSame_201 (lv_at hl 4 rfl) ?_
              refine lv_bipush (v := 7) hx hb dX2_isSame_203 (by decide) ?_
              refine va_iald hx hb hK hM (2 + k) 0 (simW_at hkn) rfl (by unfold vp_in; decide) dX2_isSame_205 ?_
              rw [show rowF σ k (7 : Int32).toNatClampNeg = sLo σ k from rfl]
              refine lv_iconst (v := 2) hx hb dX2_isSame_206 (by decide) ?_
              refine lv_icmp_le (tgt := 214) hx hb dX2_isSame_207 (by decide) (fun c_37 => ?_) (fun c_37 => ?_)
              · refine lv_iconst (v := 0) hx hb dX2_isSame_214 (by decide) ?_
                refine W.eq (g2 := F0 m 215 ls [.int (b01 (outS σ k)), .int (b01 (outS σ k))]) (by rw [(b01_f (fun q => (ge_3 _).mpr q c_37)).symm]) ?_
                exact K215
              · refine lv_iconst (v := 1) hx hb dX2_isSame_210 (by decide) ?_
                refine lv_goto (tgt := 215) hx hb dX2_isSame_211 (by decide) ?_
                refine W.eq (g2 := F0 m 215 ls [.int (b01 (outS σ k)), .int (b01 (outS σ k))]) (by rw [(b01_t ((ge_3 _).mp c_37)).symm]) ?_
                exact K215
          · refine lv_iload hx hb dX2_isSame_175 (lv_at hl 0 rfl) ?_
            refine lv_if_lt (tgt := 191) hx hb dX2_isSame_177 (by decide) (fun c_38 => ?_) (fun c_38 => ?_)
            · refine lv_iconst (v := 0) hx hb dX2_isSame_191 (by decide) ?_
              refine W.eq (g2 := F0 m 192 ls [.int (b01 (lentS σ k)), .int (b01 (lentS σ k))]) (by rw [(b01_f (wr_neg hI c_38)).symm]) ?_
              exact K192
            · refine lv_iload hx hb dX2_isSame_180 (lv_at hl 0 rfl) ?_
              refine lv_iload hx hb dX2_isSame_182 (lv_at hl 7 rfl) ?_
              refine lv_icmp_eq (tgt := 191) hx hb dX2_isSame_184 (by decide) (fun c_39 => ?_) (fun c_39 => ?_)
              · refine lv_iconst (v := 0) hx hb dX2_isSame_191 (by decide) ?_
                refine W.eq (g2 := F0 m 192 ls [.int (b01 (lentS σ k)), .int (b01 (lentS σ k))]) (by rw [(b01_f (wr_own hTt hkn c_39)).symm]) ?_
                exact K192
              · refine lv_iconst (v := 1) hx hb dX2_isSame_187 (by decide) ?_
                refine lv_goto (tgt := 192) hx hb dX2_isSame_188 (by decide) ?_
                refine W.eq (g2 := F0 m 192 ls [.int (b01 (lentS σ k)), .int (b01 (lentS σ k))]) (by rw [(b01_t (wr_lent2 hI c_38 c_39)).symm]) ?_
                exact K192
        · rcases lgB_c (fun j => shadS σ j (dayOf σ)) (sK σ) (by omega) n9 (by omega) with ⟨-, eL⟩ | ⟨-, bL, hb1, hbL, eL, -⟩
          · rw [eL] at hl
            refine lv_iload hx hb dX2_isSame_83 (lv_at hl 6 rfl) ?_
            refine lv_if_lt (tgt := 103) hx hb dX2_isSame_85 (by decide) (fun _ => ?_) (fun c9 => absurd (by decide) c9)
            refine lv_iload hx hb dX2_isSame_103 (lv_at hl 7 rfl) ?_
            refine lv_istore (lv' := [(4, .int (nI k)), (5, .int ((bsum (fun j => shadS σ j (dayOf σ)) (sK σ) n9) + (shadS σ k (dayOf σ)))), (3, .int ((bsum (fun j => b01 (hasC σ j ∧ truC σ j)) (sK σ) n9) + 0)), (2, .int ((bsum (fun j => b01 (hasC σ j)) (sK σ) n9) + 1)), (7, .ref (M.2.2 k)), (0, .ref M.1), (1, .ref (r_h ρ)), (6, .int (nI k))]) hx hb dX2_isSame_105 hl (by decide) rfl (fun ls hl => ?_)
            refine K107 ls ?_
            show lv_has ls 9 [(5, .int ((bsum (fun j => shadS σ j (dayOf σ)) (sK σ) n9) + (shadS σ k (dayOf σ)))), (3, .int ((bsum (fun j => b01 (hasC σ j ∧ truC σ j)) (sK σ) n9) + 0)), (2, .int ((bsum (fun j => b01 (hasC σ j)) (sK σ) n9) + 1)), (7, .ref (M.2.2 k)), (0, .ref M.1), (1, .ref (r_h ρ)), (6, .int (nI k)), (4, .int (lgB (fun j => shadS σ j (dayOf σ)) (sK σ) (n9 + 1)))]
            rw [lgB_s1 hk eL]
            exact lv_sub hl [1, 2, 3, 4, 5, 6, 7, 0] rfl
          · rw [eL] at hl
            refine lv_iload hx hb dX2_isSame_83 (lv_at hl 6 rfl) ?_
            refine lv_if_lt (tgt := 103) hx hb dX2_isSame_85 (by decide) (fun c9 => absurd c9 (nI_pos (by omega))) (fun _ => ?_)
            refine lv_aload_n hx hb dX2_isSame_88 rfl (lv_at hl 4 rfl) ?_
            refine lv_iload hx hb dX2_isSame_89 (lv_at hl 7 rfl) ?_
            refine vp_callSi (va_Run.run (va_runV (As := [.int (nI k)]) (rest := []) ⟨hx, hb, hml, hown, hts⟩ (c_X2_shadow l D cs M hI k hkn) (cwV 1 hts gX2_isSame_X2_shadow rfl rfl rfl (by decide +kernel) ⟨Nat.le_of_ble_eq_true rfl, Nat.le_of_ble_eq_true rfl⟩) (rb_V hK hN hM (va_recv hK hM (ci := 3) (q0 := 0) rfl rfl)) rfl rfl hl.1 rfl (lv_room (Nat.le_of_ble_eq_true rfl)) dX2_isSame_91 ⟨Nat.le_of_ble_eq_true rfl, Nat.le_of_ble_eq_true rfl⟩)) (fun r_40 hr_40 => ?_)
            rw [hr_40]
            refine lv_aload_n hx hb dX2_isSame_94 rfl (lv_at hl 4 rfl) ?_
            refine lv_iload hx hb dX2_isSame_95 (lv_at hl 6 rfl) ?_
            refine vp_callSi (va_Run.run (va_runV (As := [.int (nI bL)]) (rest := [.int (shadS σ k (dayOf σ))]) ⟨hx, hb, hml, hown, hts⟩ (c_X2_shadow l D cs M hI bL hbL) (cwV 1 hts gX2_isSame_X2_shadow rfl rfl rfl (by decide +kernel) ⟨Nat.le_of_ble_eq_true rfl, Nat.le_of_ble_eq_true rfl⟩) (rb_V hK hN hM (va_recv hK hM (ci := 3) (q0 := 0) rfl rfl)) rfl rfl hl.1 rfl (lv_room (Nat.le_of_ble_eq_true rfl)) dX2_isSame_97 ⟨Nat.le_of_ble_eq_true rfl, Nat.le_of_ble_eq_true rfl⟩)) (fun r_41 hr_41 => ?_)
            rw [hr_41]
            refine lv_icmp_lt (tgt := 107) hx hb dX2_isSame_100 (by decide) (fun c_42 => ?_) (fun c_42 => ?_)
            · refine K107 ls ?_
              show lv_has ls 9 [(5, .int ((bsum (fun j => shadS σ j (dayOf σ)) (sK σ) n9) + (shadS σ k (dayOf σ)))), (3, .int ((bsum (fun j => b01 (hasC σ j ∧ truC σ j)) (sK σ) n9) + 0)), (2, .int ((bsum (fun j => b01 (hasC σ j)) (sK σ) n9) + 1)), (7, .ref (M.2.2 k)), (0, .ref M.1), (1, .ref (r_h ρ)), (6, .int (nI k)), (4, .int (lgB (fun j => shadS σ j (dayOf σ)) (sK σ) (n9 + 1)))]
              rw [lgB_s2 hk (by omega) eL c_42]
              exact lv_sub hl [0, 1, 2, 3, 4, 5, 7, 6] rfl
            · refine lv_iload hx hb dX2_isSame_103 (lv_at hl 7 rfl) ?_
              refine lv_istore (lv' := [(4, .int (nI k)), (5, .int ((bsum (fun j => shadS σ j (dayOf σ)) (sK σ) n9) + (shadS σ k (dayOf σ)))), (3, .int ((bsum (fun j => b01 (hasC σ j ∧ truC σ j)) (sK σ) n9) + 0)), (2, .int ((bsum (fun j => b01 (hasC σ j)) (sK σ) n9) + 1)), (7, .ref (M.2.2 k)), (0, .ref M.1), (1, .ref (r_h ρ)), (6, .int (nI k))]) hx hb dX2_isSame_105 hl (by decide) rfl (fun ls hl => ?_)
              refine K107 ls ?_
              show lv_has ls 9 [(5, .int ((bsum (fun j => shadS σ j (dayOf σ)) (sK σ) n9) + (shadS σ k (dayOf σ)))), (3, .int ((bsum (fun j => b01 (hasC σ j ∧ truC σ j)) (sK σ) n9) + 0)), (2, .int ((bsum (fun j => b01 (hasC σ j)) (sK σ) n9) + 1)), (7, .ref (M.2.2 k)), (0, .ref M.1), (1, .ref (r_h ρ)), (6, .int (nI k)), (4, .int (lgB (fun j => shadS σ j (dayOf σ)) (sK σ) (n9 + 1)))]
              rw [lgB_s3 hk (by omega) eL c_42]
              exact lv_sub hl [1, 2, 3, 4, 5, 6, 7, 0] rfl
    · refine lv_iload hx hb dX2_isSame_19 (lv_at hl 6 rfl) ?_
      refine lv_if_lt (tgt := 276) hx hb dX2_isSame_21 (by decide) (fun c9 => absurd c9 (nI_pos (by omega))) (fun _ => ?_)
      refine lv_aload_n hx hb dX2_isSame_24 rfl (lv_at hl 0 rfl) ?_
      refine va_get (D := D) (ci := 3) (v := .ref M.2.1) (C := RX2) (T := TX2) (N := 4) hx hb hts in_X2_isSame_X2 hown hK hM 0 rfl rfl 3 (by decide) (hts (.fieldLink RX2 9 "ShadowSocietyLaw$Sim" "members" "[[I") (List.mem_of_getElem? (i := 1) (by decide +kernel))) (fun _ h9 => h9) rfl dX2_isSame_25 ?_
      refine lv_iload hx hb dX2_isSame_28 (lv_at hl 6 rfl) ?_
      refine va_aldA hx hb hK hM 1 2 rfl rfl (vp_in_nI hkn (Nat.lt_of_le_of_lt hI.1 (by decide))) (elm_at hkn hI.1) dX2_isSame_30 ?_
      refine lv_astore (lv' := [(7, .ref (M.2.2 k)), (0, .ref M.1), (1, .ref (r_h ρ)), (2, .int (bsum (fun j => b01 (hasC σ j)) (sK σ) n9)), (3, .int (bsum (fun j => b01 (hasC σ j ∧ truC σ j)) (sK σ) n9)), (4, .int (lgB (fun j => shadS σ j (dayOf σ)) (sK σ) n9)), (5, .int (bsum (fun j => shadS σ j (dayOf σ)) (sK σ) n9)), (6, .int (nI k))]) hx hb dX2_isSame_31 hl (by decide) rfl (fun ls hl => ?_)
      refine lv_iload_n hx hb dX2_isSame_33 rfl (lv_at hl 3 rfl) ?_
      refine lv_aload hx hb dX2_isSame_34 (lv_at hl 0 rfl) ?_
      refine lv_iconst (v := 5) hx hb dX2_isSame_36 (by decide) ?_
      refine va_iald hx hb hK hM (2 + k) 0 (simW_at hkn) rfl (by unfold vp_in; decide) dX2_isSame_37 ?_
      rw [show rowF σ k (5 : Int32).toNatClampNeg = sCe σ k from rfl]
      refine lv_if_ge (tgt := 45) hx hb dX2_isSame_38 (by decide) (fun c9 => absurd c9 (hcc)) (fun _ => ?_)
      refine lv_iconst (v := 0) hx hb dX2_isSame_41 (by decide) ?_
      refine lv_goto (tgt := 46) hx hb dX2_isSame_42 (by decide) ?_
      refine lv_iadd hx hb dX2_isSame_46 ?_
      refine lv_istore_n (lv' := [(2, .int ((bsum (fun j => b01 (hasC σ j)) (sK σ) n9) + 0)), (7, .ref (M.2.2 k)), (0, .ref M.1), (1, .ref (r_h ρ)), (3, .int (bsum (fun j => b01 (hasC σ j ∧ truC σ j)) (sK σ) n9)), (4, .int (lgB (fun j => shadS σ j (dayOf σ)) (sK σ) n9)), (5, .int (bsum (fun j => shadS σ j (dayOf σ)) (sK σ) n9)), (6, .int (nI k))]) hx hb dX2_isSame_47 rfl hl (by decide) rfl (fun ls hl => ?_)
      refine lv_iload_n hx hb dX2_isSame_48 rfl (lv_at hl 4 rfl) ?_
      refine lv_aload hx hb dX2_isSame_49 (lv_at hl 1 rfl) ?_
      refine lv_iconst (v := 5) hx hb dX2_isSame_51 (by decide) ?_
      refine va_iald hx hb hK hM (2 + k) 0 (simW_at hkn) rfl (by unfold vp_in; decide) dX2_isSame_52 ?_
      rw [show rowF σ k (5 : Int32).toNatClampNeg = sCe σ k from rfl]
      refine lv_if_lt (tgt := 69) hx hb dX2_isSame_53 (by decide) (fun _ => ?_) (fun c9 => absurd (Int32.not_le.mp hcc) c9)
      refine lv_iconst (v := 0) hx hb dX2_isSame_69 (by decide) ?_
      refine lv_iadd hx hb dX2_isSame_70 ?_
      refine lv_istore_n (lv' := [(3, .int ((bsum (fun j => b01 (hasC σ j ∧ truC σ j)) (sK σ) n9) + 0)), (2, .int ((bsum (fun j => b01 (hasC σ j)) (sK σ) n9) + 0)), (7, .ref (M.2.2 k)), (0, .ref M.1), (1, .ref (r_h ρ)), (4, .int (lgB (fun j => shadS σ j (dayOf σ)) (sK σ) n9)), (5, .int (bsum (fun j => shadS σ j (dayOf σ)) (sK σ) n9)), (6, .int (nI k))]) hx hb dX2_isSame_71 rfl hl (by decide) rfl (fun ls hl => ?_)
      refine lv_iload hx hb dX2_isSame_72 (lv_at hl 6 rfl) ?_
      refine lv_aload_n hx hb dX2_isSame_74 rfl (lv_at hl 3 rfl) ?_
      refine lv_iload hx hb dX2_isSame_75 (lv_at hl 7 rfl) ?_
      refine vp_callSi (va_Run.run (va_runV (As := [.int (nI k)]) (rest := [.int (bsum (fun j => shadS σ j (dayOf σ)) (sK σ) n9)]) ⟨hx, hb, hml, hown, hts⟩ (c_X2_shadow l D cs M hI k hkn) (cwV 1 hts gX2_isSame_X2_shadow rfl rfl rfl (by decide +kernel) ⟨Nat.le_of_ble_eq_true rfl, Nat.le_of_ble_eq_true rfl⟩) (rb_V hK hN hM (va_recv hK hM (ci := 3) (q0 := 0) rfl rfl)) rfl rfl hl.1 rfl (lv_room (Nat.le_of_ble_eq_true rfl)) dX2_isSame_77 ⟨Nat.le_of_ble_eq_true rfl, Nat.le_of_ble_eq_true rfl⟩)) (fun r_43 hr_43 => ?_)
      rw [hr_43]
      refine lv_iadd hx hb dX2_isSame_80 ?_
      refine lv_istore (lv' := [(5, .int ((bsum (fun j => shadS σ j (dayOf σ)) (sK σ) n9) + (shadS σ k (dayOf σ)))), (3, .int ((bsum (fun j => b01 (hasC σ j ∧ truC σ j)) (sK σ) n9) + 0)), (2, .int ((bsum (fun j => b01 (hasC σ j)) (sK σ) n9) + 0)), (7, .ref (M.2.2 k)), (0, .ref M.1), (1, .ref (r_h ρ)), (4, .int (lgB (fun j => shadS σ j (dayOf σ)) (sK σ) n9)), (6, .int (nI k))]) hx hb dX2_isSame_81 hl (by decide) rfl (fun ls hl => ?_)
      refine lv_cutP (fun ls => lv_has ls 9 [(5, .int ((bsum (fun j => shadS σ j (dayOf σ)) (sK σ) n9) + (shadS σ k (dayOf σ)))), (3, .int ((bsum (fun j => b01 (hasC σ j ∧ truC σ j)) (sK σ) n9) + 0)), (2, .int ((bsum (fun j => b01 (hasC σ j)) (sK σ) n9) + 0)), (7, .ref (M.2.2 k)), (0, .ref M.1), (1, .ref (r_h ρ)), (6, .int (nI k)), (4, .int (lgB (fun j => shadS σ j (dayOf σ)) (sK σ) (n9 + 1)))]) (fun ls => F0 m 107 ls []) (fun ls hl => ?_) (fun K107 => ?_)
      · have hl : lv_has ls 9 [(5, .int ((bsum (fun j => shadS σ j (dayOf σ)) (sK σ) n9) + (shadS σ k (dayOf σ)))), (3, .int ((bsum (fun j => b01 (hasC σ j ∧ truC σ j)) (sK σ) n9) + 0)), (2, .int ((bsum (fun j => b01 (hasC σ j)) (sK σ) n9) + 0)), (7, .ref (M.2.2 k)), (0, .ref M.1), (1, .ref (r_h ρ)), (6, .int (nI k)), (4, .int (lgB (fun j => shadS σ j (dayOf σ)) (sK σ) (n9 + 1)))] := hl
        refine lv_aload_n hx hb dX2_isSame_107 rfl (lv_at hl 4 rfl) ?_
        refine lv_iload hx hb dX2_isSame_108 (lv_at hl 6 rfl) ?_
        refine vp_callSi (va_Run.run (va_runV (As := [.int (nI k)]) (rest := []) ⟨hx, hb, hml, hown, hts⟩ (c_X2_wearer l D cs M hI (nI k)) (cwV 1 hts gX2_isSame_X2_wearer rfl rfl rfl (by decide +kernel) ⟨Nat.le_of_ble_eq_true rfl, Nat.le_of_ble_eq_true rfl⟩) (rb_V hK hN hM (va_recv hK hM (ci := 3) (q0 := 0) rfl rfl)) rfl rfl hl.1 rfl (lv_room (Nat.le_of_ble_eq_true rfl)) dX2_isSame_110 ⟨Nat.le_of_ble_eq_true rfl, Nat.le_of_ble_eq_true rfl⟩)) (fun r_44 hr_44 => ?_)
        rw [hr_44]
        refine lv_istore (lv' := [(8, .int (wrS (sWe σ) (nI k) (sK σ))), (5, .int ((bsum (fun j => shadS σ j (dayOf σ)) (sK σ) n9) + (shadS σ k (dayOf σ)))), (3, .int ((bsum (fun j => b01 (hasC σ j ∧ truC σ j)) (sK σ) n9) + 0)), (2, .int ((bsum (fun j => b01 (hasC σ j)) (sK σ) n9) + 0)), (7, .ref (M.2.2 k)), (0, .ref M.1), (1, .ref (r_h ρ)), (6, .int (nI k)), (4, .int (lgB (fun j => shadS σ j (dayOf σ)) (sK σ) (n9 + 1)))]) hx hb dX2_isSame_113 hl (by decide) rfl (fun ls hl => ?_)
        refine lv_aload_n hx hb dX2_isSame_115 rfl (lv_at hl 6 rfl) ?_
        refine lv_iload hx hb dX2_isSame_116 (lv_at hl 7 rfl) ?_
        refine vp_callSi (va_Run.run (va_runV (As := [.int (nI k)]) (rest := []) ⟨hx, hb, hml, hown, hts⟩ (n_X1_lampOf l D cs ρ hI hap.1.1 k hkn) (cwV 1 hts gX2_isSame_X1_lampOf rfl rfl rfl (by decide +kernel) ⟨Nat.le_of_ble_eq_true rfl, Nat.le_of_ble_eq_true rfl⟩) (rb_V hK hN hP (va_recv hK (one_P hP.1) (ci := 2) (q0 := 0) rfl rfl)) rfl rfl hl.1 rfl (lv_room (Nat.le_of_ble_eq_true rfl)) dX2_isSame_118 ⟨Nat.le_of_ble_eq_true rfl, Nat.le_of_ble_eq_true rfl⟩)) (fun r_45 hr_45 => ?_)
        rw [hr_45]
        refine lv_aload hx hb dX2_isSame_121 (lv_at hl 4 rfl) ?_
        refine lv_iconst (v := 3) hx hb dX2_isSame_123 (by decide) ?_
        refine va_iald hx hb hK hM (2 + k) 0 (simW_at hkn) rfl (by unfold vp_in; decide) dX2_isSame_124 ?_
        rw [show rowF σ k (3 : Int32).toNatClampNeg = sLa σ k from rfl]
        refine lv_icmp_ne (tgt := 268) hx hb dX2_isSame_125 (by decide) (fun c9 => absurd (rfl) c9) (fun _ => ?_)
        refine lv_aload_n hx hb dX2_isSame_128 rfl (lv_at hl 6 rfl) ?_
        refine lv_iload hx hb dX2_isSame_129 (lv_at hl 7 rfl) ?_
        refine vp_callSi (va_Run.run (va_runV (As := [.int (nI k)]) (rest := []) ⟨hx, hb, hml, hown, hts⟩ (n_X1_purseOf l D cs ρ hI hap.1.1 k hkn) (cwV 1 hts gX2_isSame_X1_purseOf rfl rfl rfl (by decide +kernel) ⟨Nat.le_of_ble_eq_true rfl, Nat.le_of_ble_eq_true rfl⟩) (rb_V hK hN hP (va_recv hK (one_P hP.1) (ci := 2) (q0 := 0) rfl rfl)) rfl rfl hl.1 rfl (lv_room (Nat.le_of_ble_eq_true rfl)) dX2_isSame_131 ⟨Nat.le_of_ble_eq_true rfl, Nat.le_of_ble_eq_true rfl⟩)) (fun r_46 hr_46 => ?_)
        rw [hr_46]
        refine lv_aload hx hb dX2_isSame_134 (lv_at hl 4 rfl) ?_
        refine lv_iconst (v := 2) hx hb dX2_isSame_136 (by decide) ?_
        refine va_iald hx hb hK hM (2 + k) 0 (simW_at hkn) rfl (by unfold vp_in; decide) dX2_isSame_137 ?_
        rw [show rowF σ k (2 : Int32).toNatClampNeg = sPu σ k from rfl]
        refine lv_icmp_ne (tgt := 268) hx hb dX2_isSame_138 (by decide) (fun c9 => absurd (rfl) c9) (fun _ => ?_)
        refine lv_aload_n hx hb dX2_isSame_141 rfl (lv_at hl 6 rfl) ?_
        refine lv_iload hx hb dX2_isSame_142 (lv_at hl 7 rfl) ?_
        refine vp_callSi (va_Run.run (va_runV (As := [.int (nI k)]) (rest := []) ⟨hx, hb, hml, hown, hts⟩ (n_X1_wears l D cs ρ hI hap.1.1 k hkn) (cwV 1 hts gX2_isSame_X1_wears rfl rfl rfl (by decide +kernel) ⟨Nat.le_of_ble_eq_true rfl, Nat.le_of_ble_eq_true rfl⟩) (rb_V hK hN hP (va_recv hK (one_P hP.1) (ci := 2) (q0 := 0) rfl rfl)) rfl rfl hl.1 rfl (lv_room (Nat.le_of_ble_eq_true rfl)) dX2_isSame_144 ⟨Nat.le_of_ble_eq_true rfl, Nat.le_of_ble_eq_true rfl⟩)) (fun r_47 hr_47 => ?_)
        rw [hr_47]
        refine lv_aload hx hb dX2_isSame_147 (lv_at hl 4 rfl) ?_
        refine lv_iconst (v := 4) hx hb dX2_isSame_149 (by decide) ?_
        refine va_iald hx hb hK hM (2 + k) 0 (simW_at hkn) rfl (by unfold vp_in; decide) dX2_isSame_150 ?_
        rw [show rowF σ k (4 : Int32).toNatClampNeg = sWe σ k from rfl]
        refine lv_icmp_ne (tgt := 268) hx hb dX2_isSame_151 (by decide) (fun c9 => absurd (rfl) c9) (fun _ => ?_)
        refine lv_aload_n hx hb dX2_isSame_154 rfl (lv_at hl 6 rfl) ?_
        refine lv_iload hx hb dX2_isSame_155 (lv_at hl 7 rfl) ?_
        refine vp_callSi (va_Run.run (va_runV (As := [.int (nI k)]) (rest := []) ⟨hx, hb, hml, hown, hts⟩ (n_X1_hatOn l D cs ρ hI hap.1.1 k hkn) (cwV 1 hts gX2_isSame_X1_hatOn rfl rfl rfl (by decide +kernel) ⟨Nat.le_of_ble_eq_true rfl, Nat.le_of_ble_eq_true rfl⟩) (rb_V hK hN hP (va_recv hK (one_P hP.1) (ci := 2) (q0 := 0) rfl rfl)) rfl rfl hl.1 rfl (lv_room (Nat.le_of_ble_eq_true rfl)) dX2_isSame_157 ⟨Nat.le_of_ble_eq_true rfl, Nat.le_of_ble_eq_true rfl⟩)) (fun r_48 hr_48 => ?_)
        rw [hr_48]
        refine lv_aload_n hx hb dX2_isSame_160 rfl (lv_at hl 5 rfl) ?_
        refine lv_iload hx hb dX2_isSame_161 (lv_at hl 7 rfl) ?_
        refine vp_callSi (va_Run.run (va_runV (As := [.int (nI k)]) (rest := [.int (wornH σ k)]) ⟨hx, hb, hml, hown, hts⟩ (c_X2_hatOn l D cs M hI k hkn) (cwV 1 hts gX2_isSame_X2_hatOn rfl rfl rfl (by decide +kernel) ⟨Nat.le_of_ble_eq_true rfl, Nat.le_of_ble_eq_true rfl⟩) (rb_V hK hN hM (va_recv hK hM (ci := 3) (q0 := 0) rfl rfl)) rfl rfl hl.1 rfl (lv_room (Nat.le_of_ble_eq_true rfl)) dX2_isSame_163 ⟨Nat.le_of_ble_eq_true rfl, Nat.le_of_ble_eq_true rfl⟩)) (fun r_49 hr_49 => ?_)
        rw [hr_49]
        refine lv_icmp_ne (tgt := 268) hx hb dX2_isSame_166 (by decide) (fun c9 => absurd (rfl) c9) (fun _ => ?_)
        refine lv_aload_n hx hb dX2_isSame_169 rfl (lv_at hl 6 rfl) ?_
        refine lv_iload hx hb dX2_isSame_170 (lv_at hl 7 rfl) ?_
        refine vp_callSi (va_Run.run (va_runV (As := [.int (nI k)]) (rest := []) ⟨hx, hb, hml, hown, hts⟩ (n_X1_hasLent l D cs ρ hI hap.1.1 k hkn) (cwV 1 hts gX2_isSame_X1_hasLent rfl rfl rfl (by decide +kernel) ⟨Nat.le_of_ble_eq_true rfl, Nat.le_of_ble_eq_true rfl⟩) (rb_V hK hN hP (va_recv hK (one_P hP.1) (ci := 2) (q0 := 0) rfl rfl)) rfl rfl hl.1 rfl (lv_room (Nat.le_of_ble_eq_true rfl)) dX2_isSame_172 ⟨Nat.le_of_ble_eq_true rfl, Nat.le_of_ble_eq_true rfl⟩)) (fun r_50 hr_50 => ?_)
        rw [hr_50]
        refine lv_cut (F0 m 192 ls [.int (b01 (lentS σ k)), .int (b01 (lentS σ k))]) ?_ (fun K192 => ?_)
        · refine lv_icmp_ne (tgt := 268) hx hb dX2_isSame_192 (by decide) (fun c9 => absurd (rfl) c9) (fun _ => ?_)
          refine lv_aload_n hx hb dX2_isSame_195 rfl (lv_at hl 6 rfl) ?_
          refine lv_iload hx hb dX2_isSame_196 (lv_at hl 7 rfl) ?_
          refine vp_callSi (va_Run.run (va_runV (As := [.int (nI k)]) (rest := []) ⟨hx, hb, hml, hown, hts⟩ (n_X1_isExpelled l D cs ρ hI hap.1.1 k hkn) (cwV 1 hts gX2_isSame_X1_isExpelled rfl rfl rfl (by decide +kernel) ⟨Nat.le_of_ble_eq_true rfl, Nat.le_of_ble_eq_true rfl⟩) (rb_V hK hN hP (va_recv hK (one_P hP.1) (ci := 2) (q0 := 0) rfl rfl)) rfl rfl hl.1 rfl (lv_room (Nat.le_of_ble_eq_true rfl)) dX2_isSame_198 ⟨Nat.le_of_ble_eq_true rfl, Nat.le_of_ble_eq_true rfl⟩)) (fun r_51 hr_51 => ?_)
          rw [hr_51]
          refine lv_cut (F0 m 215 ls [.int (b01 (outS σ k)), .int (b01 (outS σ k))]) ?_ (fun K215 => ?_)
          · refine lv_icmp_ne (tgt := 268) hx hb dX2_isSame_215 (by decide) (fun c9 => absurd (rfl) c9) (fun _ => ?_)
            refine lv_aload_n hx hb dX2_isSame_218 rfl (lv_at hl 6 rfl) ?_
            refine lv_iload hx hb dX2_isSame_219 (lv_at hl 7 rfl) ?_
            refine vp_callSi (va_Run.run (va_runV (As := [.int (nI k)]) (rest := []) ⟨hx, hb, hml, hown, hts⟩ (n_X1_shadowOf l D cs ρ hI hap.1.1 k hkn) (cwV 1 hts gX2_isSame_X1_shadowOf rfl rfl rfl (by decide +kernel) ⟨Nat.le_of_ble_eq_true rfl, Nat.le_of_ble_eq_true rfl⟩) (rb_V hK hN hP (va_recv hK (one_P hP.1) (ci := 2) (q0 := 0) rfl rfl)) rfl rfl hl.1 rfl (lv_room (Nat.le_of_ble_eq_true rfl)) dX2_isSame_221 ⟨Nat.le_of_ble_eq_true rfl, Nat.le_of_ble_eq_true rfl⟩)) (fun r_52 hr_52 => ?_)
            rw [hr_52]
            refine lv_aload_n hx hb dX2_isSame_224 rfl (lv_at hl 5 rfl) ?_
            refine lv_iload hx hb dX2_isSame_225 (lv_at hl 7 rfl) ?_
            refine vp_callSi (va_Run.run (va_runV (As := [.int (nI k)]) (rest := [.int (shadS σ k (dayOf σ))]) ⟨hx, hb, hml, hown, hts⟩ (c_X2_shadow l D cs M hI k hkn) (cwV 1 hts gX2_isSame_X2_shadow rfl rfl rfl (by decide +kernel) ⟨Nat.le_of_ble_eq_true rfl, Nat.le_of_ble_eq_true rfl⟩) (rb_V hK hN hM (va_recv hK hM (ci := 3) (q0 := 0) rfl rfl)) rfl rfl hl.1 rfl (lv_room (Nat.le_of_ble_eq_true rfl)) dX2_isSame_227 ⟨Nat.le_of_ble_eq_true rfl, Nat.le_of_ble_eq_true rfl⟩)) (fun r_53 hr_53 => ?_)
            rw [hr_53]
            refine lv_icmp_ne (tgt := 268) hx hb dX2_isSame_230 (by decide) (fun c9 => absurd (rfl) c9) (fun _ => ?_)
            refine lv_aload_n hx hb dX2_isSame_233 rfl (lv_at hl 6 rfl) ?_
            refine lv_iload hx hb dX2_isSame_234 (lv_at hl 7 rfl) ?_
            refine vp_callSi (va_Run.run (va_runV (As := [.int (nI k)]) (rest := []) ⟨hx, hb, hml, hown, hts⟩ (n_X1_certified l D cs ρ hI hap.1.1 k hkn) (cwV 1 hts gX2_isSame_X1_certified rfl rfl rfl (by decide +kernel) ⟨Nat.le_of_ble_eq_true rfl, Nat.le_of_ble_eq_true rfl⟩) (rb_V hK hN hP (va_recv hK (one_P hP.1) (ci := 2) (q0 := 0) rfl rfl)) rfl rfl hl.1 rfl (lv_room (Nat.le_of_ble_eq_true rfl)) dX2_isSame_236 ⟨Nat.le_of_ble_eq_true rfl, Nat.le_of_ble_eq_true rfl⟩)) (fun r_54 hr_54 => ?_)
            rw [hr_54]
            refine lv_aload hx hb dX2_isSame_239 (lv_at hl 4 rfl) ?_
            refine lv_iconst (v := 5) hx hb dX2_isSame_241 (by decide) ?_
            refine va_iald hx hb hK hM (2 + k) 0 (simW_at hkn) rfl (by unfold vp_in; decide) dX2_isSame_242 ?_
            rw [show rowF σ k (5 : Int32).toNatClampNeg = sCe σ k from rfl]
            refine lv_icmp_ne (tgt := 268) hx hb dX2_isSame_243 (by decide) (fun c9 => absurd (rfl) c9) (fun _ => ?_)
            refine lv_aload hx hb dX2_isSame_246 (lv_at hl 4 rfl) ?_
            refine lv_iconst (v := 5) hx hb dX2_isSame_248 (by decide) ?_
            refine va_iald hx hb hK hM (2 + k) 0 (simW_at hkn) rfl (by unfold vp_in; decide) dX2_isSame_249 ?_
            rw [show rowF σ k (5 : Int32).toNatClampNeg = sCe σ k from rfl]
            refine lv_if_lt (tgt := 270) hx hb dX2_isSame_250 (by decide) (fun _ => ?_) (fun c9 => absurd (Int32.not_le.mp hcc) c9)
            refine lv_iinc (v := (nI k) + (-1)) (lv' := [(6, .int ((nI k) + (-1))), (8, .int (wrS (sWe σ) (nI k) (sK σ))), (5, .int ((bsum (fun j => shadS σ j (dayOf σ)) (sK σ) n9) + (shadS σ k (dayOf σ)))), (3, .int ((bsum (fun j => b01 (hasC σ j ∧ truC σ j)) (sK σ) n9) + 0)), (2, .int ((bsum (fun j => b01 (hasC σ j)) (sK σ) n9) + 0)), (7, .ref (M.2.2 k)), (0, .ref M.1), (1, .ref (r_h ρ)), (4, .int (lgB (fun j => shadS σ j (dayOf σ)) (sK σ) (n9 + 1)))]) hx hb dX2_isSame_270 hl (k := 7) rfl rfl (by decide) rfl (fun ls hl => ?_)
            refine lv_goto (tgt := 19) hx hb dX2_isSame_273 (by decide) ?_
            refine K19 ls trivial ?_
            show lv_has ls 9 [(0, .ref M.1), (1, .ref (r_h ρ)), (2, .int (bsum (fun j => b01 (hasC σ j)) (sK σ) (n9 + 1))), (3, .int (bsum (fun j => b01 (hasC σ j ∧ truC σ j)) (sK σ) (n9 + 1))), (4, .int (lgB (fun j => shadS σ j (dayOf σ)) (sK σ) (n9 + 1))), (5, .int (bsum (fun j => shadS σ j (dayOf σ)) (sK σ) (n9 + 1))), (6, .int (nI (sK σ - (n9 + 1)) - 1))]
            rw [show bsum (fun j => b01 (hasC σ j)) (sK σ) (n9 + 1) = bsum (fun j => b01 (hasC σ j)) (sK σ) n9 + 0 from (bsum_s hk).trans (congrArg (fun z => bsum (fun j => b01 (hasC σ j)) (sK σ) n9 + z) (b01_f (fun q => q (cer_lt hQ.2.1 hkn hcc)))), show bsum (fun j => b01 (hasC σ j ∧ truC σ j)) (sK σ) (n9 + 1) = bsum (fun j => b01 (hasC σ j ∧ truC σ j)) (sK σ) n9 + 0 from (bsum_s hk).trans (congrArg (fun z => bsum (fun j => b01 (hasC σ j ∧ truC σ j)) (sK σ) n9 + z) (b01_f (fun q => q.1 (cer_lt hQ.2.1 hkn hcc)))), show bsum (fun j => shadS σ j (dayOf σ)) (sK σ) (n9 + 1) = bsum (fun j => shadS σ j (dayOf σ)) (sK σ) n9 + shadS σ k (dayOf σ) from bsum_s hk, kI_next hk hn9]
            exact lv_sub hl [6, 7, 4, 3, 8, 2, 0] rfl
          · refine lv_aload hx hb dX2_isSame_201 (lv_at hl 4 rfl) ?_
            refine lv_bipush (v := 7) hx hb dX2_isSame_203 (by decide) ?_
            refine va_iald hx hb hK hM (2 + k) 0 (simW_at hkn) rfl (by unfold vp_in; decide) dX2_isSame_205 ?_
            rw [show rowF σ k (7 : Int32).toNatClampNeg = sLo σ k from rfl]
            refine lv_iconst (v := 2) hx hb dX2_isSame_206 (by decide) ?_
            refine lv_icmp_le (tgt := 214) hx hb dX2_isSame_207 (by decide) (fun c_55 => ?_) (fun c_55 => ?_)
            · refine lv_iconst (v := 0) hx hb dX2_isSame_214 (by decide) ?_
              refine W.eq (g2 := F0 m 215 ls [.int (b01 (outS σ k)), .int (b01 (outS σ k))]) (by rw [(b01_f (fun q => (ge_3 _).mpr q c_55)).symm]) ?_
              exact K215
            · refine lv_iconst (v := 1) hx hb dX2_isSame_210 (by decide) ?_
              refine lv_goto (tgt := 215) hx hb dX2_isSame_211 (by decide) ?_
              refine W.eq (g2 := F0 m 215 ls [.int (b01 (outS σ k)), .int (b01 (outS σ k))]) (by rw [(b01_t ((ge_3 _).mp c_55)).symm]) ?_
              exact K215
        · refine lv_iload hx hb dX2_isSame_175 (lv_at hl 0 rfl) ?_
          refine lv_if_lt (tgt := 191) hx hb dX2_isSame_177 (by decide) (fun c_56 => ?_) (fun c_56 => ?_)
          · refine lv_iconst (v := 0) hx hb dX2_isSame_191 (by decide) ?_
            refine W.eq (g2 := F0 m 192 ls [.int (b01 (lentS σ k)), .int (b01 (lentS σ k))]) (by rw [(b01_f (wr_neg hI c_56)).symm]) ?_
            exact K192
          · refine lv_iload hx hb dX2_isSame_180 (lv_at hl 0 rfl) ?_
            refine lv_iload hx hb dX2_isSame_182 (lv_at hl 7 rfl) ?_
            refine lv_icmp_eq (tgt := 191) hx hb dX2_isSame_184 (by decide) (fun c_57 => ?_) (fun c_57 => ?_)
            · refine lv_iconst (v := 0) hx hb dX2_isSame_191 (by decide) ?_
              refine W.eq (g2 := F0 m 192 ls [.int (b01 (lentS σ k)), .int (b01 (lentS σ k))]) (by rw [(b01_f (wr_own hTt hkn c_57)).symm]) ?_
              exact K192
            · refine lv_iconst (v := 1) hx hb dX2_isSame_187 (by decide) ?_
              refine lv_goto (tgt := 192) hx hb dX2_isSame_188 (by decide) ?_
              refine W.eq (g2 := F0 m 192 ls [.int (b01 (lentS σ k)), .int (b01 (lentS σ k))]) (by rw [(b01_t (wr_lent2 hI c_56 c_57)).symm]) ?_
              exact K192
      · rcases lgB_c (fun j => shadS σ j (dayOf σ)) (sK σ) (by omega) n9 (by omega) with ⟨-, eL⟩ | ⟨-, bL, hb1, hbL, eL, -⟩
        · rw [eL] at hl
          refine lv_iload hx hb dX2_isSame_83 (lv_at hl 6 rfl) ?_
          refine lv_if_lt (tgt := 103) hx hb dX2_isSame_85 (by decide) (fun _ => ?_) (fun c9 => absurd (by decide) c9)
          refine lv_iload hx hb dX2_isSame_103 (lv_at hl 7 rfl) ?_
          refine lv_istore (lv' := [(4, .int (nI k)), (5, .int ((bsum (fun j => shadS σ j (dayOf σ)) (sK σ) n9) + (shadS σ k (dayOf σ)))), (3, .int ((bsum (fun j => b01 (hasC σ j ∧ truC σ j)) (sK σ) n9) + 0)), (2, .int ((bsum (fun j => b01 (hasC σ j)) (sK σ) n9) + 0)), (7, .ref (M.2.2 k)), (0, .ref M.1), (1, .ref (r_h ρ)), (6, .int (nI k))]) hx hb dX2_isSame_105 hl (by decide) rfl (fun ls hl => ?_)
          refine K107 ls ?_
          show lv_has ls 9 [(5, .int ((bsum (fun j => shadS σ j (dayOf σ)) (sK σ) n9) + (shadS σ k (dayOf σ)))), (3, .int ((bsum (fun j => b01 (hasC σ j ∧ truC σ j)) (sK σ) n9) + 0)), (2, .int ((bsum (fun j => b01 (hasC σ j)) (sK σ) n9) + 0)), (7, .ref (M.2.2 k)), (0, .ref M.1), (1, .ref (r_h ρ)), (6, .int (nI k)), (4, .int (lgB (fun j => shadS σ j (dayOf σ)) (sK σ) (n9 + 1)))]
          rw [lgB_s1 hk eL]
          exact lv_sub hl [1, 2, 3, 4, 5, 6, 7, 0] rfl
        · rw [eL] at hl
          refine lv_iload hx hb dX2_isSame_83 (lv_at hl 6 rfl) ?_
          refine lv_if_lt (tgt := 103) hx hb dX2_isSame_85 (by decide) (fun c9 => absurd c9 (nI_pos (by omega))) (fun _ => ?_)
          refine lv_aload_n hx hb dX2_isSame_88 rfl (lv_at hl 4 rfl) ?_
          refine lv_iload hx hb dX2_isSame_89 (lv_at hl 7 rfl) ?_
          refine vp_callSi (va_Run.run (va_runV (As := [.int (nI k)]) (rest := []) ⟨hx, hb, hml, hown, hts⟩ (c_X2_shadow l D cs M hI k hkn) (cwV 1 hts gX2_isSame_X2_shadow rfl rfl rfl (by decide +kernel) ⟨Nat.le_of_ble_eq_true rfl, Nat.le_of_ble_eq_true rfl⟩) (rb_V hK hN hM (va_recv hK hM (ci := 3) (q0 := 0) rfl rfl)) rfl rfl hl.1 rfl (lv_room (Nat.le_of_ble_eq_true rfl)) dX2_isSame_91 ⟨Nat.le_of_ble_eq_true rfl, Nat.le_of_ble_eq_true rfl⟩)) (fun r_58 hr_58 => ?_)
          rw [hr_58]
          refine lv_aload_n hx hb dX2_isSame_94 rfl (lv_at hl 4 rfl) ?_
          refine lv_iload hx hb dX2_isSame_95 (lv_at hl 6 rfl) ?_
          refine vp_callSi (va_Run.run (va_runV (As := [.int (nI bL)]) (rest := [.int (shadS σ k (dayOf σ))]) ⟨hx, hb, hml, hown, hts⟩ (c_X2_shadow l D cs M hI bL hbL) (cwV 1 hts gX2_isSame_X2_shadow rfl rfl rfl (by decide +kernel) ⟨Nat.le_of_ble_eq_true rfl, Nat.le_of_ble_eq_true rfl⟩) (rb_V hK hN hM (va_recv hK hM (ci := 3) (q0 := 0) rfl rfl)) rfl rfl hl.1 rfl (lv_room (Nat.le_of_ble_eq_true rfl)) dX2_isSame_97 ⟨Nat.le_of_ble_eq_true rfl, Nat.le_of_ble_eq_true rfl⟩)) (fun r_59 hr_59 => ?_)
          rw [hr_59]
          refine lv_icmp_lt (tgt := 107) hx hb dX2_isSame_100 (by decide) (fun c_60 => ?_) (fun c_60 => ?_)
          · refine K107 ls ?_
            show lv_has ls 9 [(5, .int ((bsum (fun j => shadS σ j (dayOf σ)) (sK σ) n9) + (shadS σ k (dayOf σ)))), (3, .int ((bsum (fun j => b01 (hasC σ j ∧ truC σ j)) (sK σ) n9) + 0)), (2, .int ((bsum (fun j => b01 (hasC σ j)) (sK σ) n9) + 0)), (7, .ref (M.2.2 k)), (0, .ref M.1), (1, .ref (r_h ρ)), (6, .int (nI k)), (4, .int (lgB (fun j => shadS σ j (dayOf σ)) (sK σ) (n9 + 1)))]
            rw [lgB_s2 hk (by omega) eL c_60]
            exact lv_sub hl [0, 1, 2, 3, 4, 5, 7, 6] rfl
          · refine lv_iload hx hb dX2_isSame_103 (lv_at hl 7 rfl) ?_
            refine lv_istore (lv' := [(4, .int (nI k)), (5, .int ((bsum (fun j => shadS σ j (dayOf σ)) (sK σ) n9) + (shadS σ k (dayOf σ)))), (3, .int ((bsum (fun j => b01 (hasC σ j ∧ truC σ j)) (sK σ) n9) + 0)), (2, .int ((bsum (fun j => b01 (hasC σ j)) (sK σ) n9) + 0)), (7, .ref (M.2.2 k)), (0, .ref M.1), (1, .ref (r_h ρ)), (6, .int (nI k))]) hx hb dX2_isSame_105 hl (by decide) rfl (fun ls hl => ?_)
            refine K107 ls ?_
            show lv_has ls 9 [(5, .int ((bsum (fun j => shadS σ j (dayOf σ)) (sK σ) n9) + (shadS σ k (dayOf σ)))), (3, .int ((bsum (fun j => b01 (hasC σ j ∧ truC σ j)) (sK σ) n9) + 0)), (2, .int ((bsum (fun j => b01 (hasC σ j)) (sK σ) n9) + 0)), (7, .ref (M.2.2 k)), (0, .ref M.1), (1, .ref (r_h ρ)), (6, .int (nI k)), (4, .int (lgB (fun j => shadS σ j (dayOf σ)) (sK σ) (n9 + 1)))]
            rw [lgB_s3 hk (by omega) eL c_60]
            exact lv_sub hl [1, 2, 3, 4, 5, 6, 7, 0] rfl
  · have hl : lv_has ls 9 [(0, .ref M.1), (1, .ref (r_h ρ)), (2, .int (bsum (fun j => b01 (hasC σ j)) (sK σ) (sK σ))), (3, .int (bsum (fun j => b01 (hasC σ j ∧ truC σ j)) (sK σ) (sK σ))), (4, .int (lgB (fun j => shadS σ j (dayOf σ)) (sK σ) (sK σ))), (5, .int (bsum (fun j => shadS σ j (dayOf σ)) (sK σ) (sK σ))), (6, .int (nI (sK σ - (sK σ)) - 1))] := hl
    rw [show bsum (fun j => b01 (hasC σ j)) (sK σ) (sK σ) = certsS σ from (bsum_n _ _).trans (cnt_sum (fun j => hasC σ j) _), show bsum (fun j => b01 (hasC σ j ∧ truC σ j)) (sK σ) (sK σ) = honOS σ from (bsum_n _ _).trans (cnt_sum (fun j => hasC σ j ∧ truC σ j) _), show bsum (fun j => shadS σ j (dayOf σ)) (sK σ) (sK σ) = sumS (fun j => shadS σ j (dayOf σ)) (sK σ) from bsum_n _ _, show lgB (fun j => shadS σ j (dayOf σ)) (sK σ) (sK σ) = longS σ from lgB_n hk0 (by omega), kI_end] at hl
    refine lv_iload hx hb dX2_isSame_19 (lv_at hl 6 rfl) ?_
    refine lv_if_lt (tgt := 276) hx hb dX2_isSame_21 (by decide) (fun _ => ?_) (fun c9 => absurd (by decide) c9)
    refine lv_aload_n hx hb dX2_isSame_276 rfl (lv_at hl 1 rfl) ?_
    refine vp_callSi (va_Run.run (va_runV (As := []) (rest := []) ⟨hx, hb, hml, hown, hts⟩ (c_X1_members l D cs ρ hI hap.1.1) (cwV 0 hts gX2_isSame_X1_members rfl rfl rfl (by decide +kernel) ⟨Nat.le_of_ble_eq_true rfl, Nat.le_of_ble_eq_true rfl⟩) (rb_V hK hN hP (va_recv hK (one_P hP.1) (ci := 2) (q0 := 0) rfl rfl)) rfl rfl hl.1 rfl (lv_room (Nat.le_of_ble_eq_true rfl)) dX2_isSame_277 ⟨Nat.le_of_ble_eq_true rfl, Nat.le_of_ble_eq_true rfl⟩)) (fun r_61 hr_61 => ?_)
    rw [hr_61]
    refine lv_aload_n hx hb dX2_isSame_280 rfl (lv_at hl 0 rfl) ?_
    refine va_get (D := D) (ci := 3) (v := .ref M.2.1) (C := RX2) (T := TX2) (N := 4) hx hb hts in_X2_isSame_X2 hown hK hM 0 rfl rfl 3 (by decide) (hts (.fieldLink RX2 9 "ShadowSocietyLaw$Sim" "members" "[[I") (List.mem_of_getElem? (i := 1) (by decide +kernel))) (fun _ h9 => h9) rfl dX2_isSame_281 ?_
    refine va_alen hx hb hK hM 1 2 rfl rfl (v := nI (sK σ)) rfl dX2_isSame_284 ?_
    refine lv_icmp_ne (tgt := 394) hx hb dX2_isSame_285 (by decide) (fun c9 => absurd (rfl) c9) (fun _ => ?_)
    refine lv_aload_n hx hb dX2_isSame_288 rfl (lv_at hl 1 rfl) ?_
    refine vp_callSi (va_Run.run (va_runV (As := []) (rest := []) ⟨hx, hb, hml, hown, hts⟩ (c_X1_hour l D cs ρ hI hap.1.1) (cwV 0 hts gX2_isSame_X1_hour rfl rfl rfl (by decide +kernel) ⟨Nat.le_of_ble_eq_true rfl, Nat.le_of_ble_eq_true rfl⟩) (rb_V hK hN hP (va_recv hK (one_P hP.1) (ci := 2) (q0 := 0) rfl rfl)) rfl rfl hl.1 rfl (lv_room (Nat.le_of_ble_eq_true rfl)) dX2_isSame_289 ⟨Nat.le_of_ble_eq_true rfl, Nat.le_of_ble_eq_true rfl⟩)) (fun r_62 hr_62 => ?_)
    rw [hr_62]
    refine lv_aload_n hx hb dX2_isSame_292 rfl (lv_at hl 0 rfl) ?_
    refine va_get (D := D) (ci := 3) (v := .int (sHr σ)) (C := RX2) (T := TX2) (N := 4) hx hb hts in_X2_isSame_X2 hown hK hM 0 rfl rfl 0 (by decide) (hts (.fieldLink RX2 16 "ShadowSocietyLaw$Sim" "hour" "I") (List.mem_of_getElem? (i := 2) (by decide +kernel))) (fun _ h9 => h9) rfl dX2_isSame_293 ?_
    refine lv_icmp_ne (tgt := 394) hx hb dX2_isSame_296 (by decide) (fun c9 => absurd (rfl) c9) (fun _ => ?_)
    refine lv_aload_n hx hb dX2_isSame_299 rfl (lv_at hl 1 rfl) ?_
    refine vp_callSi (va_Run.run (va_runV (As := []) (rest := []) ⟨hx, hb, hml, hown, hts⟩ (c_X1_hourOfDay l D cs ρ hI hap.1.1) (cwV 0 hts gX2_isSame_X1_hourOfDay rfl rfl rfl (by decide +kernel) ⟨Nat.le_of_ble_eq_true rfl, Nat.le_of_ble_eq_true rfl⟩) (rb_V hK hN hP (va_recv hK (one_P hP.1) (ci := 2) (q0 := 0) rfl rfl)) rfl rfl hl.1 rfl (lv_room (Nat.le_of_ble_eq_true rfl)) dX2_isSame_300 ⟨Nat.le_of_ble_eq_true rfl, Nat.le_of_ble_eq_true rfl⟩)) (fun r_63 hr_63 => ?_)
    rw [hr_63]
    refine lv_aload_n hx hb dX2_isSame_303 rfl (lv_at hl 0 rfl) ?_
    refine va_get (D := D) (ci := 3) (v := .int (sHr σ)) (C := RX2) (T := TX2) (N := 4) hx hb hts in_X2_isSame_X2 hown hK hM 0 rfl rfl 0 (by decide) (hts (.fieldLink RX2 16 "ShadowSocietyLaw$Sim" "hour" "I") (List.mem_of_getElem? (i := 2) (by decide +kernel))) (fun _ h9 => h9) rfl dX2_isSame_304 ?_
    refine lv_bipush (v := 24) hx hb dX2_isSame_307 (by decide) ?_
    refine lv_irem hx hb dX2_isSame_309 (by decide) ?_
    refine lv_icmp_ne (tgt := 394) hx hb dX2_isSame_310 (by decide) (fun c9 => absurd (rfl) c9) (fun _ => ?_)
    refine lv_aload_n hx hb dX2_isSame_313 rfl (lv_at hl 1 rfl) ?_
    refine vp_callSi (va_Run.run (va_runV (As := []) (rest := []) ⟨hx, hb, hml, hown, hts⟩ (c_X1_seized l D cs ρ hI hap.1.1) (cwV 0 hts gX2_isSame_X1_seized rfl rfl rfl (by decide +kernel) ⟨Nat.le_of_ble_eq_true rfl, Nat.le_of_ble_eq_true rfl⟩) (rb_V hK hN hP (va_recv hK (one_P hP.1) (ci := 2) (q0 := 0) rfl rfl)) rfl rfl hl.1 rfl (lv_room (Nat.le_of_ble_eq_true rfl)) dX2_isSame_314 ⟨Nat.le_of_ble_eq_true rfl, Nat.le_of_ble_eq_true rfl⟩)) (fun r_64 hr_64 => ?_)
    rw [hr_64]
    refine lv_aload_n hx hb dX2_isSame_317 rfl (lv_at hl 0 rfl) ?_
    refine va_get (D := D) (ci := 3) (v := .int (sSz σ)) (C := RX2) (T := TX2) (N := 4) hx hb hts in_X2_isSame_X2 hown hK hM 0 rfl rfl 1 (by decide) (hts (.fieldLink RX2 20 "ShadowSocietyLaw$Sim" "seized" "I") (List.mem_of_getElem? (i := 3) (by decide +kernel))) (fun _ h9 => h9) rfl dX2_isSame_318 ?_
    refine lv_icmp_ne (tgt := 394) hx hb dX2_isSame_321 (by decide) (fun c9 => absurd (rfl) c9) (fun _ => ?_)
    refine lv_aload_n hx hb dX2_isSame_324 rfl (lv_at hl 1 rfl) ?_
    refine vp_callSi (va_Run.run (va_runV (As := []) (rest := []) ⟨hx, hb, hml, hown, hts⟩ (c_X1_revoked l D cs ρ hI hap.1.1) (cwV 0 hts gX2_isSame_X1_revoked rfl rfl rfl (by decide +kernel) ⟨Nat.le_of_ble_eq_true rfl, Nat.le_of_ble_eq_true rfl⟩) (rb_V hK hN hP (va_recv hK (one_P hP.1) (ci := 2) (q0 := 0) rfl rfl)) rfl rfl hl.1 rfl (lv_room (Nat.le_of_ble_eq_true rfl)) dX2_isSame_325 ⟨Nat.le_of_ble_eq_true rfl, Nat.le_of_ble_eq_true rfl⟩)) (fun r_65 hr_65 => ?_)
    rw [hr_65]
    refine lv_aload_n hx hb dX2_isSame_328 rfl (lv_at hl 0 rfl) ?_
    refine va_get (D := D) (ci := 3) (v := .int (sRv σ)) (C := RX2) (T := TX2) (N := 4) hx hb hts in_X2_isSame_X2 hown hK hM 0 rfl rfl 2 (by decide) (hts (.fieldLink RX2 23 "ShadowSocietyLaw$Sim" "revoked" "I") (List.mem_of_getElem? (i := 4) (by decide +kernel))) (fun _ h9 => h9) rfl dX2_isSame_329 ?_
    refine lv_icmp_ne (tgt := 394) hx hb dX2_isSame_332 (by decide) (fun c9 => absurd (rfl) c9) (fun _ => ?_)
    refine lv_aload_n hx hb dX2_isSame_335 rfl (lv_at hl 1 rfl) ?_
    refine vp_callSi (va_Run.run (va_runV (As := []) (rest := []) ⟨hx, hb, hml, hown, hts⟩ (c_X1_certificates l D cs ρ hI hap.1.1) (cwV 0 hts gX2_isSame_X1_certificates rfl rfl rfl (by decide +kernel) ⟨Nat.le_of_ble_eq_true rfl, Nat.le_of_ble_eq_true rfl⟩) (rb_V hK hN hP (va_recv hK (one_P hP.1) (ci := 2) (q0 := 0) rfl rfl)) rfl rfl hl.1 rfl (lv_room (Nat.le_of_ble_eq_true rfl)) dX2_isSame_336 ⟨Nat.le_of_ble_eq_true rfl, Nat.le_of_ble_eq_true rfl⟩)) (fun r_66 hr_66 => ?_)
    rw [hr_66]
    refine lv_iload_n hx hb dX2_isSame_339 rfl (lv_at hl 2 rfl) ?_
    refine lv_icmp_ne (tgt := 394) hx hb dX2_isSame_340 (by decide) (fun c9 => absurd (rfl) c9) (fun _ => ?_)
    refine lv_aload_n hx hb dX2_isSame_343 rfl (lv_at hl 1 rfl) ?_
    refine vp_callSi (va_Run.run (va_runV (As := []) (rest := []) ⟨hx, hb, hml, hown, hts⟩ (c_X1_honestOnes l D cs ρ hI hap.1.1) (cwV 0 hts gX2_isSame_X1_honestOnes rfl rfl rfl (by decide +kernel) ⟨Nat.le_of_ble_eq_true rfl, Nat.le_of_ble_eq_true rfl⟩) (rb_V hK hN hP (va_recv hK (one_P hP.1) (ci := 2) (q0 := 0) rfl rfl)) rfl rfl hl.1 rfl (lv_room (Nat.le_of_ble_eq_true rfl)) dX2_isSame_344 ⟨Nat.le_of_ble_eq_true rfl, Nat.le_of_ble_eq_true rfl⟩)) (fun r_67 hr_67 => ?_)
    rw [hr_67]
    refine lv_iload_n hx hb dX2_isSame_347 rfl (lv_at hl 3 rfl) ?_
    refine lv_icmp_ne (tgt := 394) hx hb dX2_isSame_348 (by decide) (fun c9 => absurd (rfl) c9) (fun _ => ?_)
    refine lv_aload_n hx hb dX2_isSame_351 rfl (lv_at hl 1 rfl) ?_
    refine vp_callSi (va_Run.run (va_runV (As := []) (rest := []) ⟨hx, hb, hml, hown, hts⟩ (c_X1_longest l D cs ρ hI hap.1.1) (cwV 0 hts gX2_isSame_X1_longest rfl rfl rfl (by decide +kernel) ⟨Nat.le_of_ble_eq_true rfl, Nat.le_of_ble_eq_true rfl⟩) (rb_V hK hN hP (va_recv hK (one_P hP.1) (ci := 2) (q0 := 0) rfl rfl)) rfl rfl hl.1 rfl (lv_room (Nat.le_of_ble_eq_true rfl)) dX2_isSame_352 ⟨Nat.le_of_ble_eq_true rfl, Nat.le_of_ble_eq_true rfl⟩)) (fun r_68 hr_68 => ?_)
    rw [hr_68]
    refine lv_iload hx hb dX2_isSame_355 (lv_at hl 4 rfl) ?_
    refine lv_icmp_ne (tgt := 394) hx hb dX2_isSame_357 (by decide) (fun c9 => absurd (rfl) c9) (fun _ => ?_)
    refine lv_aload_n hx hb dX2_isSame_360 rfl (lv_at hl 1 rfl) ?_
    refine W.base ?_
    have hts0 := hts
    have hK0 := hK
    have hN0 := hN
    have hts := dr_words hts0 s.drawn
    have hN := dr_N s.drawn hN0
    have hK : va_K D vwCl (tyz cs) (s.setDrawn s.drawn) := va_K.moved (u := s) (U := s.setDrawn s.drawn) (Vm.Alike.refl s.vm) hK0
    refine va_calldD hd0 (va_runV_D (As := []) (rest := []) ⟨hx, hb, hml, hown, hts⟩ (c_X1_meanShadow l D cs ρ hI hap.1.1 s.heap) (cwV 0 hts gX2_isSame_X1_meanShadow rfl rfl rfl (by decide +kernel) ⟨Nat.le_of_ble_eq_true rfl, Nat.le_of_ble_eq_true rfl⟩) (rb_V hK hN ⟨rfl, hP⟩ (va_recv hK (one_P hP.1) (ci := 2) (q0 := 0) rfl rfl)) rfl rfl hl.1 rfl (lv_room (Nat.le_of_ble_eq_true rfl)) dX2_isSame_361 ⟨Nat.le_of_ble_eq_true rfl, Nat.le_of_ble_eq_true rfl⟩) hS (fun q _ h => h.elim) (fun q h => h.elim) (fun p9 u t H1 locs ht hvm hw1 hB hz1 hk1 hS d1 hd1 => ?_)
    have hH1 : H1 = s.heap := ht.symm.trans hB
    subst hH1
    have hts := dr_words hts0 d1
    have hN := dr_N d1 hN0
    have hK : va_K D vwCl (tyz cs) (s.setDrawn d1) := va_K.moved (u := s) (U := s.setDrawn d1) (Vm.Alike.refl s.vm) hK0
    refine lv_aload_n hx hb dX2_isSame_364 rfl (lv_at hl 0 rfl) ?_
    refine va_get (D := D) (ci := 3) (v := .ref M.2.1) (C := RX2) (T := TX2) (N := 4) hx hb hts in_X2_isSame_X2 hown hK hM 0 rfl rfl 3 (by decide) (hts (.fieldLink RX2 9 "ShadowSocietyLaw$Sim" "members" "[[I") (List.mem_of_getElem? (i := 1) (by decide +kernel))) (fun _ h9 => h9) rfl dX2_isSame_365 ?_
    refine va_alen hx hb hK hM 1 2 rfl rfl (v := nI (sK σ)) rfl dX2_isSame_368 ?_
    refine lv_if_ne (tgt := 376) hx hb dX2_isSame_369 (by decide) (fun _ => ?_) (fun c9 => absurd c9 ((fun q => Nat.ne_of_gt hk0 ((nI_eq (by omega) (by omega)).mp q))))
    refine lv_iload hx hb dX2_isSame_376 (lv_at hl 5 rfl) ?_
    refine lv_i2d hx hb dX2_isSame_378 ?_
    refine lv_aload_n hx hb dX2_isSame_379 rfl (lv_at hl 0 rfl) ?_
    refine va_get (D := D) (ci := 3) (v := .ref M.2.1) (C := RX2) (T := TX2) (N := 4) hx hb hts in_X2_isSame_X2 hown hK hM 0 rfl rfl 3 (by decide) (hts (.fieldLink RX2 9 "ShadowSocietyLaw$Sim" "members" "[[I") (List.mem_of_getElem? (i := 1) (by decide +kernel))) (fun _ h9 => h9) rfl dX2_isSame_380 ?_
    refine va_alen hx hb hK hM 1 2 rfl rfl (v := nI (sK σ)) rfl dX2_isSame_383 ?_
    refine lv_i2d hx hb dX2_isSame_384 ?_
    refine lv_ddiv_any hd1 lw_bits hx hb dX2_isSame_385 (fun q9 d2 hal hd2 => ?_)
    refine lv_dcmp hx hb dX2_isSame_386 ?_
    rw [show Op.cmpValue (FP.dcmp p9 q9) CmpOp.l = 0 from by rw [mean_eq (mean_no _ _ (fun q => Nat.ne_of_gt hk0 ((nI_eq (by omega) (by omega)).mp q))) (hw1.2 (Nat.ne_of_gt hk0)) hal]; rfl]
    refine lv_if_ne (tgt := 394) hx hb dX2_isSame_387 (by decide) (fun c9 => absurd (rfl) c9) (fun _ => ?_)
    refine lv_iconst (v := 1) hx hb dX2_isSame_390 (by decide) ?_
    refine lv_goto (tgt := 395) hx hb dX2_isSame_391 (by decide) ?_
    refine W.endD hd2 ?_
    exact W.zret (ty := .boolean) (v := 1) hx hb hr rfl (fun t ht hW => ⟨⟨_, (), rfl, rfl, ht⟩, hS.F ht⟩) hS.2.2 dX2_isSame_395
