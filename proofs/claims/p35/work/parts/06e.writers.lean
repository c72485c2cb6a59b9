/-! METHODS THAT WRITE (laid by wip/p35/gen/writers.py) -/
theorem in_X1_seizeLamps_X0 : ∀ w ∈ wsX00, w ∈ wsX1_seizeLamps := by decide +kernel
theorem in_X1_seizeLamps_X1 : ∀ w ∈ wsX10, w ∈ wsX1_seizeLamps := by decide +kernel
set_option maxHeartbeats 4000000 in
set_option maxRecDepth 100000 in
/-- lamps are seized -/
theorem c_X1_seizeLamps (l : Launch) (D : va_G) (cs : Cs) (ρ : Rf) {B : Nat} {σ : PS} (hI : InvS B σ) (hap : AptA ρ (sK σ)) (H0 : Heap) : Met l yX1_seizeLamps wsX1_seizeLamps ({ frames := 3, cells := 0, slots := 0, locals := 64 }) (va_Pc [.ref (r_h ρ)] (RBp D cs (fun X => X = H0 ∧ Soc D cs ρ σ X))) (va_Qv (fun u : PS => u = seizN σ (sK σ)) (fun u t => Soc D cs ρ u t.heap) (ownA ρ (sK σ) H0)) 0 0 (ownA ρ (sK σ) H0) := by
  refine Met.ofW (cc := cX1_seizeLamps) (maxL := 3) (ret := none) (by decide) rfl ?_
  intro p e s m args below meth c s₁ B0 hml hv
  obtain ⟨rfl, ⟨hH, hP⟩, hK, hN⟩ := hv
  subst hH
  have hx := B0.exec
  have hb := B0.bytes
  have hr := B0.returns
  have hts := atoms_spec (ws := wsX1_seizeLamps) B0.pre
  have hown : s.vm.findClass RX1 = some m.cls := findClass_of_methodNamed B0.named
  have hlocks := B0.notSynchronized
  have hJ := hap.1
  have hS : va_S (fun q => s.heap.size ≤ q) s.heap s.heap [] := va_S.rf
  have hl := lv_entry ([.ref (r_h ρ)]) (n := 3) (Nat.le_of_ble_eq_true rfl)
  rw [lg_entry_eq]
  generalize (lg_sl ([.ref (r_h ρ)]) ++ List.replicate (3 - (lg_sl ([.ref (r_h ρ)])).length) Slot.unset).toArray = ls at hl ⊢
  have hl : lv_has ls 3 [(0, .ref (r_h ρ))] := hl
  refine lv_iconst (v := 0) hx hb dX1_seizeLamps_0 (by decide) ?_
  refine lv_istore_n (lv' := [(1, .int 0), (0, .ref (r_h ρ))]) hx hb dX1_seizeLamps_1 rfl hl (by decide) rfl (fun ls hl => ?_)
  have hS := vs_up (B := ownA ρ (sK σ) s.heap) hS (fun q h => Or.inr h)
  refine lv_forH (sK σ) (fun ls => F0 m 2 ls []) (fun n9 => [(0, .ref (r_h ρ)), (1, .int (nI n9))]) (fun n X => Soc D cs ρ (seizN σ n) X) (show lv_has ls 3 [(0, .ref (r_h ρ)), (1, .int (nI 0))] from lv_sub hl [1, 0] rfl) hP hS (fun n9 ls H locs hn9 hP hS hl K9 => ?_) (fun ls H locs hP hS hl => ?_)
  · have hl : lv_has ls 3 [(0, .ref (r_h ρ)), (1, .int (nI n9))] := hl
    have hI9 := invS_seiz hI (n9)
    have hk9 : sK (seizN σ (n9)) = sK σ := (k_seiz σ (n9)).1
    obtain ⟨τ, hτ⟩ : ∃ τ, τ = seizN σ (n9) := ⟨_, rfl⟩
    rw [← hτ] at hP hI9 hk9
    have hap9 : AptA ρ (sK τ) := by rw [hk9]; exact hap
    have hm9 : n9 < sK τ := by rw [hk9]; exact hn9
    refine lv_iload_n hx hb dX1_seizeLamps_2 rfl (lv_at hl 1 rfl) ?_
    refine lv_aload_n hx hb dX1_seizeLamps_3 rfl (lv_at hl 0 rfl) ?_
    refine va_get (D := D) (ci := 2) (v := .ref (r_q ρ)) (C := RX1) (T := TX1) (N := 4) hx hb hts in_X1_seizeLamps_X1 hown hK (one_P hP.1) 0 rfl rfl 0 (by decide) (hts (.fieldLink RX1 10 "ShadowSociety" "roll" "Ljava/util/ArrayList;") (List.mem_of_getElem? (i := 1) (by decide +kernel))) (fun _ h9 => h9) rfl dX1_seizeLamps_4 ?_
    refine vp_callSi (va_Run.run (va_runV (As := []) (rest := [.int (nI n9)]) ⟨hx, hb, hml, hown, hts⟩ (c_Jx4a65c_size_8abf5 l D cs ρ hI9 hap9.1) (cwV 0 hts gX1_seizeLamps_Jx4a65c_size_8abf5 rfl rfl rfl (by decide +kernel) ⟨Nat.le_of_ble_eq_true rfl, Nat.le_of_ble_eq_true rfl⟩) (rb_V hK hN hP.2.1 (va_recv hK (one_P hP.2.1.1) (ci := 0) (q0 := 0) rfl rfl)) rfl rfl hl.1 rfl (lv_room (Nat.le_of_ble_eq_true rfl)) dX1_seizeLamps_7 ⟨Nat.le_of_ble_eq_true rfl, Nat.le_of_ble_eq_true rfl⟩)) (fun r_1 hr_1 => ?_)
    rw [hr_1]
    refine lv_icmp_ge (tgt := 66) hx hb dX1_seizeLamps_10 (by decide) (fun c9 => absurd c9 (nI_ge hm9 (by have := hI9.1; omega))) (fun _ => ?_)
    refine lv_aload_n hx hb dX1_seizeLamps_13 rfl (lv_at hl 0 rfl) ?_
    refine va_get (D := D) (ci := 2) (v := .ref (r_q ρ)) (C := RX1) (T := TX1) (N := 4) hx hb hts in_X1_seizeLamps_X1 hown hK (one_P hP.1) 0 rfl rfl 0 (by decide) (hts (.fieldLink RX1 10 "ShadowSociety" "roll" "Ljava/util/ArrayList;") (List.mem_of_getElem? (i := 1) (by decide +kernel))) (fun _ h9 => h9) rfl dX1_seizeLamps_14 ?_
    refine lv_iload_n hx hb dX1_seizeLamps_17 rfl (lv_at hl 1 rfl) ?_
    refine va_csq (va_Run.run (va_runV (As := [.int (nI n9)]) (rest := []) ⟨hx, hb, hml, hown, hts⟩ (c_Jx4a65c_get_915e3 l D cs ρ hI9 hap9.1 n9 hm9) (cwV 1 hts gX1_seizeLamps_Jx4a65c_get_915e3 rfl rfl rfl (by decide +kernel) ⟨Nat.le_of_ble_eq_true rfl, Nat.le_of_ble_eq_true rfl⟩) (rb_V hK hN hP.2.1 (va_recv hK (one_P hP.2.1.1) (ci := 0) (q0 := 0) rfl rfl)) rfl rfl hl.1 rfl (lv_room (Nat.le_of_ble_eq_true rfl)) dX1_seizeLamps_18 ⟨Nat.le_of_ble_eq_true rfl, Nat.le_of_ble_eq_true rfl⟩)) (fun r_2 hr_2 => ?_)
    rw [hr_2]
    refine va_castS (nm := RX0) hx hb hown (hts (.classLink RX1 44 RX0) (List.mem_of_getElem? (i := 2) (by decide +kernel))) (hK.1 1 _ rfl).2 (va_recv hK (one_P (hP.2.2 n9 hm9)) (ci := 1) (q0 := 0) rfl rfl) dX1_seizeLamps_21 ?_
    refine lv_astore_n (lv' := [(2, .ref (r_a ρ n9)), (0, .ref (r_h ρ)), (1, .int (nI n9))]) hx hb dX1_seizeLamps_24 rfl hl (by decide) rfl (fun ls hl => ?_)
    refine lv_aload_n hx hb dX1_seizeLamps_25 rfl (lv_at hl 0 rfl) ?_
    refine va_getN (D := D) (ci := 1) (v := .int (sLa τ n9)) (C := RX0) (T := TX0) (N := 9) hx hb hts in_X1_seizeLamps_X0 hown hK (one_P (hP.2.2 n9 hm9)) 0 rfl rfl 4 (by decide) (Nst.use hN (w := .fieldLinkNest "ShadowSociety" 65 "ShadowSociety$Member" "lamp" "I" "ShadowSociety") (by decide +kernel)) (fun _ h9 => h9) rfl dX1_seizeLamps_26 ?_
    refine lv_if_le (tgt := 60) hx hb dX1_seizeLamps_29 (by decide) (fun c_3 => ?_) (fun c_3 => ?_)
    · refine lv_iinc (v := nI (n9 + 1)) (lv' := [(1, .int (nI (n9 + 1))), (2, .ref (r_a ρ n9)), (0, .ref (r_h ρ))]) hx hb dX1_seizeLamps_60 hl (k := 2) rfl (nI_add _ 1) (by decide) rfl (fun ls hl => ?_)
      refine lv_goto (tgt := 2) hx hb dX1_seizeLamps_63 (by decide) ?_
      refine K9 ls _ _ ?_ hS ?_
      · subst hτ
        rw [show seizN σ (n9 + 1) = (seizN σ n9) from if_pos c_3]
        exact hP
      · show lv_has ls 3 [(0, .ref (r_h ρ)), (1, .int (nI (n9 + 1)))]
        exact lv_sub hl [2, 0] rfl
    · refine lv_aload_n hx hb dX1_seizeLamps_32 rfl (lv_at hl 0 rfl) ?_
      refine lv_dup hx hb dX1_seizeLamps_33 rfl ?_
      refine va_getN (D := D) (ci := 1) (v := .int (sPu τ n9)) (C := RX0) (T := TX0) (N := 9) hx hb hts in_X1_seizeLamps_X0 hown hK (one_P (hP.2.2 n9 hm9)) 0 rfl rfl 3 (by decide) (Nst.use hN (w := .fieldLinkNest "ShadowSociety" 70 "ShadowSociety$Member" "purse" "I" "ShadowSociety") (by decide +kernel)) (fun _ h9 => h9) rfl dX1_seizeLamps_34 ?_
      refine lv_aload_n hx hb dX1_seizeLamps_37 rfl (lv_at hl 0 rfl) ?_
      refine vp_callSi (va_Run.run (va_runVN (As := []) (rest := [.int (sPu τ n9), .ref (r_a ρ n9)]) ⟨hx, hb, hml, hown, hts⟩ (c_X0_fineForLamp l D cs ρ hI9 hap9.1 n9 hm9) ⟨va_cnB 0 hts gX1_seizeLamps_X0_fineForLamp_n212 rfl rfl rfl (hN (.methodLinkNest "ShadowSociety" 212 ⟨"ShadowSociety$Member", "fineForLamp", "()I"⟩ "ShadowSociety") (by decide +kernel)) (hts (.initialized RX0) (List.mem_of_getElem? (i := 28) (by decide +kernel))) (by decide +kernel) ⟨Nat.le_of_ble_eq_true rfl, Nat.le_of_ble_eq_true rfl⟩, hts (.instanceMethod yX0_fineForLamp) (List.mem_of_getElem? (i := 27) (by decide +kernel)), hts (.selects RX0 yX0_fineForLamp yX0_fineForLamp) (List.mem_of_getElem? (i := 29) (by decide +kernel))⟩ (rb_V hK hN hP.2.2 (va_recv hK (one_P (hP.2.2 n9 hm9)) (ci := 1) (q0 := 0) rfl rfl)) rfl rfl hl.1 rfl (lv_room (Nat.le_of_ble_eq_true rfl)) dX1_seizeLamps_38 ⟨Nat.le_of_ble_eq_true rfl, Nat.le_of_ble_eq_true rfl⟩)) (fun r_4 hr_4 => ?_)
      rw [hr_4]
      refine lv_isub hx hb dX1_seizeLamps_41 ?_
      refine va_putN (D := D) (ci := 1) (v := .int ((sPu τ n9) - (2 * sLa τ n9))) (ty := .int) (C := RX0) (T := TX0) (N := 9) hx hb hts in_X1_seizeLamps_X0 tyX0 tyX0_ok nmX0 hown hK (soc_P hP) (soc_D hap9 (fun q h => Or.inl (hk9 ▸ h))) hS (2 + n9) (socW_at hm9) rfl 3 (by decide) (Nst.use hN (w := .fieldLinkNest "ShadowSociety" 70 "ShadowSociety$Member" "purse" "I" "ShadowSociety") (by decide +kernel)) (fun _ h9 => h9) rfl (by decide +kernel) rfl rfl (Nat.le_of_ble_eq_true rfl) dX1_seizeLamps_42 (fun H locs hP hD hS => ?_)
      have hP : Soc D cs ρ (setPu τ (upd (sPu τ) n9 ((sPu τ n9) - (2 * sLa τ n9)))) H := P_soc (by rw [s_Pu (cs := cs) (ρ := ρ) (σ := τ) hm9] at hP; exact hP)
      have hI_5 : InvS B (setPu τ (upd (sPu τ) n9 ((sPu τ n9) - (2 * sLa τ n9)))) := hI9
      refine lv_aload_n hx hb dX1_seizeLamps_45 rfl (lv_at hl 0 rfl) ?_
      refine lv_iconst (v := 0) hx hb dX1_seizeLamps_46 (by decide) ?_
      refine va_putN (D := D) (ci := 1) (v := .int 0) (ty := .int) (C := RX0) (T := TX0) (N := 9) hx hb hts in_X1_seizeLamps_X0 tyX0 tyX0_ok nmX0 hown hK (soc_P hP) (soc_D hap9 (fun q h => Or.inl (hk9 ▸ h))) hS (2 + n9) (socW_at hm9) rfl 4 (by decide) (Nst.use hN (w := .fieldLinkNest "ShadowSociety" 65 "ShadowSociety$Member" "lamp" "I" "ShadowSociety") (by decide +kernel)) (fun _ h9 => h9) rfl (by decide +kernel) rfl rfl (Nat.le_of_ble_eq_true rfl) dX1_seizeLamps_47 (fun H locs hP hD hS => ?_)
      have hP : Soc D cs ρ (setLa (setPu τ (upd (sPu τ) n9 ((sPu τ n9) - (2 * sLa τ n9)))) (upd (sLa (setPu τ (upd (sPu τ) n9 ((sPu τ n9) - (2 * sLa τ n9))))) n9 0)) H := P_soc (by rw [s_La (cs := cs) (ρ := ρ) (σ := setPu τ (upd (sPu τ) n9 ((sPu τ n9) - (2 * sLa τ n9)))) hm9] at hP; exact hP)
      have hI_6 : InvS B (setLa (setPu τ (upd (sPu τ) n9 ((sPu τ n9) - (2 * sLa τ n9)))) (upd (sLa (setPu τ (upd (sPu τ) n9 ((sPu τ n9) - (2 * sLa τ n9))))) n9 0)) := hI_5
      refine lv_aload_n hx hb dX1_seizeLamps_50 rfl (lv_at hl 1 rfl) ?_
      refine lv_dup hx hb dX1_seizeLamps_51 rfl ?_
      refine va_get (D := D) (ci := 2) (v := .int (sSz (setLa (setPu τ (upd (sPu τ) n9 ((sPu τ n9) - (2 * sLa τ n9)))) (upd (sLa (setPu τ (upd (sPu τ) n9 ((sPu τ n9) - (2 * sLa τ n9))))) n9 0)))) (C := RX1) (T := TX1) (N := 4) hx hb hts in_X1_seizeLamps_X1 hown hK (one_P hP.1) 0 rfl rfl 2 (by decide) (hts (.fieldLink RX1 20 "ShadowSociety" "seizedInAll" "I") (List.mem_of_getElem? (i := 3) (by decide +kernel))) (fun _ h9 => h9) rfl dX1_seizeLamps_52 ?_
      refine lv_iconst (v := 1) hx hb dX1_seizeLamps_55 (by decide) ?_
      refine lv_iadd hx hb dX1_seizeLamps_56 ?_
      refine va_put (D := D) (ci := 2) (v := .int ((sSz (setLa (setPu τ (upd (sPu τ) n9 ((sPu τ n9) - (2 * sLa τ n9)))) (upd (sLa (setPu τ (upd (sPu τ) n9 ((sPu τ n9) - (2 * sLa τ n9))))) n9 0))) + 1)) (ty := .int) (C := RX1) (T := TX1) (N := 4) hx hb hts in_X1_seizeLamps_X1 tyX1 tyX1_ok nmX1 hown hK (soc_P hP) (soc_D hap9 (fun q h => Or.inl (hk9 ▸ h))) hS 0 rfl rfl 2 (by decide) (hts (.fieldLink RX1 20 "ShadowSociety" "seizedInAll" "I") (List.mem_of_getElem? (i := 3) (by decide +kernel))) (fun _ h9 => h9) rfl (by decide +kernel) rfl rfl (Nat.le_of_ble_eq_true rfl) dX1_seizeLamps_57 (fun H locs hP hD hS => ?_)
      have hP : Soc D cs ρ (setSz (setLa (setPu τ (upd (sPu τ) n9 ((sPu τ n9) - (2 * sLa τ n9)))) (upd (sLa (setPu τ (upd (sPu τ) n9 ((sPu τ n9) - (2 * sLa τ n9))))) n9 0)) ((sSz (setLa (setPu τ (upd (sPu τ) n9 ((sPu τ n9) - (2 * sLa τ n9)))) (upd (sLa (setPu τ (upd (sPu τ) n9 ((sPu τ n9) - (2 * sLa τ n9))))) n9 0))) + 1)) H := P_soc hP
      have hI_7 : InvS B (setSz (setLa (setPu τ (upd (sPu τ) n9 ((sPu τ n9) - (2 * sLa τ n9)))) (upd (sLa (setPu τ (upd (sPu τ) n9 ((sPu τ n9) - (2 * sLa τ n9))))) n9 0)) ((sSz (setLa (setPu τ (upd (sPu τ) n9 ((sPu τ n9) - (2 * sLa τ n9)))) (upd (sLa (setPu τ (upd (sPu τ) n9 ((sPu τ n9) - (2 * sLa τ n9))))) n9 0))) + 1)) := hI_6
      refine lv_iinc (v := nI (n9 + 1)) (lv' := [(1, .int (nI (n9 + 1))), (2, .ref (r_a ρ n9)), (0, .ref (r_h ρ))]) hx hb dX1_seizeLamps_60 hl (k := 2) rfl (nI_add _ 1) (by decide) rfl (fun ls hl => ?_)
      refine lv_goto (tgt := 2) hx hb dX1_seizeLamps_63 (by decide) ?_
      refine K9 ls _ _ ?_ hS ?_
      · subst hτ
        rw [show seizN σ (n9 + 1) = setSz (setLa (setPu (seizN σ n9) (upd (sPu (seizN σ n9)) n9 ((sPu (seizN σ n9) n9) - (2 * sLa (seizN σ n9) n9)))) (upd (sLa (setPu (seizN σ n9) (upd (sPu (seizN σ n9)) n9 ((sPu (seizN σ n9) n9) - (2 * sLa (seizN σ n9) n9))))) n9 0)) ((sSz (setLa (setPu (seizN σ n9) (upd (sPu (seizN σ n9)) n9 ((sPu (seizN σ n9) n9) - (2 * sLa (seizN σ n9) n9)))) (upd (sLa (setPu (seizN σ n9) (upd (sPu (seizN σ n9)) n9 ((sPu (seizN σ n9) n9) - (2 * sLa (seizN σ n9) n9))))) n9 0))) + 1) from if_neg c_3]
        exact hP
      · show lv_has ls 3 [(0, .ref (r_h ρ)), (1, .int (nI (n9 + 1)))]
        exact lv_sub hl [2, 0] rfl
  · have hl : lv_has ls 3 [(0, .ref (r_h ρ)), (1, .int (nI (sK σ)))] := hl
    have hI9 := invS_seiz hI (sK σ)
    have hk9 : sK (seizN σ (sK σ)) = sK σ := (k_seiz σ (sK σ)).1
    obtain ⟨τ, hτ⟩ : ∃ τ, τ = seizN σ (sK σ) := ⟨_, rfl⟩
    rw [← hτ] at hP hI9 hk9
    have hap9 : AptA ρ (sK τ) := by rw [hk9]; exact hap
    refine lv_iload_n hx hb dX1_seizeLamps_2 rfl (lv_at hl 1 rfl) ?_
    refine lv_aload_n hx hb dX1_seizeLamps_3 rfl (lv_at hl 0 rfl) ?_
    refine va_get (D := D) (ci := 2) (v := .ref (r_q ρ)) (C := RX1) (T := TX1) (N := 4) hx hb hts in_X1_seizeLamps_X1 hown hK (one_P hP.1) 0 rfl rfl 0 (by decide) (hts (.fieldLink RX1 10 "ShadowSociety" "roll" "Ljava/util/ArrayList;") (List.mem_of_getElem? (i := 1) (by decide +kernel))) (fun _ h9 => h9) rfl dX1_seizeLamps_4 ?_
    refine vp_callSi (va_Run.run (va_runV (As := []) (rest := [.int (nI (sK σ))]) ⟨hx, hb, hml, hown, hts⟩ (c_Jx4a65c_size_8abf5 l D cs ρ hI9 hap9.1) (cwV 0 hts gX1_seizeLamps_Jx4a65c_size_8abf5 rfl rfl rfl (by decide +kernel) ⟨Nat.le_of_ble_eq_true rfl, Nat.le_of_ble_eq_true rfl⟩) (rb_V hK hN hP.2.1 (va_recv hK (one_P hP.2.1.1) (ci := 0) (q0 := 0) rfl rfl)) rfl rfl hl.1 rfl (lv_room (Nat.le_of_ble_eq_true rfl)) dX1_seizeLamps_7 ⟨Nat.le_of_ble_eq_true rfl, Nat.le_of_ble_eq_true rfl⟩)) (fun r_8 hr_8 => ?_)
    rw [hr_8]
    refine lv_icmp_ge (tgt := 66) hx hb dX1_seizeLamps_10 (by decide) (fun _ => ?_) (fun c9 => absurd ((by rw [hk9]; exact nI_le (Nat.le_refl _) (by have := hI.1; omega))) c9)
    exact W.vret hx hb hr (fun t ht hW => ⟨⟨τ, rfl, hτ, by show Soc D cs ρ _ t.heap; rw [ht]; exact hP⟩, hS.F ht⟩) hS.2.2 dX1_seizeLamps_66
theorem in_X1_sendHatsBack_X1 : ∀ w ∈ wsX10, w ∈ wsX1_sendHatsBack := by decide +kernel
set_option maxHeartbeats 4000000 in
set_option maxRecDepth 100000 in
/-- hats go home -/
theorem c_X1_sendHatsBack (l : Launch) (D : va_G) (cs : Cs) (ρ : Rf) {B : Nat} {σ : PS} (hI : InvS B σ) (hap : AptA ρ (sK σ)) (H0 : Heap) : Met l yX1_sendHatsBack wsX1_sendHatsBack ({ frames := 3, cells := 0, slots := 0, locals := 64 }) (va_Pc [.ref (r_h ρ)] (RBp D cs (fun X => X = H0 ∧ Soc D cs ρ σ X))) (va_Qv (fun u : PS => u = hatsN σ (sK σ)) (fun u t => Soc D cs ρ u t.heap) (ownA ρ (sK σ) H0)) 0 0 (ownA ρ (sK σ) H0) := by
  refine Met.ofW (cc := cX1_sendHatsBack) (maxL := 2) (ret := none) (by decide) rfl ?_
  intro p e s m args below meth c s₁ B0 hml hv
  obtain ⟨rfl, ⟨hH, hP⟩, hK, hN⟩ := hv
  subst hH
  have hx := B0.exec
  have hb := B0.bytes
  have hr := B0.returns
  have hts := atoms_spec (ws := wsX1_sendHatsBack) B0.pre
  have hown : s.vm.findClass RX1 = some m.cls := findClass_of_methodNamed B0.named
  have hlocks := B0.notSynchronized
  have hJ := hap.1
  have hS : va_S (fun q => s.heap.size ≤ q) s.heap s.heap [] := va_S.rf
  have hl := lv_entry ([.ref (r_h ρ)]) (n := 2) (Nat.le_of_ble_eq_true rfl)
  rw [lg_entry_eq]
  generalize (lg_sl ([.ref (r_h ρ)]) ++ List.replicate (2 - (lg_sl ([.ref (r_h ρ)])).length) Slot.unset).toArray = ls at hl ⊢
  have hl : lv_has ls 2 [(0, .ref (r_h ρ))] := hl
  refine lv_iconst (v := 0) hx hb dX1_sendHatsBack_0 (by decide) ?_
  refine lv_istore_n (lv' := [(1, .int 0), (0, .ref (r_h ρ))]) hx hb dX1_sendHatsBack_1 rfl hl (by decide) rfl (fun ls hl => ?_)
  have hS := vs_up (B := ownA ρ (sK σ) s.heap) hS (fun q h => Or.inr h)
  refine lv_forH (sK σ) (fun ls => F0 m 2 ls []) (fun n9 => [(0, .ref (r_h ρ)), (1, .int (nI n9))]) (fun n X => Soc D cs ρ (hatsN σ n) X) (show lv_has ls 2 [(0, .ref (r_h ρ)), (1, .int (nI 0))] from lv_sub hl [1, 0] rfl) hP hS (fun n9 ls H locs hn9 hP hS hl K9 => ?_) (fun ls H locs hP hS hl => ?_)
  · have hl : lv_has ls 2 [(0, .ref (r_h ρ)), (1, .int (nI n9))] := hl
    have hI9 := invS_hats hI (n9) (by omega)
    have hk9 : sK (hatsN σ (n9)) = sK σ := k_hats σ (n9)
    obtain ⟨τ, hτ⟩ : ∃ τ, τ = hatsN σ (n9) := ⟨_, rfl⟩
    rw [← hτ] at hP hI9 hk9
    have hap9 : AptA ρ (sK τ) := by rw [hk9]; exact hap
    have hm9 : n9 < sK τ := by rw [hk9]; exact hn9
    refine lv_iload_n hx hb dX1_sendHatsBack_2 rfl (lv_at hl 1 rfl) ?_
    refine lv_aload_n hx hb dX1_sendHatsBack_3 rfl (lv_at hl 0 rfl) ?_
    refine va_get (D := D) (ci := 2) (v := .ref (r_q ρ)) (C := RX1) (T := TX1) (N := 4) hx hb hts in_X1_sendHatsBack_X1 hown hK (one_P hP.1) 0 rfl rfl 0 (by decide) (hts (.fieldLink RX1 10 "ShadowSociety" "roll" "Ljava/util/ArrayList;") (List.mem_of_getElem? (i := 1) (by decide +kernel))) (fun _ h9 => h9) rfl dX1_sendHatsBack_4 ?_
    refine vp_callSi (va_Run.run (va_runV (As := []) (rest := [.int (nI n9)]) ⟨hx, hb, hml, hown, hts⟩ (c_Jx4a65c_size_8abf5 l D cs ρ hI9 hap9.1) (cwV 0 hts gX1_sendHatsBack_Jx4a65c_size_8abf5 rfl rfl rfl (by decide +kernel) ⟨Nat.le_of_ble_eq_true rfl, Nat.le_of_ble_eq_true rfl⟩) (rb_V hK hN hP.2.1 (va_recv hK (one_P hP.2.1.1) (ci := 0) (q0 := 0) rfl rfl)) rfl rfl hl.1 rfl (lv_room (Nat.le_of_ble_eq_true rfl)) dX1_sendHatsBack_7 ⟨Nat.le_of_ble_eq_true rfl, Nat.le_of_ble_eq_true rfl⟩)) (fun r_1 hr_1 => ?_)
    rw [hr_1]
    refine lv_icmp_ge (tgt := 33) hx hb dX1_sendHatsBack_10 (by decide) (fun c9 => absurd c9 (nI_ge hm9 (by have := hI9.1; omega))) (fun _ => ?_)
    refine lv_aload_n hx hb dX1_sendHatsBack_13 rfl (lv_at hl 0 rfl) ?_
    refine va_get (D := D) (ci := 2) (v := .ref (r_q ρ)) (C := RX1) (T := TX1) (N := 4) hx hb hts in_X1_sendHatsBack_X1 hown hK (one_P hP.1) 0 rfl rfl 0 (by decide) (hts (.fieldLink RX1 10 "ShadowSociety" "roll" "Ljava/util/ArrayList;") (List.mem_of_getElem? (i := 1) (by decide +kernel))) (fun _ h9 => h9) rfl dX1_sendHatsBack_14 ?_
    refine lv_iload_n hx hb dX1_sendHatsBack_17 rfl (lv_at hl 1 rfl) ?_
    refine va_csq (va_Run.run (va_runV (As := [.int (nI n9)]) (rest := []) ⟨hx, hb, hml, hown, hts⟩ (c_Jx4a65c_get_915e3 l D cs ρ hI9 hap9.1 n9 hm9) (cwV 1 hts gX1_sendHatsBack_Jx4a65c_get_915e3 rfl rfl rfl (by decide +kernel) ⟨Nat.le_of_ble_eq_true rfl, Nat.le_of_ble_eq_true rfl⟩) (rb_V hK hN hP.2.1 (va_recv hK (one_P hP.2.1.1) (ci := 0) (q0 := 0) rfl rfl)) rfl rfl hl.1 rfl (lv_room (Nat.le_of_ble_eq_true rfl)) dX1_sendHatsBack_18 ⟨Nat.le_of_ble_eq_true rfl, Nat.le_of_ble_eq_true rfl⟩)) (fun r_2 hr_2 => ?_)
    rw [hr_2]
    refine va_castS (nm := RX0) hx hb hown (hts (.classLink RX1 44 RX0) (List.mem_of_getElem? (i := 2) (by decide +kernel))) (hK.1 1 _ rfl).2 (va_recv hK (one_P (hP.2.2 n9 hm9)) (ci := 1) (q0 := 0) rfl rfl) dX1_sendHatsBack_21 ?_
    refine va_callv (va_runVN (As := []) (rest := []) ⟨hx, hb, hml, hown, hts⟩ (c_X0_putOnOwnHat l D cs (r_a ρ n9) H (nI n9) (sHe τ n9) (sHa τ n9) (sPu τ n9) (sLa τ n9) (ownO (r_a ρ) (sWe τ n9)) (sCe τ n9) (sAt τ n9) (sLo τ n9)) ⟨va_cnB 0 hts gX1_sendHatsBack_X0_putOnOwnHat_n49 rfl rfl rfl (hN (.methodLinkNest "ShadowSociety" 49 ⟨"ShadowSociety$Member", "putOnOwnHat", "()V"⟩ "ShadowSociety") (by decide +kernel)) (hts (.initialized RX0) (List.mem_of_getElem? (i := 27) (by decide +kernel))) (by decide +kernel) ⟨Nat.le_of_ble_eq_true rfl, Nat.le_of_ble_eq_true rfl⟩, hts (.instanceMethod yX0_putOnOwnHat) (List.mem_of_getElem? (i := 26) (by decide +kernel)), hts (.selects RX0 yX0_putOnOwnHat yX0_putOnOwnHat) (List.mem_of_getElem? (i := 28) (by decide +kernel))⟩ (rb_V hK hN ⟨rfl, hP.2.2 n9 hm9⟩ (va_recv hK (one_P (hP.2.2 n9 hm9)) (ci := 1) (q0 := 0) rfl rfl)) rfl rfl hl.1 rfl (lv_room (Nat.le_of_ble_eq_true rfl)) dX1_sendHatsBack_24 ⟨Nat.le_of_ble_eq_true rfl, Nat.le_of_ble_eq_true rfl⟩) hS (fun q _ h => po_A hS hn9 q h) (po_A hS hn9) (fun u t H locs ht hvm hw hB hz1 hk1 hS => ?_)
    rw [ht] at hB
    have hP : Soc D cs ρ (setWe τ (upd (sWe τ) n9 (ownH τ n9))) H := soc_one hP hap9 hm9 rfl rfl (fun _ h => m_We_o h) (po_at (by have := hI.1; omega) hB) hk1
    have hI_3 : InvS B (setWe τ (upd (sWe τ) n9 (ownH τ n9))) := invS_we hI9 (ownH_in hm9)
    refine lv_iinc (v := nI (n9 + 1)) (lv' := [(1, .int (nI (n9 + 1))), (0, .ref (r_h ρ))]) hx hb dX1_sendHatsBack_27 hl (k := 1) rfl (nI_add _ 1) (by decide) rfl (fun ls hl => ?_)
    refine lv_goto (tgt := 2) hx hb dX1_sendHatsBack_30 (by decide) ?_
    refine K9 ls _ _ ?_ hS ?_
    · subst hτ
      rw [show hatsN σ (n9 + 1) = setWe (hatsN σ n9) (upd (sWe (hatsN σ n9)) n9 (ownH (hatsN σ n9) n9)) from rfl]
      exact hP
    · show lv_has ls 2 [(0, .ref (r_h ρ)), (1, .int (nI (n9 + 1)))]
      exact lv_sub hl [1, 0] rfl
  · have hl : lv_has ls 2 [(0, .ref (r_h ρ)), (1, .int (nI (sK σ)))] := hl
    have hI9 := invS_hats hI (sK σ) (by omega)
    have hk9 : sK (hatsN σ (sK σ)) = sK σ := k_hats σ (sK σ)
    obtain ⟨τ, hτ⟩ : ∃ τ, τ = hatsN σ (sK σ) := ⟨_, rfl⟩
    rw [← hτ] at hP hI9 hk9
    have hap9 : AptA ρ (sK τ) := by rw [hk9]; exact hap
    refine lv_iload_n hx hb dX1_sendHatsBack_2 rfl (lv_at hl 1 rfl) ?_
    refine lv_aload_n hx hb dX1_sendHatsBack_3 rfl (lv_at hl 0 rfl) ?_
    refine va_get (D := D) (ci := 2) (v := .ref (r_q ρ)) (C := RX1) (T := TX1) (N := 4) hx hb hts in_X1_sendHatsBack_X1 hown hK (one_P hP.1) 0 rfl rfl 0 (by decide) (hts (.fieldLink RX1 10 "ShadowSociety" "roll" "Ljava/util/ArrayList;") (List.mem_of_getElem? (i := 1) (by decide +kernel))) (fun _ h9 => h9) rfl dX1_sendHatsBack_4 ?_
    refine vp_callSi (va_Run.run (va_runV (As := []) (rest := [.int (nI (sK σ))]) ⟨hx, hb, hml, hown, hts⟩ (c_Jx4a65c_size_8abf5 l D cs ρ hI9 hap9.1) (cwV 0 hts gX1_sendHatsBack_Jx4a65c_size_8abf5 rfl rfl rfl (by decide +kernel) ⟨Nat.le_of_ble_eq_true rfl, Nat.le_of_ble_eq_true rfl⟩) (rb_V hK hN hP.2.1 (va_recv hK (one_P hP.2.1.1) (ci := 0) (q0 := 0) rfl rfl)) rfl rfl hl.1 rfl (lv_room (Nat.le_of_ble_eq_true rfl)) dX1_sendHatsBack_7 ⟨Nat.le_of_ble_eq_true rfl, Nat.le_of_ble_eq_true rfl⟩)) (fun r_4 hr_4 => ?_)
    rw [hr_4]
    refine lv_icmp_ge (tgt := 33) hx hb dX1_sendHatsBack_10 (by decide) (fun _ => ?_) (fun c9 => absurd ((by rw [hk9]; exact nI_le (Nat.le_refl _) (by have := hI.1; omega))) c9)
    exact W.vret hx hb hr (fun t ht hW => ⟨⟨τ, rfl, hτ, by show Soc D cs ρ _ t.heap; rw [ht]; exact hP⟩, hS.F ht⟩) hS.2.2 dX1_sendHatsBack_33
theorem in_X1_judgeCertificates_X0 : ∀ w ∈ wsX00, w ∈ wsX1_judgeCertificates := by decide +kernel
theorem in_X1_judgeCertificates_X1 : ∀ w ∈ wsX10, w ∈ wsX1_judgeCertificates := by decide +kernel
set_option maxHeartbeats 4000000 in
set_option maxRecDepth 100000 in
/-- certificates are judged -/
theorem c_X1_judgeCertificates (l : Launch) (D : va_G) (cs : Cs) (ρ : Rf) {B : Nat} {σ : PS} (hI : InvS B σ) (hap : AptA ρ (sK σ)) (H0 : Heap) : Met l yX1_judgeCertificates wsX1_judgeCertificates ({ frames := 5, cells := 0, slots := 0, locals := 96 }) (va_Pc [.ref (r_h ρ)] (RBp D cs (fun X => X = H0 ∧ Soc D cs ρ σ X))) (va_Qv (fun u : PS => u = judgN σ (sK σ)) (fun u t => Soc D cs ρ u t.heap) (ownA ρ (sK σ) H0)) 0 0 (ownA ρ (sK σ) H0) := by
  refine Met.ofW (cc := cX1_judgeCertificates) (maxL := 4) (ret := none) (by decide) rfl ?_
  intro p e s m args below meth c s₁ B0 hml hv
  obtain ⟨rfl, ⟨hH, hP⟩, hK, hN⟩ := hv
  subst hH
  have hx := B0.exec
  have hb := B0.bytes
  have hr := B0.returns
  have hts := atoms_spec (ws := wsX1_judgeCertificates) B0.pre
  have hown : s.vm.findClass RX1 = some m.cls := findClass_of_methodNamed B0.named
  have hlocks := B0.notSynchronized
  have hJ := hap.1
  have hS : va_S (fun q => s.heap.size ≤ q) s.heap s.heap [] := va_S.rf
  have hl := lv_entry ([.ref (r_h ρ)]) (n := 4) (Nat.le_of_ble_eq_true rfl)
  rw [lg_entry_eq]
  generalize (lg_sl ([.ref (r_h ρ)]) ++ List.replicate (4 - (lg_sl ([.ref (r_h ρ)])).length) Slot.unset).toArray = ls at hl ⊢
  have hl : lv_has ls 4 [(0, .ref (r_h ρ))] := hl
  refine lv_iconst (v := 0) hx hb dX1_judgeCertificates_0 (by decide) ?_
  refine lv_istore_n (lv' := [(1, .int 0), (0, .ref (r_h ρ))]) hx hb dX1_judgeCertificates_1 rfl hl (by decide) rfl (fun ls hl => ?_)
  have hS := vs_up (B := ownA ρ (sK σ) s.heap) hS (fun q h => Or.inr h)
  refine lv_forH (sK σ) (fun ls => F0 m 2 ls []) (fun n9 => [(0, .ref (r_h ρ)), (1, .int (nI n9))]) (fun n X => Soc D cs ρ (judgN σ n) X) (show lv_has ls 4 [(0, .ref (r_h ρ)), (1, .int (nI 0))] from lv_sub hl [1, 0] rfl) hP hS (fun n9 ls H locs hn9 hP hS hl K9 => ?_) (fun ls H locs hP hS hl => ?_)
  · have hl : lv_has ls 4 [(0, .ref (r_h ρ)), (1, .int (nI n9))] := hl
    have hI9 := invS_judg hI (n9)
    have hk9 : sK (judgN σ (n9)) = sK σ := (k_judg σ (n9)).1
    obtain ⟨τ, hτ⟩ : ∃ τ, τ = judgN σ (n9) := ⟨_, rfl⟩
    rw [← hτ] at hP hI9 hk9
    have hap9 : AptA ρ (sK τ) := by rw [hk9]; exact hap
    have hm9 : n9 < sK τ := by rw [hk9]; exact hn9
    refine lv_iload_n hx hb dX1_judgeCertificates_2 rfl (lv_at hl 1 rfl) ?_
    refine lv_aload_n hx hb dX1_judgeCertificates_3 rfl (lv_at hl 0 rfl) ?_
    refine va_get (D := D) (ci := 2) (v := .ref (r_q ρ)) (C := RX1) (T := TX1) (N := 4) hx hb hts in_X1_judgeCertificates_X1 hown hK (one_P hP.1) 0 rfl rfl 0 (by decide) (hts (.fieldLink RX1 10 "ShadowSociety" "roll" "Ljava/util/ArrayList;") (List.mem_of_getElem? (i := 1) (by decide +kernel))) (fun _ h9 => h9) rfl dX1_judgeCertificates_4 ?_
    refine vp_callSi (va_Run.run (va_runV (As := []) (rest := [.int (nI n9)]) ⟨hx, hb, hml, hown, hts⟩ (c_Jx4a65c_size_8abf5 l D cs ρ hI9 hap9.1) (cwV 0 hts gX1_judgeCertificates_Jx4a65c_size_8abf5 rfl rfl rfl (by decide +kernel) ⟨Nat.le_of_ble_eq_true rfl, Nat.le_of_ble_eq_true rfl⟩) (rb_V hK hN hP.2.1 (va_recv hK (one_P hP.2.1.1) (ci := 0) (q0 := 0) rfl rfl)) rfl rfl hl.1 rfl (lv_room (Nat.le_of_ble_eq_true rfl)) dX1_judgeCertificates_7 ⟨Nat.le_of_ble_eq_true rfl, Nat.le_of_ble_eq_true rfl⟩)) (fun r_1 hr_1 => ?_)
    rw [hr_1]
    refine lv_icmp_ge (tgt := 93) hx hb dX1_judgeCertificates_10 (by decide) (fun c9 => absurd c9 (nI_ge hm9 (by have := hI9.1; omega))) (fun _ => ?_)
    refine lv_aload_n hx hb dX1_judgeCertificates_13 rfl (lv_at hl 0 rfl) ?_
    refine va_get (D := D) (ci := 2) (v := .ref (r_q ρ)) (C := RX1) (T := TX1) (N := 4) hx hb hts in_X1_judgeCertificates_X1 hown hK (one_P hP.1) 0 rfl rfl 0 (by decide) (hts (.fieldLink RX1 10 "ShadowSociety" "roll" "Ljava/util/ArrayList;") (List.mem_of_getElem? (i := 1) (by decide +kernel))) (fun _ h9 => h9) rfl dX1_judgeCertificates_14 ?_
    refine lv_iload_n hx hb dX1_judgeCertificates_17 rfl (lv_at hl 1 rfl) ?_
    refine va_csq (va_Run.run (va_runV (As := [.int (nI n9)]) (rest := []) ⟨hx, hb, hml, hown, hts⟩ (c_Jx4a65c_get_915e3 l D cs ρ hI9 hap9.1 n9 hm9) (cwV 1 hts gX1_judgeCertificates_Jx4a65c_get_915e3 rfl rfl rfl (by decide +kernel) ⟨Nat.le_of_ble_eq_true rfl, Nat.le_of_ble_eq_true rfl⟩) (rb_V hK hN hP.2.1 (va_recv hK (one_P hP.2.1.1) (ci := 0) (q0 := 0) rfl rfl)) rfl rfl hl.1 rfl (lv_room (Nat.le_of_ble_eq_true rfl)) dX1_judgeCertificates_18 ⟨Nat.le_of_ble_eq_true rfl, Nat.le_of_ble_eq_true rfl⟩)) (fun r_2 hr_2 => ?_)
    rw [hr_2]
    refine va_castS (nm := RX0) hx hb hown (hts (.classLink RX1 44 RX0) (List.mem_of_getElem? (i := 2) (by decide +kernel))) (hK.1 1 _ rfl).2 (va_recv hK (one_P (hP.2.2 n9 hm9)) (ci := 1) (q0 := 0) rfl rfl) dX1_judgeCertificates_21 ?_
    refine lv_astore_n (lv' := [(2, .ref (r_a ρ n9)), (0, .ref (r_h ρ)), (1, .int (nI n9))]) hx hb dX1_judgeCertificates_24 rfl hl (by decide) rfl (fun ls hl => ?_)
    refine lv_aload_n hx hb dX1_judgeCertificates_25 rfl (lv_at hl 0 rfl) ?_
    refine vp_callSi (va_Run.run (va_runVN (As := []) (rest := []) ⟨hx, hb, hml, hown, hts⟩ (c_X0_hasCertificate l D cs ρ hI9 hap9.1 n9 hm9) ⟨va_cnB 0 hts gX1_judgeCertificates_X0_hasCertificate_n129 rfl rfl rfl (hN (.methodLinkNest "ShadowSociety" 129 ⟨"ShadowSociety$Member", "hasCertificate", "()Z"⟩ "ShadowSociety") (by decide +kernel)) (hts (.initialized RX0) (List.mem_of_getElem? (i := 28) (by decide +kernel))) (by decide +kernel) ⟨Nat.le_of_ble_eq_true rfl, Nat.le_of_ble_eq_true rfl⟩, hts (.instanceMethod yX0_hasCertificate) (List.mem_of_getElem? (i := 27) (by decide +kernel)), hts (.selects RX0 yX0_hasCertificate yX0_hasCertificate) (List.mem_of_getElem? (i := 29) (by decide +kernel))⟩ (rb_V hK hN hP.2.2 (va_recv hK (one_P (hP.2.2 n9 hm9)) (ci := 1) (q0 := 0) rfl rfl)) rfl rfl hl.1 rfl (lv_room (Nat.le_of_ble_eq_true rfl)) dX1_judgeCertificates_26 ⟨Nat.le_of_ble_eq_true rfl, Nat.le_of_ble_eq_true rfl⟩)) (fun r_3 hr_3 => ?_)
    rw [hr_3]
    refine lv_cut (F0 m 44 ls [.int (b01 (falS τ n9))]) ?_ (fun K_4 => ?_)
    · refine lv_istore_n (lv' := [(3, .int (b01 (falS τ n9))), (2, .ref (r_a ρ n9)), (0, .ref (r_h ρ)), (1, .int (nI n9))]) hx hb dX1_judgeCertificates_44 rfl hl (by decide) rfl (fun ls hl => ?_)
      refine lv_aload_n hx hb dX1_judgeCertificates_45 rfl (lv_at hl 1 rfl) ?_
      refine lv_dup hx hb dX1_judgeCertificates_46 rfl ?_
      refine va_getN (D := D) (ci := 1) (v := .int (sPu τ n9)) (C := RX0) (T := TX0) (N := 9) hx hb hts in_X1_judgeCertificates_X0 hown hK (one_P (hP.2.2 n9 hm9)) 0 rfl rfl 3 (by decide) (Nst.use hN (w := .fieldLinkNest "ShadowSociety" 70 "ShadowSociety$Member" "purse" "I" "ShadowSociety") (by decide +kernel)) (fun _ h9 => h9) rfl dX1_judgeCertificates_47 ?_
      refine lv_aload_n hx hb dX1_judgeCertificates_50 rfl (lv_at hl 1 rfl) ?_
      refine vp_callSi (va_Run.run (va_runVN (As := []) (rest := [.int (sPu τ n9), .ref (r_a ρ n9)]) ⟨hx, hb, hml, hown, hts⟩ (c_X0_gainOfCertificate l D cs ρ hI9 hap9.1 n9 hm9) ⟨va_cnB 0 hts gX1_judgeCertificates_X0_gainOfCertificate_n215 rfl rfl rfl (hN (.methodLinkNest "ShadowSociety" 215 ⟨"ShadowSociety$Member", "gainOfCertificate", "()I"⟩ "ShadowSociety") (by decide +kernel)) (hts (.initialized RX0) (List.mem_of_getElem? (i := 28) (by decide +kernel))) (by decide +kernel) ⟨Nat.le_of_ble_eq_true rfl, Nat.le_of_ble_eq_true rfl⟩, hts (.instanceMethod yX0_gainOfCertificate) (List.mem_of_getElem? (i := 50) (by decide +kernel)), hts (.selects RX0 yX0_gainOfCertificate yX0_gainOfCertificate) (List.mem_of_getElem? (i := 51) (by decide +kernel))⟩ (rb_V hK hN hP.2.2 (va_recv hK (one_P (hP.2.2 n9 hm9)) (ci := 1) (q0 := 0) rfl rfl)) rfl rfl hl.1 rfl (lv_room (Nat.le_of_ble_eq_true rfl)) dX1_judgeCertificates_51 ⟨Nat.le_of_ble_eq_true rfl, Nat.le_of_ble_eq_true rfl⟩)) (fun r_5 hr_5 => ?_)
      rw [hr_5]
      refine lv_iadd hx hb dX1_judgeCertificates_54 ?_
      refine va_putN (D := D) (ci := 1) (v := .int ((sPu τ n9) + (gainC τ n9))) (ty := .int) (C := RX0) (T := TX0) (N := 9) hx hb hts in_X1_judgeCertificates_X0 tyX0 tyX0_ok nmX0 hown hK (soc_P hP) (soc_D hap9 (fun q h => Or.inl (hk9 ▸ h))) hS (2 + n9) (socW_at hm9) rfl 3 (by decide) (Nst.use hN (w := .fieldLinkNest "ShadowSociety" 70 "ShadowSociety$Member" "purse" "I" "ShadowSociety") (by decide +kernel)) (fun _ h9 => h9) rfl (by decide +kernel) rfl rfl (Nat.le_of_ble_eq_true rfl) dX1_judgeCertificates_55 (fun H locs hP hD hS => ?_)
      have hP : Soc D cs ρ (setPu τ (upd (sPu τ) n9 ((sPu τ n9) + (gainC τ n9)))) H := P_soc (by rw [s_Pu (cs := cs) (ρ := ρ) (σ := τ) hm9] at hP; exact hP)
      have hI_6 : InvS B (setPu τ (upd (sPu τ) n9 ((sPu τ n9) + (gainC τ n9)))) := hI9
      refine lv_iload_n hx hb dX1_judgeCertificates_58 rfl (lv_at hl 0 rfl) ?_
      refine lv_if_eq (tgt := 87) hx hb dX1_judgeCertificates_59 (by decide) (fun c_7 => ?_) (fun c_7 => ?_)
      · refine lv_iinc (v := nI (n9 + 1)) (lv' := [(1, .int (nI (n9 + 1))), (3, .int (b01 (falS τ n9))), (2, .ref (r_a ρ n9)), (0, .ref (r_h ρ))]) hx hb dX1_judgeCertificates_87 hl (k := 3) rfl (nI_add _ 1) (by decide) rfl (fun ls hl => ?_)
        refine lv_goto (tgt := 2) hx hb dX1_judgeCertificates_90 (by decide) ?_
        refine K9 ls _ _ ?_ hS ?_
        · subst hτ
          rw [show judgN σ (n9 + 1) = setPu (judgN σ n9) (upd (sPu (judgN σ n9)) n9 ((sPu (judgN σ n9) n9) + (gainC (judgN σ n9) n9))) from if_neg (b01_0.mp c_7)]
          exact hP
        · show lv_has ls 4 [(0, .ref (r_h ρ)), (1, .int (nI (n9 + 1)))]
          exact lv_sub hl [3, 0] rfl
      · refine lv_aload_n hx hb dX1_judgeCertificates_62 rfl (lv_at hl 1 rfl) ?_
        refine lv_iconst (v := (-1)) hx hb dX1_judgeCertificates_63 (by decide) ?_
        refine va_putN (D := D) (ci := 1) (v := .int (-1)) (ty := .int) (C := RX0) (T := TX0) (N := 9) hx hb hts in_X1_judgeCertificates_X0 tyX0 tyX0_ok nmX0 hown hK (soc_P hP) (soc_D hap9 (fun q h => Or.inl (hk9 ▸ h))) hS (2 + n9) (socW_at hm9) rfl 6 (by decide) (Nst.use hN (w := .fieldLinkNest "ShadowSociety" 117 "ShadowSociety$Member" "certifiedLength" "I" "ShadowSociety") (by decide +kernel)) (fun _ h9 => h9) rfl (by decide +kernel) rfl rfl (Nat.le_of_ble_eq_true rfl) dX1_judgeCertificates_64 (fun H locs hP hD hS => ?_)
        have hP : Soc D cs ρ (setCe (setPu τ (upd (sPu τ) n9 ((sPu τ n9) + (gainC τ n9)))) (upd (sCe (setPu τ (upd (sPu τ) n9 ((sPu τ n9) + (gainC τ n9))))) n9 (-1))) H := P_soc (by rw [s_Ce (cs := cs) (ρ := ρ) (σ := setPu τ (upd (sPu τ) n9 ((sPu τ n9) + (gainC τ n9)))) hm9] at hP; exact hP)
        have hI_8 : InvS B (setCe (setPu τ (upd (sPu τ) n9 ((sPu τ n9) + (gainC τ n9)))) (upd (sCe (setPu τ (upd (sPu τ) n9 ((sPu τ n9) + (gainC τ n9))))) n9 (-1))) := hI_6
        refine lv_aload_n hx hb dX1_judgeCertificates_67 rfl (lv_at hl 1 rfl) ?_
        refine lv_dup hx hb dX1_judgeCertificates_68 rfl ?_
        refine va_getN (D := D) (ci := 1) (v := .int (sLo (setCe (setPu τ (upd (sPu τ) n9 ((sPu τ n9) + (gainC τ n9)))) (upd (sCe (setPu τ (upd (sPu τ) n9 ((sPu τ n9) + (gainC τ n9))))) n9 (-1))) n9)) (C := RX0) (T := TX0) (N := 9) hx hb hts in_X1_judgeCertificates_X0 hown hK (one_P (hP.2.2 n9 hm9)) 0 rfl rfl 8 (by decide) (Nst.use hN (w := .fieldLinkNest "ShadowSociety" 218 "ShadowSociety$Member" "revocations" "I" "ShadowSociety") (by decide +kernel)) (fun _ h9 => h9) rfl dX1_judgeCertificates_69 ?_
        refine lv_iconst (v := 1) hx hb dX1_judgeCertificates_72 (by decide) ?_
        refine lv_iadd hx hb dX1_judgeCertificates_73 ?_
        refine va_putN (D := D) (ci := 1) (v := .int ((sLo (setCe (setPu τ (upd (sPu τ) n9 ((sPu τ n9) + (gainC τ n9)))) (upd (sCe (setPu τ (upd (sPu τ) n9 ((sPu τ n9) + (gainC τ n9))))) n9 (-1))) n9) + 1)) (ty := .int) (C := RX0) (T := TX0) (N := 9) hx hb hts in_X1_judgeCertificates_X0 tyX0 tyX0_ok nmX0 hown hK (soc_P hP) (soc_D hap9 (fun q h => Or.inl (hk9 ▸ h))) hS (2 + n9) (socW_at hm9) rfl 8 (by decide) (Nst.use hN (w := .fieldLinkNest "ShadowSociety" 218 "ShadowSociety$Member" "revocations" "I" "ShadowSociety") (by decide +kernel)) (fun _ h9 => h9) rfl (by decide +kernel) rfl rfl (Nat.le_of_ble_eq_true rfl) dX1_judgeCertificates_74 (fun H locs hP hD hS => ?_)
        have hP : Soc D cs ρ (setLo (setCe (setPu τ (upd (sPu τ) n9 ((sPu τ n9) + (gainC τ n9)))) (upd (sCe (setPu τ (upd (sPu τ) n9 ((sPu τ n9) + (gainC τ n9))))) n9 (-1))) (upd (sLo (setCe (setPu τ (upd (sPu τ) n9 ((sPu τ n9) + (gainC τ n9)))) (upd (sCe (setPu τ (upd (sPu τ) n9 ((sPu τ n9) + (gainC τ n9))))) n9 (-1)))) n9 ((sLo (setCe (setPu τ (upd (sPu τ) n9 ((sPu τ n9) + (gainC τ n9)))) (upd (sCe (setPu τ (upd (sPu τ) n9 ((sPu τ n9) + (gainC τ n9))))) n9 (-1))) n9) + 1))) H := P_soc (by rw [s_Lo (cs := cs) (ρ := ρ) (σ := setCe (setPu τ (upd (sPu τ) n9 ((sPu τ n9) + (gainC τ n9)))) (upd (sCe (setPu τ (upd (sPu τ) n9 ((sPu τ n9) + (gainC τ n9))))) n9 (-1))) hm9] at hP; exact hP)
        have hI_9 : InvS B (setLo (setCe (setPu τ (upd (sPu τ) n9 ((sPu τ n9) + (gainC τ n9)))) (upd (sCe (setPu τ (upd (sPu τ) n9 ((sPu τ n9) + (gainC τ n9))))) n9 (-1))) (upd (sLo (setCe (setPu τ (upd (sPu τ) n9 ((sPu τ n9) + (gainC τ n9)))) (upd (sCe (setPu τ (upd (sPu τ) n9 ((sPu τ n9) + (gainC τ n9))))) n9 (-1)))) n9 ((sLo (setCe (setPu τ (upd (sPu τ) n9 ((sPu τ n9) + (gainC τ n9)))) (upd (sCe (setPu τ (upd (sPu τ) n9 ((sPu τ n9) + (gainC τ n9))))) n9 (-1))) n9) + 1))) := hI_8
        refine lv_aload_n hx hb dX1_judgeCertificates_77 rfl (lv_at hl 2 rfl) ?_
        refine lv_dup hx hb dX1_judgeCertificates_78 rfl ?_
        refine va_get (D := D) (ci := 2) (v := .int (sRv (setLo (setCe (setPu τ (upd (sPu τ) n9 ((sPu τ n9) + (gainC τ n9)))) (upd (sCe (setPu τ (upd (sPu τ) n9 ((sPu τ n9) + (gainC τ n9))))) n9 (-1))) (upd (sLo (setCe (setPu τ (upd (sPu τ) n9 ((sPu τ n9) + (gainC τ n9)))) (upd (sCe (setPu τ (upd (sPu τ) n9 ((sPu τ n9) + (gainC τ n9))))) n9 (-1)))) n9 ((sLo (setCe (setPu τ (upd (sPu τ) n9 ((sPu τ n9) + (gainC τ n9)))) (upd (sCe (setPu τ (upd (sPu τ) n9 ((sPu τ n9) + (gainC τ n9))))) n9 (-1))) n9) + 1))))) (C := RX1) (T := TX1) (N := 4) hx hb hts in_X1_judgeCertificates_X1 hown hK (one_P hP.1) 0 rfl rfl 3 (by decide) (hts (.fieldLink RX1 23 "ShadowSociety" "revokedInAll" "I") (List.mem_of_getElem? (i := 3) (by decide +kernel))) (fun _ h9 => h9) rfl dX1_judgeCertificates_79 ?_
        refine lv_iconst (v := 1) hx hb dX1_judgeCertificates_82 (by decide) ?_
        refine lv_iadd hx hb dX1_judgeCertificates_83 ?_
        refine va_put (D := D) (ci := 2) (v := .int ((sRv (setLo (setCe (setPu τ (upd (sPu τ) n9 ((sPu τ n9) + (gainC τ n9)))) (upd (sCe (setPu τ (upd (sPu τ) n9 ((sPu τ n9) + (gainC τ n9))))) n9 (-1))) (upd (sLo (setCe (setPu τ (upd (sPu τ) n9 ((sPu τ n9) + (gainC τ n9)))) (upd (sCe (setPu τ (upd (sPu τ) n9 ((sPu τ n9) + (gainC τ n9))))) n9 (-1)))) n9 ((sLo (setCe (setPu τ (upd (sPu τ) n9 ((sPu τ n9) + (gainC τ n9)))) (upd (sCe (setPu τ (upd (sPu τ) n9 ((sPu τ n9) + (gainC τ n9))))) n9 (-1))) n9) + 1)))) + 1)) (ty := .int) (C := RX1) (T := TX1) (N := 4) hx hb hts in_X1_judgeCertificates_X1 tyX1 tyX1_ok nmX1 hown hK (soc_P hP) (soc_D hap9 (fun q h => Or.inl (hk9 ▸ h))) hS 0 rfl rfl 3 (by decide) (hts (.fieldLink RX1 23 "ShadowSociety" "revokedInAll" "I") (List.mem_of_getElem? (i := 3) (by decide +kernel))) (fun _ h9 => h9) rfl (by decide +kernel) rfl rfl (Nat.le_of_ble_eq_true rfl) dX1_judgeCertificates_84 (fun H locs hP hD hS => ?_)
        have hP : Soc D cs ρ (setRv (setLo (setCe (setPu τ (upd (sPu τ) n9 ((sPu τ n9) + (gainC τ n9)))) (upd (sCe (setPu τ (upd (sPu τ) n9 ((sPu τ n9) + (gainC τ n9))))) n9 (-1))) (upd (sLo (setCe (setPu τ (upd (sPu τ) n9 ((sPu τ n9) + (gainC τ n9)))) (upd (sCe (setPu τ (upd (sPu τ) n9 ((sPu τ n9) + (gainC τ n9))))) n9 (-1)))) n9 ((sLo (setCe (setPu τ (upd (sPu τ) n9 ((sPu τ n9) + (gainC τ n9)))) (upd (sCe (setPu τ (upd (sPu τ) n9 ((sPu τ n9) + (gainC τ n9))))) n9 (-1))) n9) + 1))) ((sRv (setLo (setCe (setPu τ (upd (sPu τ) n9 ((sPu τ n9) + (gainC τ n9)))) (upd (sCe (setPu τ (upd (sPu τ) n9 ((sPu τ n9) + (gainC τ n9))))) n9 (-1))) (upd (sLo (setCe (setPu τ (upd (sPu τ) n9 ((sPu τ n9) + (gainC τ n9)))) (upd (sCe (setPu τ (upd (sPu τ) n9 ((sPu τ n9) + (gainC τ n9))))) n9 (-1)))) n9 ((sLo (setCe (setPu τ (upd (sPu τ) n9 ((sPu τ n9) + (gainC τ n9)))) (upd (sCe (setPu τ (upd (sPu τ) n9 ((sPu τ n9) + (gainC τ n9))))) n9 (-1))) n9) + 1)))) + 1)) H := P_soc hP
        have hI_10 : InvS B (setRv (setLo (setCe (setPu τ (upd (sPu τ) n9 ((sPu τ n9) + (gainC τ n9)))) (upd (sCe (setPu τ (upd (sPu τ) n9 ((sPu τ n9) + (gainC τ n9))))) n9 (-1))) (upd (sLo (setCe (setPu τ (upd (sPu τ) n9 ((sPu τ n9) + (gainC τ n9)))) (upd (sCe (setPu τ (upd (sPu τ) n9 ((sPu τ n9) + (gainC τ n9))))) n9 (-1)))) n9 ((sLo (setCe (setPu τ (upd (sPu τ) n9 ((sPu τ n9) + (gainC τ n9)))) (upd (sCe (setPu τ (upd (sPu τ) n9 ((sPu τ n9) + (gainC τ n9))))) n9 (-1))) n9) + 1))) ((sRv (setLo (setCe (setPu τ (upd (sPu τ) n9 ((sPu τ n9) + (gainC τ n9)))) (upd (sCe (setPu τ (upd (sPu τ) n9 ((sPu τ n9) + (gainC τ n9))))) n9 (-1))) (upd (sLo (setCe (setPu τ (upd (sPu τ) n9 ((sPu τ n9) + (gainC τ n9)))) (upd (sCe (setPu τ (upd (sPu τ) n9 ((sPu τ n9) + (gainC τ n9))))) n9 (-1)))) n9 ((sLo (setCe (setPu τ (upd (sPu τ) n9 ((sPu τ n9) + (gainC τ n9)))) (upd (sCe (setPu τ (upd (sPu τ) n9 ((sPu τ n9) + (gainC τ n9))))) n9 (-1))) n9) + 1)))) + 1)) := hI_9
        refine lv_iinc (v := nI (n9 + 1)) (lv' := [(1, .int (nI (n9 + 1))), (3, .int (b01 (falS τ n9))), (2, .ref (r_a ρ n9)), (0, .ref (r_h ρ))]) hx hb dX1_judgeCertificates_87 hl (k := 3) rfl (nI_add _ 1) (by decide) rfl (fun ls hl => ?_)
        refine lv_goto (tgt := 2) hx hb dX1_judgeCertificates_90 (by decide) ?_
        refine K9 ls _ _ ?_ hS ?_
        · subst hτ
          rw [show judgN σ (n9 + 1) = setRv (setLo (setCe (setPu (judgN σ n9) (upd (sPu (judgN σ n9)) n9 ((sPu (judgN σ n9) n9) + (gainC (judgN σ n9) n9)))) (upd (sCe (setPu (judgN σ n9) (upd (sPu (judgN σ n9)) n9 ((sPu (judgN σ n9) n9) + (gainC (judgN σ n9) n9))))) n9 (-1))) (upd (sLo (setCe (setPu (judgN σ n9) (upd (sPu (judgN σ n9)) n9 ((sPu (judgN σ n9) n9) + (gainC (judgN σ n9) n9)))) (upd (sCe (setPu (judgN σ n9) (upd (sPu (judgN σ n9)) n9 ((sPu (judgN σ n9) n9) + (gainC (judgN σ n9) n9))))) n9 (-1)))) n9 ((sLo (setCe (setPu (judgN σ n9) (upd (sPu (judgN σ n9)) n9 ((sPu (judgN σ n9) n9) + (gainC (judgN σ n9) n9)))) (upd (sCe (setPu (judgN σ n9) (upd (sPu (judgN σ n9)) n9 ((sPu (judgN σ n9) n9) + (gainC (judgN σ n9) n9))))) n9 (-1))) n9) + 1))) ((sRv (setLo (setCe (setPu (judgN σ n9) (upd (sPu (judgN σ n9)) n9 ((sPu (judgN σ n9) n9) + (gainC (judgN σ n9) n9)))) (upd (sCe (setPu (judgN σ n9) (upd (sPu (judgN σ n9)) n9 ((sPu (judgN σ n9) n9) + (gainC (judgN σ n9) n9))))) n9 (-1))) (upd (sLo (setCe (setPu (judgN σ n9) (upd (sPu (judgN σ n9)) n9 ((sPu (judgN σ n9) n9) + (gainC (judgN σ n9) n9)))) (upd (sCe (setPu (judgN σ n9) (upd (sPu (judgN σ n9)) n9 ((sPu (judgN σ n9) n9) + (gainC (judgN σ n9) n9))))) n9 (-1)))) n9 ((sLo (setCe (setPu (judgN σ n9) (upd (sPu (judgN σ n9)) n9 ((sPu (judgN σ n9) n9) + (gainC (judgN σ n9) n9)))) (upd (sCe (setPu (judgN σ n9) (upd (sPu (judgN σ n9)) n9 ((sPu (judgN σ n9) n9) + (gainC (judgN σ n9) n9))))) n9 (-1))) n9) + 1)))) + 1) from if_pos (b01_n.mp c_7)]
          exact hP
        · show lv_has ls 4 [(0, .ref (r_h ρ)), (1, .int (nI (n9 + 1)))]
          exact lv_sub hl [3, 0] rfl
    · refine lv_if_eq (tgt := 43) hx hb dX1_judgeCertificates_29 (by decide) (fun c_11 => ?_) (fun c_11 => ?_)
      · refine lv_iconst (v := 0) hx hb dX1_judgeCertificates_43 (by decide) ?_
        rw [show b01 (falS τ n9) = 0 from b01_f (fun q => b01_0.mp c_11 q.1)] at K_4
        exact K_4
      · refine lv_aload_n hx hb dX1_judgeCertificates_32 rfl (lv_at hl 0 rfl) ?_
        refine vp_callSi (va_Run.run (va_runVN (As := []) (rest := []) ⟨hx, hb, hml, hown, hts⟩ (c_X0_hasHonestCertificate l D cs ρ hI9 hap9.1 n9 hm9) ⟨va_cnB 0 hts gX1_judgeCertificates_X0_hasHonestCertificate_n132 rfl rfl rfl (hN (.methodLinkNest "ShadowSociety" 132 ⟨"ShadowSociety$Member", "hasHonestCertificate", "()Z"⟩ "ShadowSociety") (by decide +kernel)) (hts (.initialized RX0) (List.mem_of_getElem? (i := 28) (by decide +kernel))) (by decide +kernel) ⟨Nat.le_of_ble_eq_true rfl, Nat.le_of_ble_eq_true rfl⟩, hts (.instanceMethod yX0_hasHonestCertificate) (List.mem_of_getElem? (i := 32) (by decide +kernel)), hts (.selects RX0 yX0_hasHonestCertificate yX0_hasHonestCertificate) (List.mem_of_getElem? (i := 33) (by decide +kernel))⟩ (rb_V hK hN hP.2.2 (va_recv hK (one_P (hP.2.2 n9 hm9)) (ci := 1) (q0 := 0) rfl rfl)) rfl rfl hl.1 rfl (lv_room (Nat.le_of_ble_eq_true rfl)) dX1_judgeCertificates_33 ⟨Nat.le_of_ble_eq_true rfl, Nat.le_of_ble_eq_true rfl⟩)) (fun r_12 hr_12 => ?_)
        rw [hr_12]
        refine lv_if_ne (tgt := 43) hx hb dX1_judgeCertificates_36 (by decide) (fun c_13 => ?_) (fun c_13 => ?_)
        · refine lv_iconst (v := 0) hx hb dX1_judgeCertificates_43 (by decide) ?_
          rw [show b01 (falS τ n9) = 0 from b01_f (fun q => q.2 (b01_n.mp c_13).2)] at K_4
          exact K_4
        · refine lv_iconst (v := 1) hx hb dX1_judgeCertificates_39 (by decide) ?_
          refine lv_goto (tgt := 44) hx hb dX1_judgeCertificates_40 (by decide) ?_
          rw [show b01 (falS τ n9) = 1 from b01_t ⟨b01_n.mp c_11, fun q => b01_0.mp c_13 ⟨b01_n.mp c_11, q⟩⟩] at K_4
          exact K_4
  · have hl : lv_has ls 4 [(0, .ref (r_h ρ)), (1, .int (nI (sK σ)))] := hl
    have hI9 := invS_judg hI (sK σ)
    have hk9 : sK (judgN σ (sK σ)) = sK σ := (k_judg σ (sK σ)).1
    obtain ⟨τ, hτ⟩ : ∃ τ, τ = judgN σ (sK σ) := ⟨_, rfl⟩
    rw [← hτ] at hP hI9 hk9
    have hap9 : AptA ρ (sK τ) := by rw [hk9]; exact hap
    refine lv_iload_n hx hb dX1_judgeCertificates_2 rfl (lv_at hl 1 rfl) ?_
    refine lv_aload_n hx hb dX1_judgeCertificates_3 rfl (lv_at hl 0 rfl) ?_
    refine va_get (D := D) (ci := 2) (v := .ref (r_q ρ)) (C := RX1) (T := TX1) (N := 4) hx hb hts in_X1_judgeCertificates_X1 hown hK (one_P hP.1) 0 rfl rfl 0 (by decide) (hts (.fieldLink RX1 10 "ShadowSociety" "roll" "Ljava/util/ArrayList;") (List.mem_of_getElem? (i := 1) (by decide +kernel))) (fun _ h9 => h9) rfl dX1_judgeCertificates_4 ?_
    refine vp_callSi (va_Run.run (va_runV (As := []) (rest := [.int (nI (sK σ))]) ⟨hx, hb, hml, hown, hts⟩ (c_Jx4a65c_size_8abf5 l D cs ρ hI9 hap9.1) (cwV 0 hts gX1_judgeCertificates_Jx4a65c_size_8abf5 rfl rfl rfl (by decide +kernel) ⟨Nat.le_of_ble_eq_true rfl, Nat.le_of_ble_eq_true rfl⟩) (rb_V hK hN hP.2.1 (va_recv hK (one_P hP.2.1.1) (ci := 0) (q0 := 0) rfl rfl)) rfl rfl hl.1 rfl (lv_room (Nat.le_of_ble_eq_true rfl)) dX1_judgeCertificates_7 ⟨Nat.le_of_ble_eq_true rfl, Nat.le_of_ble_eq_true rfl⟩)) (fun r_14 hr_14 => ?_)
    rw [hr_14]
    refine lv_icmp_ge (tgt := 93) hx hb dX1_judgeCertificates_10 (by decide) (fun _ => ?_) (fun c9 => absurd ((by rw [hk9]; exact nI_le (Nat.le_refl _) (by have := hI.1; omega))) c9)
    exact W.vret hx hb hr (fun t ht hW => ⟨⟨τ, rfl, hτ, by show Soc D cs ρ _ t.heap; rw [ht]; exact hP⟩, hS.F ht⟩) hS.2.2 dX1_judgeCertificates_93
theorem in_X1_passOneHour_X1 : ∀ w ∈ wsX10, w ∈ wsX1_passOneHour := by decide +kernel
set_option maxHeartbeats 4000000 in
set_option maxRecDepth 100000 in
/-- an hour -/
theorem c_X1_passOneHour (l : Launch) (D : va_G) (cs : Cs) (ρ : Rf) {B : Nat} {σ : PS} (hI : InvS B σ) (hB1 : B + 1 ≤ 40000) (hap : AptA ρ (sK σ)) (H0 : Heap) : Met l yX1_passOneHour wsX1_passOneHour ({ frames := 6, cells := 0, slots := 0, locals := 119 }) (va_Pc [.ref (r_h ρ)] (RBp D cs (fun X => X = H0 ∧ Soc D cs ρ σ X))) (va_Qv (fun u : PS => u = hourS σ) (fun u t => Soc D cs ρ u t.heap) (ownA ρ (sK σ) H0)) 0 0 (ownA ρ (sK σ) H0) := by
  refine Met.ofW (cc := cX1_passOneHour) (maxL := 1) (ret := none) (by decide) rfl ?_
  intro p e s m args below meth c s₁ B0 hml hv
  obtain ⟨rfl, ⟨hH, hP⟩, hK, hN⟩ := hv
  subst hH
  have hx := B0.exec
  have hb := B0.bytes
  have hr := B0.returns
  have hts := atoms_spec (ws := wsX1_passOneHour) B0.pre
  have hown : s.vm.findClass RX1 = some m.cls := findClass_of_methodNamed B0.named
  have hlocks := B0.notSynchronized
  have hJ := hap.1
  have hS : va_S (fun q => s.heap.size ≤ q) s.heap s.heap [] := va_S.rf
  have hl := lv_entry ([.ref (r_h ρ)]) (n := 1) (Nat.le_of_ble_eq_true rfl)
  rw [lg_entry_eq]
  generalize (lg_sl ([.ref (r_h ρ)]) ++ List.replicate (1 - (lg_sl ([.ref (r_h ρ)])).length) Slot.unset).toArray = ls at hl ⊢
  have hl : lv_has ls 1 [(0, .ref (r_h ρ))] := hl
  refine lv_aload_n hx hb dX1_passOneHour_0 rfl (lv_at hl 0 rfl) ?_
  refine lv_dup hx hb dX1_passOneHour_1 rfl ?_
  refine va_get (D := D) (ci := 2) (v := .int (sHr σ)) (C := RX1) (T := TX1) (N := 4) hx hb hts in_X1_passOneHour_X1 hown hK (one_P hP.1) 0 rfl rfl 1 (by decide) (hts (.fieldLink RX1 16 "ShadowSociety" "now" "I") (List.mem_of_getElem? (i := 1) (by decide +kernel))) (fun _ h9 => h9) rfl dX1_passOneHour_2 ?_
  refine lv_iconst (v := 1) hx hb dX1_passOneHour_5 (by decide) ?_
  refine lv_iadd hx hb dX1_passOneHour_6 ?_
  have hS := vs_up (B := ownA ρ (sK σ) s.heap) hS (fun q h => Or.inr h)
  refine va_put (D := D) (ci := 2) (v := .int ((sHr σ) + 1)) (ty := .int) (C := RX1) (T := TX1) (N := 4) hx hb hts in_X1_passOneHour_X1 tyX1 tyX1_ok nmX1 hown hK (soc_P hP) (soc_D hap (fun q h => Or.inl h)) hS 0 rfl rfl 1 (by decide) (hts (.fieldLink RX1 16 "ShadowSociety" "now" "I") (List.mem_of_getElem? (i := 1) (by decide +kernel))) (fun _ h9 => h9) rfl (by decide +kernel) rfl rfl (Nat.le_of_ble_eq_true rfl) dX1_passOneHour_7 (fun H locs hP hD hS => ?_)
  have hP : Soc D cs ρ (setHr σ ((sHr σ) + 1)) H := P_soc hP
  have hI_1 : InvS (B + 1) (setHr σ ((sHr σ) + 1)) := invS_hr hI hB1
  refine lv_aload_n hx hb dX1_passOneHour_10 rfl (lv_at hl 0 rfl) ?_
  refine vp_callSi (va_Run.run (va_runV (As := []) (rest := []) ⟨hx, hb, hml, hown, hts⟩ (c_X1_hourOfDay l D cs ρ hI_1 hap.1) (cwV 0 hts gX1_passOneHour_X1_hourOfDay rfl rfl rfl (by decide +kernel) ⟨Nat.le_of_ble_eq_true rfl, Nat.le_of_ble_eq_true rfl⟩) (rb_V hK hN hP (va_recv hK (one_P hP.1) (ci := 2) (q0 := 0) rfl rfl)) rfl rfl hl.1 rfl (lv_room (Nat.le_of_ble_eq_true rfl)) dX1_passOneHour_11 ⟨Nat.le_of_ble_eq_true rfl, Nat.le_of_ble_eq_true rfl⟩)) (fun r_2 hr_2 => ?_)
  rw [hr_2]
  refine lv_bipush (v := 12) hx hb dX1_passOneHour_14 (by decide) ?_
  refine lv_icmp_ne (tgt := 31) hx hb dX1_passOneHour_16 (by decide) (fun c_3 => ?_) (fun c_3 => ?_)
  · exact W.vret hx hb hr (fun t ht hW => ⟨⟨setHr σ ((sHr σ) + 1), rfl, (by unfold hourS; rw [if_pos c_3]), by show Soc D cs ρ _ t.heap; rw [ht]; exact hP⟩, hS.F ht⟩) hS.2.2 dX1_passOneHour_31
  · refine lv_aload_n hx hb dX1_passOneHour_19 rfl (lv_at hl 0 rfl) ?_
    refine va_callv (va_runV (As := []) (rest := []) ⟨hx, hb, hml, hown, hts⟩ (c_X1_seizeLamps l D cs ρ hI_1 hap H) (cwV 0 hts gX1_passOneHour_X1_seizeLamps rfl rfl rfl (by decide +kernel) ⟨Nat.le_of_ble_eq_true rfl, Nat.le_of_ble_eq_true rfl⟩) (rb_V hK hN ⟨rfl, hP⟩ (va_recv hK (one_P hP.1) (ci := 2) (q0 := 0) rfl rfl)) rfl rfl hl.1 rfl (lv_room (Nat.le_of_ble_eq_true rfl)) dX1_passOneHour_20 ⟨Nat.le_of_ble_eq_true rfl, Nat.le_of_ble_eq_true rfl⟩) hS (fun q _ h => ow_A hS q h) (fun q h => ow_A hS q h) (fun u t H locs ht hvm hw hB hz1 hk1 hS => ?_)
    rw [ht, hw] at hB
    have hP : Soc D cs ρ (seizN (setHr σ ((sHr σ) + 1)) (sK (setHr σ ((sHr σ) + 1)))) H := hB
    have hk_4 : sK (seizN (setHr σ ((sHr σ) + 1)) (sK (setHr σ ((sHr σ) + 1)))) = sK σ := (k_seiz _ _).1
    have hapk_4 : AptA ρ (sK (seizN (setHr σ ((sHr σ) + 1)) (sK (setHr σ ((sHr σ) + 1))))) := by rw [hk_4]; exact hap
    have hIk_4 : InvS (B + 1) (seizN (setHr σ ((sHr σ) + 1)) (sK (setHr σ ((sHr σ) + 1)))) := invS_seiz hI_1 _
    refine lv_aload_n hx hb dX1_passOneHour_23 rfl (lv_at hl 0 rfl) ?_
    refine va_callv (va_runV (As := []) (rest := []) ⟨hx, hb, hml, hown, hts⟩ (c_X1_sendHatsBack l D cs ρ hIk_4 hapk_4 H) (cwV 0 hts gX1_passOneHour_X1_sendHatsBack rfl rfl rfl (by decide +kernel) ⟨Nat.le_of_ble_eq_true rfl, Nat.le_of_ble_eq_true rfl⟩) (rb_V hK hN ⟨rfl, hP⟩ (va_recv hK (one_P hP.1) (ci := 2) (q0 := 0) rfl rfl)) rfl rfl hl.1 rfl (lv_room (Nat.le_of_ble_eq_true rfl)) dX1_passOneHour_24 ⟨Nat.le_of_ble_eq_true rfl, Nat.le_of_ble_eq_true rfl⟩) hS (fun q _ h => ow_A hS q (hk_4 ▸ h)) (fun q h => ow_A hS q (hk_4 ▸ h)) (fun u t H locs ht hvm hw hB hz1 hk1 hS => ?_)
    rw [ht, hw] at hB
    have hP : Soc D cs ρ (hatsN (seizN (setHr σ ((sHr σ) + 1)) (sK (setHr σ ((sHr σ) + 1)))) (sK (seizN (setHr σ ((sHr σ) + 1)) (sK (setHr σ ((sHr σ) + 1)))))) H := hB
    have hk_5 : sK (hatsN (seizN (setHr σ ((sHr σ) + 1)) (sK (setHr σ ((sHr σ) + 1)))) (sK (seizN (setHr σ ((sHr σ) + 1)) (sK (setHr σ ((sHr σ) + 1)))))) = sK σ := (k_hats _ _).trans hk_4
    have hapk_5 : AptA ρ (sK (hatsN (seizN (setHr σ ((sHr σ) + 1)) (sK (setHr σ ((sHr σ) + 1)))) (sK (seizN (setHr σ ((sHr σ) + 1)) (sK (setHr σ ((sHr σ) + 1))))))) := by rw [hk_5]; exact hap
    have hIk_5 : InvS (B + 1) (hatsN (seizN (setHr σ ((sHr σ) + 1)) (sK (setHr σ ((sHr σ) + 1)))) (sK (seizN (setHr σ ((sHr σ) + 1)) (sK (setHr σ ((sHr σ) + 1)))))) := invS_hats hIk_4 _ (Nat.le_refl _)
    refine lv_aload_n hx hb dX1_passOneHour_27 rfl (lv_at hl 0 rfl) ?_
    refine va_callv (va_runV (As := []) (rest := []) ⟨hx, hb, hml, hown, hts⟩ (c_X1_judgeCertificates l D cs ρ hIk_5 hapk_5 H) (cwV 0 hts gX1_passOneHour_X1_judgeCertificates rfl rfl rfl (by decide +kernel) ⟨Nat.le_of_ble_eq_true rfl, Nat.le_of_ble_eq_true rfl⟩) (rb_V hK hN ⟨rfl, hP⟩ (va_recv hK (one_P hP.1) (ci := 2) (q0 := 0) rfl rfl)) rfl rfl hl.1 rfl (lv_room (Nat.le_of_ble_eq_true rfl)) dX1_passOneHour_28 ⟨Nat.le_of_ble_eq_true rfl, Nat.le_of_ble_eq_true rfl⟩) hS (fun q _ h => ow_A hS q (hk_5 ▸ h)) (fun q h => ow_A hS q (hk_5 ▸ h)) (fun u t H locs ht hvm hw hB hz1 hk1 hS => ?_)
    rw [ht, hw] at hB
    have hP : Soc D cs ρ (judgN (hatsN (seizN (setHr σ ((sHr σ) + 1)) (sK (setHr σ ((sHr σ) + 1)))) (sK (seizN (setHr σ ((sHr σ) + 1)) (sK (setHr σ ((sHr σ) + 1)))))) (sK (hatsN (seizN (setHr σ ((sHr σ) + 1)) (sK (setHr σ ((sHr σ) + 1)))) (sK (seizN (setHr σ ((sHr σ) + 1)) (sK (setHr σ ((sHr σ) + 1)))))))) H := hB
    have hk_6 : sK (judgN (hatsN (seizN (setHr σ ((sHr σ) + 1)) (sK (setHr σ ((sHr σ) + 1)))) (sK (seizN (setHr σ ((sHr σ) + 1)) (sK (setHr σ ((sHr σ) + 1)))))) (sK (hatsN (seizN (setHr σ ((sHr σ) + 1)) (sK (setHr σ ((sHr σ) + 1)))) (sK (seizN (setHr σ ((sHr σ) + 1)) (sK (setHr σ ((sHr σ) + 1)))))))) = sK σ := (k_judg _ _).1.trans hk_5
    have hapk_6 : AptA ρ (sK (judgN (hatsN (seizN (setHr σ ((sHr σ) + 1)) (sK (setHr σ ((sHr σ) + 1)))) (sK (seizN (setHr σ ((sHr σ) + 1)) (sK (setHr σ ((sHr σ) + 1)))))) (sK (hatsN (seizN (setHr σ ((sHr σ) + 1)) (sK (setHr σ ((sHr σ) + 1)))) (sK (seizN (setHr σ ((sHr σ) + 1)) (sK (setHr σ ((sHr σ) + 1))))))))) := by rw [hk_6]; exact hap
    have hIk_6 : InvS (B + 1) (judgN (hatsN (seizN (setHr σ ((sHr σ) + 1)) (sK (setHr σ ((sHr σ) + 1)))) (sK (seizN (setHr σ ((sHr σ) + 1)) (sK (setHr σ ((sHr σ) + 1)))))) (sK (hatsN (seizN (setHr σ ((sHr σ) + 1)) (sK (setHr σ ((sHr σ) + 1)))) (sK (seizN (setHr σ ((sHr σ) + 1)) (sK (setHr σ ((sHr σ) + 1)))))))) := invS_judg hIk_5 _
    exact W.vret hx hb hr (fun t ht hW => ⟨⟨judgN (hatsN (seizN (setHr σ ((sHr σ) + 1)) (sK (setHr σ ((sHr σ) + 1)))) (sK (seizN (setHr σ ((sHr σ) + 1)) (sK (setHr σ ((sHr σ) + 1)))))) (sK (hatsN (seizN (setHr σ ((sHr σ) + 1)) (sK (setHr σ ((sHr σ) + 1)))) (sK (seizN (setHr σ ((sHr σ) + 1)) (sK (setHr σ ((sHr σ) + 1))))))), rfl, (by unfold hourS; rw [if_neg (fun q => q c_3)]; rfl), by show Soc D cs ρ _ t.heap; rw [ht]; exact hP⟩, hS.F ht⟩) hS.2.2 dX1_passOneHour_31
theorem in_X1_pass_X1 : ∀ w ∈ wsX10, w ∈ wsX1_pass := by decide +kernel
set_option maxHeartbeats 4000000 in
set_option maxRecDepth 100000 in
/-- pass -/
theorem x_X1_pass (l : Launch) (hlf : l.stackTraces = false) (D : va_G) (cs : Cs) (ρ : Rf) {B : Nat} {σ : PS} (hI : InvS B σ) (hap : AptA ρ (sK σ)) (H0 : Heap) (hB : B + 72 ≤ 40000) (a : Int32) : vx_Met l yX1_pass wsX1_pass ({ frames := 7, cells := 1, slots := 6, locals := 139 }) (va_Pc [.ref (r_h ρ), .int a] (TBp D cs (fun X => X = H0 ∧ Soc D cs ρ σ X))) (va_Qi (fun (r : Int32) (u : PS) => passO σ a = (0, r, u)) (fun u t => Soc D cs ρ u t.heap) (ownA ρ (sK σ) H0)) (vx_X (fun _ : Unit => True) (fun E _ _ => E = eIae ∧ (passO σ a).1 = 1) (fun q => H0.size ≤ q)) 1 6 (ownA ρ (sK σ) H0) := by
  refine vx_ofW (cc := cX1_pass) (maxL := 4) (ret := (some .int)) (by decide) rfl ?_
  intro p e s m args below meth c s₁ B0 hml hte hv
  obtain ⟨rfl, ⟨⟨hH, hP⟩, hK, hN⟩, hT⟩ := hv
  subst hH
  have hx := B0.exec
  have hb := B0.bytes
  have hr := B0.returns
  have hts := atoms_spec (ws := wsX1_pass) B0.pre
  have hown : s.vm.findClass RX1 = some m.cls := findClass_of_methodNamed B0.named
  have hlocks := B0.notSynchronized
  have hJ := hap.1
  have hS : va_S (fun q => s.heap.size ≤ q) s.heap s.heap [] := va_S.rf
  have hl := lv_entry ([.ref (r_h ρ), .int a]) (n := 4) (Nat.le_of_ble_eq_true rfl)
  rw [lg_entry_eq]
  generalize (lg_sl ([.ref (r_h ρ), .int a]) ++ List.replicate (4 - (lg_sl ([.ref (r_h ρ), .int a])).length) Slot.unset).toArray = ls at hl ⊢
  have hl : lv_has ls 4 [(0, .ref (r_h ρ)), (1, .int a)] := hl
  refine lv_iload_n hx hb dX1_pass_0 rfl (lv_at hl 1 rfl) ?_
  refine lv_iconst (v := 1) hx hb dX1_pass_1 (by decide) ?_
  refine lv_icmp_lt (tgt := 11) hx hb dX1_pass_2 (by decide) (fun c_1 => ?_) (fun c_1 => ?_)
  · obtain ⟨sa_2, hsa_2⟩ := hT.1 (120, "hours is not 1 to 72") (by decide +kernel)
    exact vx_throwS (names := nms2) (A := fun q => s.heap.size ≤ q) hx hb hlf hown (by decide +kernel) (by decide +kernel) (hts (.classLink RX1 26 "java/lang/IllegalArgumentException") (List.mem_of_getElem? (i := 1) (by decide +kernel))) (hts (.initialized "java/lang/IllegalArgumentException") (List.mem_of_getElem? (i := 2) (by decide +kernel))) hsa_2 (hat_eIae (fun w h9 => hts w (List.mem_cons_of_mem _ (List.mem_append_right _ h9))) hN) hgd_eIae hT.2.1 hT.2.2 hS (by rw [hml]; exact hl.1) dX1_pass_11 dX1_pass_14 dX1_pass_15 dX1_pass_17 dX1_pass_20 (fun x h9 => (hte x h9).elim) (Nat.le_of_ble_eq_true rfl) (Nat.le_of_ble_eq_true rfl) (Nat.le_of_ble_eq_true rfl) (Nat.le_of_ble_eq_true rfl) hlocks (fun t hA hz hk => ⟨(), trivial, (⟨rfl, (by unfold passO; (try dsimp only); rw [if_pos c_1]; first | done | rfl)⟩), hz, fun q h9 _ => hk q h9⟩) (fun z h9 => Or.inr (hS.2.2 z h9)) (Nat.le_of_ble_eq_true rfl) (Nat.le_of_ble_eq_true rfl)
  · refine lv_iload_n hx hb dX1_pass_5 rfl (lv_at hl 1 rfl) ?_
    refine lv_bipush (v := 72) hx hb dX1_pass_6 (by decide) ?_
    refine lv_icmp_le (tgt := 21) hx hb dX1_pass_8 (by decide) (fun c_3 => ?_) (fun c_3 => ?_)
    · refine lv_aload_n hx hb dX1_pass_21 rfl (lv_at hl 0 rfl) ?_
      refine va_get (D := D) (ci := 2) (v := .int (sRv σ)) (C := RX1) (T := TX1) (N := 4) hx hb hts in_X1_pass_X1 hown hK (one_P hP.1) 0 rfl rfl 3 (by decide) (hts (.fieldLink RX1 23 "ShadowSociety" "revokedInAll" "I") (List.mem_of_getElem? (i := 3) (by decide +kernel))) (fun _ h9 => h9) rfl dX1_pass_22 ?_
      refine lv_istore_n (lv' := [(2, .int (sRv σ)), (0, .ref (r_h ρ)), (1, .int a)]) hx hb dX1_pass_25 rfl hl (by decide) rfl (fun ls hl => ?_)
      refine lv_iconst (v := 0) hx hb dX1_pass_26 (by decide) ?_
      refine lv_istore_n (lv' := [(3, .int 0), (2, .int (sRv σ)), (0, .ref (r_h ρ)), (1, .int a)]) hx hb dX1_pass_27 rfl hl (by decide) rfl (fun ls hl => ?_)
      have hS := vs_up (B := ownA ρ (sK σ) s.heap) hS (fun q h => Or.inr h)
      obtain ⟨h, h1, h72, hah⟩ : ∃ h : Nat, 1 ≤ h ∧ h ≤ 72 ∧ a = nI h := hours_of c_1 c_3
      refine lv_forH h (fun ls => F0 m 28 ls []) (fun n9 => [(0, .ref (r_h ρ)), (1, .int a), (2, .int (sRv σ)), (3, .int (nI n9))]) (fun n X => Soc D cs ρ (passN σ n) X) (show lv_has ls 4 [(0, .ref (r_h ρ)), (1, .int a), (2, .int (sRv σ)), (3, .int (nI 0))] from lv_sub hl [2, 3, 1, 0] rfl) hP hS (fun n9 ls H locs hn9 hP hS hl K9 => ?_) (fun ls H locs hP hS hl => ?_)
      · have hl : lv_has ls 4 [(0, .ref (r_h ρ)), (1, .int a), (2, .int (sRv σ)), (3, .int (nI n9))] := hl
        have hI9 := invS_pass hI n9 (by omega)
        have hk9 : sK (passN σ n9) = sK σ := k_pass σ n9
        obtain ⟨τ, hτ⟩ : ∃ τ, τ = passN σ n9 := ⟨_, rfl⟩
        rw [← hτ] at hP hI9 hk9
        have hap9 : AptA ρ (sK τ) := by rw [hk9]; exact hap
        refine lv_iload_n hx hb dX1_pass_28 rfl (lv_at hl 3 rfl) ?_
        refine lv_iload_n hx hb dX1_pass_29 rfl (lv_at hl 1 rfl) ?_
        refine lv_icmp_ge (tgt := 43) hx hb dX1_pass_30 (by decide) (fun c9 => absurd c9 ((by rw [hah]; exact nI_ge hn9 (by omega)))) (fun _ => ?_)
        refine lv_aload_n hx hb dX1_pass_33 rfl (lv_at hl 0 rfl) ?_
        refine va_callv (va_runV (As := []) (rest := []) ⟨hx, hb, hml, hown, hts⟩ (c_X1_passOneHour l D cs ρ hI9 (by omega) hap9 H) (cwV 0 hts gX1_pass_X1_passOneHour rfl rfl rfl (by decide +kernel) ⟨Nat.le_of_ble_eq_true rfl, Nat.le_of_ble_eq_true rfl⟩) (rb_V hK hN ⟨rfl, hP⟩ (va_recv hK (one_P hP.1) (ci := 2) (q0 := 0) rfl rfl)) rfl rfl hl.1 rfl (lv_room (Nat.le_of_ble_eq_true rfl)) dX1_pass_34 ⟨Nat.le_of_ble_eq_true rfl, Nat.le_of_ble_eq_true rfl⟩) hS (fun q _ h => ow_A hS q (hk9 ▸ h)) (fun q h => ow_A hS q (hk9 ▸ h)) (fun u t H locs ht hvm hw hB hz1 hk1 hS => ?_)
        rw [ht, hw] at hB
        have hP : Soc D cs ρ (hourS τ) H := hB
        refine lv_iinc (v := nI (n9 + 1)) (lv' := [(3, .int (nI (n9 + 1))), (0, .ref (r_h ρ)), (1, .int a), (2, .int (sRv σ))]) hx hb dX1_pass_37 hl (k := 3) rfl (nI_add _ 1) (by decide) rfl (fun ls hl => ?_)
        refine lv_goto (tgt := 28) hx hb dX1_pass_40 (by decide) ?_
        refine K9 ls _ _ ?_ hS ?_
        · subst hτ
          exact hP
        · show lv_has ls 4 [(0, .ref (r_h ρ)), (1, .int a), (2, .int (sRv σ)), (3, .int (nI (n9 + 1)))]
          exact lv_sub hl [1, 2, 3, 0] rfl
      · have hl : lv_has ls 4 [(0, .ref (r_h ρ)), (1, .int a), (2, .int (sRv σ)), (3, .int (nI h))] := hl
        have hI9 := invS_pass hI h (by omega)
        have hk9 : sK (passN σ h) = sK σ := k_pass σ h
        obtain ⟨τ, hτ⟩ : ∃ τ, τ = passN σ h := ⟨_, rfl⟩
        rw [← hτ] at hP hI9 hk9
        have hap9 : AptA ρ (sK τ) := by rw [hk9]; exact hap
        refine lv_iload_n hx hb dX1_pass_28 rfl (lv_at hl 3 rfl) ?_
        refine lv_iload_n hx hb dX1_pass_29 rfl (lv_at hl 1 rfl) ?_
        refine lv_icmp_ge (tgt := 43) hx hb dX1_pass_30 (by decide) (fun _ => ?_) (fun c9 => absurd ((by rw [hah]; exact nI_le (Nat.le_refl _) (by omega))) c9)
        refine lv_aload_n hx hb dX1_pass_43 rfl (lv_at hl 0 rfl) ?_
        refine va_get (D := D) (ci := 2) (v := .int (sRv τ)) (C := RX1) (T := TX1) (N := 4) hx hb hts in_X1_pass_X1 hown hK (one_P hP.1) 0 rfl rfl 3 (by decide) (hts (.fieldLink RX1 23 "ShadowSociety" "revokedInAll" "I") (List.mem_of_getElem? (i := 3) (by decide +kernel))) (fun _ h9 => h9) rfl dX1_pass_44 ?_
        refine lv_iload_n hx hb dX1_pass_47 rfl (lv_at hl 2 rfl) ?_
        refine lv_isub hx hb dX1_pass_48 ?_
        refine vx_ret ?_
        refine W.widen (k := 1) (n := 6) (Nat.le_of_ble_eq_true rfl) (Nat.le_of_ble_eq_true rfl) ?_
        exact W.iret (v := (sRv τ) - (sRv σ)) hx hb hr (fun t ht hW => ⟨⟨_, τ, rfl, (by subst hτ; unfold passO; rw [if_neg c_1, if_pos c_3, hah, nI_clamp (by omega)]), by show Soc D cs ρ _ t.heap; rw [ht]; exact hP⟩, hS.F ht⟩) hS.2.2 dX1_pass_49
    · obtain ⟨sa_4, hsa_4⟩ := hT.1 (120, "hours is not 1 to 72") (by decide +kernel)
      exact vx_throwS (names := nms2) (A := fun q => s.heap.size ≤ q) hx hb hlf hown (by decide +kernel) (by decide +kernel) (hts (.classLink RX1 26 "java/lang/IllegalArgumentException") (List.mem_of_getElem? (i := 1) (by decide +kernel))) (hts (.initialized "java/lang/IllegalArgumentException") (List.mem_of_getElem? (i := 2) (by decide +kernel))) hsa_4 (hat_eIae (fun w h9 => hts w (List.mem_cons_of_mem _ (List.mem_append_right _ h9))) hN) hgd_eIae hT.2.1 hT.2.2 hS (by rw [hml]; exact hl.1) dX1_pass_11 dX1_pass_14 dX1_pass_15 dX1_pass_17 dX1_pass_20 (fun x h9 => (hte x h9).elim) (Nat.le_of_ble_eq_true rfl) (Nat.le_of_ble_eq_true rfl) (Nat.le_of_ble_eq_true rfl) (Nat.le_of_ble_eq_true rfl) hlocks (fun t hA hz hk => ⟨(), trivial, (⟨rfl, (by unfold passO; (try dsimp only); rw [if_neg c_1]; rw [if_neg c_3]; first | done | rfl)⟩), hz, fun q h9 _ => hk q h9⟩) (fun z h9 => Or.inr (hS.2.2 z h9)) (Nat.le_of_ble_eq_true rfl) (Nat.le_of_ble_eq_true rfl)
theorem in_X1_borrow_X0 : ∀ w ∈ wsX00, w ∈ wsX1_borrow := by decide +kernel
set_option maxHeartbeats 4000000 in
set_option maxRecDepth 100000 in
/-- borrow -/
theorem x_X1_borrow (l : Launch) (hlf : l.stackTraces = false) (D : va_G) (cs : Cs) (ρ : Rf) {B : Nat} {σ : PS} (hI : InvS B σ) (hap : AptA ρ (sK σ)) (H0 : Heap) (a b : Int32) : vx_Met l yX1_borrow wsX1_borrow ({ frames := 7, cells := 3, slots := 18, locals := 103 }) (va_Pc [.ref (r_h ρ), .int a, .int b] (TBp D cs (fun X => X = H0 ∧ Soc D cs ρ σ X))) (va_Qi (fun (r : Int32) (u : PS) => borrO σ a b = (0, r, u)) (fun u t => Soc D cs ρ u t.heap) (ownA ρ (sK σ) H0)) (vx_X (fun _ : Unit => True) (fun E _ _ => xE1 E ((borrO σ a b).1)) (fun q => H0.size ≤ q)) 3 18 (ownA ρ (sK σ) H0) := by
  refine vx_ofW (cc := cX1_borrow) (maxL := 5) (ret := (some .int)) (by decide) rfl ?_
  intro p e s m args below meth c s₁ B0 hml hte hv
  obtain ⟨rfl, ⟨⟨hH, hP⟩, hK, hN⟩, hT⟩ := hv
  subst hH
  have hx := B0.exec
  have hb := B0.bytes
  have hr := B0.returns
  have hts := atoms_spec (ws := wsX1_borrow) B0.pre
  have hown : s.vm.findClass RX1 = some m.cls := findClass_of_methodNamed B0.named
  have hlocks := B0.notSynchronized
  have hJ := hap.1
  have hS : va_S (fun q => s.heap.size ≤ q) s.heap s.heap [] := va_S.rf
  have hl := lv_entry ([.ref (r_h ρ), .int a, .int b]) (n := 5) (Nat.le_of_ble_eq_true rfl)
  rw [lg_entry_eq]
  generalize (lg_sl ([.ref (r_h ρ), .int a, .int b]) ++ List.replicate (5 - (lg_sl ([.ref (r_h ρ), .int a, .int b])).length) Slot.unset).toArray = ls at hl ⊢
  have hl : lv_has ls 5 [(0, .ref (r_h ρ)), (1, .int a), (2, .int b)] := hl
  refine lv_aload_n hx hb dX1_borrow_0 rfl (lv_at hl 0 rfl) ?_
  refine lv_iload_n hx hb dX1_borrow_1 rfl (lv_at hl 1 rfl) ?_
  refine vx_callq (vx_runV (As := [.int a]) (rest := []) ⟨hx, hb, hml, hown, hts⟩ (x_X1_memberNumbered l hlf D cs ρ hI hap s.heap a) (cwV 1 hts gX1_borrow_X1_memberNumbered rfl rfl rfl (by decide +kernel) ⟨Nat.le_of_ble_eq_true rfl, Nat.le_of_ble_eq_true rfl⟩) (tb_V hK hN ⟨rfl, hP⟩ hT (Nat.le_refl _) (fun _ _ => rfl) (va_recv hK (one_P hP.1) (ci := 2) (q0 := 0) rfl rfl)) rfl rfl hl.1 rfl (lv_room (Nat.le_of_ble_eq_true rfl)) dX1_borrow_2 ⟨Nat.le_of_ble_eq_true rfl, Nat.le_of_ble_eq_true rfl⟩) hS (fun q _ h => h) (fun q h => h) (fun q _ h => h) (fun E ce q9 u t H1 locs ht hvm hu hB hz1 hk1 hS hce hcv hcl => ?_) (fun r u t H1 locs ht hvm hw hB hz1 hk1 hS => ?_)
  · exact vx_out (fun x h9 => (hte x h9).elim) hlocks hce hcv hcl (fun t2 ht2 _ => ⟨(), trivial, (Or.inl ⟨hB.1, (by unfold borrO; rw [hB.2]; first | done | rfl)⟩), by rw [ht2]; exact hz1, fun q h9 h8 => by rw [ht2]; exact hk1 q h9 h8⟩) (fun z h9 => Or.inr (hS.2.2 z h9)) (Nat.le_of_ble_eq_true rfl) (Nat.le_of_ble_eq_true rfl)
  · obtain ⟨i, hi, ha1, rfl⟩ := hw
    have hH1 : H1 = s.heap := ht.symm.trans hB
    subst hH1
    have hix1 : ixS σ a = some i := by rw [ha1]; exact ix_s hI hi
    refine lv_astore_n (lv' := [(3, .ref (r_a ρ i)), (0, .ref (r_h ρ)), (1, .int a), (2, .int b)]) hx hb dX1_borrow_5 rfl hl (by decide) rfl (fun ls hl => ?_)
    refine lv_aload_n hx hb dX1_borrow_6 rfl (lv_at hl 1 rfl) ?_
    refine lv_iload_n hx hb dX1_borrow_7 rfl (lv_at hl 3 rfl) ?_
    refine vx_callq (vx_runV (As := [.int b]) (rest := []) ⟨hx, hb, hml, hown, hts⟩ (x_X1_memberNumbered l hlf D cs ρ hI hap s.heap b) (cwV 1 hts gX1_borrow_X1_memberNumbered rfl rfl rfl (by decide +kernel) ⟨Nat.le_of_ble_eq_true rfl, Nat.le_of_ble_eq_true rfl⟩) (tb_V hK hN ⟨rfl, hP⟩ hT (Nat.le_refl _) (fun _ _ => rfl) (va_recv hK (one_P hP.1) (ci := 2) (q0 := 0) rfl rfl)) rfl rfl hl.1 rfl (lv_room (Nat.le_of_ble_eq_true rfl)) dX1_borrow_8 ⟨Nat.le_of_ble_eq_true rfl, Nat.le_of_ble_eq_true rfl⟩) hS (fun q _ h => h) (fun q h => h) (fun q _ h => h) (fun E ce q9 u t H1 locs ht hvm hu hB hz1 hk1 hS hce hcv hcl => ?_) (fun r u t H1 locs ht hvm hw hB hz1 hk1 hS => ?_)
    · exact vx_out (fun x h9 => (hte x h9).elim) hlocks hce hcv hcl (fun t2 ht2 _ => ⟨(), trivial, (Or.inl ⟨hB.1, (by unfold borrO; rw [hix1, hB.2]; first | done | rfl)⟩), by rw [ht2]; exact hz1, fun q h9 h8 => by rw [ht2]; exact hk1 q h9 h8⟩) (fun z h9 => Or.inr (hS.2.2 z h9)) (Nat.le_of_ble_eq_true rfl) (Nat.le_of_ble_eq_true rfl)
    · obtain ⟨i2, hi2, ha2, rfl⟩ := hw
      have hH1 : H1 = s.heap := ht.symm.trans hB
      subst hH1
      have hix2 : ixS σ b = some i2 := by rw [ha2]; exact ix_s hI hi2
      refine lv_astore (lv' := [(4, .ref (r_a ρ i2)), (3, .ref (r_a ρ i)), (0, .ref (r_h ρ)), (1, .int a), (2, .int b)]) hx hb dX1_borrow_11 hl (by decide) rfl (fun ls hl => ?_)
      refine lv_iload_n hx hb dX1_borrow_13 rfl (lv_at hl 3 rfl) ?_
      refine lv_iload_n hx hb dX1_borrow_14 rfl (lv_at hl 4 rfl) ?_
      refine lv_icmp_ne (tgt := 28) hx hb dX1_borrow_15 (by decide) (fun c_1 => ?_) (fun c_1 => ?_)
      · refine lv_aload_n hx hb dX1_borrow_28 rfl (lv_at hl 1 rfl) ?_
        refine lv_aload hx hb dX1_borrow_29 (lv_at hl 0 rfl) ?_
        refine vp_callSi (va_Run.run (va_runS (As := [.ref (r_a ρ i), .ref (r_a ρ i2)]) (rest := []) ⟨hx, hb, hml, hown, hts⟩ (c_X1_canBorrow l D cs ρ hI hJ i hi i2 hi2) (va_cwS 2 hts gX1_borrow_X1_canBorrow rfl rfl rfl (by decide +kernel) ⟨Nat.le_of_ble_eq_true rfl, Nat.le_of_ble_eq_true rfl⟩) (rb_S hK hN hP.2.2) rfl rfl hl.1 rfl (lv_room (Nat.le_of_ble_eq_true rfl)) dX1_borrow_31 ⟨Nat.le_of_ble_eq_true rfl, Nat.le_of_ble_eq_true rfl⟩)) (fun r_2 hr_2 => ?_)
        rw [hr_2]
        refine lv_if_ne (tgt := 47) hx hb dX1_borrow_34 (by decide) (fun c_3 => ?_) (fun c_3 => ?_)
        · refine lv_aload hx hb dX1_borrow_47 (lv_at hl 0 rfl) ?_
          refine lv_null hx hb dX1_borrow_49 ?_
          have hS := vs_up (B := ownA ρ (sK σ) s.heap) hS (fun q h => Or.inr h)
          refine va_putN (D := D) (ci := 1) (v := .null) (ty := (.object "ShadowSociety$Member")) (C := RX0) (T := TX0) (N := 9) hx hb hts in_X1_borrow_X0 tyX0 tyX0_ok nmX0 hown hK (soc_P hP) (soc_D hap (fun q h => Or.inl h)) hS (2 + i2) (socW_at hi2) rfl 5 (by decide) (Nst.use hN (w := .fieldLinkNest "ShadowSociety" 85 "ShadowSociety$Member" "hatOwner" "LShadowSociety$Member;" "ShadowSociety") (by decide +kernel)) (fun _ h9 => h9) rfl (by decide +kernel) rfl rfl (Nat.le_of_ble_eq_true rfl) dX1_borrow_50 (fun H locs hP hD hS => ?_)
          have hP : Soc D cs ρ (setWe σ (upd (sWe σ) i2 (-1))) H := P_soc (by rw [s_WeN (cs := cs) (ρ := ρ) (σ := σ) hi2] at hP; exact hP)
          have hI_4 : InvS B (setWe σ (upd (sWe σ) i2 (-1))) := invS_we hI (Or.inl rfl)
          refine lv_aload_n hx hb dX1_borrow_53 rfl (lv_at hl 1 rfl) ?_
          refine lv_aload hx hb dX1_borrow_54 (lv_at hl 0 rfl) ?_
          refine va_putN (D := D) (ci := 1) (v := .ref (r_a ρ i2)) (ty := (.object "ShadowSociety$Member")) (C := RX0) (T := TX0) (N := 9) hx hb hts in_X1_borrow_X0 tyX0 tyX0_ok nmX0 hown hK (soc_P hP) (soc_D hap (fun q h => Or.inl h)) hS (2 + i) (socW_at hi) rfl 5 (by decide) (Nst.use hN (w := .fieldLinkNest "ShadowSociety" 85 "ShadowSociety$Member" "hatOwner" "LShadowSociety$Member;" "ShadowSociety") (by decide +kernel)) (fun _ h9 => h9) rfl (by decide +kernel) rfl rfl (Nat.le_of_ble_eq_true rfl) dX1_borrow_56 (fun H locs hP hD hS => ?_)
          have hP : Soc D cs ρ (setWe (setWe σ (upd (sWe σ) i2 (-1))) (upd (sWe (setWe σ (upd (sWe σ) i2 (-1)))) i (nI i2))) H := P_soc (by rw [s_WeS (cs := cs) (ρ := ρ) (σ := setWe σ (upd (sWe σ) i2 (-1))) hi (by have := hI.1; omega)] at hP; exact hP)
          have hI_5 : InvS B (setWe (setWe σ (upd (sWe σ) i2 (-1))) (upd (sWe (setWe σ (upd (sWe σ) i2 (-1)))) i (nI i2))) := invS_we hI_4 (Or.inr ⟨_, hi2, rfl⟩)
          refine lv_aload hx hb dX1_borrow_59 (lv_at hl 0 rfl) ?_
          refine va_getN (D := D) (ci := 1) (v := .int (sHa (setWe (setWe σ (upd (sWe σ) i2 (-1))) (upd (sWe (setWe σ (upd (sWe σ) i2 (-1)))) i (nI i2))) i2)) (C := RX0) (T := TX0) (N := 9) hx hb hts in_X1_borrow_X0 hown hK (one_P (hP.2.2 i2 hi2)) 0 rfl rfl 2 (by decide) (Nst.use hN (w := .fieldLinkNest "ShadowSociety" 89 "ShadowSociety$Member" "hat" "I" "ShadowSociety") (by decide +kernel)) (fun _ h9 => h9) rfl dX1_borrow_61 ?_
          refine vx_ret ?_
          refine W.widen (k := 3) (n := 18) (Nat.le_of_ble_eq_true rfl) (Nat.le_of_ble_eq_true rfl) ?_
          exact W.iret (v := sHa (setWe (setWe σ (upd (sWe σ) i2 (-1))) (upd (sWe (setWe σ (upd (sWe σ) i2 (-1)))) i (nI i2))) i2) hx hb hr (fun t ht hW => ⟨⟨_, (setWe (setWe σ (upd (sWe σ) i2 (-1))) (upd (sWe (setWe σ (upd (sWe σ) i2 (-1)))) i (nI i2))), rfl, (by unfold borrO; rw [hix1, hix2]; (try dsimp only); rw [if_pos c_1]; rw [if_pos (b01_n.mp c_3)]; first | done | rfl), by show Soc D cs ρ _ t.heap; rw [ht]; exact hP⟩, hS.F ht⟩) hS.2.2 dX1_borrow_64
        · obtain ⟨sa_6, hsa_6⟩ := hT.1 (83, "this hat can't be borrowed now") (by decide +kernel)
          exact vx_throwS (names := nms2) (A := fun q => s.heap.size ≤ q) hx hb hlf hown (by decide +kernel) (by decide +kernel) (hts (.classLink RX1 39 "java/lang/IllegalStateException") (List.mem_of_getElem? (i := 3) (by decide +kernel))) (hts (.initialized "java/lang/IllegalStateException") (List.mem_of_getElem? (i := 4) (by decide +kernel))) hsa_6 (hat_eIse (fun w h9 => hts w (List.mem_cons_of_mem _ (List.mem_append_left _ (List.mem_append_right _ h9)))) hN) hgd_eIse hT.2.1 hT.2.2 hS (by rw [hml]; exact hl.1) dX1_borrow_37 dX1_borrow_40 dX1_borrow_41 dX1_borrow_43 dX1_borrow_46 (fun x h9 => (hte x h9).elim) (Nat.le_of_ble_eq_true rfl) (Nat.le_of_ble_eq_true rfl) (Nat.le_of_ble_eq_true rfl) (Nat.le_of_ble_eq_true rfl) hlocks (fun t hA hz hk => ⟨(), trivial, (Or.inr (Or.inr (⟨rfl, (by unfold borrO; rw [hix1, hix2]; (try dsimp only); rw [if_pos c_1]; rw [if_neg (b01_0.mp c_3)]; first | done | rfl)⟩))), hz, fun q h9 _ => hk q h9⟩) (fun z h9 => Or.inr (hS.2.2 z h9)) (Nat.le_of_ble_eq_true rfl) (Nat.le_of_ble_eq_true rfl)
      · obtain ⟨sa_7, hsa_7⟩ := hT.1 (77, "both are the same") (by decide +kernel)
        exact vx_throwS (names := nms2) (A := fun q => s.heap.size ≤ q) hx hb hlf hown (by decide +kernel) (by decide +kernel) (hts (.classLink RX1 26 "java/lang/IllegalArgumentException") (List.mem_of_getElem? (i := 1) (by decide +kernel))) (hts (.initialized "java/lang/IllegalArgumentException") (List.mem_of_getElem? (i := 2) (by decide +kernel))) hsa_7 (hat_eIae (fun w h9 => hts w (List.mem_cons_of_mem _ (List.mem_append_left _ (List.mem_append_left _ (List.mem_append_right _ h9))))) hN) hgd_eIae hT.2.1 hT.2.2 hS (by rw [hml]; exact hl.1) dX1_borrow_18 dX1_borrow_21 dX1_borrow_22 dX1_borrow_24 dX1_borrow_27 (fun x h9 => (hte x h9).elim) (Nat.le_of_ble_eq_true rfl) (Nat.le_of_ble_eq_true rfl) (Nat.le_of_ble_eq_true rfl) (Nat.le_of_ble_eq_true rfl) hlocks (fun t hA hz hk => ⟨(), trivial, (Or.inr (Or.inl ⟨rfl, (by unfold borrO; rw [hix1, hix2]; (try dsimp only); rw [if_neg (fun q => q c_1)]; first | done | rfl)⟩)), hz, fun q h9 _ => hk q h9⟩) (fun z h9 => Or.inr (hS.2.2 z h9)) (Nat.le_of_ble_eq_true rfl) (Nat.le_of_ble_eq_true rfl)
theorem in_X1_giveBack_X0 : ∀ w ∈ wsX00, w ∈ wsX1_giveBack := by decide +kernel
set_option maxHeartbeats 4000000 in
set_option maxRecDepth 100000 in
/-- giveBack -/
theorem x_X1_giveBack (l : Launch) (hlf : l.stackTraces = false) (D : va_G) (cs : Cs) (ρ : Rf) {B : Nat} {σ : PS} (hI : InvS B σ) (hap : AptA ρ (sK σ)) (H0 : Heap) (hT0 : InvT B σ) (a : Int32) : vx_Met l yX1_giveBack wsX1_giveBack ({ frames := 7, cells := 2, slots := 12, locals := 103 }) (va_Pc [.ref (r_h ρ), .int a] (TBp D cs (fun X => X = H0 ∧ Soc D cs ρ σ X))) (va_Qi (fun (r : Int32) (u : PS) => giveO σ a = (0, r, u)) (fun u t => Soc D cs ρ u t.heap) (ownA ρ (sK σ) H0)) (vx_X (fun _ : Unit => True) (fun E _ _ => xE2 E ((giveO σ a).1)) (fun q => H0.size ≤ q)) 2 12 (ownA ρ (sK σ) H0) := by
  refine vx_ofW (cc := cX1_giveBack) (maxL := 4) (ret := (some .int)) (by decide) rfl ?_
  intro p e s m args below meth c s₁ B0 hml hte hv
  obtain ⟨rfl, ⟨⟨hH, hP⟩, hK, hN⟩, hT⟩ := hv
  subst hH
  have hx := B0.exec
  have hb := B0.bytes
  have hr := B0.returns
  have hts := atoms_spec (ws := wsX1_giveBack) B0.pre
  have hown : s.vm.findClass RX1 = some m.cls := findClass_of_methodNamed B0.named
  have hlocks := B0.notSynchronized
  have hJ := hap.1
  have hS : va_S (fun q => s.heap.size ≤ q) s.heap s.heap [] := va_S.rf
  have hl := lv_entry ([.ref (r_h ρ), .int a]) (n := 4) (Nat.le_of_ble_eq_true rfl)
  rw [lg_entry_eq]
  generalize (lg_sl ([.ref (r_h ρ), .int a]) ++ List.replicate (4 - (lg_sl ([.ref (r_h ρ), .int a])).length) Slot.unset).toArray = ls at hl ⊢
  have hl : lv_has ls 4 [(0, .ref (r_h ρ)), (1, .int a)] := hl
  refine lv_aload_n hx hb dX1_giveBack_0 rfl (lv_at hl 0 rfl) ?_
  refine lv_iload_n hx hb dX1_giveBack_1 rfl (lv_at hl 1 rfl) ?_
  refine vx_callq (vx_runV (As := [.int a]) (rest := []) ⟨hx, hb, hml, hown, hts⟩ (x_X1_memberNumbered l hlf D cs ρ hI hap s.heap a) (cwV 1 hts gX1_giveBack_X1_memberNumbered rfl rfl rfl (by decide +kernel) ⟨Nat.le_of_ble_eq_true rfl, Nat.le_of_ble_eq_true rfl⟩) (tb_V hK hN ⟨rfl, hP⟩ hT (Nat.le_refl _) (fun _ _ => rfl) (va_recv hK (one_P hP.1) (ci := 2) (q0 := 0) rfl rfl)) rfl rfl hl.1 rfl (lv_room (Nat.le_of_ble_eq_true rfl)) dX1_giveBack_2 ⟨Nat.le_of_ble_eq_true rfl, Nat.le_of_ble_eq_true rfl⟩) hS (fun q _ h => h) (fun q h => h) (fun q _ h => h) (fun E ce q9 u t H1 locs ht hvm hu hB hz1 hk1 hS hce hcv hcl => ?_) (fun r u t H1 locs ht hvm hw hB hz1 hk1 hS => ?_)
  · exact vx_out (fun x h9 => (hte x h9).elim) hlocks hce hcv hcl (fun t2 ht2 _ => ⟨(), trivial, (Or.inl ⟨hB.1, (by unfold giveO; rw [hB.2]; first | done | rfl)⟩), by rw [ht2]; exact hz1, fun q h9 h8 => by rw [ht2]; exact hk1 q h9 h8⟩) (fun z h9 => Or.inr (hS.2.2 z h9)) (Nat.le_of_ble_eq_true rfl) (Nat.le_of_ble_eq_true rfl)
  · obtain ⟨i, hi, ha1, rfl⟩ := hw
    have hH1 : H1 = s.heap := ht.symm.trans hB
    subst hH1
    have hix1 : ixS σ a = some i := by rw [ha1]; exact ix_s hI hi
    refine lv_astore_n (lv' := [(2, .ref (r_a ρ i)), (0, .ref (r_h ρ)), (1, .int a)]) hx hb dX1_giveBack_5 rfl hl (by decide) rfl (fun ls hl => ?_)
    refine lv_aload_n hx hb dX1_giveBack_6 rfl (lv_at hl 0 rfl) ?_
    rcases wear_cases hI hi with w_2 | ⟨j_1, hj_1, w_2⟩
    · refine va_getN (D := D) (ci := 1) (v := .null) (C := RX0) (T := TX0) (N := 9) hx hb hts in_X1_giveBack_X0 hown hK (one_P (hP.2.2 i hi)) 0 rfl rfl 5 (by decide) (Nst.use hN (w := .fieldLinkNest "ShadowSociety" 85 "ShadowSociety$Member" "hatOwner" "LShadowSociety$Member;" "ShadowSociety") (by decide +kernel)) (fun _ h9 => h9) (memF_n w_2) dX1_giveBack_7 ?_
      refine lv_astore_nN (lv' := [(3, .null), (2, .ref (r_a ρ i)), (0, .ref (r_h ρ)), (1, .int a)]) hx hb dX1_giveBack_10 rfl hl (by decide) rfl (fun ls hl => ?_)
      refine lv_aload_nN hx hb dX1_giveBack_11 rfl (lv_at hl 0 rfl) ?_
      refine lv_ifnullN (tgt := 20) hx hb dX1_giveBack_12 (by decide) ?_
      obtain ⟨sa_3, hsa_3⟩ := hT.1 (92, "this one wears no borrowed hat") (by decide +kernel)
      exact vx_throwS (names := nms2) (A := fun q => s.heap.size ≤ q) hx hb hlf hown (by decide +kernel) (by decide +kernel) (hts (.classLink RX1 39 "java/lang/IllegalStateException") (List.mem_of_getElem? (i := 1) (by decide +kernel))) (hts (.initialized "java/lang/IllegalStateException") (List.mem_of_getElem? (i := 2) (by decide +kernel))) hsa_3 (hat_eIse (fun w h9 => hts w (List.mem_cons_of_mem _ (List.mem_append_left _ (List.mem_append_right _ h9)))) hN) hgd_eIse hT.2.1 hT.2.2 hS (by rw [hml]; exact hl.1) dX1_giveBack_20 dX1_giveBack_23 dX1_giveBack_24 dX1_giveBack_26 dX1_giveBack_29 (fun x h9 => (hte x h9).elim) (Nat.le_of_ble_eq_true rfl) (Nat.le_of_ble_eq_true rfl) (Nat.le_of_ble_eq_true rfl) (Nat.le_of_ble_eq_true rfl) hlocks (fun t hA hz hk => ⟨(), trivial, (Or.inr (⟨rfl, (by unfold giveO; rw [hix1]; (try dsimp only); rw [if_neg (fun q => q.1 w_2)]; first | done | rfl)⟩)), hz, fun q h9 _ => hk q h9⟩) (fun z h9 => Or.inr (hS.2.2 z h9)) (Nat.le_of_ble_eq_true rfl) (Nat.le_of_ble_eq_true rfl)
    · refine va_getN (D := D) (ci := 1) (v := .ref (r_a ρ j_1)) (C := RX0) (T := TX0) (N := 9) hx hb hts in_X1_giveBack_X0 hown hK (one_P (hP.2.2 i hi)) 0 rfl rfl 5 (by decide) (Nst.use hN (w := .fieldLinkNest "ShadowSociety" 85 "ShadowSociety$Member" "hatOwner" "LShadowSociety$Member;" "ShadowSociety") (by decide +kernel)) (fun _ h9 => h9) (memF_s hI hj_1 w_2) dX1_giveBack_7 ?_
      refine lv_astore_n (lv' := [(3, .ref (r_a ρ j_1)), (2, .ref (r_a ρ i)), (0, .ref (r_h ρ)), (1, .int a)]) hx hb dX1_giveBack_10 rfl hl (by decide) rfl (fun ls hl => ?_)
      refine lv_aload_n hx hb dX1_giveBack_11 rfl (lv_at hl 0 rfl) ?_
      refine lv_ifnull hx hb dX1_giveBack_12 ?_
      refine lv_aload_n hx hb dX1_giveBack_15 rfl (lv_at hl 0 rfl) ?_
      refine lv_aload_n hx hb dX1_giveBack_16 rfl (lv_at hl 1 rfl) ?_
      refine lv_acmp_ne (rx := some (r_a ρ j_1)) (ry := some (r_a ρ i)) (tgt := 30) hx hb dX1_giveBack_17 (by decide) (fun c_4 => ?_) (fun c_4 => ?_)
      · refine lv_aload_n hx hb dX1_giveBack_30 rfl (lv_at hl 1 rfl) ?_
        refine lv_null hx hb dX1_giveBack_31 ?_
        have hS := vs_up (B := ownA ρ (sK σ) s.heap) hS (fun q h => Or.inr h)
        refine va_putN (D := D) (ci := 1) (v := .null) (ty := (.object "ShadowSociety$Member")) (C := RX0) (T := TX0) (N := 9) hx hb hts in_X1_giveBack_X0 tyX0 tyX0_ok nmX0 hown hK (soc_P hP) (soc_D hap (fun q h => Or.inl h)) hS (2 + i) (socW_at hi) rfl 5 (by decide) (Nst.use hN (w := .fieldLinkNest "ShadowSociety" 85 "ShadowSociety$Member" "hatOwner" "LShadowSociety$Member;" "ShadowSociety") (by decide +kernel)) (fun _ h9 => h9) rfl (by decide +kernel) rfl rfl (Nat.le_of_ble_eq_true rfl) dX1_giveBack_32 (fun H locs hP hD hS => ?_)
        have hP : Soc D cs ρ (setWe σ (upd (sWe σ) i (-1))) H := P_soc (by rw [s_WeN (cs := cs) (ρ := ρ) (σ := σ) hi] at hP; exact hP)
        have hI_5 : InvS B (setWe σ (upd (sWe σ) i (-1))) := invS_we hI (Or.inl rfl)
        refine lv_aload_n hx hb dX1_giveBack_35 rfl (lv_at hl 0 rfl) ?_
        refine vp_callSi (va_Run.run (va_runVN (As := []) (rest := []) ⟨hx, hb, hml, hown, hts⟩ (c_X0_wearsBorrowedHat l D cs ρ hI_5 hap.1 j_1 hj_1) ⟨va_cnB 0 hts gX1_giveBack_X0_wearsBorrowedHat_n94 rfl rfl rfl (hN (.methodLinkNest "ShadowSociety" 94 ⟨"ShadowSociety$Member", "wearsBorrowedHat", "()Z"⟩ "ShadowSociety") (by decide +kernel)) (hts (.initialized RX0) (List.mem_of_getElem? (i := 36) (by decide +kernel))) (by decide +kernel) ⟨Nat.le_of_ble_eq_true rfl, Nat.le_of_ble_eq_true rfl⟩, hts (.instanceMethod yX0_wearsBorrowedHat) (List.mem_of_getElem? (i := 35) (by decide +kernel)), hts (.selects RX0 yX0_wearsBorrowedHat yX0_wearsBorrowedHat) (List.mem_of_getElem? (i := 37) (by decide +kernel))⟩ (rb_V hK hN hP.2.2 (va_recv hK (one_P (hP.2.2 j_1 hj_1)) (ci := 1) (q0 := 0) rfl rfl)) rfl rfl hl.1 rfl (lv_room (Nat.le_of_ble_eq_true rfl)) dX1_giveBack_36 ⟨Nat.le_of_ble_eq_true rfl, Nat.le_of_ble_eq_true rfl⟩)) (fun r_6 hr_6 => ?_)
        rw [hr_6]
        refine lv_if_ne (tgt := 46) hx hb dX1_giveBack_39 (by decide) (fun c_7 => ?_) (fun c_7 => ?_)
        · refine lv_aload_n hx hb dX1_giveBack_46 rfl (lv_at hl 2 rfl) ?_
          refine lv_aload_n hx hb dX1_giveBack_47 rfl (lv_at hl 1 rfl) ?_
          refine vp_callSi (va_Run.run (va_runV (As := [.ref (r_a ρ i)]) (rest := []) ⟨hx, hb, hml, hown, hts⟩ (c_X1_isHatLent l D cs ρ hI_5 hap.1 i hi) (cwV 1 hts gX1_giveBack_X1_isHatLent rfl rfl rfl (by decide +kernel) ⟨Nat.le_of_ble_eq_true rfl, Nat.le_of_ble_eq_true rfl⟩) (rb_V hK hN hP (va_recv hK (one_P hP.1) (ci := 2) (q0 := 0) rfl rfl)) rfl rfl hl.1 rfl (lv_room (Nat.le_of_ble_eq_true rfl)) dX1_giveBack_48 ⟨Nat.le_of_ble_eq_true rfl, Nat.le_of_ble_eq_true rfl⟩)) (fun r_8 hr_8 => ?_)
          rw [hr_8]
          refine lv_if_ne (tgt := 58) hx hb dX1_giveBack_51 (by decide) (fun c_9 => ?_) (fun c_9 => ?_)
          · refine lv_aload_n hx hb dX1_giveBack_58 rfl (lv_at hl 0 rfl) ?_
            refine va_getN (D := D) (ci := 1) (v := .int (nI j_1)) (C := RX0) (T := TX0) (N := 9) hx hb hts in_X1_giveBack_X0 hown hK (one_P (hP.2.2 j_1 hj_1)) 0 rfl rfl 0 (by decide) (Nst.use hN (w := .fieldLinkNest "ShadowSociety" 56 "ShadowSociety$Member" "number" "I" "ShadowSociety") (by decide +kernel)) (fun _ h9 => h9) rfl dX1_giveBack_59 ?_
            refine vx_ret ?_
            refine W.widen (k := 2) (n := 12) (Nat.le_of_ble_eq_true rfl) (Nat.le_of_ble_eq_true rfl) ?_
            exact W.iret (v := nI j_1) hx hb hr (fun t ht hW => ⟨⟨_, (setWe σ (upd (sWe σ) i (-1))), rfl, ((give_eq hT0 hi hj_1 hix1 w_2 (fun q => c_4 ((mem_iff hJ hj_1 hi).mpr q)) rfl (if_neg (fun q => q (b01_n.mp c_7))).symm).trans (by rw [if_neg (fun q => q (b01_n.mp c_9))])), by show Soc D cs ρ _ t.heap; rw [ht]; exact hP⟩, hS.F ht⟩) hS.2.2 dX1_giveBack_62
          · refine lv_aload_n hx hb dX1_giveBack_54 rfl (lv_at hl 1 rfl) ?_
            refine va_callv (va_runVN (As := []) (rest := []) ⟨hx, hb, hml, hown, hts⟩ (c_X0_putOnOwnHat l D cs (r_a ρ i) H (nI i) (sHe (setWe σ (upd (sWe σ) i (-1))) i) (sHa (setWe σ (upd (sWe σ) i (-1))) i) (sPu (setWe σ (upd (sWe σ) i (-1))) i) (sLa (setWe σ (upd (sWe σ) i (-1))) i) (ownO (r_a ρ) (sWe (setWe σ (upd (sWe σ) i (-1))) i)) (sCe (setWe σ (upd (sWe σ) i (-1))) i) (sAt (setWe σ (upd (sWe σ) i (-1))) i) (sLo (setWe σ (upd (sWe σ) i (-1))) i)) ⟨va_cnB 0 hts gX1_giveBack_X0_putOnOwnHat_n49 rfl rfl rfl (hN (.methodLinkNest "ShadowSociety" 49 ⟨"ShadowSociety$Member", "putOnOwnHat", "()V"⟩ "ShadowSociety") (by decide +kernel)) (hts (.initialized RX0) (List.mem_of_getElem? (i := 36) (by decide +kernel))) (by decide +kernel) ⟨Nat.le_of_ble_eq_true rfl, Nat.le_of_ble_eq_true rfl⟩, hts (.instanceMethod yX0_putOnOwnHat) (List.mem_of_getElem? (i := 40) (by decide +kernel)), hts (.selects RX0 yX0_putOnOwnHat yX0_putOnOwnHat) (List.mem_of_getElem? (i := 41) (by decide +kernel))⟩ (rb_V hK hN ⟨rfl, hP.2.2 i hi⟩ (va_recv hK (one_P (hP.2.2 i hi)) (ci := 1) (q0 := 0) rfl rfl)) rfl rfl hl.1 rfl (lv_room (Nat.le_of_ble_eq_true rfl)) dX1_giveBack_55 ⟨Nat.le_of_ble_eq_true rfl, Nat.le_of_ble_eq_true rfl⟩) hS (fun q _ h => po_A hS hi q h) (po_A hS hi) (fun u t H locs ht hvm hw hB hz1 hk1 hS => ?_)
            rw [ht] at hB
            have hP : Soc D cs ρ (setWe (setWe σ (upd (sWe σ) i (-1))) (upd (sWe (setWe σ (upd (sWe σ) i (-1)))) i (ownH (setWe σ (upd (sWe σ) i (-1))) i))) H := soc_one hP hap hi rfl rfl (fun _ h => m_We_o h) (po_at (by have := hI.1; omega) hB) hk1
            have hI_10 : InvS B (setWe (setWe σ (upd (sWe σ) i (-1))) (upd (sWe (setWe σ (upd (sWe σ) i (-1)))) i (ownH (setWe σ (upd (sWe σ) i (-1))) i))) := invS_we hI_5 (ownH_in hi)
            refine lv_aload_n hx hb dX1_giveBack_58 rfl (lv_at hl 0 rfl) ?_
            refine va_getN (D := D) (ci := 1) (v := .int (nI j_1)) (C := RX0) (T := TX0) (N := 9) hx hb hts in_X1_giveBack_X0 hown hK (one_P (hP.2.2 j_1 hj_1)) 0 rfl rfl 0 (by decide) (Nst.use hN (w := .fieldLinkNest "ShadowSociety" 56 "ShadowSociety$Member" "number" "I" "ShadowSociety") (by decide +kernel)) (fun _ h9 => h9) rfl dX1_giveBack_59 ?_
            refine vx_ret ?_
            refine W.widen (k := 2) (n := 12) (Nat.le_of_ble_eq_true rfl) (Nat.le_of_ble_eq_true rfl) ?_
            exact W.iret (v := nI j_1) hx hb hr (fun t ht hW => ⟨⟨_, (setWe (setWe σ (upd (sWe σ) i (-1))) (upd (sWe (setWe σ (upd (sWe σ) i (-1)))) i (ownH (setWe σ (upd (sWe σ) i (-1))) i))), rfl, ((give_eq hT0 hi hj_1 hix1 w_2 (fun q => c_4 ((mem_iff hJ hj_1 hi).mpr q)) rfl (if_neg (fun q => q (b01_n.mp c_7))).symm).trans (by rw [if_pos (b01_0.mp c_9)])), by show Soc D cs ρ _ t.heap; rw [ht]; exact hP⟩, hS.F ht⟩) hS.2.2 dX1_giveBack_62
        · refine lv_aload_n hx hb dX1_giveBack_42 rfl (lv_at hl 0 rfl) ?_
          refine va_callv (va_runVN (As := []) (rest := []) ⟨hx, hb, hml, hown, hts⟩ (c_X0_putOnOwnHat l D cs (r_a ρ j_1) H (nI j_1) (sHe (setWe σ (upd (sWe σ) i (-1))) j_1) (sHa (setWe σ (upd (sWe σ) i (-1))) j_1) (sPu (setWe σ (upd (sWe σ) i (-1))) j_1) (sLa (setWe σ (upd (sWe σ) i (-1))) j_1) (ownO (r_a ρ) (sWe (setWe σ (upd (sWe σ) i (-1))) j_1)) (sCe (setWe σ (upd (sWe σ) i (-1))) j_1) (sAt (setWe σ (upd (sWe σ) i (-1))) j_1) (sLo (setWe σ (upd (sWe σ) i (-1))) j_1)) ⟨va_cnB 0 hts gX1_giveBack_X0_putOnOwnHat_n49 rfl rfl rfl (hN (.methodLinkNest "ShadowSociety" 49 ⟨"ShadowSociety$Member", "putOnOwnHat", "()V"⟩ "ShadowSociety") (by decide +kernel)) (hts (.initialized RX0) (List.mem_of_getElem? (i := 36) (by decide +kernel))) (by decide +kernel) ⟨Nat.le_of_ble_eq_true rfl, Nat.le_of_ble_eq_true rfl⟩, hts (.instanceMethod yX0_putOnOwnHat) (List.mem_of_getElem? (i := 40) (by decide +kernel)), hts (.selects RX0 yX0_putOnOwnHat yX0_putOnOwnHat) (List.mem_of_getElem? (i := 41) (by decide +kernel))⟩ (rb_V hK hN ⟨rfl, hP.2.2 j_1 hj_1⟩ (va_recv hK (one_P (hP.2.2 j_1 hj_1)) (ci := 1) (q0 := 0) rfl rfl)) rfl rfl hl.1 rfl (lv_room (Nat.le_of_ble_eq_true rfl)) dX1_giveBack_43 ⟨Nat.le_of_ble_eq_true rfl, Nat.le_of_ble_eq_true rfl⟩) hS (fun q _ h => po_A hS hj_1 q h) (po_A hS hj_1) (fun u t H locs ht hvm hw hB hz1 hk1 hS => ?_)
          rw [ht] at hB
          have hP : Soc D cs ρ (setWe (setWe σ (upd (sWe σ) i (-1))) (upd (sWe (setWe σ (upd (sWe σ) i (-1)))) j_1 (ownH (setWe σ (upd (sWe σ) i (-1))) j_1))) H := soc_one hP hap hj_1 rfl rfl (fun _ h => m_We_o h) (po_at (by have := hI.1; omega) hB) hk1
          have hI_11 : InvS B (setWe (setWe σ (upd (sWe σ) i (-1))) (upd (sWe (setWe σ (upd (sWe σ) i (-1)))) j_1 (ownH (setWe σ (upd (sWe σ) i (-1))) j_1))) := invS_we hI_5 (ownH_in hj_1)
          refine lv_aload_n hx hb dX1_giveBack_46 rfl (lv_at hl 2 rfl) ?_
          refine lv_aload_n hx hb dX1_giveBack_47 rfl (lv_at hl 1 rfl) ?_
          refine vp_callSi (va_Run.run (va_runV (As := [.ref (r_a ρ i)]) (rest := []) ⟨hx, hb, hml, hown, hts⟩ (c_X1_isHatLent l D cs ρ hI_11 hap.1 i hi) (cwV 1 hts gX1_giveBack_X1_isHatLent rfl rfl rfl (by decide +kernel) ⟨Nat.le_of_ble_eq_true rfl, Nat.le_of_ble_eq_true rfl⟩) (rb_V hK hN hP (va_recv hK (one_P hP.1) (ci := 2) (q0 := 0) rfl rfl)) rfl rfl hl.1 rfl (lv_room (Nat.le_of_ble_eq_true rfl)) dX1_giveBack_48 ⟨Nat.le_of_ble_eq_true rfl, Nat.le_of_ble_eq_true rfl⟩)) (fun r_12 hr_12 => ?_)
          rw [hr_12]
          refine lv_if_ne (tgt := 58) hx hb dX1_giveBack_51 (by decide) (fun c_13 => ?_) (fun c_13 => ?_)
          · refine lv_aload_n hx hb dX1_giveBack_58 rfl (lv_at hl 0 rfl) ?_
            refine va_getN (D := D) (ci := 1) (v := .int (nI j_1)) (C := RX0) (T := TX0) (N := 9) hx hb hts in_X1_giveBack_X0 hown hK (one_P (hP.2.2 j_1 hj_1)) 0 rfl rfl 0 (by decide) (Nst.use hN (w := .fieldLinkNest "ShadowSociety" 56 "ShadowSociety$Member" "number" "I" "ShadowSociety") (by decide +kernel)) (fun _ h9 => h9) rfl dX1_giveBack_59 ?_
            refine vx_ret ?_
            refine W.widen (k := 2) (n := 12) (Nat.le_of_ble_eq_true rfl) (Nat.le_of_ble_eq_true rfl) ?_
            exact W.iret (v := nI j_1) hx hb hr (fun t ht hW => ⟨⟨_, (setWe (setWe σ (upd (sWe σ) i (-1))) (upd (sWe (setWe σ (upd (sWe σ) i (-1)))) j_1 (ownH (setWe σ (upd (sWe σ) i (-1))) j_1))), rfl, ((give_eq hT0 hi hj_1 hix1 w_2 (fun q => c_4 ((mem_iff hJ hj_1 hi).mpr q)) rfl (if_pos (b01_0.mp c_7)).symm).trans (by rw [if_neg (fun q => q (b01_n.mp c_13))])), by show Soc D cs ρ _ t.heap; rw [ht]; exact hP⟩, hS.F ht⟩) hS.2.2 dX1_giveBack_62
          · refine lv_aload_n hx hb dX1_giveBack_54 rfl (lv_at hl 1 rfl) ?_
            refine va_callv (va_runVN (As := []) (rest := []) ⟨hx, hb, hml, hown, hts⟩ (c_X0_putOnOwnHat l D cs (r_a ρ i) H (nI i) (sHe (setWe (setWe σ (upd (sWe σ) i (-1))) (upd (sWe (setWe σ (upd (sWe σ) i (-1)))) j_1 (ownH (setWe σ (upd (sWe σ) i (-1))) j_1))) i) (sHa (setWe (setWe σ (upd (sWe σ) i (-1))) (upd (sWe (setWe σ (upd (sWe σ) i (-1)))) j_1 (ownH (setWe σ (upd (sWe σ) i (-1))) j_1))) i) (sPu (setWe (setWe σ (upd (sWe σ) i (-1))) (upd (sWe (setWe σ (upd (sWe σ) i (-1)))) j_1 (ownH (setWe σ (upd (sWe σ) i (-1))) j_1))) i) (sLa (setWe (setWe σ (upd (sWe σ) i (-1))) (upd (sWe (setWe σ (upd (sWe σ) i (-1)))) j_1 (ownH (setWe σ (upd (sWe σ) i (-1))) j_1))) i) (ownO (r_a ρ) (sWe (setWe (setWe σ (upd (sWe σ) i (-1))) (upd (sWe (setWe σ (upd (sWe σ) i (-1)))) j_1 (ownH (setWe σ (upd (sWe σ) i (-1))) j_1))) i)) (sCe (setWe (setWe σ (upd (sWe σ) i (-1))) (upd (sWe (setWe σ (upd (sWe σ) i (-1)))) j_1 (ownH (setWe σ (upd (sWe σ) i (-1))) j_1))) i) (sAt (setWe (setWe σ (upd (sWe σ) i (-1))) (upd (sWe (setWe σ (upd (sWe σ) i (-1)))) j_1 (ownH (setWe σ (upd (sWe σ) i (-1))) j_1))) i) (sLo (setWe (setWe σ (upd (sWe σ) i (-1))) (upd (sWe (setWe σ (upd (sWe σ) i (-1)))) j_1 (ownH (setWe σ (upd (sWe σ) i (-1))) j_1))) i)) ⟨va_cnB 0 hts gX1_giveBack_X0_putOnOwnHat_n49 rfl rfl rfl (hN (.methodLinkNest "ShadowSociety" 49 ⟨"ShadowSociety$Member", "putOnOwnHat", "()V"⟩ "ShadowSociety") (by decide +kernel)) (hts (.initialized RX0) (List.mem_of_getElem? (i := 36) (by decide +kernel))) (by decide +kernel) ⟨Nat.le_of_ble_eq_true rfl, Nat.le_of_ble_eq_true rfl⟩, hts (.instanceMethod yX0_putOnOwnHat) (List.mem_of_getElem? (i := 40) (by decide +kernel)), hts (.selects RX0 yX0_putOnOwnHat yX0_putOnOwnHat) (List.mem_of_getElem? (i := 41) (by decide +kernel))⟩ (rb_V hK hN ⟨rfl, hP.2.2 i hi⟩ (va_recv hK (one_P (hP.2.2 i hi)) (ci := 1) (q0 := 0) rfl rfl)) rfl rfl hl.1 rfl (lv_room (Nat.le_of_ble_eq_true rfl)) dX1_giveBack_55 ⟨Nat.le_of_ble_eq_true rfl, Nat.le_of_ble_eq_true rfl⟩) hS (fun q _ h => po_A hS hi q h) (po_A hS hi) (fun u t H locs ht hvm hw hB hz1 hk1 hS => ?_)
            rw [ht] at hB
            have hP : Soc D cs ρ (setWe (setWe (setWe σ (upd (sWe σ) i (-1))) (upd (sWe (setWe σ (upd (sWe σ) i (-1)))) j_1 (ownH (setWe σ (upd (sWe σ) i (-1))) j_1))) (upd (sWe (setWe (setWe σ (upd (sWe σ) i (-1))) (upd (sWe (setWe σ (upd (sWe σ) i (-1)))) j_1 (ownH (setWe σ (upd (sWe σ) i (-1))) j_1)))) i (ownH (setWe (setWe σ (upd (sWe σ) i (-1))) (upd (sWe (setWe σ (upd (sWe σ) i (-1)))) j_1 (ownH (setWe σ (upd (sWe σ) i (-1))) j_1))) i))) H := soc_one hP hap hi rfl rfl (fun _ h => m_We_o h) (po_at (by have := hI.1; omega) hB) hk1
            have hI_14 : InvS B (setWe (setWe (setWe σ (upd (sWe σ) i (-1))) (upd (sWe (setWe σ (upd (sWe σ) i (-1)))) j_1 (ownH (setWe σ (upd (sWe σ) i (-1))) j_1))) (upd (sWe (setWe (setWe σ (upd (sWe σ) i (-1))) (upd (sWe (setWe σ (upd (sWe σ) i (-1)))) j_1 (ownH (setWe σ (upd (sWe σ) i (-1))) j_1)))) i (ownH (setWe (setWe σ (upd (sWe σ) i (-1))) (upd (sWe (setWe σ (upd (sWe σ) i (-1)))) j_1 (ownH (setWe σ (upd (sWe σ) i (-1))) j_1))) i))) := invS_we hI_11 (ownH_in hi)
            refine lv_aload_n hx hb dX1_giveBack_58 rfl (lv_at hl 0 rfl) ?_
            refine va_getN (D := D) (ci := 1) (v := .int (nI j_1)) (C := RX0) (T := TX0) (N := 9) hx hb hts in_X1_giveBack_X0 hown hK (one_P (hP.2.2 j_1 hj_1)) 0 rfl rfl 0 (by decide) (Nst.use hN (w := .fieldLinkNest "ShadowSociety" 56 "ShadowSociety$Member" "number" "I" "ShadowSociety") (by decide +kernel)) (fun _ h9 => h9) rfl dX1_giveBack_59 ?_
            refine vx_ret ?_
            refine W.widen (k := 2) (n := 12) (Nat.le_of_ble_eq_true rfl) (Nat.le_of_ble_eq_true rfl) ?_
            exact W.iret (v := nI j_1) hx hb hr (fun t ht hW => ⟨⟨_, (setWe (setWe (setWe σ (upd (sWe σ) i (-1))) (upd (sWe (setWe σ (upd (sWe σ) i (-1)))) j_1 (ownH (setWe σ (upd (sWe σ) i (-1))) j_1))) (upd (sWe (setWe (setWe σ (upd (sWe σ) i (-1))) (upd (sWe (setWe σ (upd (sWe σ) i (-1)))) j_1 (ownH (setWe σ (upd (sWe σ) i (-1))) j_1)))) i (ownH (setWe (setWe σ (upd (sWe σ) i (-1))) (upd (sWe (setWe σ (upd (sWe σ) i (-1)))) j_1 (ownH (setWe σ (upd (sWe σ) i (-1))) j_1))) i))), rfl, ((give_eq hT0 hi hj_1 hix1 w_2 (fun q => c_4 ((mem_iff hJ hj_1 hi).mpr q)) rfl (if_pos (b01_0.mp c_7)).symm).trans (by rw [if_pos (b01_0.mp c_13)])), by show Soc D cs ρ _ t.heap; rw [ht]; exact hP⟩, hS.F ht⟩) hS.2.2 dX1_giveBack_62
      · obtain ⟨sa_15, hsa_15⟩ := hT.1 (92, "this one wears no borrowed hat") (by decide +kernel)
        exact vx_throwS (names := nms2) (A := fun q => s.heap.size ≤ q) hx hb hlf hown (by decide +kernel) (by decide +kernel) (hts (.classLink RX1 39 "java/lang/IllegalStateException") (List.mem_of_getElem? (i := 1) (by decide +kernel))) (hts (.initialized "java/lang/IllegalStateException") (List.mem_of_getElem? (i := 2) (by decide +kernel))) hsa_15 (hat_eIse (fun w h9 => hts w (List.mem_cons_of_mem _ (List.mem_append_left _ (List.mem_append_right _ h9)))) hN) hgd_eIse hT.2.1 hT.2.2 hS (by rw [hml]; exact hl.1) dX1_giveBack_20 dX1_giveBack_23 dX1_giveBack_24 dX1_giveBack_26 dX1_giveBack_29 (fun x h9 => (hte x h9).elim) (Nat.le_of_ble_eq_true rfl) (Nat.le_of_ble_eq_true rfl) (Nat.le_of_ble_eq_true rfl) (Nat.le_of_ble_eq_true rfl) hlocks (fun t hA hz hk => ⟨(), trivial, (Or.inr (⟨rfl, (by unfold giveO; rw [hix1]; (try dsimp only); rw [if_neg (fun q => q.2 ((own_iff hI hJ hj_1 hi w_2).mp c_4))]; first | done | rfl)⟩)), hz, fun q h9 _ => hk q h9⟩) (fun z h9 => Or.inr (hS.2.2 z h9)) (Nat.le_of_ble_eq_true rfl) (Nat.le_of_ble_eq_true rfl)
