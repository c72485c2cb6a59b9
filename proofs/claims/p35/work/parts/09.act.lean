/-! SOMETHING DONE TO BOTH (laid by wip/p35/gen/act2.py) -/
theorem in_L_act_X2 : ∀ w ∈ wsX20, w ∈ wsL_act := by decide +kernel
theorem IA_eq {U : State} {c1 c2 : ClassId} (h1 : va_RA U c1 .int) (h2 : va_RA U c2 .int) : c1 = c2 := Option.some.inj (h1.symm.trans h2)
theorem ownB_k {ρ : Rf} {k1 k2 q : Nat} (e : k1 = k2) (h : ownB ρ k1 q) : ownB ρ k2 q := e ▸ h
set_option maxHeartbeats 8000000 in
set_option maxRecDepth 100000 in
/-- something that a number chooses, done to both, if it can be; it is told alike -/
theorem c_L_act (l : Launch) (hlf : l.stackTraces = false) (D : va_G) (cs : Cs) (ρ : Rf) (M : Mf) {B : Nat} {σ : PS} (hQ : InvQ B σ) (hB72 : B + 72 ≤ 40000) (hap : AptJ ρ M (sK σ)) (e0 : Nat) (he0 : sK σ = 0 → r_e ρ = e0) (H0 : Heap) (x : Int32) : vx_Met l yL_act wsL_act ({ frames := 8, cells := 6, slots := 60, locals := 162 }) (va_Pc [.ref (r_h ρ), .ref M.1, .int x] (JBp D cs ρ M σ e0 H0)) (va_Qi (fun (r : Int32) (u : PS × Rf × Mf) => r = 1 ∧ InvQ (B + 72) u.1 ∧ 0 < sK u.1) (fun u t => JQr D cs ρ M σ H0 u t.heap) (jA ρ M (sK σ) H0)) (vx_X (fun _ : Unit => False) (fun _ _ _ => True) (fun _ => False)) 6 60 (jA ρ M (sK σ) H0) := by
  refine vx_ofWH (cc := cL_act) (maxL := 9) (ret := (some .boolean)) (hh := [(17, 164, 618, 65), (165, 320, 618, 65), (321, 365, 618, 65), (366, 383, 618, 65), (384, 437, 618, 65), (438, 500, 618, 65), (501, 567, 618, 65), (568, 617, 618, 65)]) (by decide) rfl ?_
  intro p e s m args below meth c s₁ B0 hml hv
  obtain ⟨rfl, ⟨⟨hH, hP, hM⟩, hK, hN⟩, hO, hT, hE⟩ := hv
  subst hH
  have hx := B0.exec
  have hb := B0.bytes
  have hr := B0.returns
  have hts := atoms_spec (ws := wsL_act) B0.pre
  have htab := vx_table (x := yL_act) B0 (hts _ List.mem_cons_self)
  have hown : s.vm.findClass RL = some m.cls := findClass_of_methodNamed B0.named
  have hlocks := B0.notSynchronized
  have hTt := hQ.1
  have hI := hTt.1
  have hAj : ∀ q : Nat, s.heap.size ≤ q → jA ρ M (sK σ) s.heap q := fun _ h => Or.inr h
  have hS : va_S (jA ρ M (sK σ) s.heap) s.heap s.heap [] := va_S.rf
  have hl := lv_entry ([.ref (r_h ρ), .ref M.1, .int x]) (n := 9) (Nat.le_of_ble_eq_true rfl)
  rw [lg_entry_eq]
  generalize (lg_sl ([.ref (r_h ρ), .ref M.1, .int x]) ++ List.replicate (9 - (lg_sl ([.ref (r_h ρ), .ref M.1, .int x])).length) Slot.unset).toArray = ls at hl ⊢
  have hl : lv_has ls 9 [(0, .ref (r_h ρ)), (1, .ref M.1), (2, .int x)] := hl
  refine lv_aload_n hx hb dL_act_0 rfl (lv_at hl 1 rfl) ?_
  refine va_get (D := D) (ci := 3) (v := .ref M.2.1) (C := RX2) (T := TX2) (N := 4) hx hb hts in_L_act_X2 hown hK hM 0 rfl rfl 3 (by decide) (hts (.fieldLink RL 9 "ShadowSocietyLaw$Sim" "members" "[[I") (List.mem_of_getElem? (i := 2) (by decide +kernel))) (fun _ h9 => h9) rfl dL_act_1 ?_
  refine va_alen hx hb hK hM 1 2 rfl rfl (v := nI (sK σ)) rfl dL_act_4 ?_
  refine lv_istore_n (lv' := [(3, .int (nI (sK σ))), (0, .ref (r_h ρ)), (1, .ref M.1), (2, .int x)]) hx hb dL_act_5 rfl hl (by decide) rfl (fun ls hl => ?_)
  refine lv_iload_n hx hb dL_act_6 rfl (lv_at hl 3 rfl) ?_
  refine lv_bipush (v := 15) hx hb dL_act_7 (by decide) ?_
  refine vp_callSi (va_Run.run (va_runS (As := [.int x, .int (nI 15)]) (rest := []) ⟨hx, hb, hml, hown, hts⟩ (c_L_below l D cs x 15 (by decide) (by decide)) (va_cwS 2 hts gL_act_L_below rfl rfl rfl (by decide +kernel) ⟨Nat.le_of_ble_eq_true rfl, Nat.le_of_ble_eq_true rfl⟩) (rb_S hK hN trivial) rfl rfl hl.1 rfl (lv_room (Nat.le_of_ble_eq_true rfl)) dL_act_9 ⟨Nat.le_of_ble_eq_true rfl, Nat.le_of_ble_eq_true rfl⟩)) (fun r hr9 => ?_)
  obtain ⟨j1, hj1, e9⟩ := hr9
  rw [e9]
  refine lv_istore (lv' := [(4, .int (nI j1)), (3, .int (nI (sK σ))), (0, .ref (r_h ρ)), (1, .ref M.1), (2, .int x)]) hx hb dL_act_12 hl (by decide) rfl (fun ls hl => ?_)
  refine lv_iconst (v := 1) hx hb dL_act_14 (by decide) ?_
  refine lv_istore (lv' := [(5, .int 1), (4, .int (nI j1)), (3, .int (nI (sK σ))), (0, .ref (r_h ρ)), (1, .ref M.1), (2, .int x)]) hx hb dL_act_15 hl (by decide) rfl (fun ls hl => ?_)
  refine lv_iload_n hx hb dL_act_17 rfl (lv_at hl 2 rfl) ?_
  refine lv_cut (F0 m 26 ls []) ?_ (fun K26 => ?_)
  · refine lv_iconst (v := 1) hx hb dL_act_26 (by decide) ?_
    refine lv_iload_n hx hb dL_act_27 rfl (lv_at hl 5 rfl) ?_
    refine lv_iconst (v := 4) hx hb dL_act_28 (by decide) ?_
    refine lv_ishr hx hb dL_act_29 ?_
    refine lv_topi (fun v_2 _ => ?_)
    refine lv_bipush (v := 99) hx hb dL_act_30 (by decide) ?_
    refine vp_callSi (va_Run.run (va_runS (As := [.int v_2, .int (nI 99)]) (rest := [.int 1]) ⟨hx, hb, hml, hown, hts⟩ (c_L_below l D cs v_2 99 (by decide) (by decide)) (va_cwS 2 hts gL_act_L_below rfl rfl rfl (by decide +kernel) ⟨Nat.le_of_ble_eq_true rfl, Nat.le_of_ble_eq_true rfl⟩) (rb_S hK hN trivial) rfl rfl hl.1 rfl (lv_room (Nat.le_of_ble_eq_true rfl)) dL_act_32 ⟨Nat.le_of_ble_eq_true rfl, Nat.le_of_ble_eq_true rfl⟩)) (fun r hr9 => ?_)
    obtain ⟨j3, hj3, e9⟩ := hr9
    rw [e9]
    refine lv_iadd hx hb dL_act_35 ?_
    refine W.eq (g2 := F0 m 36 ls [.int (nI (1 + j3))]) (by rw [nI_1add]) ?_
    refine lv_istore (lv' := [(6, .int (nI (1 + j3))), (5, .int 1), (4, .int (nI j1)), (3, .int (nI (sK σ))), (0, .ref (r_h ρ)), (1, .ref M.1), (2, .int x)]) hx hb dL_act_36 hl (by decide) rfl (fun ls hl => ?_)
    refine lv_cutN 21 (fun y => F0 m 61 ls [.int (nI y)]) (fun y hy => ?_) (fun K61 => ?_)
    · refine lv_istore (lv' := [(7, .int (nI y)), (6, .int (nI (1 + j3))), (5, .int 1), (4, .int (nI j1)), (3, .int (nI (sK σ))), (0, .ref (r_h ρ)), (1, .ref M.1), (2, .int x)]) hx hb dL_act_61 hl (by decide) rfl (fun ls hl => ?_)
      refine lv_iload_n hx hb dL_act_63 rfl (lv_at hl 4 rfl) ?_
      refine lv_bipush (v := 10) hx hb dL_act_64 (by decide) ?_
      refine lv_icmp_ge (tgt := 73) hx hb dL_act_66 (by decide) (fun c_4 => ?_) (fun c_4 => ?_)
      · refine lv_iconst (v := 0) hx hb dL_act_73 (by decide) ?_
        refine lv_istore (lv' := [(5, .int 0), (7, .int (nI y)), (6, .int (nI (1 + j3))), (4, .int (nI j1)), (3, .int (nI (sK σ))), (0, .ref (r_h ρ)), (1, .ref M.1), (2, .int x)]) hx hb dL_act_74 hl (by decide) rfl (fun ls hl => ?_)
        refine lv_iload hx hb dL_act_76 (lv_at hl 0 rfl) ?_
        refine lv_if_eq (tgt := 142) hx hb dL_act_78 (by decide) (fun _ => ?_) (fun c9 => absurd (rfl) c9)
        refine lv_aload_n hx hb dL_act_142 rfl (lv_at hl 5 rfl) ?_
        refine lv_iload hx hb dL_act_143 (lv_at hl 2 rfl) ?_
        refine lv_iload hx hb dL_act_145 (lv_at hl 1 rfl) ?_
        have hop := join_no (σ := σ) hj3 hy c_4
        refine vx_calli (vx_runV (As := [.int (nI (1 + j3)), .int (nI y)]) (rest := []) ⟨hx, hb, hml, hown, hts⟩ (x_X1_join l hlf D cs ρ hTt hap.1 e0 he0 s.heap (nI (1 + j3)) (nI y)) (cwV 2 hts gL_act_X1_join rfl rfl rfl (by decide +kernel) ⟨Nat.le_of_ble_eq_true rfl, Nat.le_of_ble_eq_true rfl⟩) (tja_V hK hN ⟨rfl, hP⟩ hT hE hS hAj (fun q h => h.elim (fun h => Or.inl (Or.inl h)) (fun h => Or.inr (Nat.le_trans hS.1 h))) (va_recv hK (one_P hP.1) (ci := 2) (q0 := 0) rfl rfl)) rfl rfl hl.1 rfl (lv_room (Nat.le_of_ble_eq_true rfl)) dL_act_147 ⟨Nat.le_of_ble_eq_true rfl, Nat.le_of_ble_eq_true rfl⟩) hS (fun q _ h => h.elim (fun h => Or.inl (Or.inl h)) (fun h => Or.inr (Nat.le_trans hS.1 h))) (fun q h => h.elim (fun h => Or.inl (Or.inl h)) (fun h => Or.inr (Nat.le_trans hS.1 h))) (fun q _ h => Or.inr (Nat.le_trans hS.1 h)) (fun E ce q9 u t H locs ht hvm hu hB hz1 hk1 hS hce hcv hcl => ?_) (fun r u t H locs ht hvm hw hB hz1 hk1 hS => ?_)
        · have hEe := xE3_2 (show xE3 E 2 from by rw [hop] at hB; exact hB)
          subst hEe
          have hP := soc_kept hP (fun q _ h2 => hk1 q h2 (fun z => absurd z (Nat.not_le.mpr h2)))
          have hM := sim_kept hM (fun q _ h2 => hk1 q h2 (fun z => absurd z (Nat.not_le.mpr h2)))
          refine vx_catch hown [] ⟨17, 164, 618, 65⟩ [⟨165, 320, 618, 65⟩, ⟨321, 365, 618, 65⟩, ⟨366, 383, 618, 65⟩, ⟨384, 437, 618, 65⟩, ⟨438, 500, 618, 65⟩, ⟨501, 567, 618, 65⟩, ⟨568, 617, 618, 65⟩] (htab.trans rfl) (fun z hz => absurd hz List.not_mem_nil) (by decide) (by decide) (hts (.classLink RL 65 "java/lang/IllegalStateException") (List.mem_of_getElem? (i := 1) (by decide +kernel))) (hN.use (w := .castable eIse eIse) (by decide +kernel)) hce hcv hcl ?_
          refine lv_astore (lv' := [(6, .ref q9), (5, .int 0), (7, .int (nI y)), (4, .int (nI j1)), (3, .int (nI (sK σ))), (0, .ref (r_h ρ)), (1, .ref M.1), (2, .int x)]) hx hb dL_act_618 hl (by decide) rfl (fun ls hl => ?_)
          refine lv_iload hx hb dL_act_620 (lv_at hl 1 rfl) ?_
          refine lv_if_ne (tgt := 629) hx hb dL_act_622 (by decide) (fun c9 => absurd (rfl) c9) (fun _ => ?_)
          refine lv_iconst (v := 1) hx hb dL_act_625 (by decide) ?_
          refine lv_goto (tgt := 630) hx hb dL_act_626 (by decide) ?_
          refine vx_ret ?_
          refine W.widen (k := 6) (n := 60) (Nat.le_of_ble_eq_true rfl) (Nat.le_of_ble_eq_true rfl) ?_
          exact W.zret (ty := .boolean) (v := 1) hx hb hr rfl (fun t ht hW => ⟨⟨_, (σ, ρ, M), rfl, ⟨rfl, invQ_le hQ (by omega) hB72, (Nat.pos_of_ne_zero (fun q => by have h9 := c_4; rw [q] at h9; exact absurd h9 (by decide)))⟩, by show JQr D cs ρ M σ s.heap (σ, ρ, M) t.heap; rw [ht]; exact ⟨hP, hM, hap, rfl, rfl, fun q h => Or.inl h⟩⟩, hS.F ht⟩) hS.2.2 dL_act_630
        · exact (o_no hop hw).elim
      · refine lv_iconst (v := 1) hx hb dL_act_69 (by decide) ?_
        refine lv_goto (tgt := 74) hx hb dL_act_70 (by decide) ?_
        refine lv_istore (lv' := [(5, .int 1), (7, .int (nI y)), (6, .int (nI (1 + j3))), (4, .int (nI j1)), (3, .int (nI (sK σ))), (0, .ref (r_h ρ)), (1, .ref M.1), (2, .int x)]) hx hb dL_act_74 hl (by decide) rfl (fun ls hl => ?_)
        refine lv_iload hx hb dL_act_76 (lv_at hl 0 rfl) ?_
        refine lv_if_eq (tgt := 142) hx hb dL_act_78 (by decide) (fun c9 => absurd c9 (by decide)) (fun _ => ?_)
        have hk10 : sK σ < 10 := lt10_of hI (Int32.not_le.mp c_4)
        refine lv_aload_n hx hb dL_act_81 rfl (lv_at hl 6 rfl) ?_
        refine lv_aload_n hx hb dL_act_82 rfl (lv_at hl 6 rfl) ?_
        refine va_get (D := D) (ci := 3) (v := .ref M.2.1) (C := RX2) (T := TX2) (N := 4) hx hb hts in_L_act_X2 hown hK hM 0 rfl rfl 3 (by decide) (hts (.fieldLink RL 9 "ShadowSocietyLaw$Sim" "members" "[[I") (List.mem_of_getElem? (i := 2) (by decide +kernel))) (fun _ h9 => h9) rfl dL_act_83 ?_
        refine lv_bipush (v := 8) hx hb dL_act_86 (by decide) ?_
        refine va_newa (atype := .int) (ty := .int) (N' := 8) (a0 := (8, .inl (fun _ => 0))) hx hb (hts (.arrayClass .int) (List.mem_of_getElem? (i := 3) (by decide +kernel))) rfl hK (P_app hM (soc_P hP)) (J_D hap rfl) hS hAj (fun cA => rfl) (by decide) (by decide) (by show 8 * 4 ≤ 536870912; decide) (Nat.le_of_ble_eq_true rfl) (Nat.le_of_ble_eq_true rfl) dL_act_88 (fun L cA H hK9 hJ hDJ hS => ?_)
        obtain rfl := IA_eq (hK9.2 4 _ rfl).2 (hK9.2 0 _ rfl).2
        obtain ⟨hLA, hLn⟩ := D_appR hDJ
        have hJD : va_D (jA ρ M (sK σ) s.heap) ((L, .inl (cs.1, 8, .inl (fun _ => (0 : Int32)))) :: (simW cs M σ ++ socW cs ρ σ)) := D_cons hLA (J_D hap rfl) hLn
        have hJ : va_P D vwCl ((L, .inl (cs.1, 8, .inl (fun _ => (0 : Int32)))) :: (simW cs M σ ++ socW cs ρ σ)) H := P_cons (P_appR hJ) (P_appL hJ)
        refine lv_dup hx hb dL_act_90 rfl ?_
        refine lv_iconst (v := 0) hx hb dL_act_91 (by decide) ?_
        refine lv_iload hx hb dL_act_92 (lv_at hl 2 rfl) ?_
        refine va_iast hx hb hK hJ hJD hS 0 0 rfl rfl (by unfold vp_in; decide) dL_act_94 (fun H locs hJ hJD hS => ?_)
        have hJD : va_D (jA ρ M (sK σ) s.heap) ((L, .inl (cs.1, 8, .inl (upd (fun _ => (0 : Int32)) 0 (nI (1 + j3))))) :: (simW cs M σ ++ socW cs ρ σ)) := hJD
        have hJ : va_P D vwCl ((L, .inl (cs.1, 8, .inl (upd (fun _ => (0 : Int32)) 0 (nI (1 + j3))))) :: (simW cs M σ ++ socW cs ρ σ)) H := hJ
        refine lv_dup hx hb dL_act_95 rfl ?_
        refine lv_iconst (v := 1) hx hb dL_act_96 (by decide) ?_
        refine lv_iload hx hb dL_act_97 (lv_at hl 1 rfl) ?_
        refine va_iast hx hb hK hJ hJD hS 0 0 rfl rfl (by unfold vp_in; decide) dL_act_99 (fun H locs hJ hJD hS => ?_)
        have hJD : va_D (jA ρ M (sK σ) s.heap) ((L, .inl (cs.1, 8, .inl (upd (upd (fun _ => (0 : Int32)) 0 (nI (1 + j3))) 1 (nI y)))) :: (simW cs M σ ++ socW cs ρ σ)) := hJD
        have hJ : va_P D vwCl ((L, .inl (cs.1, 8, .inl (upd (upd (fun _ => (0 : Int32)) 0 (nI (1 + j3))) 1 (nI y)))) :: (simW cs M σ ++ socW cs ρ σ)) H := hJ
        refine lv_dup hx hb dL_act_100 rfl ?_
        refine lv_iconst (v := 2) hx hb dL_act_101 (by decide) ?_
        refine lv_bipush (v := 50) hx hb dL_act_102 (by decide) ?_
        refine va_iast hx hb hK hJ hJD hS 0 0 rfl rfl (by unfold vp_in; decide) dL_act_104 (fun H locs hJ hJD hS => ?_)
        have hJD : va_D (jA ρ M (sK σ) s.heap) ((L, .inl (cs.1, 8, .inl (upd (upd (upd (fun _ => (0 : Int32)) 0 (nI (1 + j3))) 1 (nI y)) 2 50))) :: (simW cs M σ ++ socW cs ρ σ)) := hJD
        have hJ : va_P D vwCl ((L, .inl (cs.1, 8, .inl (upd (upd (upd (fun _ => (0 : Int32)) 0 (nI (1 + j3))) 1 (nI y)) 2 50))) :: (simW cs M σ ++ socW cs ρ σ)) H := hJ
        refine lv_dup hx hb dL_act_105 rfl ?_
        refine lv_iconst (v := 3) hx hb dL_act_106 (by decide) ?_
        refine lv_iconst (v := 0) hx hb dL_act_107 (by decide) ?_
        refine va_iast hx hb hK hJ hJD hS 0 0 rfl rfl (by unfold vp_in; decide) dL_act_108 (fun H locs hJ hJD hS => ?_)
        have hJD : va_D (jA ρ M (sK σ) s.heap) ((L, .inl (cs.1, 8, .inl (upd (upd (upd (upd (fun _ => (0 : Int32)) 0 (nI (1 + j3))) 1 (nI y)) 2 50) 3 0))) :: (simW cs M σ ++ socW cs ρ σ)) := hJD
        have hJ : va_P D vwCl ((L, .inl (cs.1, 8, .inl (upd (upd (upd (upd (fun _ => (0 : Int32)) 0 (nI (1 + j3))) 1 (nI y)) 2 50) 3 0))) :: (simW cs M σ ++ socW cs ρ σ)) H := hJ
        refine lv_dup hx hb dL_act_109 rfl ?_
        refine lv_iconst (v := 4) hx hb dL_act_110 (by decide) ?_
        refine lv_iload hx hb dL_act_111 (lv_at hl 1 rfl) ?_
        refine lv_cut (F0 m 121 ls [.int (if 0 < nI y then nI (sK σ) else -1), .int 4, .ref L, .ref L, .ref M.2.1, .ref M.1]) ?_ (fun K121 => ?_)
        rotate_left
        · refine lv_if_le (tgt := 120) hx hb dL_act_113 (by decide) (fun c9 => ?_) (fun c9 => ?_)
          · rw [if_neg (fun q => Int32.not_le.mpr q c9)] at K121
            refine lv_iconst (v := -1) hx hb dL_act_120 (by decide) ?_
            exact K121
          · rw [if_pos (Int32.not_le.mp c9)] at K121
            refine lv_iload_n hx hb dL_act_116 rfl (lv_at hl 4 rfl) ?_
            refine lv_goto (tgt := 121) hx hb dL_act_117 (by decide) ?_
            exact K121
        refine va_iast hx hb hK hJ hJD hS 0 0 rfl rfl (by unfold vp_in; decide) dL_act_121 (fun H locs hJ hJD hS => ?_)
        have hJD : va_D (jA ρ M (sK σ) s.heap) ((L, .inl (cs.1, 8, .inl (upd (upd (upd (upd (upd (fun _ => (0 : Int32)) 0 (nI (1 + j3))) 1 (nI y)) 2 50) 3 0) 4 (if 0 < nI y then nI (sK σ) else -1)))) :: (simW cs M σ ++ socW cs ρ σ)) := hJD
        have hJ : va_P D vwCl ((L, .inl (cs.1, 8, .inl (upd (upd (upd (upd (upd (fun _ => (0 : Int32)) 0 (nI (1 + j3))) 1 (nI y)) 2 50) 3 0) 4 (if 0 < nI y then nI (sK σ) else -1)))) :: (simW cs M σ ++ socW cs ρ σ)) H := hJ
        refine lv_dup hx hb dL_act_122 rfl ?_
        refine lv_iconst (v := 5) hx hb dL_act_123 (by decide) ?_
        refine lv_iconst (v := -1) hx hb dL_act_124 (by decide) ?_
        refine va_iast hx hb hK hJ hJD hS 0 0 rfl rfl (by unfold vp_in; decide) dL_act_125 (fun H locs hJ hJD hS => ?_)
        have hJD : va_D (jA ρ M (sK σ) s.heap) ((L, .inl (cs.1, 8, .inl (upd (upd (upd (upd (upd (upd (fun _ => (0 : Int32)) 0 (nI (1 + j3))) 1 (nI y)) 2 50) 3 0) 4 (if 0 < nI y then nI (sK σ) else -1)) 5 (-1)))) :: (simW cs M σ ++ socW cs ρ σ)) := hJD
        have hJ : va_P D vwCl ((L, .inl (cs.1, 8, .inl (upd (upd (upd (upd (upd (upd (fun _ => (0 : Int32)) 0 (nI (1 + j3))) 1 (nI y)) 2 50) 3 0) 4 (if 0 < nI y then nI (sK σ) else -1)) 5 (-1)))) :: (simW cs M σ ++ socW cs ρ σ)) H := hJ
        refine lv_dup hx hb dL_act_126 rfl ?_
        refine lv_bipush (v := 6) hx hb dL_act_127 (by decide) ?_
        refine lv_iconst (v := 0) hx hb dL_act_129 (by decide) ?_
        refine va_iast hx hb hK hJ hJD hS 0 0 rfl rfl (by unfold vp_in; decide) dL_act_130 (fun H locs hJ hJD hS => ?_)
        have hJD : va_D (jA ρ M (sK σ) s.heap) ((L, .inl (cs.1, 8, .inl (upd (upd (upd (upd (upd (upd (upd (fun _ => (0 : Int32)) 0 (nI (1 + j3))) 1 (nI y)) 2 50) 3 0) 4 (if 0 < nI y then nI (sK σ) else -1)) 5 (-1)) 6 0))) :: (simW cs M σ ++ socW cs ρ σ)) := hJD
        have hJ : va_P D vwCl ((L, .inl (cs.1, 8, .inl (upd (upd (upd (upd (upd (upd (upd (fun _ => (0 : Int32)) 0 (nI (1 + j3))) 1 (nI y)) 2 50) 3 0) 4 (if 0 < nI y then nI (sK σ) else -1)) 5 (-1)) 6 0))) :: (simW cs M σ ++ socW cs ρ σ)) H := hJ
        refine lv_dup hx hb dL_act_131 rfl ?_
        refine lv_bipush (v := 7) hx hb dL_act_132 (by decide) ?_
        refine lv_iconst (v := 0) hx hb dL_act_134 (by decide) ?_
        refine va_iast hx hb hK hJ hJD hS 0 0 rfl rfl (by unfold vp_in; decide) dL_act_135 (fun H locs hJ hJD hS => ?_)
        have hJD : va_D (jA ρ M (sK σ) s.heap) ((L, .inl (cs.1, 8, .inl (upd (upd (upd (upd (upd (upd (upd (upd (fun _ => (0 : Int32)) 0 (nI (1 + j3))) 1 (nI y)) 2 50) 3 0) 4 (if 0 < nI y then nI (sK σ) else -1)) 5 (-1)) 6 0) 7 0))) :: (simW cs M σ ++ socW cs ρ σ)) := hJD
        have hJ : va_P D vwCl ((L, .inl (cs.1, 8, .inl (upd (upd (upd (upd (upd (upd (upd (upd (fun _ => (0 : Int32)) 0 (nI (1 + j3))) 1 (nI y)) 2 50) 3 0) 4 (if 0 < nI y then nI (sK σ) else -1)) 5 (-1)) 6 0) 7 0))) :: (simW cs M σ ++ socW cs ρ σ)) H := hJ
        have hrow := row_join (σ := σ) (a := (nI (1 + j3))) (b := (nI y)) hTt (upd (upd (upd (upd (upd (upd (upd (upd (fun _ => (0 : Int32)) 0 (nI (1 + j3))) 1 (nI y)) 2 50) 3 0) 4 (if 0 < nI y then nI (sK σ) else -1)) 5 (-1)) 6 0) 7 0) (by simp [upd]) (by simp [upd]) (by simp [upd]) (by simp [upd]) (by simp [upd]) (by simp [upd]) (by simp [upd]) (by simp [upd]) (fun n => by simp [upd])
        have hL : va_at D vwCl (L, .inl (cs.1, 8, .inl (rowF (joinS σ (nI (1 + j3)) (nI y)) (sK σ)))) H := by rw [← hrow]; exact P_head hJ
        have hM : va_P D vwCl (simW cs M σ) H := P_appL (P_tail hJ)
        have hP : Soc D cs ρ σ H := P_soc (P_appR2 (P_tail hJ))
        have hLs : ∀ q, ownS M (sK σ) q → q ≠ L := fun q h => by
          obtain ⟨k, y, hk, e⟩ := own_in (cs := cs) h
          rw [← e]
          exact hLn k y (J_at hk)
        have hLc : ∀ q, ownB ρ (sK σ) q → q ≠ L := fun q h => by
          obtain ⟨k, y, hk, e⟩ := own_at (cs := cs) h
          rw [← e]
          exact hLn ((simW cs M σ).length + k) y (by rw [List.getElem?_append_right (Nat.le_add_right _ _), Nat.add_sub_cancel_left]; exact hk)
        have hMz := sim_own_lt hM
        have hPz := soc_own_lt hP
        have hLz := hL.lt
        have hSz : s.heap.size ≤ H.size := hS.1
        refine va_callr (va_runS (As := [.ref M.2.1, .ref L]) (rest := [.ref M.1]) ⟨hx, hb, hml, hown, hts⟩ (c_X2_with l D cs H M.2.1 L (sK σ) hI.1 M.2.2 (fun i => rowF σ i) (rowF (joinS σ (nI (1 + j3)) (nI y)) (sK σ))) (va_cwS 2 hts gL_act_X2_with rfl rfl rfl (by decide +kernel) ⟨Nat.le_of_ble_eq_true rfl, Nat.le_of_ble_eq_true rfl⟩) (ao_S hK hN hO ⟨rfl, hM 1 _ rfl, fun i hi => hM _ _ (simW_at hi), hL⟩) rfl rfl hl.1 rfl (lv_room (Nat.le_of_ble_eq_true rfl)) dL_act_136 ⟨Nat.le_of_ble_eq_true rfl, Nat.le_of_ble_eq_true rfl⟩) hS (fun q _ h => Or.inr (Nat.le_trans hS.1 h)) (fun q h => Or.inr (Nat.le_trans hS.1 h)) (fun u N t H3 locs ht hvm hw hB hz1 hk1 hS => ?_)
        rw [ht] at hB
        obtain ⟨hNz, hNa⟩ := hB
        obtain ⟨hPv, hap3, hown3⟩ := sim_grow (τ := joinS σ (nI (1 + j3)) (nI y)) hM hap.2.1 hL hLs hNa hNz (fun q h => hk1 q h (Nat.not_le.mpr h)) rfl rfl (fun i hi => row_joinO hi)
        have hP : Soc D cs ρ σ H3 := soc_kept hP (fun q _ h2 => hk1 q h2 (fun z => absurd z (Nat.not_le.mpr h2)))
        have hdis : ∀ q, ownB ρ (sK σ) q → ¬ ownS (M.1, N, va_up M.2.2 (sK σ) L) (sK (joinS σ (nI (1 + j3)) (nI y))) q := fun q h1 h2 => by
          rcases hown3 q h2 with h | h | h
          · exact hap.2.2 q h1 h
          · exact hLc q h1 h
          · have := hPz q h1
            omega
        have hin3 : ∀ q, ownS (M.1, N, va_up M.2.2 (sK σ) L) (sK (joinS σ (nI (1 + j3)) (nI y))) q → jA ρ M (sK σ) s.heap q := fun q h => by
          rcases hown3 q h with h | h | h
          · exact Or.inl (Or.inr h)
          · rw [h]; exact hLA
          · rw [h]; exact Or.inr (Nat.le_trans hSz hNz)
        have hVD : va_D (jA ρ M (sK σ) s.heap) (simV cs (M.1, N, va_up M.2.2 (sK σ) L) (joinS σ (nI (1 + j3)) (nI y)) M.2.1 ++ socW cs ρ σ) := D_app (simV_D hap3 hin3) (soc_D hap.1 (fun q h => Or.inl (Or.inl h))) (fun i j xx yy hi hj e => by
          have a1 := (simV_D (cs := cs) (σ := (joinS σ (nI (1 + j3)) (nI y))) (A := ownS (M.1, N, va_up M.2.2 (sK σ) L) (sK (joinS σ (nI (1 + j3)) (nI y)))) (r := M.2.1) hap3 (fun q h => h)).2 i xx hi
          rw [e] at a1
          exact hdis _ (soc_own_of hj) a1)
        refine va_put (D := D) (ci := 3) (v := .ref N) (ty := (.array (.array .int))) (C := RX2) (T := TX2) (N := 4) hx hb hts in_L_act_X2 tyX2 tyX2_ok nmX2 hown hK (P_app hPv (soc_P hP)) hVD hS 0 rfl rfl 3 (by decide) (hts (.fieldLink RL 9 "ShadowSocietyLaw$Sim" "members" "[[I") (List.mem_of_getElem? (i := 2) (by decide +kernel))) (fun _ h9 => h9) rfl (by decide +kernel) rfl rfl (Nat.le_of_ble_eq_true rfl) dL_act_139 (fun H locs hJ hDJ hS => ?_)
        have hJ : va_P D vwCl (simW cs (M.1, N, va_up M.2.2 (sK σ) L) (joinS σ (nI (1 + j3)) (nI y)) ++ socW cs ρ σ) H := hJ
        have hM := P_appL hJ
        have hP : Soc D cs ρ σ H := P_soc (P_appR2 hJ)
        have hMz2 := sim_own_lt hM
        have hSz2 : s.heap.size ≤ H.size := hS.1
        refine lv_aload_n hx hb dL_act_142 rfl (lv_at hl 5 rfl) ?_
        refine lv_iload hx hb dL_act_143 (lv_at hl 2 rfl) ?_
        refine lv_iload hx hb dL_act_145 (lv_at hl 1 rfl) ?_
        have hop := join_ok (σ := σ) hj3 hy c_4
        refine vx_calli (vx_runV (As := [.int (nI (1 + j3)), .int (nI y)]) (rest := []) ⟨hx, hb, hml, hown, hts⟩ (x_X1_join l hlf D cs ρ hTt hap.1 e0 he0 H (nI (1 + j3)) (nI y)) (cwV 2 hts gL_act_X1_join rfl rfl rfl (by decide +kernel) ⟨Nat.le_of_ble_eq_true rfl, Nat.le_of_ble_eq_true rfl⟩) (tja_V hK hN ⟨rfl, hP⟩ hT hE hS hAj (fun q h => h.elim (fun h => Or.inl (Or.inl h)) (fun h => Or.inr (Nat.le_trans hS.1 h))) (va_recv hK (one_P hP.1) (ci := 2) (q0 := 0) rfl rfl)) rfl rfl hl.1 rfl (lv_room (Nat.le_of_ble_eq_true rfl)) dL_act_147 ⟨Nat.le_of_ble_eq_true rfl, Nat.le_of_ble_eq_true rfl⟩) hS (fun q _ h => h.elim (fun h => Or.inl (Or.inl h)) (fun h => Or.inr (Nat.le_trans hS.1 h))) (fun q h => h.elim (fun h => Or.inl (Or.inl h)) (fun h => Or.inr (Nat.le_trans hS.1 h))) (fun q _ h => Or.inr (Nat.le_trans hS.1 h)) (fun E ce q9 u t H locs ht hvm hu hB hz1 hk1 hS hce hcv hcl => ?_) (fun r u t H locs ht hvm hw hB hz1 hk1 hS => ?_)
        · exact (xE3_0 (show xE3 E 0 from by rw [hop] at hB; exact hB)).elim
        · obtain ⟨e1, e2⟩ := o_ok hop hw
          rw [e1]
          rw [ht] at hB
          obtain ⟨hP, hap2, hrh, hk2, hown2⟩ := hB
          rw [e2] at hP hap2 hk2 hown2
          have hM := sim_kept hM (fun q h hlt => hk1 q hlt (fun z => z.elim (fun z2 => hdis q z2 h) (fun z => absurd hlt (Nat.not_lt.mpr z))))
          refine lv_iload_n hx hb dL_act_150 rfl (lv_at hl 4 rfl) ?_
          refine lv_icmp_ne (tgt := 163) hx hb dL_act_151 (by decide) (fun c9 => absurd (rfl) c9) (fun _ => ?_)
          refine lv_iload hx hb dL_act_154 (lv_at hl 0 rfl) ?_
          refine lv_if_eq (tgt := 163) hx hb dL_act_156 (by decide) (fun c9 => absurd c9 (by decide)) (fun _ => ?_)
          refine lv_iconst (v := 1) hx hb dL_act_159 (by decide) ?_
          refine lv_goto (tgt := 164) hx hb dL_act_160 (by decide) ?_
          have hapJ : AptJ u.2 (M.1, N, va_up M.2.2 (sK σ) L) (sK (joinS σ (nI (1 + j3)) (nI y))) := ⟨hap2, hap3, fun q h1 h2 => (hown2 q h1).elim (fun h => hdis q h h2) (fun h => absurd (hMz2 q h2) (Nat.not_lt.mpr h))⟩
          have hownJ : ∀ q, ownJ u.2 (M.1, N, va_up M.2.2 (sK σ) L) (sK (joinS σ (nI (1 + j3)) (nI y))) q → ownJ ρ M (sK σ) q ∨ s.heap.size ≤ q := fun q h => h.elim (fun h => (hown2 q h).elim (fun h => Or.inl (Or.inl h)) (fun h => Or.inr (Nat.le_trans hSz2 h))) (fun h => hin3 q h)
          refine vx_ret ?_
          refine W.widen (k := 6) (n := 60) (Nat.le_of_ble_eq_true rfl) (Nat.le_of_ble_eq_true rfl) ?_
          exact W.zret (ty := .boolean) (v := 1) hx hb hr rfl (fun t ht hW => ⟨⟨_, (joinS σ (nI (1 + j3)) (nI y), u.2, (M.1, N, va_up M.2.2 (sK σ) L)), rfl, ⟨rfl, invQ_join hQ hB72 hj3 hy hk10, (Nat.succ_pos _)⟩, by show JQr D cs ρ M σ s.heap (joinS σ (nI (1 + j3)) (nI y), u.2, (M.1, N, va_up M.2.2 (sK σ) L)) t.heap; rw [ht]; exact ⟨hP, hM, hapJ, hrh, rfl, hownJ⟩⟩, hS.F ht⟩) hS.2.2 dL_act_164
    · refine lv_iload_n hx hb dL_act_38 rfl (lv_at hl 6 rfl) ?_
      refine lv_bipush (v := 6) hx hb dL_act_39 (by decide) ?_
      refine lv_ishr hx hb dL_act_41 ?_
      refine lv_topi (fun v_5 _ => ?_)
      refine lv_iconst (v := 3) hx hb dL_act_42 (by decide) ?_
      refine vp_callSi (va_Run.run (va_runS (As := [.int v_5, .int (nI 3)]) (rest := []) ⟨hx, hb, hml, hown, hts⟩ (c_L_below l D cs v_5 3 (by decide) (by decide)) (va_cwS 2 hts gL_act_L_below rfl rfl rfl (by decide +kernel) ⟨Nat.le_of_ble_eq_true rfl, Nat.le_of_ble_eq_true rfl⟩) (rb_S hK hN trivial) rfl rfl hl.1 rfl (lv_room (Nat.le_of_ble_eq_true rfl)) dL_act_43 ⟨Nat.le_of_ble_eq_true rfl, Nat.le_of_ble_eq_true rfl⟩)) (fun r hr9 => ?_)
      obtain ⟨j6, hj6, e9⟩ := hr9
      rw [e9]
      refine lv_if_ne (tgt := 53) hx hb dL_act_46 (by decide) (fun c_7 => ?_) (fun c_7 => ?_)
      · refine lv_iload_n hx hb dL_act_53 rfl (lv_at hl 6 rfl) ?_
        refine lv_iconst (v := 5) hx hb dL_act_54 (by decide) ?_
        refine lv_ishr hx hb dL_act_55 ?_
        refine lv_topi (fun v_8 _ => ?_)
        refine lv_bipush (v := 21) hx hb dL_act_56 (by decide) ?_
        refine vp_callSi (va_Run.run (va_runS (As := [.int v_8, .int (nI 21)]) (rest := []) ⟨hx, hb, hml, hown, hts⟩ (c_L_below l D cs v_8 21 (by decide) (by decide)) (va_cwS 2 hts gL_act_L_below rfl rfl rfl (by decide +kernel) ⟨Nat.le_of_ble_eq_true rfl, Nat.le_of_ble_eq_true rfl⟩) (rb_S hK hN trivial) rfl rfl hl.1 rfl (lv_room (Nat.le_of_ble_eq_true rfl)) dL_act_58 ⟨Nat.le_of_ble_eq_true rfl, Nat.le_of_ble_eq_true rfl⟩)) (fun r hr9 => ?_)
        obtain ⟨j9, hj9, e9⟩ := hr9
        rw [e9]
        exact K61 j9 hj9
      · refine lv_iconst (v := 0) hx hb dL_act_49 (by decide) ?_
        refine lv_goto (tgt := 61) hx hb dL_act_50 (by decide) ?_
        exact K61 0 (by decide)
  · refine lv_if_eq (tgt := 26) hx hb dL_act_18 (by decide) (fun c_10 => ?_) (fun c_10 => ?_)
    · exact K26
    · refine lv_iload hx hb dL_act_21 (lv_at hl 1 rfl) ?_
      refine lv_if_ne (tgt := 165) hx hb dL_act_23 (by decide) (fun c_11 => ?_) (fun c_11 => ?_)
      · have hk0 : 0 < sK σ := Nat.pos_of_ne_zero (fun q => c_10 (by rw [q]; rfl))
        refine lv_iload_n hx hb dL_act_165 rfl (lv_at hl 5 rfl) ?_
        refine lv_iconst (v := 3) hx hb dL_act_166 (by decide) ?_
        refine lv_ishr hx hb dL_act_167 ?_
        refine lv_topi (fun v_12 _ => ?_)
        refine lv_iload_n hx hb dL_act_168 rfl (lv_at hl 2 rfl) ?_
        refine vp_callSi (va_Run.run (va_runS (As := [.int v_12, .int (nI (sK σ))]) (rest := []) ⟨hx, hb, hml, hown, hts⟩ (c_L_below l D cs v_12 (sK σ) hk0 (by have := hI.1; omega)) (va_cwS 2 hts gL_act_L_below rfl rfl rfl (by decide +kernel) ⟨Nat.le_of_ble_eq_true rfl, Nat.le_of_ble_eq_true rfl⟩) (rb_S hK hN trivial) rfl rfl hl.1 rfl (lv_room (Nat.le_of_ble_eq_true rfl)) dL_act_169 ⟨Nat.le_of_ble_eq_true rfl, Nat.le_of_ble_eq_true rfl⟩)) (fun r hr9 => ?_)
        obtain ⟨j13, hj13, e9⟩ := hr9
        rw [e9]
        refine lv_istore (lv' := [(6, .int (nI j13)), (5, .int 1), (4, .int (nI j1)), (3, .int (nI (sK σ))), (0, .ref (r_h ρ)), (1, .ref M.1), (2, .int x)]) hx hb dL_act_172 hl (by decide) rfl (fun ls hl => ?_)
        refine lv_aload_n hx hb dL_act_174 rfl (lv_at hl 5 rfl) ?_
        refine va_get (D := D) (ci := 3) (v := .ref M.2.1) (C := RX2) (T := TX2) (N := 4) hx hb hts in_L_act_X2 hown hK hM 0 rfl rfl 3 (by decide) (hts (.fieldLink RL 9 "ShadowSocietyLaw$Sim" "members" "[[I") (List.mem_of_getElem? (i := 2) (by decide +kernel))) (fun _ h9 => h9) rfl dL_act_175 ?_
        refine lv_iload hx hb dL_act_178 (lv_at hl 0 rfl) ?_
        refine va_aldA hx hb hK hM 1 2 rfl rfl (vp_in_nI hj13 (Nat.lt_of_le_of_lt hI.1 (by decide))) (elm_at hj13 hI.1) dL_act_180 ?_
        refine lv_astore (lv' := [(7, .ref (M.2.2 j13)), (6, .int (nI j13)), (5, .int 1), (4, .int (nI j1)), (3, .int (nI (sK σ))), (0, .ref (r_h ρ)), (1, .ref M.1), (2, .int x)]) hx hb dL_act_181 hl (by decide) rfl (fun ls hl => ?_)
        refine lv_cut (F0 m 240 ls []) ?_ (fun K240 => ?_)
        · refine lv_iconst (v := 1) hx hb dL_act_240 (by decide) ?_
          refine lv_iload_n hx hb dL_act_241 rfl (lv_at hl 7 rfl) ?_
          refine lv_iconst (v := 5) hx hb dL_act_242 (by decide) ?_
          refine lv_ishr hx hb dL_act_243 ?_
          refine lv_topi (fun v_14 _ => ?_)
          refine lv_bipush (v := 9) hx hb dL_act_244 (by decide) ?_
          refine vp_callSi (va_Run.run (va_runS (As := [.int v_14, .int (nI 9)]) (rest := [.int 1]) ⟨hx, hb, hml, hown, hts⟩ (c_L_below l D cs v_14 9 (by decide) (by decide)) (va_cwS 2 hts gL_act_L_below rfl rfl rfl (by decide +kernel) ⟨Nat.le_of_ble_eq_true rfl, Nat.le_of_ble_eq_true rfl⟩) (rb_S hK hN trivial) rfl rfl hl.1 rfl (lv_room (Nat.le_of_ble_eq_true rfl)) dL_act_246 ⟨Nat.le_of_ble_eq_true rfl, Nat.le_of_ble_eq_true rfl⟩)) (fun r hr9 => ?_)
          obtain ⟨j15, hj15, e9⟩ := hr9
          rw [e9]
          refine lv_iadd hx hb dL_act_249 ?_
          refine W.eq (g2 := F0 m 250 ls [.int (nI (1 + j15))]) (by rw [nI_1add]) ?_
          refine lv_istore (lv' := [(8, .int (nI (1 + j15))), (7, .ref (M.2.2 j13)), (6, .int (nI j13)), (5, .int 1), (4, .int (nI j1)), (3, .int (nI (sK σ))), (0, .ref (r_h ρ)), (1, .ref M.1), (2, .int x)]) hx hb dL_act_250 hl (by decide) rfl (fun ls hl => ?_)
          refine lv_aload hx hb dL_act_252 (lv_at hl 1 rfl) ?_
          refine lv_iconst (v := 3) hx hb dL_act_254 (by decide) ?_
          refine va_iald hx hb hK hM (2 + j13) 0 (simW_at hj13) rfl (by unfold vp_in; decide) dL_act_255 ?_
          rw [show rowF σ j13 (3 : Int32).toNatClampNeg = sLa σ j13 from rfl]
          refine lv_if_ne (tgt := 272) hx hb dL_act_256 (by decide) (fun c_16 => ?_) (fun c_16 => ?_)
          · refine lv_iconst (v := 0) hx hb dL_act_272 (by decide) ?_
            refine lv_istore (lv' := [(5, .int 0), (8, .int (nI (1 + j15))), (7, .ref (M.2.2 j13)), (6, .int (nI j13)), (4, .int (nI j1)), (3, .int (nI (sK σ))), (0, .ref (r_h ρ)), (1, .ref M.1), (2, .int x)]) hx hb dL_act_273 hl (by decide) rfl (fun ls hl => ?_)
            refine lv_iload hx hb dL_act_275 (lv_at hl 0 rfl) ?_
            refine lv_if_eq (tgt := 295) hx hb dL_act_277 (by decide) (fun _ => ?_) (fun c9 => absurd (rfl) c9)
            refine lv_aload_n hx hb dL_act_295 rfl (lv_at hl 6 rfl) ?_
            refine lv_iload hx hb dL_act_296 (lv_at hl 3 rfl) ?_
            refine lv_iload hx hb dL_act_298 (lv_at hl 1 rfl) ?_
            have hop := buy_no hTt hj13 hj15 (Or.inl c_16)
            refine vx_calli (vx_runV (As := [.int (nI j13), .int (nI (1 + j15))]) (rest := []) ⟨hx, hb, hml, hown, hts⟩ (x_X1_buyLamp l hlf D cs ρ hI hap.1 s.heap (nI j13) (nI (1 + j15))) (cwV 2 hts gL_act_X1_buyLamp rfl rfl rfl (by decide +kernel) ⟨Nat.le_of_ble_eq_true rfl, Nat.le_of_ble_eq_true rfl⟩) (ta_V hK hN ⟨rfl, hP⟩ hT hS hAj (va_recv hK (one_P hP.1) (ci := 2) (q0 := 0) rfl rfl)) rfl rfl hl.1 rfl (lv_room (Nat.le_of_ble_eq_true rfl)) dL_act_300 ⟨Nat.le_of_ble_eq_true rfl, Nat.le_of_ble_eq_true rfl⟩) hS (fun q _ h => h.elim (fun h => Or.inl (Or.inl h)) (fun h => Or.inr (Nat.le_trans hS.1 h))) (fun q h => h.elim (fun h => Or.inl (Or.inl h)) (fun h => Or.inr (Nat.le_trans hS.1 h))) (fun q _ h => Or.inr (Nat.le_trans hS.1 h)) (fun E ce q9 u t H locs ht hvm hu hB hz1 hk1 hS hce hcv hcl => ?_) (fun r u t H locs ht hvm hw hB hz1 hk1 hS => ?_)
            · have hEe := xE1_3 (show xE1 E 3 from by rw [hop] at hB; exact hB)
              subst hEe
              have hP := soc_kept hP (fun q _ h2 => hk1 q h2 (fun z => absurd z (Nat.not_le.mpr h2)))
              have hM := sim_kept hM (fun q _ h2 => hk1 q h2 (fun z => absurd z (Nat.not_le.mpr h2)))
              refine vx_catch hown [⟨17, 164, 618, 65⟩] ⟨165, 320, 618, 65⟩ [⟨321, 365, 618, 65⟩, ⟨366, 383, 618, 65⟩, ⟨384, 437, 618, 65⟩, ⟨438, 500, 618, 65⟩, ⟨501, 567, 618, 65⟩, ⟨568, 617, 618, 65⟩] (htab.trans rfl) (fun z hz => Or.inl ((by decide : ∀ z ∈ ([⟨17, 164, 618, 65⟩] : List ExceptionTableEntry), covers z 300 = false) z hz)) (by decide) (by decide) (hts (.classLink RL 65 "java/lang/IllegalStateException") (List.mem_of_getElem? (i := 1) (by decide +kernel))) (hN.use (w := .castable eIse eIse) (by decide +kernel)) hce hcv hcl ?_
              refine lv_astore (lv' := [(6, .ref q9), (5, .int 0), (8, .int (nI (1 + j15))), (7, .ref (M.2.2 j13)), (4, .int (nI j1)), (3, .int (nI (sK σ))), (0, .ref (r_h ρ)), (1, .ref M.1), (2, .int x)]) hx hb dL_act_618 hl (by decide) rfl (fun ls hl => ?_)
              refine lv_iload hx hb dL_act_620 (lv_at hl 1 rfl) ?_
              refine lv_if_ne (tgt := 629) hx hb dL_act_622 (by decide) (fun c9 => absurd (rfl) c9) (fun _ => ?_)
              refine lv_iconst (v := 1) hx hb dL_act_625 (by decide) ?_
              refine lv_goto (tgt := 630) hx hb dL_act_626 (by decide) ?_
              refine vx_ret ?_
              refine W.widen (k := 6) (n := 60) (Nat.le_of_ble_eq_true rfl) (Nat.le_of_ble_eq_true rfl) ?_
              exact W.zret (ty := .boolean) (v := 1) hx hb hr rfl (fun t ht hW => ⟨⟨_, (σ, ρ, M), rfl, ⟨rfl, invQ_le hQ (by omega) hB72, hk0⟩, by show JQr D cs ρ M σ s.heap (σ, ρ, M) t.heap; rw [ht]; exact ⟨hP, hM, hap, rfl, rfl, fun q h => Or.inl h⟩⟩, hS.F ht⟩) hS.2.2 dL_act_630
            · exact (o_no hop hw).elim
          · refine lv_aload hx hb dL_act_259 (lv_at hl 1 rfl) ?_
            refine lv_iconst (v := 2) hx hb dL_act_261 (by decide) ?_
            refine va_iald hx hb hK hM (2 + j13) 0 (simW_at hj13) rfl (by unfold vp_in; decide) dL_act_262 ?_
            rw [show rowF σ j13 (2 : Int32).toNatClampNeg = sPu σ j13 from rfl]
            refine lv_iload hx hb dL_act_263 (lv_at hl 0 rfl) ?_
            refine lv_icmp_lt (tgt := 272) hx hb dL_act_265 (by decide) (fun c_17 => ?_) (fun c_17 => ?_)
            · refine lv_iconst (v := 0) hx hb dL_act_272 (by decide) ?_
              refine lv_istore (lv' := [(5, .int 0), (8, .int (nI (1 + j15))), (7, .ref (M.2.2 j13)), (6, .int (nI j13)), (4, .int (nI j1)), (3, .int (nI (sK σ))), (0, .ref (r_h ρ)), (1, .ref M.1), (2, .int x)]) hx hb dL_act_273 hl (by decide) rfl (fun ls hl => ?_)
              refine lv_iload hx hb dL_act_275 (lv_at hl 0 rfl) ?_
              refine lv_if_eq (tgt := 295) hx hb dL_act_277 (by decide) (fun _ => ?_) (fun c9 => absurd (rfl) c9)
              refine lv_aload_n hx hb dL_act_295 rfl (lv_at hl 6 rfl) ?_
              refine lv_iload hx hb dL_act_296 (lv_at hl 3 rfl) ?_
              refine lv_iload hx hb dL_act_298 (lv_at hl 1 rfl) ?_
              have hop := buy_no hTt hj13 hj15 (Or.inr c_17)
              refine vx_calli (vx_runV (As := [.int (nI j13), .int (nI (1 + j15))]) (rest := []) ⟨hx, hb, hml, hown, hts⟩ (x_X1_buyLamp l hlf D cs ρ hI hap.1 s.heap (nI j13) (nI (1 + j15))) (cwV 2 hts gL_act_X1_buyLamp rfl rfl rfl (by decide +kernel) ⟨Nat.le_of_ble_eq_true rfl, Nat.le_of_ble_eq_true rfl⟩) (ta_V hK hN ⟨rfl, hP⟩ hT hS hAj (va_recv hK (one_P hP.1) (ci := 2) (q0 := 0) rfl rfl)) rfl rfl hl.1 rfl (lv_room (Nat.le_of_ble_eq_true rfl)) dL_act_300 ⟨Nat.le_of_ble_eq_true rfl, Nat.le_of_ble_eq_true rfl⟩) hS (fun q _ h => h.elim (fun h => Or.inl (Or.inl h)) (fun h => Or.inr (Nat.le_trans hS.1 h))) (fun q h => h.elim (fun h => Or.inl (Or.inl h)) (fun h => Or.inr (Nat.le_trans hS.1 h))) (fun q _ h => Or.inr (Nat.le_trans hS.1 h)) (fun E ce q9 u t H locs ht hvm hu hB hz1 hk1 hS hce hcv hcl => ?_) (fun r u t H locs ht hvm hw hB hz1 hk1 hS => ?_)
              · have hEe := xE1_3 (show xE1 E 3 from by rw [hop] at hB; exact hB)
                subst hEe
                have hP := soc_kept hP (fun q _ h2 => hk1 q h2 (fun z => absurd z (Nat.not_le.mpr h2)))
                have hM := sim_kept hM (fun q _ h2 => hk1 q h2 (fun z => absurd z (Nat.not_le.mpr h2)))
                refine vx_catch hown [⟨17, 164, 618, 65⟩] ⟨165, 320, 618, 65⟩ [⟨321, 365, 618, 65⟩, ⟨366, 383, 618, 65⟩, ⟨384, 437, 618, 65⟩, ⟨438, 500, 618, 65⟩, ⟨501, 567, 618, 65⟩, ⟨568, 617, 618, 65⟩] (htab.trans rfl) (fun z hz => Or.inl ((by decide : ∀ z ∈ ([⟨17, 164, 618, 65⟩] : List ExceptionTableEntry), covers z 300 = false) z hz)) (by decide) (by decide) (hts (.classLink RL 65 "java/lang/IllegalStateException") (List.mem_of_getElem? (i := 1) (by decide +kernel))) (hN.use (w := .castable eIse eIse) (by decide +kernel)) hce hcv hcl ?_
                refine lv_astore (lv' := [(6, .ref q9), (5, .int 0), (8, .int (nI (1 + j15))), (7, .ref (M.2.2 j13)), (4, .int (nI j1)), (3, .int (nI (sK σ))), (0, .ref (r_h ρ)), (1, .ref M.1), (2, .int x)]) hx hb dL_act_618 hl (by decide) rfl (fun ls hl => ?_)
                refine lv_iload hx hb dL_act_620 (lv_at hl 1 rfl) ?_
                refine lv_if_ne (tgt := 629) hx hb dL_act_622 (by decide) (fun c9 => absurd (rfl) c9) (fun _ => ?_)
                refine lv_iconst (v := 1) hx hb dL_act_625 (by decide) ?_
                refine lv_goto (tgt := 630) hx hb dL_act_626 (by decide) ?_
                refine vx_ret ?_
                refine W.widen (k := 6) (n := 60) (Nat.le_of_ble_eq_true rfl) (Nat.le_of_ble_eq_true rfl) ?_
                exact W.zret (ty := .boolean) (v := 1) hx hb hr rfl (fun t ht hW => ⟨⟨_, (σ, ρ, M), rfl, ⟨rfl, invQ_le hQ (by omega) hB72, hk0⟩, by show JQr D cs ρ M σ s.heap (σ, ρ, M) t.heap; rw [ht]; exact ⟨hP, hM, hap, rfl, rfl, fun q h => Or.inl h⟩⟩, hS.F ht⟩) hS.2.2 dL_act_630
              · exact (o_no hop hw).elim
            · refine lv_iconst (v := 1) hx hb dL_act_268 (by decide) ?_
              refine lv_goto (tgt := 273) hx hb dL_act_269 (by decide) ?_
              refine lv_istore (lv' := [(5, .int 1), (8, .int (nI (1 + j15))), (7, .ref (M.2.2 j13)), (6, .int (nI j13)), (4, .int (nI j1)), (3, .int (nI (sK σ))), (0, .ref (r_h ρ)), (1, .ref M.1), (2, .int x)]) hx hb dL_act_273 hl (by decide) rfl (fun ls hl => ?_)
              refine lv_iload hx hb dL_act_275 (lv_at hl 0 rfl) ?_
              refine lv_if_eq (tgt := 295) hx hb dL_act_277 (by decide) (fun c9 => absurd c9 (by decide)) (fun _ => ?_)
              refine lv_aload hx hb dL_act_280 (lv_at hl 2 rfl) ?_
              refine lv_iconst (v := 3) hx hb dL_act_282 (by decide) ?_
              refine lv_iload hx hb dL_act_283 (lv_at hl 1 rfl) ?_
              refine va_iast hx hb hK (P_app hM (soc_P hP)) (J_D (σ := σ) hap rfl) hS (2 + j13) 0 (J_at (simW_at hj13)) rfl (by unfold vp_in; decide) dL_act_285 (fun H locs hJ hDJ hS => ?_)
              obtain ⟨hM, hPP⟩ := J_set (simW_at (σ := σ) hj13) hJ
              have hP : Soc D cs ρ σ H := P_soc hPP
              rw [show (3 : Int32).toNatClampNeg = 3 from rfl, t_La (σ := σ) hj13] at hM
              have hM : va_P D vwCl (simW cs M (setLa σ (upd (sLa σ) j13 (nI (1 + j15))))) H := hM
              refine lv_aload hx hb dL_act_286 (lv_at hl 2 rfl) ?_
              refine lv_iconst (v := 2) hx hb dL_act_288 (by decide) ?_
              refine lv_dup2_11 hx hb dL_act_289 rfl rfl ?_
              refine va_iald hx hb hK hM (2 + j13) 0 (simW_at hj13) rfl (by unfold vp_in; decide) dL_act_290 ?_
              rw [show rowF (setLa σ (upd (sLa σ) j13 (nI (1 + j15)))) j13 (2 : Int32).toNatClampNeg = sPu σ j13 from rfl]
              refine lv_iload hx hb dL_act_291 (lv_at hl 1 rfl) ?_
              refine lv_isub hx hb dL_act_293 ?_
              refine va_iast hx hb hK (P_app hM (soc_P hP)) (J_D (σ := σ) hap rfl) hS (2 + j13) 0 (J_at (simW_at hj13)) rfl (by unfold vp_in; decide) dL_act_294 (fun H locs hJ hDJ hS => ?_)
              obtain ⟨hM, hPP⟩ := J_set (simW_at (σ := (setLa σ (upd (sLa σ) j13 (nI (1 + j15))))) hj13) hJ
              have hP : Soc D cs ρ σ H := P_soc hPP
              rw [show (2 : Int32).toNatClampNeg = 2 from rfl, t_Pu (σ := (setLa σ (upd (sLa σ) j13 (nI (1 + j15))))) hj13] at hM
              have hM : va_P D vwCl (simW cs M (setPu (setLa σ (upd (sLa σ) j13 (nI (1 + j15)))) (upd (sPu σ) j13 ((sPu σ j13) - (nI (1 + j15)))))) H := hM
              refine lv_aload_n hx hb dL_act_295 rfl (lv_at hl 6 rfl) ?_
              refine lv_iload hx hb dL_act_296 (lv_at hl 3 rfl) ?_
              refine lv_iload hx hb dL_act_298 (lv_at hl 1 rfl) ?_
              have hop := buy_ok hI hj13 hj15 c_16 c_17
              refine vx_calli (vx_runV (As := [.int (nI j13), .int (nI (1 + j15))]) (rest := []) ⟨hx, hb, hml, hown, hts⟩ (x_X1_buyLamp l hlf D cs ρ hI hap.1 H (nI j13) (nI (1 + j15))) (cwV 2 hts gL_act_X1_buyLamp rfl rfl rfl (by decide +kernel) ⟨Nat.le_of_ble_eq_true rfl, Nat.le_of_ble_eq_true rfl⟩) (ta_V hK hN ⟨rfl, hP⟩ hT hS hAj (va_recv hK (one_P hP.1) (ci := 2) (q0 := 0) rfl rfl)) rfl rfl hl.1 rfl (lv_room (Nat.le_of_ble_eq_true rfl)) dL_act_300 ⟨Nat.le_of_ble_eq_true rfl, Nat.le_of_ble_eq_true rfl⟩) hS (fun q _ h => h.elim (fun h => Or.inl (Or.inl h)) (fun h => Or.inr (Nat.le_trans hS.1 h))) (fun q h => h.elim (fun h => Or.inl (Or.inl h)) (fun h => Or.inr (Nat.le_trans hS.1 h))) (fun q _ h => Or.inr (Nat.le_trans hS.1 h)) (fun E ce q9 u t H locs ht hvm hu hB hz1 hk1 hS hce hcv hcl => ?_) (fun r u t H locs ht hvm hw hB hz1 hk1 hS => ?_)
              · exact (xE1_0 (show xE1 E 0 from by rw [hop] at hB; exact hB)).elim
              · obtain ⟨e1, e2⟩ := o_ok hop hw
                rw [e1]
                rw [ht, e2] at hB
                have hP : Soc D cs ρ (setPu (setLa σ (upd (sLa σ) j13 (nI (1 + j15)))) (upd (sPu σ) j13 (sPu σ j13 - nI (1 + j15)))) H := hB
                have hM := sim_kept hM (fun q h hlt => hk1 q hlt (fun z => z.elim (fun z2 => hap.2.2 q z2 h) (fun z => absurd hlt (Nat.not_lt.mpr z))))
                refine lv_aload hx hb dL_act_303 (lv_at hl 2 rfl) ?_
                refine lv_iconst (v := 2) hx hb dL_act_305 (by decide) ?_
                refine va_iald hx hb hK hM (2 + j13) 0 (simW_at hj13) rfl (by unfold vp_in; decide) dL_act_306 ?_
                rw [show rowF (setPu (setLa σ (upd (sLa σ) j13 (nI (1 + j15)))) (upd (sPu σ) j13 ((sPu σ j13) - (nI (1 + j15))))) j13 (2 : Int32).toNatClampNeg = sPu (setPu (setLa σ (upd (sLa σ) j13 (nI (1 + j15)))) (upd (sPu σ) j13 ((sPu σ j13) - (nI (1 + j15))))) j13 from rfl]
                refine W.eq (g2 := F0 m 307 ls [.int ((sPu σ j13) - (nI (1 + j15))), .int (sPu σ j13 - nI (1 + j15))]) (by rw [show sPu (setPu (setLa σ (upd (sLa σ) j13 (nI (1 + j15)))) (upd (sPu σ) j13 ((sPu σ j13) - (nI (1 + j15))))) j13 = (sPu σ j13) - (nI (1 + j15)) from pk_us]) ?_
                refine lv_icmp_ne (tgt := 319) hx hb dL_act_307 (by decide) (fun c9 => absurd (rfl) c9) (fun _ => ?_)
                refine lv_iload hx hb dL_act_310 (lv_at hl 0 rfl) ?_
                refine lv_if_eq (tgt := 319) hx hb dL_act_312 (by decide) (fun c9 => absurd c9 (by decide)) (fun _ => ?_)
                refine lv_iconst (v := 1) hx hb dL_act_315 (by decide) ?_
                refine lv_goto (tgt := 320) hx hb dL_act_316 (by decide) ?_
                refine vx_ret ?_
                refine W.widen (k := 6) (n := 60) (Nat.le_of_ble_eq_true rfl) (Nat.le_of_ble_eq_true rfl) ?_
                exact W.zret (ty := .boolean) (v := 1) hx hb hr rfl (fun t ht hW => ⟨⟨_, (setPu (setLa σ (upd (sLa σ) j13 (nI (1 + j15)))) (upd (sPu σ) j13 ((sPu σ j13) - (nI (1 + j15)))), ρ, M), rfl, ⟨rfl, invQ_buy hQ hB72 hj13 hj15 c_16 c_17, hk0⟩, by show JQr D cs ρ M σ s.heap (setPu (setLa σ (upd (sLa σ) j13 (nI (1 + j15)))) (upd (sPu σ) j13 ((sPu σ j13) - (nI (1 + j15)))), ρ, M) t.heap; rw [ht]; exact ⟨hP, hM, hap, rfl, rfl, fun q h => Or.inl h⟩⟩, hS.F ht⟩) hS.2.2 dL_act_320
        refine lv_cut (F0 m 321 ls []) ?_ (fun K321 => ?_)
        · refine lv_aload hx hb dL_act_321 (lv_at hl 0 rfl) ?_
          refine lv_iconst (v := 3) hx hb dL_act_323 (by decide) ?_
          refine va_iald hx hb hK hM (2 + j13) 0 (simW_at hj13) rfl (by unfold vp_in; decide) dL_act_324 ?_
          rw [show rowF σ j13 (3 : Int32).toNatClampNeg = sLa σ j13 from rfl]
          refine lv_istore (lv' := [(8, .int (sLa σ j13)), (7, .ref (M.2.2 j13)), (6, .int (nI j13)), (5, .int 1), (4, .int (nI j1)), (3, .int (nI (sK σ))), (0, .ref (r_h ρ)), (1, .ref M.1), (2, .int x)]) hx hb dL_act_325 hl (by decide) rfl (fun ls hl => ?_)
          refine lv_iload hx hb dL_act_327 (lv_at hl 0 rfl) ?_
          refine lv_if_le (tgt := 336) hx hb dL_act_329 (by decide) (fun c_18 => ?_) (fun c_18 => ?_)
          · refine lv_iconst (v := 0) hx hb dL_act_336 (by decide) ?_
            refine lv_istore (lv' := [(5, .int 0), (8, .int (sLa σ j13)), (7, .ref (M.2.2 j13)), (6, .int (nI j13)), (4, .int (nI j1)), (3, .int (nI (sK σ))), (0, .ref (r_h ρ)), (1, .ref M.1), (2, .int x)]) hx hb dL_act_337 hl (by decide) rfl (fun ls hl => ?_)
            refine lv_aload hx hb dL_act_339 (lv_at hl 2 rfl) ?_
            refine lv_iconst (v := 3) hx hb dL_act_341 (by decide) ?_
            refine lv_iconst (v := 0) hx hb dL_act_342 (by decide) ?_
            refine va_iast hx hb hK (P_app hM (soc_P hP)) (J_D (σ := σ) hap rfl) hS (2 + j13) 0 (J_at (simW_at hj13)) rfl (by unfold vp_in; decide) dL_act_343 (fun H locs hJ hDJ hS => ?_)
            obtain ⟨hM, hPP⟩ := J_set (simW_at (σ := σ) hj13) hJ
            have hP : Soc D cs ρ σ H := P_soc hPP
            rw [show (3 : Int32).toNatClampNeg = 3 from rfl, t_La (σ := σ) hj13] at hM
            have hM : va_P D vwCl (simW cs M (setLa σ (upd (sLa σ) j13 0))) H := hM
            rw [drop_same hTt hj13 c_18] at hM
            refine lv_aload_n hx hb dL_act_344 rfl (lv_at hl 6 rfl) ?_
            refine lv_iload hx hb dL_act_345 (lv_at hl 3 rfl) ?_
            have hop := drop_no hTt hj13 c_18
            refine vx_calli (vx_runV (As := [.int (nI j13)]) (rest := []) ⟨hx, hb, hml, hown, hts⟩ (x_X1_dropLamp l hlf D cs ρ hI hap.1 H (nI j13)) (cwV 1 hts gL_act_X1_dropLamp rfl rfl rfl (by decide +kernel) ⟨Nat.le_of_ble_eq_true rfl, Nat.le_of_ble_eq_true rfl⟩) (ta_V hK hN ⟨rfl, hP⟩ hT hS hAj (va_recv hK (one_P hP.1) (ci := 2) (q0 := 0) rfl rfl)) rfl rfl hl.1 rfl (lv_room (Nat.le_of_ble_eq_true rfl)) dL_act_347 ⟨Nat.le_of_ble_eq_true rfl, Nat.le_of_ble_eq_true rfl⟩) hS (fun q _ h => h.elim (fun h => Or.inl (Or.inl h)) (fun h => Or.inr (Nat.le_trans hS.1 h))) (fun q h => h.elim (fun h => Or.inl (Or.inl h)) (fun h => Or.inr (Nat.le_trans hS.1 h))) (fun q _ h => Or.inr (Nat.le_trans hS.1 h)) (fun E ce q9 u t H locs ht hvm hu hB hz1 hk1 hS hce hcv hcl => ?_) (fun r u t H locs ht hvm hw hB hz1 hk1 hS => ?_)
            · have hEe := xE2_2 (show xE2 E 2 from by rw [hop] at hB; exact hB)
              subst hEe
              have hP := soc_kept hP (fun q _ h2 => hk1 q h2 (fun z => absurd z (Nat.not_le.mpr h2)))
              have hM := sim_kept hM (fun q _ h2 => hk1 q h2 (fun z => absurd z (Nat.not_le.mpr h2)))
              refine vx_catch hown [⟨17, 164, 618, 65⟩, ⟨165, 320, 618, 65⟩] ⟨321, 365, 618, 65⟩ [⟨366, 383, 618, 65⟩, ⟨384, 437, 618, 65⟩, ⟨438, 500, 618, 65⟩, ⟨501, 567, 618, 65⟩, ⟨568, 617, 618, 65⟩] (htab.trans rfl) (fun z hz => Or.inl ((by decide : ∀ z ∈ ([⟨17, 164, 618, 65⟩, ⟨165, 320, 618, 65⟩] : List ExceptionTableEntry), covers z 347 = false) z hz)) (by decide) (by decide) (hts (.classLink RL 65 "java/lang/IllegalStateException") (List.mem_of_getElem? (i := 1) (by decide +kernel))) (hN.use (w := .castable eIse eIse) (by decide +kernel)) hce hcv hcl ?_
              refine lv_astore (lv' := [(6, .ref q9), (5, .int 0), (8, .int (sLa σ j13)), (7, .ref (M.2.2 j13)), (4, .int (nI j1)), (3, .int (nI (sK σ))), (0, .ref (r_h ρ)), (1, .ref M.1), (2, .int x)]) hx hb dL_act_618 hl (by decide) rfl (fun ls hl => ?_)
              refine lv_iload hx hb dL_act_620 (lv_at hl 1 rfl) ?_
              refine lv_if_ne (tgt := 629) hx hb dL_act_622 (by decide) (fun c9 => absurd (rfl) c9) (fun _ => ?_)
              refine lv_iconst (v := 1) hx hb dL_act_625 (by decide) ?_
              refine lv_goto (tgt := 630) hx hb dL_act_626 (by decide) ?_
              refine vx_ret ?_
              refine W.widen (k := 6) (n := 60) (Nat.le_of_ble_eq_true rfl) (Nat.le_of_ble_eq_true rfl) ?_
              exact W.zret (ty := .boolean) (v := 1) hx hb hr rfl (fun t ht hW => ⟨⟨_, (σ, ρ, M), rfl, ⟨rfl, invQ_le hQ (by omega) hB72, hk0⟩, by show JQr D cs ρ M σ s.heap (σ, ρ, M) t.heap; rw [ht]; exact ⟨hP, hM, hap, rfl, rfl, fun q h => Or.inl h⟩⟩, hS.F ht⟩) hS.2.2 dL_act_630
            · exact (o_no hop hw).elim
          · refine lv_iconst (v := 1) hx hb dL_act_332 (by decide) ?_
            refine lv_goto (tgt := 337) hx hb dL_act_333 (by decide) ?_
            refine lv_istore (lv' := [(5, .int 1), (8, .int (sLa σ j13)), (7, .ref (M.2.2 j13)), (6, .int (nI j13)), (4, .int (nI j1)), (3, .int (nI (sK σ))), (0, .ref (r_h ρ)), (1, .ref M.1), (2, .int x)]) hx hb dL_act_337 hl (by decide) rfl (fun ls hl => ?_)
            refine lv_aload hx hb dL_act_339 (lv_at hl 2 rfl) ?_
            refine lv_iconst (v := 3) hx hb dL_act_341 (by decide) ?_
            refine lv_iconst (v := 0) hx hb dL_act_342 (by decide) ?_
            refine va_iast hx hb hK (P_app hM (soc_P hP)) (J_D (σ := σ) hap rfl) hS (2 + j13) 0 (J_at (simW_at hj13)) rfl (by unfold vp_in; decide) dL_act_343 (fun H locs hJ hDJ hS => ?_)
            obtain ⟨hM, hPP⟩ := J_set (simW_at (σ := σ) hj13) hJ
            have hP : Soc D cs ρ σ H := P_soc hPP
            rw [show (3 : Int32).toNatClampNeg = 3 from rfl, t_La (σ := σ) hj13] at hM
            have hM : va_P D vwCl (simW cs M (setLa σ (upd (sLa σ) j13 0))) H := hM
            refine lv_aload_n hx hb dL_act_344 rfl (lv_at hl 6 rfl) ?_
            refine lv_iload hx hb dL_act_345 (lv_at hl 3 rfl) ?_
            have hop := drop_ok hTt hj13 c_18
            refine vx_calli (vx_runV (As := [.int (nI j13)]) (rest := []) ⟨hx, hb, hml, hown, hts⟩ (x_X1_dropLamp l hlf D cs ρ hI hap.1 H (nI j13)) (cwV 1 hts gL_act_X1_dropLamp rfl rfl rfl (by decide +kernel) ⟨Nat.le_of_ble_eq_true rfl, Nat.le_of_ble_eq_true rfl⟩) (ta_V hK hN ⟨rfl, hP⟩ hT hS hAj (va_recv hK (one_P hP.1) (ci := 2) (q0 := 0) rfl rfl)) rfl rfl hl.1 rfl (lv_room (Nat.le_of_ble_eq_true rfl)) dL_act_347 ⟨Nat.le_of_ble_eq_true rfl, Nat.le_of_ble_eq_true rfl⟩) hS (fun q _ h => h.elim (fun h => Or.inl (Or.inl h)) (fun h => Or.inr (Nat.le_trans hS.1 h))) (fun q h => h.elim (fun h => Or.inl (Or.inl h)) (fun h => Or.inr (Nat.le_trans hS.1 h))) (fun q _ h => Or.inr (Nat.le_trans hS.1 h)) (fun E ce q9 u t H locs ht hvm hu hB hz1 hk1 hS hce hcv hcl => ?_) (fun r u t H locs ht hvm hw hB hz1 hk1 hS => ?_)
            · exact (xE2_0 (show xE2 E 0 from by rw [hop] at hB; exact hB)).elim
            · obtain ⟨e1, e2⟩ := o_ok hop hw
              rw [e1]
              rw [ht, e2] at hB
              have hP : Soc D cs ρ (setLa σ (upd (sLa σ) j13 0)) H := hB
              have hM := sim_kept hM (fun q h hlt => hk1 q hlt (fun z => z.elim (fun z2 => hap.2.2 q z2 h) (fun z => absurd hlt (Nat.not_lt.mpr z))))
              refine lv_iload hx hb dL_act_350 (lv_at hl 1 rfl) ?_
              refine lv_icmp_ne (tgt := 364) hx hb dL_act_352 (by decide) (fun c9 => absurd (rfl) c9) (fun _ => ?_)
              refine lv_iload hx hb dL_act_355 (lv_at hl 0 rfl) ?_
              refine lv_if_eq (tgt := 364) hx hb dL_act_357 (by decide) (fun c9 => absurd c9 (by decide)) (fun _ => ?_)
              refine lv_iconst (v := 1) hx hb dL_act_360 (by decide) ?_
              refine lv_goto (tgt := 365) hx hb dL_act_361 (by decide) ?_
              refine vx_ret ?_
              refine W.widen (k := 6) (n := 60) (Nat.le_of_ble_eq_true rfl) (Nat.le_of_ble_eq_true rfl) ?_
              exact W.zret (ty := .boolean) (v := 1) hx hb hr rfl (fun t ht hW => ⟨⟨_, (setLa σ (upd (sLa σ) j13 0), ρ, M), rfl, ⟨rfl, invQ_drop hQ hB72 hj13 c_18, hk0⟩, by show JQr D cs ρ M σ s.heap (setLa σ (upd (sLa σ) j13 0), ρ, M) t.heap; rw [ht]; exact ⟨hP, hM, hap, rfl, rfl, fun q h => Or.inl h⟩⟩, hS.F ht⟩) hS.2.2 dL_act_365
        refine lv_cut (F0 m 366 ls []) ?_ (fun K366 => ?_)
        · refine lv_iload_n hx hb dL_act_366 rfl (lv_at hl 7 rfl) ?_
          refine lv_iconst (v := 5) hx hb dL_act_367 (by decide) ?_
          refine lv_ishr hx hb dL_act_368 ?_
          refine lv_topi (fun v_19 _ => ?_)
          refine lv_iload_n hx hb dL_act_369 rfl (lv_at hl 4 rfl) ?_
          refine vp_callSi (va_Run.run (va_runS (As := [.int v_19, .int (nI (sK σ))]) (rest := []) ⟨hx, hb, hml, hown, hts⟩ (c_L_below l D cs v_19 (sK σ) hk0 (by have := hI.1; omega)) (va_cwS 2 hts gL_act_L_below rfl rfl rfl (by decide +kernel) ⟨Nat.le_of_ble_eq_true rfl, Nat.le_of_ble_eq_true rfl⟩) (rb_S hK hN trivial) rfl rfl hl.1 rfl (lv_room (Nat.le_of_ble_eq_true rfl)) dL_act_370 ⟨Nat.le_of_ble_eq_true rfl, Nat.le_of_ble_eq_true rfl⟩)) (fun r hr9 => ?_)
          obtain ⟨j20, hj20, e9⟩ := hr9
          rw [e9]
          refine lv_istore (lv' := [(8, .int (nI j20)), (7, .ref (M.2.2 j13)), (6, .int (nI j13)), (5, .int 1), (4, .int (nI j1)), (3, .int (nI (sK σ))), (0, .ref (r_h ρ)), (1, .ref M.1), (2, .int x)]) hx hb dL_act_373 hl (by decide) rfl (fun ls hl => ?_)
          refine lv_iload hx hb dL_act_375 (lv_at hl 0 rfl) ?_
          refine lv_iload hx hb dL_act_377 (lv_at hl 2 rfl) ?_
          refine lv_icmp_ne (tgt := 384) hx hb dL_act_379 (by decide) (fun c_21 => ?_) (fun c_21 => ?_)
          · refine lv_aload_n hx hb dL_act_384 rfl (lv_at hl 7 rfl) ?_
            refine lv_iload hx hb dL_act_385 (lv_at hl 2 rfl) ?_
            refine lv_iload hx hb dL_act_387 (lv_at hl 0 rfl) ?_
            refine vp_callSi (va_Run.run (va_runV (As := [.int (nI j13), .int (nI j20)]) (rest := []) ⟨hx, hb, hml, hown, hts⟩ (c_X2_canBorrow l D cs M hI j13 hj13 j20 hj20) (cwV 2 hts gL_act_X2_canBorrow rfl rfl rfl (by decide +kernel) ⟨Nat.le_of_ble_eq_true rfl, Nat.le_of_ble_eq_true rfl⟩) (rb_V hK hN hM (va_recv hK hM (ci := 3) (q0 := 0) rfl rfl)) rfl rfl hl.1 rfl (lv_room (Nat.le_of_ble_eq_true rfl)) dL_act_389 ⟨Nat.le_of_ble_eq_true rfl, Nat.le_of_ble_eq_true rfl⟩)) (fun r_22 hr_22 => ?_)
            rw [hr_22]
            by_cases hcan : canM σ j13 j20
            · refine W.eq (g2 := F0 m 392 ls [.int 1]) (by rw [b01_t hcan]) ?_
              refine lv_istore (lv' := [(5, .int 1), (8, .int (nI j20)), (7, .ref (M.2.2 j13)), (6, .int (nI j13)), (4, .int (nI j1)), (3, .int (nI (sK σ))), (0, .ref (r_h ρ)), (1, .ref M.1), (2, .int x)]) hx hb dL_act_392 hl (by decide) rfl (fun ls hl => ?_)
              refine lv_iload hx hb dL_act_394 (lv_at hl 0 rfl) ?_
              refine lv_if_eq (tgt := 407) hx hb dL_act_396 (by decide) (fun c9 => absurd c9 (by decide)) (fun _ => ?_)
              refine lv_aload_n hx hb dL_act_399 rfl (lv_at hl 7 rfl) ?_
              refine lv_iload hx hb dL_act_400 (lv_at hl 3 rfl) ?_
              refine lv_iload hx hb dL_act_402 (lv_at hl 1 rfl) ?_
              refine va_callv (va_runV (As := [.int (nI j13), .int (nI j20)]) (rest := []) ⟨hx, hb, hml, hown, hts⟩ (c_X2_borrow l D cs M hI hap.2.1 s.heap j13 hj13 j20 hj20) (cwV 2 hts gL_act_X2_borrow rfl rfl rfl (by decide +kernel) ⟨Nat.le_of_ble_eq_true rfl, Nat.le_of_ble_eq_true rfl⟩) (rb_V hK hN ⟨rfl, hM⟩ (va_recv hK hM (ci := 3) (q0 := 0) rfl rfl)) rfl rfl hl.1 rfl (lv_room (Nat.le_of_ble_eq_true rfl)) dL_act_404 ⟨Nat.le_of_ble_eq_true rfl, Nat.le_of_ble_eq_true rfl⟩) hS (fun q _ h => h.elim (fun h => Or.inl (Or.inr h)) (fun h => Or.inr (Nat.le_trans hS.1 h))) (fun q h => h.elim (fun h => Or.inl (Or.inr h)) (fun h => Or.inr (Nat.le_trans hS.1 h))) (fun u t H locs ht hvm hw hB hz1 hk1 hS => ?_)
              rw [ht, hw] at hB
              have hM : va_P D vwCl (simW cs M (bwS σ j13 j20)) H := hB
              have hP := soc_kept hP (fun q h hlt => hk1 q hlt (fun z => z.elim (hap.2.2 q h) (fun z => absurd hlt (Nat.not_lt.mpr z))))
              refine lv_aload_n hx hb dL_act_407 rfl (lv_at hl 6 rfl) ?_
              refine lv_iload hx hb dL_act_408 (lv_at hl 3 rfl) ?_
              refine lv_iload hx hb dL_act_410 (lv_at hl 1 rfl) ?_
              have hop := borr_ok hTt hj13 hj20 (fun q => c_21 (by rw [q])) hcan
              refine vx_calli (vx_runV (As := [.int (nI j13), .int (nI j20)]) (rest := []) ⟨hx, hb, hml, hown, hts⟩ (x_X1_borrow l hlf D cs ρ hI hap.1 H (nI j13) (nI j20)) (cwV 2 hts gL_act_X1_borrow rfl rfl rfl (by decide +kernel) ⟨Nat.le_of_ble_eq_true rfl, Nat.le_of_ble_eq_true rfl⟩) (ta_V hK hN ⟨rfl, hP⟩ hT hS hAj (va_recv hK (one_P hP.1) (ci := 2) (q0 := 0) rfl rfl)) rfl rfl hl.1 rfl (lv_room (Nat.le_of_ble_eq_true rfl)) dL_act_412 ⟨Nat.le_of_ble_eq_true rfl, Nat.le_of_ble_eq_true rfl⟩) hS (fun q _ h => h.elim (fun h => Or.inl (Or.inl h)) (fun h => Or.inr (Nat.le_trans hS.1 h))) (fun q h => h.elim (fun h => Or.inl (Or.inl h)) (fun h => Or.inr (Nat.le_trans hS.1 h))) (fun q _ h => Or.inr (Nat.le_trans hS.1 h)) (fun E ce q9 u t H locs ht hvm hu hB hz1 hk1 hS hce hcv hcl => ?_) (fun r u t H locs ht hvm hw hB hz1 hk1 hS => ?_)
              · exact (xE1_0 (show xE1 E 0 from by rw [hop] at hB; exact hB)).elim
              · obtain ⟨e1, e2⟩ := o_ok hop hw
                rw [e1]
                rw [ht, e2] at hB
                have hP : Soc D cs ρ (bwS σ j13 j20) H := hB
                have hM := sim_kept hM (fun q h hlt => hk1 q hlt (fun z => z.elim (fun z2 => hap.2.2 q z2 h) (fun z => absurd hlt (Nat.not_lt.mpr z))))
                refine lv_aload_n hx hb dL_act_415 rfl (lv_at hl 7 rfl) ?_
                refine va_get (D := D) (ci := 3) (v := .ref M.2.1) (C := RX2) (T := TX2) (N := 4) hx hb hts in_L_act_X2 hown hK hM 0 rfl rfl 3 (by decide) (hts (.fieldLink RL 9 "ShadowSocietyLaw$Sim" "members" "[[I") (List.mem_of_getElem? (i := 2) (by decide +kernel))) (fun _ h9 => h9) rfl dL_act_416 ?_
                refine lv_iload hx hb dL_act_419 (lv_at hl 1 rfl) ?_
                refine va_aldA hx hb hK hM 1 2 rfl rfl (vp_in_nI hj20 (Nat.lt_of_le_of_lt hI.1 (by decide))) (elm_at hj20 hI.1) dL_act_421 ?_
                refine lv_iconst (v := 1) hx hb dL_act_422 (by decide) ?_
                refine va_iald hx hb hK hM (2 + j20) 0 (simW_at hj20) rfl (by unfold vp_in; decide) dL_act_423 ?_
                rw [show rowF (bwS σ j13 j20) j20 (1 : Int32).toNatClampNeg = sHa σ j20 from rfl]
                refine lv_icmp_ne (tgt := 436) hx hb dL_act_424 (by decide) (fun c9 => absurd (rfl) c9) (fun _ => ?_)
                refine lv_iload hx hb dL_act_427 (lv_at hl 0 rfl) ?_
                refine lv_if_eq (tgt := 436) hx hb dL_act_429 (by decide) (fun c9 => absurd c9 (by decide)) (fun _ => ?_)
                refine lv_iconst (v := 1) hx hb dL_act_432 (by decide) ?_
                refine lv_goto (tgt := 437) hx hb dL_act_433 (by decide) ?_
                refine vx_ret ?_
                refine W.widen (k := 6) (n := 60) (Nat.le_of_ble_eq_true rfl) (Nat.le_of_ble_eq_true rfl) ?_
                exact W.zret (ty := .boolean) (v := 1) hx hb hr rfl (fun t ht hW => ⟨⟨_, (bwS σ j13 j20, ρ, M), rfl, ⟨rfl, invQ_borr hQ hB72 hj13 hj20 (fun q => c_21 (by rw [q])) hcan, hk0⟩, by show JQr D cs ρ M σ s.heap (bwS σ j13 j20, ρ, M) t.heap; rw [ht]; exact ⟨hP, hM, hap, rfl, rfl, fun q h => Or.inl h⟩⟩, hS.F ht⟩) hS.2.2 dL_act_437
            · refine W.eq (g2 := F0 m 392 ls [.int 0]) (by rw [b01_f hcan]) ?_
              refine lv_istore (lv' := [(5, .int 0), (8, .int (nI j20)), (7, .ref (M.2.2 j13)), (6, .int (nI j13)), (4, .int (nI j1)), (3, .int (nI (sK σ))), (0, .ref (r_h ρ)), (1, .ref M.1), (2, .int x)]) hx hb dL_act_392 hl (by decide) rfl (fun ls hl => ?_)
              refine lv_iload hx hb dL_act_394 (lv_at hl 0 rfl) ?_
              refine lv_if_eq (tgt := 407) hx hb dL_act_396 (by decide) (fun _ => ?_) (fun c9 => absurd (rfl) c9)
              refine lv_aload_n hx hb dL_act_407 rfl (lv_at hl 6 rfl) ?_
              refine lv_iload hx hb dL_act_408 (lv_at hl 3 rfl) ?_
              refine lv_iload hx hb dL_act_410 (lv_at hl 1 rfl) ?_
              have hop := borr_no hTt hj13 hj20 (fun q => c_21 (by rw [q])) hcan
              refine vx_calli (vx_runV (As := [.int (nI j13), .int (nI j20)]) (rest := []) ⟨hx, hb, hml, hown, hts⟩ (x_X1_borrow l hlf D cs ρ hI hap.1 s.heap (nI j13) (nI j20)) (cwV 2 hts gL_act_X1_borrow rfl rfl rfl (by decide +kernel) ⟨Nat.le_of_ble_eq_true rfl, Nat.le_of_ble_eq_true rfl⟩) (ta_V hK hN ⟨rfl, hP⟩ hT hS hAj (va_recv hK (one_P hP.1) (ci := 2) (q0 := 0) rfl rfl)) rfl rfl hl.1 rfl (lv_room (Nat.le_of_ble_eq_true rfl)) dL_act_412 ⟨Nat.le_of_ble_eq_true rfl, Nat.le_of_ble_eq_true rfl⟩) hS (fun q _ h => h.elim (fun h => Or.inl (Or.inl h)) (fun h => Or.inr (Nat.le_trans hS.1 h))) (fun q h => h.elim (fun h => Or.inl (Or.inl h)) (fun h => Or.inr (Nat.le_trans hS.1 h))) (fun q _ h => Or.inr (Nat.le_trans hS.1 h)) (fun E ce q9 u t H locs ht hvm hu hB hz1 hk1 hS hce hcv hcl => ?_) (fun r u t H locs ht hvm hw hB hz1 hk1 hS => ?_)
              · have hEe := xE1_3 (show xE1 E 3 from by rw [hop] at hB; exact hB)
                subst hEe
                have hP := soc_kept hP (fun q _ h2 => hk1 q h2 (fun z => absurd z (Nat.not_le.mpr h2)))
                have hM := sim_kept hM (fun q _ h2 => hk1 q h2 (fun z => absurd z (Nat.not_le.mpr h2)))
                refine vx_catch hown [⟨17, 164, 618, 65⟩, ⟨165, 320, 618, 65⟩, ⟨321, 365, 618, 65⟩, ⟨366, 383, 618, 65⟩] ⟨384, 437, 618, 65⟩ [⟨438, 500, 618, 65⟩, ⟨501, 567, 618, 65⟩, ⟨568, 617, 618, 65⟩] (htab.trans rfl) (fun z hz => Or.inl ((by decide : ∀ z ∈ ([⟨17, 164, 618, 65⟩, ⟨165, 320, 618, 65⟩, ⟨321, 365, 618, 65⟩, ⟨366, 383, 618, 65⟩] : List ExceptionTableEntry), covers z 412 = false) z hz)) (by decide) (by decide) (hts (.classLink RL 65 "java/lang/IllegalStateException") (List.mem_of_getElem? (i := 1) (by decide +kernel))) (hN.use (w := .castable eIse eIse) (by decide +kernel)) hce hcv hcl ?_
                refine lv_astore (lv' := [(6, .ref q9), (5, .int 0), (8, .int (nI j20)), (7, .ref (M.2.2 j13)), (4, .int (nI j1)), (3, .int (nI (sK σ))), (0, .ref (r_h ρ)), (1, .ref M.1), (2, .int x)]) hx hb dL_act_618 hl (by decide) rfl (fun ls hl => ?_)
                refine lv_iload hx hb dL_act_620 (lv_at hl 1 rfl) ?_
                refine lv_if_ne (tgt := 629) hx hb dL_act_622 (by decide) (fun c9 => absurd (rfl) c9) (fun _ => ?_)
                refine lv_iconst (v := 1) hx hb dL_act_625 (by decide) ?_
                refine lv_goto (tgt := 630) hx hb dL_act_626 (by decide) ?_
                refine vx_ret ?_
                refine W.widen (k := 6) (n := 60) (Nat.le_of_ble_eq_true rfl) (Nat.le_of_ble_eq_true rfl) ?_
                exact W.zret (ty := .boolean) (v := 1) hx hb hr rfl (fun t ht hW => ⟨⟨_, (σ, ρ, M), rfl, ⟨rfl, invQ_le hQ (by omega) hB72, hk0⟩, by show JQr D cs ρ M σ s.heap (σ, ρ, M) t.heap; rw [ht]; exact ⟨hP, hM, hap, rfl, rfl, fun q h => Or.inl h⟩⟩, hS.F ht⟩) hS.2.2 dL_act_630
              · exact (o_no hop hw).elim
          · refine lv_iconst (v := 1) hx hb dL_act_382 (by decide) ?_
            refine vx_ret ?_
            refine W.widen (k := 6) (n := 60) (Nat.le_of_ble_eq_true rfl) (Nat.le_of_ble_eq_true rfl) ?_
            exact W.zret (ty := .boolean) (v := 1) hx hb hr rfl (fun t ht hW => ⟨⟨_, (σ, ρ, M), rfl, ⟨rfl, invQ_le hQ (by omega) hB72, hk0⟩, by show JQr D cs ρ M σ s.heap (σ, ρ, M) t.heap; rw [ht]; exact ⟨hP, hM, hap, rfl, rfl, fun q h => Or.inl h⟩⟩, hS.F ht⟩) hS.2.2 dL_act_383
        refine lv_cut (F0 m 438 ls []) ?_ (fun K438 => ?_)
        · refine lv_aload hx hb dL_act_438 (lv_at hl 0 rfl) ?_
          refine lv_iconst (v := 4) hx hb dL_act_440 (by decide) ?_
          refine va_iald hx hb hK hM (2 + j13) 0 (simW_at hj13) rfl (by unfold vp_in; decide) dL_act_441 ?_
          rw [show rowF σ j13 (4 : Int32).toNatClampNeg = sWe σ j13 from rfl]
          refine lv_if_lt (tgt := 458) hx hb dL_act_442 (by decide) (fun c_23 => ?_) (fun c_23 => ?_)
          · refine lv_iconst (v := 0) hx hb dL_act_458 (by decide) ?_
            refine lv_istore (lv' := [(5, .int 0), (7, .ref (M.2.2 j13)), (6, .int (nI j13)), (4, .int (nI j1)), (3, .int (nI (sK σ))), (0, .ref (r_h ρ)), (1, .ref M.1), (2, .int x)]) hx hb dL_act_459 hl (by decide) rfl (fun ls hl => ?_)
            refine lv_iload hx hb dL_act_461 (lv_at hl 0 rfl) ?_
            refine lv_if_eq (tgt := 475) hx hb dL_act_463 (by decide) (fun _ => ?_) (fun c9 => absurd (rfl) c9)
            refine lv_bipush (v := (-2)) hx hb dL_act_475 (by decide) ?_
            refine lv_istore (lv' := [(8, .int (-2)), (5, .int 0), (7, .ref (M.2.2 j13)), (6, .int (nI j13)), (4, .int (nI j1)), (3, .int (nI (sK σ))), (0, .ref (r_h ρ)), (1, .ref M.1), (2, .int x)]) hx hb dL_act_477 hl (by decide) rfl (fun ls hl => ?_)
            refine lv_aload_n hx hb dL_act_479 rfl (lv_at hl 6 rfl) ?_
            refine lv_iload hx hb dL_act_480 (lv_at hl 3 rfl) ?_
            have hop := give_no hI hj13 (fun q => q.1 (we_lt hI hj13 (Int32.not_le.mpr c_23)))
            refine vx_calli (vx_runV (As := [.int (nI j13)]) (rest := []) ⟨hx, hb, hml, hown, hts⟩ (x_X1_giveBack l hlf D cs ρ hI hap.1 s.heap hTt (nI j13)) (cwV 1 hts gL_act_X1_giveBack rfl rfl rfl (by decide +kernel) ⟨Nat.le_of_ble_eq_true rfl, Nat.le_of_ble_eq_true rfl⟩) (ta_V hK hN ⟨rfl, hP⟩ hT hS hAj (va_recv hK (one_P hP.1) (ci := 2) (q0 := 0) rfl rfl)) rfl rfl hl.1 rfl (lv_room (Nat.le_of_ble_eq_true rfl)) dL_act_482 ⟨Nat.le_of_ble_eq_true rfl, Nat.le_of_ble_eq_true rfl⟩) hS (fun q _ h => h.elim (fun h => Or.inl (Or.inl h)) (fun h => Or.inr (Nat.le_trans hS.1 h))) (fun q h => h.elim (fun h => Or.inl (Or.inl h)) (fun h => Or.inr (Nat.le_trans hS.1 h))) (fun q _ h => Or.inr (Nat.le_trans hS.1 h)) (fun E ce q9 u t H locs ht hvm hu hB hz1 hk1 hS hce hcv hcl => ?_) (fun r u t H locs ht hvm hw hB hz1 hk1 hS => ?_)
            · have hEe := xE2_2 (show xE2 E 2 from by rw [hop] at hB; exact hB)
              subst hEe
              have hP := soc_kept hP (fun q _ h2 => hk1 q h2 (fun z => absurd z (Nat.not_le.mpr h2)))
              have hM := sim_kept hM (fun q _ h2 => hk1 q h2 (fun z => absurd z (Nat.not_le.mpr h2)))
              refine vx_catch hown [⟨17, 164, 618, 65⟩, ⟨165, 320, 618, 65⟩, ⟨321, 365, 618, 65⟩, ⟨366, 383, 618, 65⟩, ⟨384, 437, 618, 65⟩] ⟨438, 500, 618, 65⟩ [⟨501, 567, 618, 65⟩, ⟨568, 617, 618, 65⟩] (htab.trans rfl) (fun z hz => Or.inl ((by decide : ∀ z ∈ ([⟨17, 164, 618, 65⟩, ⟨165, 320, 618, 65⟩, ⟨321, 365, 618, 65⟩, ⟨366, 383, 618, 65⟩, ⟨384, 437, 618, 65⟩] : List ExceptionTableEntry), covers z 482 = false) z hz)) (by decide) (by decide) (hts (.classLink RL 65 "java/lang/IllegalStateException") (List.mem_of_getElem? (i := 1) (by decide +kernel))) (hN.use (w := .castable eIse eIse) (by decide +kernel)) hce hcv hcl ?_
              refine lv_astore (lv' := [(6, .ref q9), (8, .int (-2)), (5, .int 0), (7, .ref (M.2.2 j13)), (4, .int (nI j1)), (3, .int (nI (sK σ))), (0, .ref (r_h ρ)), (1, .ref M.1), (2, .int x)]) hx hb dL_act_618 hl (by decide) rfl (fun ls hl => ?_)
              refine lv_iload hx hb dL_act_620 (lv_at hl 2 rfl) ?_
              refine lv_if_ne (tgt := 629) hx hb dL_act_622 (by decide) (fun c9 => absurd (rfl) c9) (fun _ => ?_)
              refine lv_iconst (v := 1) hx hb dL_act_625 (by decide) ?_
              refine lv_goto (tgt := 630) hx hb dL_act_626 (by decide) ?_
              refine vx_ret ?_
              refine W.widen (k := 6) (n := 60) (Nat.le_of_ble_eq_true rfl) (Nat.le_of_ble_eq_true rfl) ?_
              exact W.zret (ty := .boolean) (v := 1) hx hb hr rfl (fun t ht hW => ⟨⟨_, (σ, ρ, M), rfl, ⟨rfl, invQ_le hQ (by omega) hB72, hk0⟩, by show JQr D cs ρ M σ s.heap (σ, ρ, M) t.heap; rw [ht]; exact ⟨hP, hM, hap, rfl, rfl, fun q h => Or.inl h⟩⟩, hS.F ht⟩) hS.2.2 dL_act_630
            · exact (o_no hop hw).elim
          · refine lv_aload hx hb dL_act_445 (lv_at hl 0 rfl) ?_
            refine lv_iconst (v := 4) hx hb dL_act_447 (by decide) ?_
            refine va_iald hx hb hK hM (2 + j13) 0 (simW_at hj13) rfl (by unfold vp_in; decide) dL_act_448 ?_
            rw [show rowF σ j13 (4 : Int32).toNatClampNeg = sWe σ j13 from rfl]
            refine lv_iload hx hb dL_act_449 (lv_at hl 1 rfl) ?_
            refine lv_icmp_eq (tgt := 458) hx hb dL_act_451 (by decide) (fun c_24 => ?_) (fun c_24 => ?_)
            · refine lv_iconst (v := 0) hx hb dL_act_458 (by decide) ?_
              refine lv_istore (lv' := [(5, .int 0), (7, .ref (M.2.2 j13)), (6, .int (nI j13)), (4, .int (nI j1)), (3, .int (nI (sK σ))), (0, .ref (r_h ρ)), (1, .ref M.1), (2, .int x)]) hx hb dL_act_459 hl (by decide) rfl (fun ls hl => ?_)
              refine lv_iload hx hb dL_act_461 (lv_at hl 0 rfl) ?_
              refine lv_if_eq (tgt := 475) hx hb dL_act_463 (by decide) (fun _ => ?_) (fun c9 => absurd (rfl) c9)
              refine lv_bipush (v := (-2)) hx hb dL_act_475 (by decide) ?_
              refine lv_istore (lv' := [(8, .int (-2)), (5, .int 0), (7, .ref (M.2.2 j13)), (6, .int (nI j13)), (4, .int (nI j1)), (3, .int (nI (sK σ))), (0, .ref (r_h ρ)), (1, .ref M.1), (2, .int x)]) hx hb dL_act_477 hl (by decide) rfl (fun ls hl => ?_)
              refine lv_aload_n hx hb dL_act_479 rfl (lv_at hl 6 rfl) ?_
              refine lv_iload hx hb dL_act_480 (lv_at hl 3 rfl) ?_
              have hop := give_no hI hj13 (fun q => q.2 c_24)
              refine vx_calli (vx_runV (As := [.int (nI j13)]) (rest := []) ⟨hx, hb, hml, hown, hts⟩ (x_X1_giveBack l hlf D cs ρ hI hap.1 s.heap hTt (nI j13)) (cwV 1 hts gL_act_X1_giveBack rfl rfl rfl (by decide +kernel) ⟨Nat.le_of_ble_eq_true rfl, Nat.le_of_ble_eq_true rfl⟩) (ta_V hK hN ⟨rfl, hP⟩ hT hS hAj (va_recv hK (one_P hP.1) (ci := 2) (q0 := 0) rfl rfl)) rfl rfl hl.1 rfl (lv_room (Nat.le_of_ble_eq_true rfl)) dL_act_482 ⟨Nat.le_of_ble_eq_true rfl, Nat.le_of_ble_eq_true rfl⟩) hS (fun q _ h => h.elim (fun h => Or.inl (Or.inl h)) (fun h => Or.inr (Nat.le_trans hS.1 h))) (fun q h => h.elim (fun h => Or.inl (Or.inl h)) (fun h => Or.inr (Nat.le_trans hS.1 h))) (fun q _ h => Or.inr (Nat.le_trans hS.1 h)) (fun E ce q9 u t H locs ht hvm hu hB hz1 hk1 hS hce hcv hcl => ?_) (fun r u t H locs ht hvm hw hB hz1 hk1 hS => ?_)
              · have hEe := xE2_2 (show xE2 E 2 from by rw [hop] at hB; exact hB)
                subst hEe
                have hP := soc_kept hP (fun q _ h2 => hk1 q h2 (fun z => absurd z (Nat.not_le.mpr h2)))
                have hM := sim_kept hM (fun q _ h2 => hk1 q h2 (fun z => absurd z (Nat.not_le.mpr h2)))
                refine vx_catch hown [⟨17, 164, 618, 65⟩, ⟨165, 320, 618, 65⟩, ⟨321, 365, 618, 65⟩, ⟨366, 383, 618, 65⟩, ⟨384, 437, 618, 65⟩] ⟨438, 500, 618, 65⟩ [⟨501, 567, 618, 65⟩, ⟨568, 617, 618, 65⟩] (htab.trans rfl) (fun z hz => Or.inl ((by decide : ∀ z ∈ ([⟨17, 164, 618, 65⟩, ⟨165, 320, 618, 65⟩, ⟨321, 365, 618, 65⟩, ⟨366, 383, 618, 65⟩, ⟨384, 437, 618, 65⟩] : List ExceptionTableEntry), covers z 482 = false) z hz)) (by decide) (by decide) (hts (.classLink RL 65 "java/lang/IllegalStateException") (List.mem_of_getElem? (i := 1) (by decide +kernel))) (hN.use (w := .castable eIse eIse) (by decide +kernel)) hce hcv hcl ?_
                refine lv_astore (lv' := [(6, .ref q9), (8, .int (-2)), (5, .int 0), (7, .ref (M.2.2 j13)), (4, .int (nI j1)), (3, .int (nI (sK σ))), (0, .ref (r_h ρ)), (1, .ref M.1), (2, .int x)]) hx hb dL_act_618 hl (by decide) rfl (fun ls hl => ?_)
                refine lv_iload hx hb dL_act_620 (lv_at hl 2 rfl) ?_
                refine lv_if_ne (tgt := 629) hx hb dL_act_622 (by decide) (fun c9 => absurd (rfl) c9) (fun _ => ?_)
                refine lv_iconst (v := 1) hx hb dL_act_625 (by decide) ?_
                refine lv_goto (tgt := 630) hx hb dL_act_626 (by decide) ?_
                refine vx_ret ?_
                refine W.widen (k := 6) (n := 60) (Nat.le_of_ble_eq_true rfl) (Nat.le_of_ble_eq_true rfl) ?_
                exact W.zret (ty := .boolean) (v := 1) hx hb hr rfl (fun t ht hW => ⟨⟨_, (σ, ρ, M), rfl, ⟨rfl, invQ_le hQ (by omega) hB72, hk0⟩, by show JQr D cs ρ M σ s.heap (σ, ρ, M) t.heap; rw [ht]; exact ⟨hP, hM, hap, rfl, rfl, fun q h => Or.inl h⟩⟩, hS.F ht⟩) hS.2.2 dL_act_630
              · exact (o_no hop hw).elim
            · refine lv_iconst (v := 1) hx hb dL_act_454 (by decide) ?_
              refine lv_goto (tgt := 459) hx hb dL_act_455 (by decide) ?_
              obtain ⟨jj, hjj, hwj⟩ := we_ge hI hj13 (Int32.not_lt.mp c_23)
              have hjne : jj ≠ j13 := fun q => c_24 (by rw [hwj, q])
              refine lv_istore (lv' := [(5, .int 1), (7, .ref (M.2.2 j13)), (6, .int (nI j13)), (4, .int (nI j1)), (3, .int (nI (sK σ))), (0, .ref (r_h ρ)), (1, .ref M.1), (2, .int x)]) hx hb dL_act_459 hl (by decide) rfl (fun ls hl => ?_)
              refine lv_iload hx hb dL_act_461 (lv_at hl 0 rfl) ?_
              refine lv_if_eq (tgt := 475) hx hb dL_act_463 (by decide) (fun c9 => absurd c9 (by decide)) (fun _ => ?_)
              refine lv_aload_n hx hb dL_act_466 rfl (lv_at hl 6 rfl) ?_
              refine lv_iload hx hb dL_act_467 (lv_at hl 2 rfl) ?_
              refine va_calli (va_runV (As := [.int (nI j13)]) (rest := []) ⟨hx, hb, hml, hown, hts⟩ (c_X2_giveBack l D cs M hI hap.2.1 s.heap j13 hj13 jj hjj hwj hjne) (cwV 1 hts gL_act_X2_giveBack rfl rfl rfl (by decide +kernel) ⟨Nat.le_of_ble_eq_true rfl, Nat.le_of_ble_eq_true rfl⟩) (rb_V hK hN ⟨rfl, hM⟩ (va_recv hK hM (ci := 3) (q0 := 0) rfl rfl)) rfl rfl hl.1 rfl (lv_room (Nat.le_of_ble_eq_true rfl)) dL_act_469 ⟨Nat.le_of_ble_eq_true rfl, Nat.le_of_ble_eq_true rfl⟩) hS (fun q _ h => h.elim (fun h => Or.inl (Or.inr h)) (fun h => Or.inr (Nat.le_trans hS.1 h))) (fun q h => h.elim (fun h => Or.inl (Or.inr h)) (fun h => Or.inr (Nat.le_trans hS.1 h))) (fun r u9 t H locs ht hvm hw hB hz1 hk1 hS => ?_)
              obtain ⟨hr9, hw9⟩ := hw
              rw [ht] at hB
              have hM : va_P D vwCl (simW cs M u9) H := hB
              have hP := soc_kept hP (fun q h hlt => hk1 q hlt (fun z => z.elim (hap.2.2 q h) (fun z => absurd hlt (Nat.not_lt.mpr z))))
              have hku : sK u9 = sK σ := (invQ_give hQ hB72 hw9).2
              rw [hr9]
              refine lv_goto (tgt := 477) hx hb dL_act_472 (by decide) ?_
              refine lv_istore (lv' := [(8, .int (nI jj)), (5, .int 1), (7, .ref (M.2.2 j13)), (6, .int (nI j13)), (4, .int (nI j1)), (3, .int (nI (sK σ))), (0, .ref (r_h ρ)), (1, .ref M.1), (2, .int x)]) hx hb dL_act_477 hl (by decide) rfl (fun ls hl => ?_)
              refine lv_aload_n hx hb dL_act_479 rfl (lv_at hl 6 rfl) ?_
              refine lv_iload hx hb dL_act_480 (lv_at hl 3 rfl) ?_
              have hop := hw9
              refine vx_calli (vx_runV (As := [.int (nI j13)]) (rest := []) ⟨hx, hb, hml, hown, hts⟩ (x_X1_giveBack l hlf D cs ρ hI hap.1 H hTt (nI j13)) (cwV 1 hts gL_act_X1_giveBack rfl rfl rfl (by decide +kernel) ⟨Nat.le_of_ble_eq_true rfl, Nat.le_of_ble_eq_true rfl⟩) (ta_V hK hN ⟨rfl, hP⟩ hT hS hAj (va_recv hK (one_P hP.1) (ci := 2) (q0 := 0) rfl rfl)) rfl rfl hl.1 rfl (lv_room (Nat.le_of_ble_eq_true rfl)) dL_act_482 ⟨Nat.le_of_ble_eq_true rfl, Nat.le_of_ble_eq_true rfl⟩) hS (fun q _ h => h.elim (fun h => Or.inl (Or.inl h)) (fun h => Or.inr (Nat.le_trans hS.1 h))) (fun q h => h.elim (fun h => Or.inl (Or.inl h)) (fun h => Or.inr (Nat.le_trans hS.1 h))) (fun q _ h => Or.inr (Nat.le_trans hS.1 h)) (fun E ce q9 u t H locs ht hvm hu hB hz1 hk1 hS hce hcv hcl => ?_) (fun r u t H locs ht hvm hw hB hz1 hk1 hS => ?_)
              · exact (xE2_0 (show xE2 E 0 from by rw [hop] at hB; exact hB)).elim
              · obtain ⟨e1, e2⟩ := o_ok hop hw
                rw [e1]
                rw [ht, e2] at hB
                have hP : Soc D cs ρ (u9) H := hB
                have hM := sim_kept hM (fun q h hlt => hk1 q hlt (fun z => z.elim (fun z2 => hap.2.2 q z2 (own_k hku h)) (fun z => absurd hlt (Nat.not_lt.mpr z))))
                refine lv_iload hx hb dL_act_485 (lv_at hl 0 rfl) ?_
                refine lv_icmp_ne (tgt := 499) hx hb dL_act_487 (by decide) (fun c9 => absurd (rfl) c9) (fun _ => ?_)
                refine lv_iload hx hb dL_act_490 (lv_at hl 1 rfl) ?_
                refine lv_if_eq (tgt := 499) hx hb dL_act_492 (by decide) (fun c9 => absurd c9 (by decide)) (fun _ => ?_)
                refine lv_iconst (v := 1) hx hb dL_act_495 (by decide) ?_
                refine lv_goto (tgt := 500) hx hb dL_act_496 (by decide) ?_
                refine vx_ret ?_
                refine W.widen (k := 6) (n := 60) (Nat.le_of_ble_eq_true rfl) (Nat.le_of_ble_eq_true rfl) ?_
                exact W.zret (ty := .boolean) (v := 1) hx hb hr rfl (fun t ht hW => ⟨⟨_, (u9, ρ, M), rfl, ⟨rfl, (invQ_give hQ hB72 hw9).1, (by rw [hku]; exact hk0)⟩, by show JQr D cs ρ M σ s.heap (u9, ρ, M) t.heap; rw [ht]; exact ⟨hP, hM, (by rw [hku]; exact hap), rfl, rfl, fun q h => Or.inl (by rw [hku] at h; exact h)⟩⟩, hS.F ht⟩) hS.2.2 dL_act_500
        refine lv_cut (F0 m 501 ls []) ?_ (fun K501 => ?_)
        · refine lv_aload hx hb dL_act_501 (lv_at hl 0 rfl) ?_
          refine lv_bipush (v := 7) hx hb dL_act_503 (by decide) ?_
          refine va_iald hx hb hK hM (2 + j13) 0 (simW_at hj13) rfl (by unfold vp_in; decide) dL_act_505 ?_
          rw [show rowF σ j13 (7 : Int32).toNatClampNeg = sLo σ j13 from rfl]
          refine lv_iconst (v := 3) hx hb dL_act_506 (by decide) ?_
          refine lv_icmp_ge (tgt := 514) hx hb dL_act_507 (by decide) (fun c_25 => ?_) (fun c_25 => ?_)
          · refine lv_iconst (v := 0) hx hb dL_act_514 (by decide) ?_
            refine lv_istore (lv' := [(5, .int 0), (7, .ref (M.2.2 j13)), (6, .int (nI j13)), (4, .int (nI j1)), (3, .int (nI (sK σ))), (0, .ref (r_h ρ)), (1, .ref M.1), (2, .int x)]) hx hb dL_act_515 hl (by decide) rfl (fun ls hl => ?_)
            refine lv_iload hx hb dL_act_517 (lv_at hl 0 rfl) ?_
            refine lv_if_eq (tgt := 544) hx hb dL_act_519 (by decide) (fun _ => ?_) (fun c9 => absurd (rfl) c9)
            refine lv_aload_n hx hb dL_act_544 rfl (lv_at hl 5 rfl) ?_
            refine lv_iload hx hb dL_act_545 (lv_at hl 2 rfl) ?_
            have hop := cert_no hI hj13 c_25
            refine vx_calli (vx_runV (As := [.int (nI j13)]) (rest := []) ⟨hx, hb, hml, hown, hts⟩ (x_X1_certify l hlf D cs ρ hI hap.1 s.heap (nI j13)) (cwV 1 hts gL_act_X1_certify rfl rfl rfl (by decide +kernel) ⟨Nat.le_of_ble_eq_true rfl, Nat.le_of_ble_eq_true rfl⟩) (ta_V hK hN ⟨rfl, hP⟩ hT hS hAj (va_recv hK (one_P hP.1) (ci := 2) (q0 := 0) rfl rfl)) rfl rfl hl.1 rfl (lv_room (Nat.le_of_ble_eq_true rfl)) dL_act_547 ⟨Nat.le_of_ble_eq_true rfl, Nat.le_of_ble_eq_true rfl⟩) hS (fun q _ h => h.elim (fun h => Or.inl (Or.inl h)) (fun h => Or.inr (Nat.le_trans hS.1 h))) (fun q h => h.elim (fun h => Or.inl (Or.inl h)) (fun h => Or.inr (Nat.le_trans hS.1 h))) (fun q _ h => Or.inr (Nat.le_trans hS.1 h)) (fun E ce q9 u t H locs ht hvm hu hB hz1 hk1 hS hce hcv hcl => ?_) (fun r u t H locs ht hvm hw hB hz1 hk1 hS => ?_)
            · have hEe := xE2_2 (show xE2 E 2 from by rw [hop] at hB; exact hB)
              subst hEe
              have hP := soc_kept hP (fun q _ h2 => hk1 q h2 (fun z => absurd z (Nat.not_le.mpr h2)))
              have hM := sim_kept hM (fun q _ h2 => hk1 q h2 (fun z => absurd z (Nat.not_le.mpr h2)))
              refine vx_catch hown [⟨17, 164, 618, 65⟩, ⟨165, 320, 618, 65⟩, ⟨321, 365, 618, 65⟩, ⟨366, 383, 618, 65⟩, ⟨384, 437, 618, 65⟩, ⟨438, 500, 618, 65⟩] ⟨501, 567, 618, 65⟩ [⟨568, 617, 618, 65⟩] (htab.trans rfl) (fun z hz => Or.inl ((by decide : ∀ z ∈ ([⟨17, 164, 618, 65⟩, ⟨165, 320, 618, 65⟩, ⟨321, 365, 618, 65⟩, ⟨366, 383, 618, 65⟩, ⟨384, 437, 618, 65⟩, ⟨438, 500, 618, 65⟩] : List ExceptionTableEntry), covers z 547 = false) z hz)) (by decide) (by decide) (hts (.classLink RL 65 "java/lang/IllegalStateException") (List.mem_of_getElem? (i := 1) (by decide +kernel))) (hN.use (w := .castable eIse eIse) (by decide +kernel)) hce hcv hcl ?_
              refine lv_astore (lv' := [(6, .ref q9), (5, .int 0), (7, .ref (M.2.2 j13)), (4, .int (nI j1)), (3, .int (nI (sK σ))), (0, .ref (r_h ρ)), (1, .ref M.1), (2, .int x)]) hx hb dL_act_618 hl (by decide) rfl (fun ls hl => ?_)
              refine lv_iload hx hb dL_act_620 (lv_at hl 1 rfl) ?_
              refine lv_if_ne (tgt := 629) hx hb dL_act_622 (by decide) (fun c9 => absurd (rfl) c9) (fun _ => ?_)
              refine lv_iconst (v := 1) hx hb dL_act_625 (by decide) ?_
              refine lv_goto (tgt := 630) hx hb dL_act_626 (by decide) ?_
              refine vx_ret ?_
              refine W.widen (k := 6) (n := 60) (Nat.le_of_ble_eq_true rfl) (Nat.le_of_ble_eq_true rfl) ?_
              exact W.zret (ty := .boolean) (v := 1) hx hb hr rfl (fun t ht hW => ⟨⟨_, (σ, ρ, M), rfl, ⟨rfl, invQ_le hQ (by omega) hB72, hk0⟩, by show JQr D cs ρ M σ s.heap (σ, ρ, M) t.heap; rw [ht]; exact ⟨hP, hM, hap, rfl, rfl, fun q h => Or.inl h⟩⟩, hS.F ht⟩) hS.2.2 dL_act_630
            · exact (o_no hop hw).elim
          · refine lv_iconst (v := 1) hx hb dL_act_510 (by decide) ?_
            refine lv_goto (tgt := 515) hx hb dL_act_511 (by decide) ?_
            refine lv_istore (lv' := [(5, .int 1), (7, .ref (M.2.2 j13)), (6, .int (nI j13)), (4, .int (nI j1)), (3, .int (nI (sK σ))), (0, .ref (r_h ρ)), (1, .ref M.1), (2, .int x)]) hx hb dL_act_515 hl (by decide) rfl (fun ls hl => ?_)
            refine lv_iload hx hb dL_act_517 (lv_at hl 0 rfl) ?_
            refine lv_if_eq (tgt := 544) hx hb dL_act_519 (by decide) (fun c9 => absurd c9 (by decide)) (fun _ => ?_)
            refine lv_aload hx hb dL_act_522 (lv_at hl 1 rfl) ?_
            refine lv_iconst (v := 5) hx hb dL_act_524 (by decide) ?_
            refine lv_aload_n hx hb dL_act_525 rfl (lv_at hl 6 rfl) ?_
            refine lv_iload hx hb dL_act_526 (lv_at hl 2 rfl) ?_
            refine vp_callSi (va_Run.run (va_runV (As := [.int (nI j13)]) (rest := [.int 5, .ref (M.2.2 j13)]) ⟨hx, hb, hml, hown, hts⟩ (c_X2_shadow l D cs M hI j13 hj13) (cwV 1 hts gL_act_X2_shadow rfl rfl rfl (by decide +kernel) ⟨Nat.le_of_ble_eq_true rfl, Nat.le_of_ble_eq_true rfl⟩) (rb_V hK hN hM (va_recv hK hM (ci := 3) (q0 := 0) rfl rfl)) rfl rfl hl.1 rfl (lv_room (Nat.le_of_ble_eq_true rfl)) dL_act_528 ⟨Nat.le_of_ble_eq_true rfl, Nat.le_of_ble_eq_true rfl⟩)) (fun r_26 hr_26 => ?_)
            rw [hr_26]
            refine va_iast hx hb hK (P_app hM (soc_P hP)) (J_D (σ := σ) hap rfl) hS (2 + j13) 0 (J_at (simW_at hj13)) rfl (by unfold vp_in; decide) dL_act_531 (fun H locs hJ hDJ hS => ?_)
            obtain ⟨hM, hPP⟩ := J_set (simW_at (σ := σ) hj13) hJ
            have hP : Soc D cs ρ σ H := P_soc hPP
            rw [show (5 : Int32).toNatClampNeg = 5 from rfl, t_Ce (σ := σ) hj13] at hM
            have hM : va_P D vwCl (simW cs M (setCe σ (upd (sCe σ) j13 (shadS σ j13 (dayOf σ))))) H := hM
            refine lv_aload hx hb dL_act_532 (lv_at hl 1 rfl) ?_
            refine lv_bipush (v := 6) hx hb dL_act_534 (by decide) ?_
            refine lv_aload_n hx hb dL_act_536 rfl (lv_at hl 6 rfl) ?_
            refine va_get (D := D) (ci := 3) (v := .int (sHr σ)) (C := RX2) (T := TX2) (N := 4) hx hb hts in_L_act_X2 hown hK hM 0 rfl rfl 0 (by decide) (hts (.fieldLink RL 54 "ShadowSocietyLaw$Sim" "hour" "I") (List.mem_of_getElem? (i := 4) (by decide +kernel))) (fun _ h9 => h9) rfl dL_act_537 ?_
            refine lv_bipush (v := 24) hx hb dL_act_540 (by decide) ?_
            refine lv_irem hx hb dL_act_542 (by decide) ?_
            refine W.eq (g2 := F0 m 543 ls [.int (dayOf σ), .int 6, .ref (M.2.2 j13)]) (by rw [show (sHr σ) - (sHr σ) / 24 * 24 = dayOf σ from rfl]) ?_
            refine va_iast hx hb hK (P_app hM (soc_P hP)) (J_D (σ := σ) hap rfl) hS (2 + j13) 0 (J_at (simW_at hj13)) rfl (by unfold vp_in; decide) dL_act_543 (fun H locs hJ hDJ hS => ?_)
            obtain ⟨hM, hPP⟩ := J_set (simW_at (σ := (setCe σ (upd (sCe σ) j13 (shadS σ j13 (dayOf σ))))) hj13) hJ
            have hP : Soc D cs ρ σ H := P_soc hPP
            rw [show (6 : Int32).toNatClampNeg = 6 from rfl, t_At (σ := (setCe σ (upd (sCe σ) j13 (shadS σ j13 (dayOf σ))))) hj13] at hM
            have hM : va_P D vwCl (simW cs M (setAt (setCe σ (upd (sCe σ) j13 (shadS σ j13 (dayOf σ)))) (upd (sAt σ) j13 (dayOf σ)))) H := hM
            refine lv_aload_n hx hb dL_act_544 rfl (lv_at hl 5 rfl) ?_
            refine lv_iload hx hb dL_act_545 (lv_at hl 2 rfl) ?_
            have hop := cert_ok hI hj13 c_25
            refine vx_calli (vx_runV (As := [.int (nI j13)]) (rest := []) ⟨hx, hb, hml, hown, hts⟩ (x_X1_certify l hlf D cs ρ hI hap.1 H (nI j13)) (cwV 1 hts gL_act_X1_certify rfl rfl rfl (by decide +kernel) ⟨Nat.le_of_ble_eq_true rfl, Nat.le_of_ble_eq_true rfl⟩) (ta_V hK hN ⟨rfl, hP⟩ hT hS hAj (va_recv hK (one_P hP.1) (ci := 2) (q0 := 0) rfl rfl)) rfl rfl hl.1 rfl (lv_room (Nat.le_of_ble_eq_true rfl)) dL_act_547 ⟨Nat.le_of_ble_eq_true rfl, Nat.le_of_ble_eq_true rfl⟩) hS (fun q _ h => h.elim (fun h => Or.inl (Or.inl h)) (fun h => Or.inr (Nat.le_trans hS.1 h))) (fun q h => h.elim (fun h => Or.inl (Or.inl h)) (fun h => Or.inr (Nat.le_trans hS.1 h))) (fun q _ h => Or.inr (Nat.le_trans hS.1 h)) (fun E ce q9 u t H locs ht hvm hu hB hz1 hk1 hS hce hcv hcl => ?_) (fun r u t H locs ht hvm hw hB hz1 hk1 hS => ?_)
            · exact (xE2_0 (show xE2 E 0 from by rw [hop] at hB; exact hB)).elim
            · obtain ⟨e1, e2⟩ := o_ok hop hw
              rw [e1]
              rw [ht, e2] at hB
              have hP : Soc D cs ρ (setAt (setCe σ (upd (sCe σ) j13 (shadS σ j13 (dayOf σ)))) (upd (sAt σ) j13 (dayOf σ))) H := hB
              have hM := sim_kept hM (fun q h hlt => hk1 q hlt (fun z => z.elim (fun z2 => hap.2.2 q z2 h) (fun z => absurd hlt (Nat.not_lt.mpr z))))
              refine lv_aload hx hb dL_act_550 (lv_at hl 1 rfl) ?_
              refine lv_iconst (v := 5) hx hb dL_act_552 (by decide) ?_
              refine va_iald hx hb hK hM (2 + j13) 0 (simW_at hj13) rfl (by unfold vp_in; decide) dL_act_553 ?_
              rw [show rowF (setAt (setCe σ (upd (sCe σ) j13 (shadS σ j13 (dayOf σ)))) (upd (sAt σ) j13 (dayOf σ))) j13 (5 : Int32).toNatClampNeg = sCe (setAt (setCe σ (upd (sCe σ) j13 (shadS σ j13 (dayOf σ)))) (upd (sAt σ) j13 (dayOf σ))) j13 from rfl]
              refine W.eq (g2 := F0 m 554 ls [.int (shadS σ j13 (dayOf σ)), .int (shadS σ j13 (dayOf σ))]) (by rw [show sCe (setAt (setCe σ (upd (sCe σ) j13 (shadS σ j13 (dayOf σ)))) (upd (sAt σ) j13 (dayOf σ))) j13 = shadS σ j13 (dayOf σ) from pk_us]) ?_
              refine lv_icmp_ne (tgt := 566) hx hb dL_act_554 (by decide) (fun c9 => absurd (rfl) c9) (fun _ => ?_)
              refine lv_iload hx hb dL_act_557 (lv_at hl 0 rfl) ?_
              refine lv_if_eq (tgt := 566) hx hb dL_act_559 (by decide) (fun c9 => absurd c9 (by decide)) (fun _ => ?_)
              refine lv_iconst (v := 1) hx hb dL_act_562 (by decide) ?_
              refine lv_goto (tgt := 567) hx hb dL_act_563 (by decide) ?_
              refine vx_ret ?_
              refine W.widen (k := 6) (n := 60) (Nat.le_of_ble_eq_true rfl) (Nat.le_of_ble_eq_true rfl) ?_
              exact W.zret (ty := .boolean) (v := 1) hx hb hr rfl (fun t ht hW => ⟨⟨_, (setAt (setCe σ (upd (sCe σ) j13 (shadS σ j13 (dayOf σ)))) (upd (sAt σ) j13 (dayOf σ)), ρ, M), rfl, ⟨rfl, invQ_cert hQ hB72 hj13 c_25, hk0⟩, by show JQr D cs ρ M σ s.heap (setAt (setCe σ (upd (sCe σ) j13 (shadS σ j13 (dayOf σ)))) (upd (sAt σ) j13 (dayOf σ)), ρ, M) t.heap; rw [ht]; exact ⟨hP, hM, hap, rfl, rfl, fun q h => Or.inl h⟩⟩, hS.F ht⟩) hS.2.2 dL_act_567
        refine lv_cut (F0 m 568 ls []) ?_ (fun K568 => ?_)
        · refine lv_cutN 72 (fun y => F0 m 595 ls [.int (nI (1 + y))]) (fun y hy => ?_) (fun K595 => ?_)
          · refine lv_istore (lv' := [(8, .int (nI (1 + y))), (7, .ref (M.2.2 j13)), (6, .int (nI j13)), (5, .int 1), (4, .int (nI j1)), (3, .int (nI (sK σ))), (0, .ref (r_h ρ)), (1, .ref M.1), (2, .int x)]) hx hb dL_act_595 hl (by decide) rfl (fun ls hl => ?_)
            refine lv_aload_n hx hb dL_act_597 rfl (lv_at hl 6 rfl) ?_
            refine lv_iload hx hb dL_act_598 (lv_at hl 0 rfl) ?_
            have hop := pass_ok (σ := σ) (h := (1 + y)) (by omega) (by omega)
            refine vx_calli (vx_runV (As := [.int (nI (1 + y))]) (rest := []) ⟨hx, hb, hml, hown, hts⟩ (x_X1_pass l hlf D cs ρ hI hap.1 s.heap hB72 (nI (1 + y))) (cwV 1 hts gL_act_X1_pass rfl rfl rfl (by decide +kernel) ⟨Nat.le_of_ble_eq_true rfl, Nat.le_of_ble_eq_true rfl⟩) (ta_V hK hN ⟨rfl, hP⟩ hT hS hAj (va_recv hK (one_P hP.1) (ci := 2) (q0 := 0) rfl rfl)) rfl rfl hl.1 rfl (lv_room (Nat.le_of_ble_eq_true rfl)) dL_act_600 ⟨Nat.le_of_ble_eq_true rfl, Nat.le_of_ble_eq_true rfl⟩) hS (fun q _ h => h.elim (fun h => Or.inl (Or.inl h)) (fun h => Or.inr (Nat.le_trans hS.1 h))) (fun q h => h.elim (fun h => Or.inl (Or.inl h)) (fun h => Or.inr (Nat.le_trans hS.1 h))) (fun q _ h => Or.inr (Nat.le_trans hS.1 h)) (fun E ce q9 u t H locs ht hvm hu hB hz1 hk1 hS hce hcv hcl => ?_) (fun r u t H locs ht hvm hw hB hz1 hk1 hS => ?_)
            · exact absurd (show (0 : Nat) = 1 from by have h9 := hB.2; rw [hop] at h9; exact h9) (by decide)
            · obtain ⟨e1, e2⟩ := o_ok hop hw
              rw [e1]
              rw [ht, e2] at hB
              have hP : Soc D cs ρ (passN σ (1 + y)) H := hB
              have hM := sim_kept hM (fun q h hlt => hk1 q hlt (fun z => z.elim (fun z2 => hap.2.2 q z2 h) (fun z => absurd hlt (Nat.not_lt.mpr z))))
              refine lv_aload_n hx hb dL_act_603 rfl (lv_at hl 7 rfl) ?_
              refine lv_iload hx hb dL_act_604 (lv_at hl 0 rfl) ?_
              refine va_calli (va_runV (As := [.int (nI (1 + y))]) (rest := [.int (sRv (passN σ (1 + y)) - sRv σ)]) ⟨hx, hb, hml, hown, hts⟩ (c_X2_pass l D cs M hQ hap.2.1 H (1 + y) (by omega) (by omega)) (cwV 1 hts gL_act_X2_pass rfl rfl rfl (by decide +kernel) ⟨Nat.le_of_ble_eq_true rfl, Nat.le_of_ble_eq_true rfl⟩) (rb_V hK hN ⟨rfl, hM⟩ (va_recv hK hM (ci := 3) (q0 := 0) rfl rfl)) rfl rfl hl.1 rfl (lv_room (Nat.le_of_ble_eq_true rfl)) dL_act_606 ⟨Nat.le_of_ble_eq_true rfl, Nat.le_of_ble_eq_true rfl⟩) hS (fun q _ h => h.elim (fun h => Or.inl (Or.inr h)) (fun h => Or.inr (Nat.le_trans hS.1 h))) (fun q h => h.elim (fun h => Or.inl (Or.inr h)) (fun h => Or.inr (Nat.le_trans hS.1 h))) (fun r u t H locs ht hvm hw hB hz1 hk1 hS => ?_)
              obtain ⟨hr9, hw9⟩ := hw
              rw [ht, hw9] at hB
              have hM : va_P D vwCl (simW cs M (passN σ (1 + y))) H := hB
              have hP := soc_kept hP (fun q h hlt => hk1 q hlt (fun z => z.elim (hap.2.2 q (ownB_k (k_pass σ _) h)) (fun z => absurd hlt (Nat.not_lt.mpr z))))
              rw [hr9]
              refine lv_icmp_ne (tgt := 616) hx hb dL_act_609 (by decide) (fun c9 => absurd (rfl) c9) (fun _ => ?_)
              refine lv_iconst (v := 1) hx hb dL_act_612 (by decide) ?_
              refine lv_goto (tgt := 617) hx hb dL_act_613 (by decide) ?_
              refine vx_ret ?_
              refine W.widen (k := 6) (n := 60) (Nat.le_of_ble_eq_true rfl) (Nat.le_of_ble_eq_true rfl) ?_
              exact W.zret (ty := .boolean) (v := 1) hx hb hr rfl (fun t ht hW => ⟨⟨_, (passN σ (1 + y), ρ, M), rfl, ⟨rfl, invQ_le (invQ_passN hQ (1 + y) (by omega)) (by omega) hB72, (by rw [k_pass]; exact hk0)⟩, by show JQr D cs ρ M σ s.heap (passN σ (1 + y), ρ, M) t.heap; rw [ht]; exact ⟨hP, hM, (by rw [k_pass]; exact hap), rfl, rfl, fun q h => Or.inl (by rw [k_pass] at h; exact h)⟩⟩, hS.F ht⟩) hS.2.2 dL_act_617
          · refine lv_iconst (v := 1) hx hb dL_act_568 (by decide) ?_
            refine lv_iload_n hx hb dL_act_569 rfl (lv_at hl 7 rfl) ?_
            refine lv_iconst (v := 4) hx hb dL_act_570 (by decide) ?_
            refine lv_ishr hx hb dL_act_571 ?_
            refine lv_topi (fun v_27 _ => ?_)
            refine lv_iload_n hx hb dL_act_572 rfl (lv_at hl 7 rfl) ?_
            refine lv_bipush (v := 7) hx hb dL_act_573 (by decide) ?_
            refine lv_ishr hx hb dL_act_575 ?_
            refine lv_topi (fun v_28 _ => ?_)
            refine lv_bipush (v := 6) hx hb dL_act_576 (by decide) ?_
            refine vp_callSi (va_Run.run (va_runS (As := [.int v_28, .int (nI 6)]) (rest := [.int v_27, .int 1]) ⟨hx, hb, hml, hown, hts⟩ (c_L_below l D cs v_28 6 (by decide) (by decide)) (va_cwS 2 hts gL_act_L_below rfl rfl rfl (by decide +kernel) ⟨Nat.le_of_ble_eq_true rfl, Nat.le_of_ble_eq_true rfl⟩) (rb_S hK hN trivial) rfl rfl hl.1 rfl (lv_room (Nat.le_of_ble_eq_true rfl)) dL_act_578 ⟨Nat.le_of_ble_eq_true rfl, Nat.le_of_ble_eq_true rfl⟩)) (fun r hr9 => ?_)
            obtain ⟨j29, hj29, e9⟩ := hr9
            rw [e9]
            refine lv_if_ne (tgt := 589) hx hb dL_act_581 (by decide) (fun c_30 => ?_) (fun c_30 => ?_)
            · refine lv_bipush (v := 7) hx hb dL_act_589 (by decide) ?_
              refine vp_callSi (va_Run.run (va_runS (As := [.int v_27, .int (nI 7)]) (rest := [.int 1]) ⟨hx, hb, hml, hown, hts⟩ (c_L_below l D cs v_27 7 (by decide) (by decide)) (va_cwS 2 hts gL_act_L_below rfl rfl rfl (by decide +kernel) ⟨Nat.le_of_ble_eq_true rfl, Nat.le_of_ble_eq_true rfl⟩) (rb_S hK hN trivial) rfl rfl hl.1 rfl (lv_room (Nat.le_of_ble_eq_true rfl)) dL_act_591 ⟨Nat.le_of_ble_eq_true rfl, Nat.le_of_ble_eq_true rfl⟩)) (fun r hr9 => ?_)
              obtain ⟨j31, hj31, e9⟩ := hr9
              rw [e9]
              refine lv_iadd hx hb dL_act_594 ?_
              refine W.eq (g2 := F0 m 595 ls [.int (nI (1 + j31))]) (by rw [nI_1add]) ?_
              exact K595 j31 (by omega)
            · refine lv_bipush (v := 72) hx hb dL_act_584 (by decide) ?_
              refine lv_goto (tgt := 591) hx hb dL_act_586 (by decide) ?_
              refine vp_callSi (va_Run.run (va_runS (As := [.int v_27, .int (nI 72)]) (rest := [.int 1]) ⟨hx, hb, hml, hown, hts⟩ (c_L_below l D cs v_27 72 (by decide) (by decide)) (va_cwS 2 hts gL_act_L_below rfl rfl rfl (by decide +kernel) ⟨Nat.le_of_ble_eq_true rfl, Nat.le_of_ble_eq_true rfl⟩) (rb_S hK hN trivial) rfl rfl hl.1 rfl (lv_room (Nat.le_of_ble_eq_true rfl)) dL_act_591 ⟨Nat.le_of_ble_eq_true rfl, Nat.le_of_ble_eq_true rfl⟩)) (fun r hr9 => ?_)
              obtain ⟨j32, hj32, e9⟩ := hr9
              rw [e9]
              refine lv_iadd hx hb dL_act_594 ?_
              refine W.eq (g2 := F0 m 595 ls [.int (nI (1 + j32))]) (by rw [nI_1add]) ?_
              exact K595 j32 (by omega)
        refine lv_iload hx hb dL_act_183 (lv_at hl 3 rfl) ?_
        rcases (show j1 = 0 ∨ j1 = 1 ∨ j1 = 2 ∨ j1 = 3 ∨ j1 = 4 ∨ j1 = 5 ∨ j1 = 6 ∨ j1 = 7 ∨ j1 = 8 ∨ j1 = 9 ∨ j1 = 10 ∨ j1 = 11 ∨ j1 = 12 ∨ j1 = 13 ∨ j1 = 14 by omega) with rfl | rfl | rfl | rfl | rfl | rfl | rfl | rfl | rfl | rfl | rfl | rfl | rfl | rfl | rfl
        · exact absurd rfl c_11
        · exact lv_tableIn (off := 55) (tgt := 240) hx hb dL_act_185 (by decide) (by decide) rfl (by decide) K240
        · exact lv_tableIn (off := 55) (tgt := 240) hx hb dL_act_185 (by decide) (by decide) rfl (by decide) K240
        · exact lv_tableIn (off := 136) (tgt := 321) hx hb dL_act_185 (by decide) (by decide) rfl (by decide) K321
        · exact lv_tableIn (off := 181) (tgt := 366) hx hb dL_act_185 (by decide) (by decide) rfl (by decide) K366
        · exact lv_tableIn (off := 181) (tgt := 366) hx hb dL_act_185 (by decide) (by decide) rfl (by decide) K366
        · exact lv_tableIn (off := 181) (tgt := 366) hx hb dL_act_185 (by decide) (by decide) rfl (by decide) K366
        · exact lv_tableIn (off := 253) (tgt := 438) hx hb dL_act_185 (by decide) (by decide) rfl (by decide) K438
        · exact lv_tableIn (off := 316) (tgt := 501) hx hb dL_act_185 (by decide) (by decide) rfl (by decide) K501
        · exact lv_tableIn (off := 316) (tgt := 501) hx hb dL_act_185 (by decide) (by decide) rfl (by decide) K501
        · exact lv_tableIn (off := 316) (tgt := 501) hx hb dL_act_185 (by decide) (by decide) rfl (by decide) K501
        · exact lv_tableOut (tgt := 568) hx hb dL_act_185 (by decide) (by decide) K568
        · exact lv_tableOut (tgt := 568) hx hb dL_act_185 (by decide) (by decide) K568
        · exact lv_tableOut (tgt := 568) hx hb dL_act_185 (by decide) (by decide) K568
        · exact lv_tableOut (tgt := 568) hx hb dL_act_185 (by decide) (by decide) K568
      · exact K26
