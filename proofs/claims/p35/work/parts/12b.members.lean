/-! THE LAW'S ROUND: members, hats, certificates (laid by wip/p35/gen/law1.py) -/
set_option maxHeartbeats 4000000 in
set_option maxRecDepth 100000 in
theorem q_members {p : Program} {e : Env} {s : State} {m : MethodId} {below : List Frame} {meth : Method} {c : Code} {l : Launch} {b L : Nat} {xs : Nat → Int32} {D : va_G} {cs : Cs} {e0 : Nat} (E : LwE p s m c l b L xs D cs e0) {Q : State → Prop} {ρ : Rf} {M : Mf} {B : Nat} {σ : PS} (hQ : InvQ B σ) (hBB : B + 96 ≤ 40000) (hap : AptJ ρ M (sK σ)) (hk0 : 0 < sK σ) (hZo : ∀ q, ownJ ρ M (sK σ) q → s.heap.size ≤ q) {H : Heap} {locs : List Loc} {ls : Array Slot} {cells slots : Nat} (hP : Soc D cs ρ σ H) (hM : va_P D vwCl (simW cs M σ) H) (hS : va_S (fun q : Nat => s.heap.size ≤ q) s.heap H locs) {tm : Nat} {xv : Int32} (hl : lv_has ls 25 [(0, .ref b), (1, .ref (r_h ρ)), (2, .ref M.1), (3, .int (nI tm)), (4, .int xv)]) (hc1 : cells + 1 ≤ 704666) (hc2 : slots + 10 ≤ 6987184)
    (K : ∀ (ls : Array Slot) (H : Heap) (locs : List Loc), Soc D cs ρ σ H → va_P D vwCl (simW cs M σ) H → va_S (fun q : Nat => s.heap.size ≤ q) s.heap H locs → lv_has ls 25 [(0, .ref b), (1, .ref (r_h ρ)), (2, .ref M.1), (3, .int (nI tm)), (4, .int xv), (5, .long (digS σ)), (7, .int (nI (sK σ))), (9, .int (certsS σ)), (10, .int (honOS σ))] → W p l e room_1 s m #[.ref b] below meth c H locs (cells + 1) (slots + 10) Q (F0 m 438 ls [])) :
    W p l e room_1 s m #[.ref b] below meth c H locs cells slots Q (F0 m 82 ls []) := by
  obtain ⟨hx, hb, hml, hown, hts, hX, hbl, hL, hK, hN, hO, hT, hE, hlf⟩ := id E
  have hTt := hQ.1
  have hI := hTt.1
  have h10 := hI.1
  have hA : ∀ q : Nat, s.heap.size ≤ q → (fun q : Nat => s.heap.size ≤ q) q := fun _ h => h
  refine lv_aload_n hx hb dL_law_82 rfl (lv_at hl 1 rfl) ?_
  refine vp_callSl (va_Run.run (va_runV (As := []) (rest := []) ⟨hx, hb, hml, hown, hts⟩ (c_X1_digest l D cs ρ hI hap.1.1) (cwV 0 hts gL_law_X1_digest rfl rfl rfl (by decide +kernel) ⟨Nat.le_of_ble_eq_true rfl, Nat.le_of_ble_eq_true rfl⟩) (rb_V hK hN hP (va_recv hK (one_P hP.1) (ci := 2) (q0 := 0) rfl rfl)) rfl rfl hl.1 rfl (lv_room (Nat.le_of_ble_eq_true rfl)) dL_law_83 ⟨(show cells + 0 ≤ 704666 by omega), (show slots + 0 ≤ 6987184 by omega)⟩)) (fun r_1 hr_1 => ?_)
  rw [hr_1]
  refine lv_lstore (lv' := [(5, .long (digS σ)), (0, .ref b), (1, .ref (r_h ρ)), (2, .ref M.1), (3, .int (nI tm)), (4, .int xv)]) hx hb dL_law_86 hl (by decide) rfl (fun ls hl => ?_)
  refine lv_aload_n hx hb dL_law_88 rfl (lv_at hl 2 rfl) ?_
  refine vp_callSi (va_Run.run (va_runV (As := []) (rest := []) ⟨hx, hb, hml, hown, hts⟩ (c_X1_members l D cs ρ hI hap.1.1) (cwV 0 hts gL_law_X1_members rfl rfl rfl (by decide +kernel) ⟨Nat.le_of_ble_eq_true rfl, Nat.le_of_ble_eq_true rfl⟩) (rb_V hK hN hP (va_recv hK (one_P hP.1) (ci := 2) (q0 := 0) rfl rfl)) rfl rfl hl.1 rfl (lv_room (Nat.le_of_ble_eq_true rfl)) dL_law_89 ⟨(show cells + 0 ≤ 704666 by omega), (show slots + 0 ≤ 6987184 by omega)⟩)) (fun r_2 hr_2 => ?_)
  rw [hr_2]
  refine lv_istore (lv' := [(7, .int (nI (sK σ))), (5, .long (digS σ)), (0, .ref b), (1, .ref (r_h ρ)), (2, .ref M.1), (3, .int (nI tm)), (4, .int xv)]) hx hb dL_law_92 hl (by decide) rfl (fun ls hl => ?_)
  refine lv_aload_n hx hb dL_law_94 rfl (lv_at hl 3 rfl) ?_
  refine vp_callSi (va_Run.run (va_runV (As := []) (rest := []) ⟨hx, hb, hml, hown, hts⟩ (c_X1_hourOfDay l D cs ρ hI hap.1.1) (cwV 0 hts gL_law_X1_hourOfDay rfl rfl rfl (by decide +kernel) ⟨Nat.le_of_ble_eq_true rfl, Nat.le_of_ble_eq_true rfl⟩) (rb_V hK hN hP (va_recv hK (one_P hP.1) (ci := 2) (q0 := 0) rfl rfl)) rfl rfl hl.1 rfl (lv_room (Nat.le_of_ble_eq_true rfl)) dL_law_95 ⟨(show cells + 0 ≤ 704666 by omega), (show slots + 0 ≤ 6987184 by omega)⟩)) (fun r_3 hr_3 => ?_)
  rw [hr_3]
  refine lv_istore (lv' := [(8, .int (dayOf σ)), (7, .int (nI (sK σ))), (5, .long (digS σ)), (0, .ref b), (1, .ref (r_h ρ)), (2, .ref M.1), (3, .int (nI tm)), (4, .int xv)]) hx hb dL_law_98 hl (by decide) rfl (fun ls hl => ?_)
  refine lv_iconst (v := 0) hx hb dL_law_100 (by decide) ?_
  refine lv_istore (lv' := [(9, .int 0), (8, .int (dayOf σ)), (7, .int (nI (sK σ))), (5, .long (digS σ)), (0, .ref b), (1, .ref (r_h ρ)), (2, .ref M.1), (3, .int (nI tm)), (4, .int xv)]) hx hb dL_law_101 hl (by decide) rfl (fun ls hl => ?_)
  refine lv_iconst (v := 0) hx hb dL_law_103 (by decide) ?_
  refine lv_istore (lv' := [(10, .int 0), (9, .int 0), (8, .int (dayOf σ)), (7, .int (nI (sK σ))), (5, .long (digS σ)), (0, .ref b), (1, .ref (r_h ρ)), (2, .ref M.1), (3, .int (nI tm)), (4, .int xv)]) hx hb dL_law_104 hl (by decide) rfl (fun ls hl => ?_)
  refine lv_iload hx hb dL_law_106 (lv_at hl 3 rfl) ?_
  have hSz := hS.1
  refine va_newa (atype := .boolean) (ty := .boolean) (N' := sK σ) (a0 := (sK σ, .inl (fun _ => 0))) hx hb (hts (.arrayClass .boolean) (List.mem_of_getElem? (i := 3) (by decide +kernel))) rfl hK (P_app hM (soc_P hP)) (J_DZ hap rfl hZo) hS hA (fun cA => rfl) (nI_pos (Nat.lt_of_le_of_lt hI.1 (by decide))) (nI_clamp (Nat.lt_of_le_of_lt hI.1 (by decide))) (by show sK σ * 1 ≤ 536870912; omega) (show cells + 1 ≤ 704666 by omega) (show slots + sK σ ≤ 6987184 by omega) dL_law_108 (fun v cA H hK9 hJ hDJ hS => ?_)
  obtain rfl := IZ_eq (hK9.2 4 _ rfl).2 (hK9.2 3 _ rfl).2
  obtain ⟨hvz, hvn⟩ := D_appR hDJ
  have hV : va_at D vwCl (v, .inl (cs.2.2.2, sK σ, .inl (wnF σ 0))) H := P_appR hJ
  have hM : va_P D vwCl (simW cs M σ) H := P_appL (P_appL hJ)
  have hP : Soc D cs ρ σ H := P_soc (P_appR2 (P_appL hJ))
  refine lv_astore (lv' := [(11, .ref v), (10, .int 0), (9, .int 0), (8, .int (dayOf σ)), (7, .int (nI (sK σ))), (5, .long (digS σ)), (0, .ref b), (1, .ref (r_h ρ)), (2, .ref M.1), (3, .int (nI tm)), (4, .int xv)]) hx hb dL_law_110 hl (by decide) rfl (fun ls hl => ?_)
  refine lv_iconst (v := 0) hx hb dL_law_112 (by decide) ?_
  refine lv_istore (lv' := [(12, .int 0), (11, .ref v), (10, .int 0), (9, .int 0), (8, .int (dayOf σ)), (7, .int (nI (sK σ))), (5, .long (digS σ)), (0, .ref b), (1, .ref (r_h ρ)), (2, .ref M.1), (3, .int (nI tm)), (4, .int xv)]) hx hb dL_law_113 hl (by decide) rfl (fun ls hl => ?_)
  obtain ⟨bl, hbl9, ebl, hlong⟩ := long_c hI hk0
  refine lv_forH (sK σ) (fun ls => F0 m 115 ls []) (fun n9 => [(0, .ref b), (1, .ref (r_h ρ)), (2, .ref M.1), (3, .int (nI tm)), (4, .int xv), (5, .long (digS σ)), (7, .int (nI (sK σ))), (8, .int (dayOf σ)), (9, .int (cntS (fun i => hasC σ i) n9)), (10, .int (cntS (fun i => hasC σ i ∧ truC σ i) n9)), (11, .ref v), (12, .int (nI n9))]) (fun n X => Soc D cs ρ σ X ∧ va_P D vwCl (simW cs M σ) X ∧ va_at D vwCl (v, .inl (cs.2.2.2, sK σ, .inl (wnF σ n))) X) (show lv_has ls 25 [(0, .ref b), (1, .ref (r_h ρ)), (2, .ref M.1), (3, .int (nI tm)), (4, .int xv), (5, .long (digS σ)), (7, .int (nI (sK σ))), (8, .int (dayOf σ)), (9, .int (cntS (fun i => hasC σ i) 0)), (10, .int (cntS (fun i => hasC σ i ∧ truC σ i) 0)), (11, .ref v), (12, .int (nI 0))] from lv_sub hl [7, 8, 9, 10, 11, 6, 5, 4, 3, 2, 1, 0] rfl) ⟨hP, hM, hV⟩ hS (fun n9 ls H locs hn9 hJ hS hl K115 => ?_) (fun ls H locs hJ hS hl => ?_)
  · obtain ⟨hP, hM, hV⟩ := hJ
    have hl : lv_has ls 25 [(0, .ref b), (1, .ref (r_h ρ)), (2, .ref M.1), (3, .int (nI tm)), (4, .int xv), (5, .long (digS σ)), (7, .int (nI (sK σ))), (8, .int (dayOf σ)), (9, .int (cntS (fun i => hasC σ i) n9)), (10, .int (cntS (fun i => hasC σ i ∧ truC σ i) n9)), (11, .ref v), (12, .int (nI n9))] := hl
    refine lv_iload hx hb dL_law_115 (lv_at hl 11 rfl) ?_
    refine lv_iload hx hb dL_law_117 (lv_at hl 6 rfl) ?_
    refine lv_icmp_ge (tgt := 367) hx hb dL_law_119 (by decide) (fun c9 => absurd c9 (nI_ge hn9 (Nat.lt_of_le_of_lt hI.1 (by decide)))) (fun _ => ?_)
    refine lv_aload_n hx hb dL_law_122 rfl (lv_at hl 1 rfl) ?_
    refine lv_iload hx hb dL_law_123 (lv_at hl 11 rfl) ?_
    refine vp_callSi (va_Run.run (va_runV (As := [.int (nI n9)]) (rest := []) ⟨hx, hb, hml, hown, hts⟩ (n_X1_wears l D cs ρ hI hap.1.1 n9 hn9) (cwV 1 hts gL_law_X1_wears rfl rfl rfl (by decide +kernel) ⟨Nat.le_of_ble_eq_true rfl, Nat.le_of_ble_eq_true rfl⟩) (rb_V hK hN hP (va_recv hK (one_P hP.1) (ci := 2) (q0 := 0) rfl rfl)) rfl rfl hl.1 rfl (lv_room (Nat.le_of_ble_eq_true rfl)) dL_law_125 ⟨(show cells + 1 + 0 ≤ 704666 by omega), (show slots + sK σ + 0 ≤ 6987184 by omega)⟩)) (fun r_4 hr_4 => ?_)
    rw [hr_4]
    rcases wear_cases hI hn9 with hw | ⟨j, hj, hw⟩
    · refine W.eq (g2 := F0 m 128 ls [.int (-1)]) (by rw [hw]) ?_
      refine lv_istore (lv' := [(13, .int (-1)), (0, .ref b), (1, .ref (r_h ρ)), (2, .ref M.1), (3, .int (nI tm)), (4, .int xv), (5, .long (digS σ)), (7, .int (nI (sK σ))), (8, .int (dayOf σ)), (9, .int (cntS (fun i => hasC σ i) n9)), (10, .int (cntS (fun i => hasC σ i ∧ truC σ i) n9)), (11, .ref v), (12, .int (nI n9))]) hx hb dL_law_128 hl (by decide) rfl (fun ls hl => ?_)
      refine lv_iload hx hb dL_law_130 (lv_at hl 0 rfl) ?_
      refine lv_iconst (v := (-1)) hx hb dL_law_132 (by decide) ?_
      refine lv_icmp_lt (tgt := 173) hx hb dL_law_133 (by decide) (fun c9 => absurd c9 (by decide)) (fun _ => ?_)
      refine lv_iload hx hb dL_law_136 (lv_at hl 0 rfl) ?_
      refine lv_iload hx hb dL_law_138 (lv_at hl 7 rfl) ?_
      refine lv_icmp_ge (tgt := 173) hx hb dL_law_140 (by decide) (fun c9 => absurd c9 (m1_nge (Nat.lt_of_le_of_lt hI.1 (by decide)))) (fun _ => ?_)
      refine lv_iload hx hb dL_law_143 (lv_at hl 0 rfl) ?_
      refine lv_if_lt (tgt := 156) hx hb dL_law_145 (by decide) (fun _ => ?_) (fun c9 => absurd (by decide) c9)
      refine lv_iload hx hb dL_law_156 (lv_at hl 0 rfl) ?_
      refine lv_if_lt (tgt := 175) hx hb dL_law_158 (by decide) (fun _ => ?_) (fun c9 => absurd (by decide) c9)
      refine lv_iload hx hb dL_law_175 (lv_at hl 0 rfl) ?_
      refine lv_if_lt (tgt := 186) hx hb dL_law_177 (by decide) (fun _ => ?_) (fun c9 => absurd (by decide) c9)
      refine lv_aload_n hx hb dL_law_186 rfl (lv_at hl 2 rfl) ?_
      refine lv_iload hx hb dL_law_187 (lv_at hl 12 rfl) ?_
      refine vp_callSi (va_Run.run (va_runV (As := [.int (nI n9)]) (rest := []) ⟨hx, hb, hml, hown, hts⟩ (n_X1_hatOn l D cs ρ hI hap.1.1 n9 hn9) (cwV 1 hts gL_law_X1_hatOn rfl rfl rfl (by decide +kernel) ⟨Nat.le_of_ble_eq_true rfl, Nat.le_of_ble_eq_true rfl⟩) (rb_V hK hN hP (va_recv hK (one_P hP.1) (ci := 2) (q0 := 0) rfl rfl)) rfl rfl hl.1 rfl (lv_room (Nat.le_of_ble_eq_true rfl)) dL_law_189 ⟨(show cells + 1 + 0 ≤ 704666 by omega), (show slots + sK σ + 0 ≤ 6987184 by omega)⟩)) (fun r_5 hr_5 => ?_)
      rw [hr_5]
      refine lv_iload hx hb dL_law_192 (lv_at hl 0 rfl) ?_
      refine lv_if_ge (tgt := 201) hx hb dL_law_194 (by decide) (fun c9 => absurd c9 (by decide)) (fun _ => ?_)
      refine lv_iconst (v := 0) hx hb dL_law_197 (by decide) ?_
      refine lv_goto (tgt := 210) hx hb dL_law_198 (by decide) ?_
      refine lv_icmp_ne (tgt := 280) hx hb dL_law_210 (by decide) (fun c9 => absurd (wornH_n hw) c9) (fun _ => ?_)
      refine lv_cut (F0 m 246 ls []) ?_ (fun K246 => ?_)
      · refine lv_aload_n hx hb dL_law_246 rfl (lv_at hl 2 rfl) ?_
        refine lv_iload hx hb dL_law_247 (lv_at hl 12 rfl) ?_
        refine vp_callSi (va_Run.run (va_runV (As := [.int (nI n9)]) (rest := []) ⟨hx, hb, hml, hown, hts⟩ (n_X1_shadowOf l D cs ρ hI hap.1.1 n9 hn9) (cwV 1 hts gL_law_X1_shadowOf rfl rfl rfl (by decide +kernel) ⟨Nat.le_of_ble_eq_true rfl, Nat.le_of_ble_eq_true rfl⟩) (rb_V hK hN hP (va_recv hK (one_P hP.1) (ci := 2) (q0 := 0) rfl rfl)) rfl rfl hl.1 rfl (lv_room (Nat.le_of_ble_eq_true rfl)) dL_law_249 ⟨(show cells + 1 + 0 ≤ 704666 by omega), (show slots + sK σ + 0 ≤ 6987184 by omega)⟩)) (fun r_6 hr_6 => ?_)
        rw [hr_6]
        refine lv_iconst (v := 3) hx hb dL_law_252 (by decide) ?_
        refine lv_aload_n hx hb dL_law_253 rfl (lv_at hl 2 rfl) ?_
        refine lv_iload hx hb dL_law_254 (lv_at hl 12 rfl) ?_
        refine vp_callSi (va_Run.run (va_runV (As := [.int (nI n9)]) (rest := [.int 3, .int (shadS σ n9 (dayOf σ))]) ⟨hx, hb, hml, hown, hts⟩ (n_X1_lampOf l D cs ρ hI hap.1.1 n9 hn9) (cwV 1 hts gL_law_X1_lampOf rfl rfl rfl (by decide +kernel) ⟨Nat.le_of_ble_eq_true rfl, Nat.le_of_ble_eq_true rfl⟩) (rb_V hK hN hP (va_recv hK (one_P hP.1) (ci := 2) (q0 := 0) rfl rfl)) rfl rfl hl.1 rfl (lv_room (Nat.le_of_ble_eq_true rfl)) dL_law_256 ⟨(show cells + 1 + 0 ≤ 704666 by omega), (show slots + sK σ + 0 ≤ 6987184 by omega)⟩)) (fun r_7 hr_7 => ?_)
        rw [hr_7]
        refine lv_imul hx hb dL_law_259 ?_
        refine lv_icmp_lt (tgt := 280) hx hb dL_law_260 (by decide) (fun c9 => absurd c9 (sh_lamp hTt hn9 _)) (fun _ => ?_)
        refine lv_aload_n hx hb dL_law_263 rfl (lv_at hl 2 rfl) ?_
        refine lv_iload hx hb dL_law_264 (lv_at hl 12 rfl) ?_
        refine vp_callSi (va_Run.run (va_runV (As := [.int (nI n9)]) (rest := []) ⟨hx, hb, hml, hown, hts⟩ (n_X1_shadowOf l D cs ρ hI hap.1.1 n9 hn9) (cwV 1 hts gL_law_X1_shadowOf rfl rfl rfl (by decide +kernel) ⟨Nat.le_of_ble_eq_true rfl, Nat.le_of_ble_eq_true rfl⟩) (rb_V hK hN hP (va_recv hK (one_P hP.1) (ci := 2) (q0 := 0) rfl rfl)) rfl rfl hl.1 rfl (lv_room (Nat.le_of_ble_eq_true rfl)) dL_law_266 ⟨(show cells + 1 + 0 ≤ 704666 by omega), (show slots + sK σ + 0 ≤ 6987184 by omega)⟩)) (fun r_8 hr_8 => ?_)
        rw [hr_8]
        refine lv_aload_n hx hb dL_law_269 rfl (lv_at hl 2 rfl) ?_
        refine lv_aload_n hx hb dL_law_270 rfl (lv_at hl 2 rfl) ?_
        refine vp_callSi (va_Run.run (va_runV (As := []) (rest := [.ref (r_h ρ), .int (shadS σ n9 (dayOf σ))]) ⟨hx, hb, hml, hown, hts⟩ (c_X1_longest l D cs ρ hI hap.1.1) (cwV 0 hts gL_law_X1_longest rfl rfl rfl (by decide +kernel) ⟨Nat.le_of_ble_eq_true rfl, Nat.le_of_ble_eq_true rfl⟩) (rb_V hK hN hP (va_recv hK (one_P hP.1) (ci := 2) (q0 := 0) rfl rfl)) rfl rfl hl.1 rfl (lv_room (Nat.le_of_ble_eq_true rfl)) dL_law_271 ⟨(show cells + 1 + 0 ≤ 704666 by omega), (show slots + sK σ + 0 ≤ 6987184 by omega)⟩)) (fun r_9 hr_9 => ?_)
        rw [hr_9]
        refine W.eq (g2 := F0 m 274 ls [.int (nI bl), .ref (r_h ρ), .int (shadS σ n9 (dayOf σ))]) (by rw [ebl]) ?_
        refine vp_callSi (va_Run.run (va_runV (As := [.int (nI bl)]) (rest := [.int (shadS σ n9 (dayOf σ))]) ⟨hx, hb, hml, hown, hts⟩ (n_X1_shadowOf l D cs ρ hI hap.1.1 bl hbl9) (cwV 1 hts gL_law_X1_shadowOf rfl rfl rfl (by decide +kernel) ⟨Nat.le_of_ble_eq_true rfl, Nat.le_of_ble_eq_true rfl⟩) (rb_V hK hN hP (va_recv hK (one_P hP.1) (ci := 2) (q0 := 0) rfl rfl)) rfl rfl hl.1 rfl (lv_room (Nat.le_of_ble_eq_true rfl)) dL_law_274 ⟨(show cells + 1 + 0 ≤ 704666 by omega), (show slots + sK σ + 0 ≤ 6987184 by omega)⟩)) (fun r_10 hr_10 => ?_)
        rw [hr_10]
        refine lv_icmp_le (tgt := 282) hx hb dL_law_277 (by decide) (fun _ => ?_) (fun c9 => absurd (Int32.not_lt.mp (hlong n9 hn9)) c9)
        refine lv_aload_n hx hb dL_law_282 rfl (lv_at hl 2 rfl) ?_
        refine lv_iload hx hb dL_law_283 (lv_at hl 12 rfl) ?_
        refine vp_callSi (va_Run.run (va_runV (As := [.int (nI n9)]) (rest := []) ⟨hx, hb, hml, hown, hts⟩ (n_X1_certified l D cs ρ hI hap.1.1 n9 hn9) (cwV 1 hts gL_law_X1_certified rfl rfl rfl (by decide +kernel) ⟨Nat.le_of_ble_eq_true rfl, Nat.le_of_ble_eq_true rfl⟩) (rb_V hK hN hP (va_recv hK (one_P hP.1) (ci := 2) (q0 := 0) rfl rfl)) rfl rfl hl.1 rfl (lv_room (Nat.le_of_ble_eq_true rfl)) dL_law_285 ⟨(show cells + 1 + 0 ≤ 704666 by omega), (show slots + sK σ + 0 ≤ 6987184 by omega)⟩)) (fun r_11 hr_11 => ?_)
        rw [hr_11]
        refine lv_if_ge (tgt := 294) hx hb dL_law_288 (by decide) (fun c_12 => ?_) (fun c_12 => ?_)
        · refine lv_iinc (v := (cntS (fun i => hasC σ i) n9) + 1) (lv' := [(9, .int ((cntS (fun i => hasC σ i) n9) + 1)), (13, .int (-1)), (0, .ref b), (1, .ref (r_h ρ)), (2, .ref M.1), (3, .int (nI tm)), (4, .int xv), (5, .long (digS σ)), (7, .int (nI (sK σ))), (8, .int (dayOf σ)), (10, .int (cntS (fun i => hasC σ i ∧ truC σ i) n9)), (11, .ref v), (12, .int (nI n9))]) hx hb dL_law_294 hl (k := 9) rfl rfl (by decide) rfl (fun ls hl => ?_)
          refine lv_iload hx hb dL_law_297 (lv_at hl 10 rfl) ?_
          refine lv_aload_n hx hb dL_law_299 rfl (lv_at hl 3 rfl) ?_
          refine lv_iload hx hb dL_law_300 (lv_at hl 12 rfl) ?_
          refine vp_callSi (va_Run.run (va_runV (As := [.int (nI n9)]) (rest := [.int (cntS (fun i => hasC σ i ∧ truC σ i) n9)]) ⟨hx, hb, hml, hown, hts⟩ (n_X1_isHonest l D cs ρ hI hap.1.1 n9 hn9 (cer_ge c_12)) (cwV 1 hts gL_law_X1_isHonest rfl rfl rfl (by decide +kernel) ⟨Nat.le_of_ble_eq_true rfl, Nat.le_of_ble_eq_true rfl⟩) (rb_V hK hN hP (va_recv hK (one_P hP.1) (ci := 2) (q0 := 0) rfl rfl)) rfl rfl hl.1 rfl (lv_room (Nat.le_of_ble_eq_true rfl)) dL_law_302 ⟨(show cells + 1 + 0 ≤ 704666 by omega), (show slots + sK σ + 0 ≤ 6987184 by omega)⟩)) (fun r_13 hr_13 => ?_)
          rw [hr_13]
          refine lv_if_eq (tgt := 312) hx hb dL_law_305 (by decide) (fun c_14 => ?_) (fun c_14 => ?_)
          · refine lv_iconst (v := 0) hx hb dL_law_312 (by decide) ?_
            refine lv_iadd hx hb dL_law_313 ?_
            refine lv_istore (lv' := [(10, .int ((cntS (fun i => hasC σ i ∧ truC σ i) n9) + 0)), (9, .int ((cntS (fun i => hasC σ i) n9) + 1)), (13, .int (-1)), (0, .ref b), (1, .ref (r_h ρ)), (2, .ref M.1), (3, .int (nI tm)), (4, .int xv), (5, .long (digS σ)), (7, .int (nI (sK σ))), (8, .int (dayOf σ)), (11, .ref v), (12, .int (nI n9))]) hx hb dL_law_314 hl (by decide) rfl (fun ls hl => ?_)
            obtain ⟨ha9, hha, eha⟩ := hQ.2.2.1 n9 hn9
            refine lv_aload_n hx hb dL_law_316 rfl (lv_at hl 4 rfl) ?_
            refine lv_iload hx hb dL_law_317 (lv_at hl 12 rfl) ?_
            refine vp_callSi (va_Run.run (va_runV (As := [.int (nI n9)]) (rest := []) ⟨hx, hb, hml, hown, hts⟩ (n_X1_certified l D cs ρ hI hap.1.1 n9 hn9) (cwV 1 hts gL_law_X1_certified rfl rfl rfl (by decide +kernel) ⟨Nat.le_of_ble_eq_true rfl, Nat.le_of_ble_eq_true rfl⟩) (rb_V hK hN hP (va_recv hK (one_P hP.1) (ci := 2) (q0 := 0) rfl rfl)) rfl rfl hl.1 rfl (lv_room (Nat.le_of_ble_eq_true rfl)) dL_law_319 ⟨(show cells + 1 + 0 ≤ 704666 by omega), (show slots + sK σ + 0 ≤ 6987184 by omega)⟩)) (fun r_15 hr_15 => ?_)
            rw [hr_15]
            refine lv_aload_n hx hb dL_law_322 rfl (lv_at hl 4 rfl) ?_
            refine lv_iload hx hb dL_law_323 (lv_at hl 12 rfl) ?_
            refine lv_aload_n hx hb dL_law_325 rfl (lv_at hl 5 rfl) ?_
            refine va_get (D := D) (ci := 3) (v := .ref M.2.1) (C := RX2) (T := TX2) (N := 4) hx hb hts inlX2 hown hK hM 0 rfl rfl 3 (by decide) (hts (.fieldLink RL 9 "ShadowSocietyLaw$Sim" "members" "[[I") (List.mem_of_getElem? (i := 4) (by decide +kernel))) (fun _ h9 => h9) rfl dL_law_326 ?_
            refine lv_iload hx hb dL_law_329 (lv_at hl 12 rfl) ?_
            refine va_aldA hx hb hK hM 1 2 rfl rfl (vp_in_nI hn9 (Nat.lt_of_le_of_lt hI.1 (by decide))) (elm_at hn9 hI.1) dL_law_331 ?_
            refine lv_bipush (v := 6) hx hb dL_law_332 (by decide) ?_
            refine va_iald hx hb hK hM (2 + n9) 0 (simW_at hn9) rfl (by unfold vp_in; decide) dL_law_334 ?_
            rw [show rowF σ n9 (6 : Int32).toNatClampNeg = sAt σ n9 from rfl]
            refine vp_callSi (va_Run.run (va_runV (As := [.int (nI n9), .int (sAt σ n9)]) (rest := [.int (sCe σ n9)]) ⟨hx, hb, hml, hown, hts⟩ (n_X1_honestShadow l D cs ρ hI hap.1.1 n9 hn9 (sAt σ n9) (by rw [eha]; exact nI_pos (by omega)) (by rw [eha]; exact nI_lt (b := 24) hha (by decide))) (cwV 2 hts gL_law_X1_honestShadow rfl rfl rfl (by decide +kernel) ⟨Nat.le_of_ble_eq_true rfl, Nat.le_of_ble_eq_true rfl⟩) (rb_V hK hN hP (va_recv hK (one_P hP.1) (ci := 2) (q0 := 0) rfl rfl)) rfl rfl hl.1 rfl (lv_room (Nat.le_of_ble_eq_true rfl)) dL_law_335 ⟨(show cells + 1 + 0 ≤ 704666 by omega), (show slots + sK σ + 0 ≤ 6987184 by omega)⟩)) (fun r_16 hr_16 => ?_)
            rw [hr_16]
            refine lv_icmp_ne (tgt := 345) hx hb dL_law_338 (by decide) (fun _ => ?_) (fun c9 => absurd c9 ((fun q => b01_0.mp c_14 ⟨cer_ge c_12, q⟩)))
            refine lv_iconst (v := 0) hx hb dL_law_345 (by decide) ?_
            refine lv_istore (lv' := [(14, .int 0), (10, .int ((cntS (fun i => hasC σ i ∧ truC σ i) n9) + 0)), (9, .int ((cntS (fun i => hasC σ i) n9) + 1)), (13, .int (-1)), (0, .ref b), (1, .ref (r_h ρ)), (2, .ref M.1), (3, .int (nI tm)), (4, .int xv), (5, .long (digS σ)), (7, .int (nI (sK σ))), (8, .int (dayOf σ)), (11, .ref v), (12, .int (nI n9))]) hx hb dL_law_346 hl (by decide) rfl (fun ls hl => ?_)
            refine lv_aload_n hx hb dL_law_348 rfl (lv_at hl 5 rfl) ?_
            refine lv_iload hx hb dL_law_349 (lv_at hl 13 rfl) ?_
            refine vp_callSi (va_Run.run (va_runV (As := [.int (nI n9)]) (rest := []) ⟨hx, hb, hml, hown, hts⟩ (n_X1_isHonest l D cs ρ hI hap.1.1 n9 hn9 (cer_ge c_12)) (cwV 1 hts gL_law_X1_isHonest rfl rfl rfl (by decide +kernel) ⟨Nat.le_of_ble_eq_true rfl, Nat.le_of_ble_eq_true rfl⟩) (rb_V hK hN hP (va_recv hK (one_P hP.1) (ci := 2) (q0 := 0) rfl rfl)) rfl rfl hl.1 rfl (lv_room (Nat.le_of_ble_eq_true rfl)) dL_law_351 ⟨(show cells + 1 + 0 ≤ 704666 by omega), (show slots + sK σ + 0 ≤ 6987184 by omega)⟩)) (fun r_17 hr_17 => ?_)
            rw [hr_17]
            refine lv_iload hx hb dL_law_354 (lv_at hl 0 rfl) ?_
            refine lv_icmp_eq (tgt := 361) hx hb dL_law_356 (by decide) (fun _ => ?_) (fun c9 => absurd (c_14) c9)
            refine lv_iinc (v := nI (n9 + 1)) (lv' := [(12, .int (nI (n9 + 1))), (14, .int 0), (10, .int ((cntS (fun i => hasC σ i ∧ truC σ i) n9) + 0)), (9, .int ((cntS (fun i => hasC σ i) n9) + 1)), (13, .int (-1)), (0, .ref b), (1, .ref (r_h ρ)), (2, .ref M.1), (3, .int (nI tm)), (4, .int xv), (5, .long (digS σ)), (7, .int (nI (sK σ))), (8, .int (dayOf σ)), (11, .ref v)]) hx hb dL_law_361 hl (k := 13) rfl (nI_add _ 1) (by decide) rfl (fun ls hl => ?_)
            refine lv_goto (tgt := 115) hx hb dL_law_364 (by decide) ?_
            refine K115 ls _ _ ⟨hP, hM, (by rw [wnF_n hw]; exact hV)⟩ hS ?_
            show lv_has ls 25 [(0, .ref b), (1, .ref (r_h ρ)), (2, .ref M.1), (3, .int (nI tm)), (4, .int xv), (5, .long (digS σ)), (7, .int (nI (sK σ))), (8, .int (dayOf σ)), (9, .int (cntS (fun i => hasC σ i) (n9 + 1))), (10, .int (cntS (fun i => hasC σ i ∧ truC σ i) (n9 + 1))), (11, .ref v), (12, .int (nI (n9 + 1)))]
            rw [show cntS (fun i => hasC σ i) (n9 + 1) = cntS (fun i => hasC σ i) n9 + 1 from cnt_t (p := fun i => hasC σ i) (cer_ge c_12)]
            rw [show cntS (fun i => hasC σ i ∧ truC σ i) (n9 + 1) = cntS (fun i => hasC σ i ∧ truC σ i) n9 + 0 from (cnt_f (p := fun i => hasC σ i ∧ truC σ i) (b01_0.mp c_14)).trans (Int32.add_zero _).symm]
            exact lv_sub hl [5, 6, 7, 8, 9, 10, 11, 12, 3, 2, 13, 0] rfl
          · refine lv_iconst (v := 1) hx hb dL_law_308 (by decide) ?_
            refine lv_goto (tgt := 313) hx hb dL_law_309 (by decide) ?_
            refine lv_iadd hx hb dL_law_313 ?_
            refine lv_istore (lv' := [(10, .int ((cntS (fun i => hasC σ i ∧ truC σ i) n9) + 1)), (9, .int ((cntS (fun i => hasC σ i) n9) + 1)), (13, .int (-1)), (0, .ref b), (1, .ref (r_h ρ)), (2, .ref M.1), (3, .int (nI tm)), (4, .int xv), (5, .long (digS σ)), (7, .int (nI (sK σ))), (8, .int (dayOf σ)), (11, .ref v), (12, .int (nI n9))]) hx hb dL_law_314 hl (by decide) rfl (fun ls hl => ?_)
            obtain ⟨ha9, hha, eha⟩ := hQ.2.2.1 n9 hn9
            refine lv_aload_n hx hb dL_law_316 rfl (lv_at hl 4 rfl) ?_
            refine lv_iload hx hb dL_law_317 (lv_at hl 12 rfl) ?_
            refine vp_callSi (va_Run.run (va_runV (As := [.int (nI n9)]) (rest := []) ⟨hx, hb, hml, hown, hts⟩ (n_X1_certified l D cs ρ hI hap.1.1 n9 hn9) (cwV 1 hts gL_law_X1_certified rfl rfl rfl (by decide +kernel) ⟨Nat.le_of_ble_eq_true rfl, Nat.le_of_ble_eq_true rfl⟩) (rb_V hK hN hP (va_recv hK (one_P hP.1) (ci := 2) (q0 := 0) rfl rfl)) rfl rfl hl.1 rfl (lv_room (Nat.le_of_ble_eq_true rfl)) dL_law_319 ⟨(show cells + 1 + 0 ≤ 704666 by omega), (show slots + sK σ + 0 ≤ 6987184 by omega)⟩)) (fun r_18 hr_18 => ?_)
            rw [hr_18]
            refine lv_aload_n hx hb dL_law_322 rfl (lv_at hl 4 rfl) ?_
            refine lv_iload hx hb dL_law_323 (lv_at hl 12 rfl) ?_
            refine lv_aload_n hx hb dL_law_325 rfl (lv_at hl 5 rfl) ?_
            refine va_get (D := D) (ci := 3) (v := .ref M.2.1) (C := RX2) (T := TX2) (N := 4) hx hb hts inlX2 hown hK hM 0 rfl rfl 3 (by decide) (hts (.fieldLink RL 9 "ShadowSocietyLaw$Sim" "members" "[[I") (List.mem_of_getElem? (i := 4) (by decide +kernel))) (fun _ h9 => h9) rfl dL_law_326 ?_
            refine lv_iload hx hb dL_law_329 (lv_at hl 12 rfl) ?_
            refine va_aldA hx hb hK hM 1 2 rfl rfl (vp_in_nI hn9 (Nat.lt_of_le_of_lt hI.1 (by decide))) (elm_at hn9 hI.1) dL_law_331 ?_
            refine lv_bipush (v := 6) hx hb dL_law_332 (by decide) ?_
            refine va_iald hx hb hK hM (2 + n9) 0 (simW_at hn9) rfl (by unfold vp_in; decide) dL_law_334 ?_
            rw [show rowF σ n9 (6 : Int32).toNatClampNeg = sAt σ n9 from rfl]
            refine vp_callSi (va_Run.run (va_runV (As := [.int (nI n9), .int (sAt σ n9)]) (rest := [.int (sCe σ n9)]) ⟨hx, hb, hml, hown, hts⟩ (n_X1_honestShadow l D cs ρ hI hap.1.1 n9 hn9 (sAt σ n9) (by rw [eha]; exact nI_pos (by omega)) (by rw [eha]; exact nI_lt (b := 24) hha (by decide))) (cwV 2 hts gL_law_X1_honestShadow rfl rfl rfl (by decide +kernel) ⟨Nat.le_of_ble_eq_true rfl, Nat.le_of_ble_eq_true rfl⟩) (rb_V hK hN hP (va_recv hK (one_P hP.1) (ci := 2) (q0 := 0) rfl rfl)) rfl rfl hl.1 rfl (lv_room (Nat.le_of_ble_eq_true rfl)) dL_law_335 ⟨(show cells + 1 + 0 ≤ 704666 by omega), (show slots + sK σ + 0 ≤ 6987184 by omega)⟩)) (fun r_19 hr_19 => ?_)
            rw [hr_19]
            refine lv_icmp_ne (tgt := 345) hx hb dL_law_338 (by decide) (fun c9 => absurd ((b01_n.mp c_14).2) c9) (fun _ => ?_)
            refine lv_iconst (v := 1) hx hb dL_law_341 (by decide) ?_
            refine lv_goto (tgt := 346) hx hb dL_law_342 (by decide) ?_
            refine lv_istore (lv' := [(14, .int 1), (10, .int ((cntS (fun i => hasC σ i ∧ truC σ i) n9) + 1)), (9, .int ((cntS (fun i => hasC σ i) n9) + 1)), (13, .int (-1)), (0, .ref b), (1, .ref (r_h ρ)), (2, .ref M.1), (3, .int (nI tm)), (4, .int xv), (5, .long (digS σ)), (7, .int (nI (sK σ))), (8, .int (dayOf σ)), (11, .ref v), (12, .int (nI n9))]) hx hb dL_law_346 hl (by decide) rfl (fun ls hl => ?_)
            refine lv_aload_n hx hb dL_law_348 rfl (lv_at hl 5 rfl) ?_
            refine lv_iload hx hb dL_law_349 (lv_at hl 13 rfl) ?_
            refine vp_callSi (va_Run.run (va_runV (As := [.int (nI n9)]) (rest := []) ⟨hx, hb, hml, hown, hts⟩ (n_X1_isHonest l D cs ρ hI hap.1.1 n9 hn9 (cer_ge c_12)) (cwV 1 hts gL_law_X1_isHonest rfl rfl rfl (by decide +kernel) ⟨Nat.le_of_ble_eq_true rfl, Nat.le_of_ble_eq_true rfl⟩) (rb_V hK hN hP (va_recv hK (one_P hP.1) (ci := 2) (q0 := 0) rfl rfl)) rfl rfl hl.1 rfl (lv_room (Nat.le_of_ble_eq_true rfl)) dL_law_351 ⟨(show cells + 1 + 0 ≤ 704666 by omega), (show slots + sK σ + 0 ≤ 6987184 by omega)⟩)) (fun r_20 hr_20 => ?_)
            rw [hr_20]
            refine lv_iload hx hb dL_law_354 (lv_at hl 0 rfl) ?_
            refine lv_icmp_eq (tgt := 361) hx hb dL_law_356 (by decide) (fun _ => ?_) (fun c9 => absurd (b01_t (b01_n.mp c_14)) c9)
            refine lv_iinc (v := nI (n9 + 1)) (lv' := [(12, .int (nI (n9 + 1))), (14, .int 1), (10, .int ((cntS (fun i => hasC σ i ∧ truC σ i) n9) + 1)), (9, .int ((cntS (fun i => hasC σ i) n9) + 1)), (13, .int (-1)), (0, .ref b), (1, .ref (r_h ρ)), (2, .ref M.1), (3, .int (nI tm)), (4, .int xv), (5, .long (digS σ)), (7, .int (nI (sK σ))), (8, .int (dayOf σ)), (11, .ref v)]) hx hb dL_law_361 hl (k := 13) rfl (nI_add _ 1) (by decide) rfl (fun ls hl => ?_)
            refine lv_goto (tgt := 115) hx hb dL_law_364 (by decide) ?_
            refine K115 ls _ _ ⟨hP, hM, (by rw [wnF_n hw]; exact hV)⟩ hS ?_
            show lv_has ls 25 [(0, .ref b), (1, .ref (r_h ρ)), (2, .ref M.1), (3, .int (nI tm)), (4, .int xv), (5, .long (digS σ)), (7, .int (nI (sK σ))), (8, .int (dayOf σ)), (9, .int (cntS (fun i => hasC σ i) (n9 + 1))), (10, .int (cntS (fun i => hasC σ i ∧ truC σ i) (n9 + 1))), (11, .ref v), (12, .int (nI (n9 + 1)))]
            rw [show cntS (fun i => hasC σ i) (n9 + 1) = cntS (fun i => hasC σ i) n9 + 1 from cnt_t (p := fun i => hasC σ i) (cer_ge c_12)]
            rw [show cntS (fun i => hasC σ i ∧ truC σ i) (n9 + 1) = cntS (fun i => hasC σ i ∧ truC σ i) n9 + 1 from cnt_t (p := fun i => hasC σ i ∧ truC σ i) (b01_n.mp c_14)]
            exact lv_sub hl [5, 6, 7, 8, 9, 10, 11, 12, 3, 2, 13, 0] rfl
        · refine lv_goto (tgt := 361) hx hb dL_law_291 (by decide) ?_
          refine lv_iinc (v := nI (n9 + 1)) (lv' := [(12, .int (nI (n9 + 1))), (13, .int (-1)), (0, .ref b), (1, .ref (r_h ρ)), (2, .ref M.1), (3, .int (nI tm)), (4, .int xv), (5, .long (digS σ)), (7, .int (nI (sK σ))), (8, .int (dayOf σ)), (9, .int (cntS (fun i => hasC σ i) n9)), (10, .int (cntS (fun i => hasC σ i ∧ truC σ i) n9)), (11, .ref v)]) hx hb dL_law_361 hl (k := 12) rfl (nI_add _ 1) (by decide) rfl (fun ls hl => ?_)
          refine lv_goto (tgt := 115) hx hb dL_law_364 (by decide) ?_
          refine K115 ls _ _ ⟨hP, hM, (by rw [wnF_n hw]; exact hV)⟩ hS ?_
          show lv_has ls 25 [(0, .ref b), (1, .ref (r_h ρ)), (2, .ref M.1), (3, .int (nI tm)), (4, .int xv), (5, .long (digS σ)), (7, .int (nI (sK σ))), (8, .int (dayOf σ)), (9, .int (cntS (fun i => hasC σ i) (n9 + 1))), (10, .int (cntS (fun i => hasC σ i ∧ truC σ i) (n9 + 1))), (11, .ref v), (12, .int (nI (n9 + 1)))]
          rw [show cntS (fun i => hasC σ i) (n9 + 1) = cntS (fun i => hasC σ i) n9 from cnt_f (p := fun i => hasC σ i) (fun q => q (cer_lt hQ.2.1 hn9 c_12)), show cntS (fun i => hasC σ i ∧ truC σ i) (n9 + 1) = cntS (fun i => hasC σ i ∧ truC σ i) n9 from cnt_f (p := fun i => hasC σ i ∧ truC σ i) (fun q => q.1 (cer_lt hQ.2.1 hn9 c_12))]
          exact lv_sub hl [2, 3, 4, 5, 6, 7, 8, 9, 10, 11, 12, 0] rfl
      · refine lv_iload hx hb dL_law_213 (lv_at hl 0 rfl) ?_
        refine lv_iload hx hb dL_law_215 (lv_at hl 12 rfl) ?_
        refine lv_icmp_ne (tgt := 246) hx hb dL_law_217 (by decide) (fun _ => ?_) (fun c9 => absurd c9 ((fun q => nI_m1 (Nat.lt_trans hn9 (Nat.lt_of_le_of_lt hI.1 (by decide))) q.symm)))
        exact K246
    · refine W.eq (g2 := F0 m 128 ls [.int (nI j)]) (by rw [hw]) ?_
      refine lv_istore (lv' := [(13, .int (nI j)), (0, .ref b), (1, .ref (r_h ρ)), (2, .ref M.1), (3, .int (nI tm)), (4, .int xv), (5, .long (digS σ)), (7, .int (nI (sK σ))), (8, .int (dayOf σ)), (9, .int (cntS (fun i => hasC σ i) n9)), (10, .int (cntS (fun i => hasC σ i ∧ truC σ i) n9)), (11, .ref v), (12, .int (nI n9))]) hx hb dL_law_128 hl (by decide) rfl (fun ls hl => ?_)
      refine lv_iload hx hb dL_law_130 (lv_at hl 0 rfl) ?_
      refine lv_iconst (v := (-1)) hx hb dL_law_132 (by decide) ?_
      refine lv_icmp_lt (tgt := 173) hx hb dL_law_133 (by decide) (fun c9 => absurd c9 (nI_nm1 (Nat.lt_trans hj (Nat.lt_of_le_of_lt hI.1 (by decide))))) (fun _ => ?_)
      refine lv_iload hx hb dL_law_136 (lv_at hl 0 rfl) ?_
      refine lv_iload hx hb dL_law_138 (lv_at hl 7 rfl) ?_
      refine lv_icmp_ge (tgt := 173) hx hb dL_law_140 (by decide) (fun c9 => absurd c9 (nI_ge hj (Nat.lt_of_le_of_lt hI.1 (by decide)))) (fun _ => ?_)
      refine lv_iload hx hb dL_law_143 (lv_at hl 0 rfl) ?_
      refine lv_if_lt (tgt := 156) hx hb dL_law_145 (by decide) (fun c9 => absurd c9 (nI_pos (Nat.lt_trans hj (Nat.lt_of_le_of_lt hI.1 (by decide))))) (fun _ => ?_)
      refine lv_aload hx hb dL_law_148 (lv_at hl 11 rfl) ?_
      refine lv_iload hx hb dL_law_150 (lv_at hl 0 rfl) ?_
      refine va_zald hx hb hK (one_P hV) 0 3 rfl rfl (vp_in_nI hj (Nat.lt_of_le_of_lt hI.1 (by decide))) dL_law_152 ?_
      rw [show (nI j).toNatClampNeg = j from nI_clamp (Nat.lt_trans hj (Nat.lt_of_le_of_lt hI.1 (by decide)))]
      refine W.eq (g2 := F0 m 153 ls [.int 0]) (by rw [wn_0 hTt hn9 hj hw]) ?_
      refine lv_if_ne (tgt := 173) hx hb dL_law_153 (by decide) (fun c9 => absurd (rfl) c9) (fun _ => ?_)
      refine lv_iload hx hb dL_law_156 (lv_at hl 0 rfl) ?_
      refine lv_if_lt (tgt := 175) hx hb dL_law_158 (by decide) (fun c9 => absurd c9 (nI_pos (Nat.lt_trans hj (Nat.lt_of_le_of_lt hI.1 (by decide))))) (fun _ => ?_)
      refine lv_aload_n hx hb dL_law_161 rfl (lv_at hl 3 rfl) ?_
      refine va_get (D := D) (ci := 3) (v := .ref M.2.1) (C := RX2) (T := TX2) (N := 4) hx hb hts inlX2 hown hK hM 0 rfl rfl 3 (by decide) (hts (.fieldLink RL 9 "ShadowSocietyLaw$Sim" "members" "[[I") (List.mem_of_getElem? (i := 4) (by decide +kernel))) (fun _ h9 => h9) rfl dL_law_162 ?_
      refine lv_iload hx hb dL_law_165 (lv_at hl 0 rfl) ?_
      refine va_aldA hx hb hK hM 1 2 rfl rfl (vp_in_nI hj (Nat.lt_of_le_of_lt hI.1 (by decide))) (elm_at hj hI.1) dL_law_167 ?_
      refine lv_iconst (v := 1) hx hb dL_law_168 (by decide) ?_
      refine va_iald hx hb hK hM (2 + j) 0 (simW_at hj) rfl (by unfold vp_in; decide) dL_law_169 ?_
      rw [show rowF σ j (1 : Int32).toNatClampNeg = sHa σ j from rfl]
      refine lv_if_ne (tgt := 175) hx hb dL_law_170 (by decide) (fun _ => ?_) (fun c9 => absurd c9 (ha0_ne hTt hn9 hj hw))
      refine lv_iload hx hb dL_law_175 (lv_at hl 0 rfl) ?_
      refine lv_if_lt (tgt := 186) hx hb dL_law_177 (by decide) (fun c9 => absurd c9 (nI_pos (Nat.lt_trans hj (Nat.lt_of_le_of_lt hI.1 (by decide))))) (fun _ => ?_)
      refine lv_aload hx hb dL_law_180 (lv_at hl 11 rfl) ?_
      refine lv_iload hx hb dL_law_182 (lv_at hl 0 rfl) ?_
      refine lv_iconst (v := 1) hx hb dL_law_184 (by decide) ?_
      have hDV : va_D (fun q : Nat => s.heap.size ≤ q) ((v, .inl (cs.2.2.2, sK σ, .inl (wnF σ n9))) :: (simW cs M σ ++ socW cs ρ σ)) := D_cons hvz (J_DZ hap rfl hZo) hvn
      refine va_zast hx hb hK (P_cons hV (P_app hM (soc_P hP))) hDV hS 0 3 rfl rfl (vp_in_nI hj (Nat.lt_of_le_of_lt hI.1 (by decide))) dL_law_185 (fun H locs hJ hDJ hS => ?_)
      rw [show (nI j).toNatClampNeg = j from nI_clamp (Nat.lt_trans hj (Nat.lt_of_le_of_lt hI.1 (by decide)))] at hJ
      have hV : va_at D vwCl (v, .inl (cs.2.2.2, sK σ, .inl (wnF σ (n9 + 1)))) H := by rw [wnF_s (Nat.lt_trans hj (Nat.lt_of_le_of_lt hI.1 (by decide))) hw]; exact P_head hJ
      have hM : va_P D vwCl (simW cs M σ) H := P_appL (P_tail hJ)
      have hP : Soc D cs ρ σ H := P_soc (P_appR2 (P_tail hJ))
      refine lv_aload_n hx hb dL_law_186 rfl (lv_at hl 2 rfl) ?_
      refine lv_iload hx hb dL_law_187 (lv_at hl 12 rfl) ?_
      refine vp_callSi (va_Run.run (va_runV (As := [.int (nI n9)]) (rest := []) ⟨hx, hb, hml, hown, hts⟩ (n_X1_hatOn l D cs ρ hI hap.1.1 n9 hn9) (cwV 1 hts gL_law_X1_hatOn rfl rfl rfl (by decide +kernel) ⟨Nat.le_of_ble_eq_true rfl, Nat.le_of_ble_eq_true rfl⟩) (rb_V hK hN hP (va_recv hK (one_P hP.1) (ci := 2) (q0 := 0) rfl rfl)) rfl rfl hl.1 rfl (lv_room (Nat.le_of_ble_eq_true rfl)) dL_law_189 ⟨(show cells + 1 + 0 ≤ 704666 by omega), (show slots + sK σ + 0 ≤ 6987184 by omega)⟩)) (fun r_21 hr_21 => ?_)
      rw [hr_21]
      refine lv_iload hx hb dL_law_192 (lv_at hl 0 rfl) ?_
      refine lv_if_ge (tgt := 201) hx hb dL_law_194 (by decide) (fun _ => ?_) (fun c9 => absurd (nI_pos' (Nat.lt_trans hj (Nat.lt_of_le_of_lt hI.1 (by decide)))) c9)
      refine lv_aload_n hx hb dL_law_201 rfl (lv_at hl 3 rfl) ?_
      refine va_get (D := D) (ci := 3) (v := .ref M.2.1) (C := RX2) (T := TX2) (N := 4) hx hb hts inlX2 hown hK hM 0 rfl rfl 3 (by decide) (hts (.fieldLink RL 9 "ShadowSocietyLaw$Sim" "members" "[[I") (List.mem_of_getElem? (i := 4) (by decide +kernel))) (fun _ h9 => h9) rfl dL_law_202 ?_
      refine lv_iload hx hb dL_law_205 (lv_at hl 0 rfl) ?_
      refine va_aldA hx hb hK hM 1 2 rfl rfl (vp_in_nI hj (Nat.lt_of_le_of_lt hI.1 (by decide))) (elm_at hj hI.1) dL_law_207 ?_
      refine lv_iconst (v := 1) hx hb dL_law_208 (by decide) ?_
      refine va_iald hx hb hK hM (2 + j) 0 (simW_at hj) rfl (by unfold vp_in; decide) dL_law_209 ?_
      rw [show rowF σ j (1 : Int32).toNatClampNeg = sHa σ j from rfl]
      refine lv_icmp_ne (tgt := 280) hx hb dL_law_210 (by decide) (fun c9 => absurd (wornH_s hI hj hw) c9) (fun _ => ?_)
      refine lv_cut (F0 m 246 ls []) ?_ (fun K246 => ?_)
      · refine lv_aload_n hx hb dL_law_246 rfl (lv_at hl 2 rfl) ?_
        refine lv_iload hx hb dL_law_247 (lv_at hl 12 rfl) ?_
        refine vp_callSi (va_Run.run (va_runV (As := [.int (nI n9)]) (rest := []) ⟨hx, hb, hml, hown, hts⟩ (n_X1_shadowOf l D cs ρ hI hap.1.1 n9 hn9) (cwV 1 hts gL_law_X1_shadowOf rfl rfl rfl (by decide +kernel) ⟨Nat.le_of_ble_eq_true rfl, Nat.le_of_ble_eq_true rfl⟩) (rb_V hK hN hP (va_recv hK (one_P hP.1) (ci := 2) (q0 := 0) rfl rfl)) rfl rfl hl.1 rfl (lv_room (Nat.le_of_ble_eq_true rfl)) dL_law_249 ⟨(show cells + 1 + 0 ≤ 704666 by omega), (show slots + sK σ + 0 ≤ 6987184 by omega)⟩)) (fun r_22 hr_22 => ?_)
        rw [hr_22]
        refine lv_iconst (v := 3) hx hb dL_law_252 (by decide) ?_
        refine lv_aload_n hx hb dL_law_253 rfl (lv_at hl 2 rfl) ?_
        refine lv_iload hx hb dL_law_254 (lv_at hl 12 rfl) ?_
        refine vp_callSi (va_Run.run (va_runV (As := [.int (nI n9)]) (rest := [.int 3, .int (shadS σ n9 (dayOf σ))]) ⟨hx, hb, hml, hown, hts⟩ (n_X1_lampOf l D cs ρ hI hap.1.1 n9 hn9) (cwV 1 hts gL_law_X1_lampOf rfl rfl rfl (by decide +kernel) ⟨Nat.le_of_ble_eq_true rfl, Nat.le_of_ble_eq_true rfl⟩) (rb_V hK hN hP (va_recv hK (one_P hP.1) (ci := 2) (q0 := 0) rfl rfl)) rfl rfl hl.1 rfl (lv_room (Nat.le_of_ble_eq_true rfl)) dL_law_256 ⟨(show cells + 1 + 0 ≤ 704666 by omega), (show slots + sK σ + 0 ≤ 6987184 by omega)⟩)) (fun r_23 hr_23 => ?_)
        rw [hr_23]
        refine lv_imul hx hb dL_law_259 ?_
        refine lv_icmp_lt (tgt := 280) hx hb dL_law_260 (by decide) (fun c9 => absurd c9 (sh_lamp hTt hn9 _)) (fun _ => ?_)
        refine lv_aload_n hx hb dL_law_263 rfl (lv_at hl 2 rfl) ?_
        refine lv_iload hx hb dL_law_264 (lv_at hl 12 rfl) ?_
        refine vp_callSi (va_Run.run (va_runV (As := [.int (nI n9)]) (rest := []) ⟨hx, hb, hml, hown, hts⟩ (n_X1_shadowOf l D cs ρ hI hap.1.1 n9 hn9) (cwV 1 hts gL_law_X1_shadowOf rfl rfl rfl (by decide +kernel) ⟨Nat.le_of_ble_eq_true rfl, Nat.le_of_ble_eq_true rfl⟩) (rb_V hK hN hP (va_recv hK (one_P hP.1) (ci := 2) (q0 := 0) rfl rfl)) rfl rfl hl.1 rfl (lv_room (Nat.le_of_ble_eq_true rfl)) dL_law_266 ⟨(show cells + 1 + 0 ≤ 704666 by omega), (show slots + sK σ + 0 ≤ 6987184 by omega)⟩)) (fun r_24 hr_24 => ?_)
        rw [hr_24]
        refine lv_aload_n hx hb dL_law_269 rfl (lv_at hl 2 rfl) ?_
        refine lv_aload_n hx hb dL_law_270 rfl (lv_at hl 2 rfl) ?_
        refine vp_callSi (va_Run.run (va_runV (As := []) (rest := [.ref (r_h ρ), .int (shadS σ n9 (dayOf σ))]) ⟨hx, hb, hml, hown, hts⟩ (c_X1_longest l D cs ρ hI hap.1.1) (cwV 0 hts gL_law_X1_longest rfl rfl rfl (by decide +kernel) ⟨Nat.le_of_ble_eq_true rfl, Nat.le_of_ble_eq_true rfl⟩) (rb_V hK hN hP (va_recv hK (one_P hP.1) (ci := 2) (q0 := 0) rfl rfl)) rfl rfl hl.1 rfl (lv_room (Nat.le_of_ble_eq_true rfl)) dL_law_271 ⟨(show cells + 1 + 0 ≤ 704666 by omega), (show slots + sK σ + 0 ≤ 6987184 by omega)⟩)) (fun r_25 hr_25 => ?_)
        rw [hr_25]
        refine W.eq (g2 := F0 m 274 ls [.int (nI bl), .ref (r_h ρ), .int (shadS σ n9 (dayOf σ))]) (by rw [ebl]) ?_
        refine vp_callSi (va_Run.run (va_runV (As := [.int (nI bl)]) (rest := [.int (shadS σ n9 (dayOf σ))]) ⟨hx, hb, hml, hown, hts⟩ (n_X1_shadowOf l D cs ρ hI hap.1.1 bl hbl9) (cwV 1 hts gL_law_X1_shadowOf rfl rfl rfl (by decide +kernel) ⟨Nat.le_of_ble_eq_true rfl, Nat.le_of_ble_eq_true rfl⟩) (rb_V hK hN hP (va_recv hK (one_P hP.1) (ci := 2) (q0 := 0) rfl rfl)) rfl rfl hl.1 rfl (lv_room (Nat.le_of_ble_eq_true rfl)) dL_law_274 ⟨(show cells + 1 + 0 ≤ 704666 by omega), (show slots + sK σ + 0 ≤ 6987184 by omega)⟩)) (fun r_26 hr_26 => ?_)
        rw [hr_26]
        refine lv_icmp_le (tgt := 282) hx hb dL_law_277 (by decide) (fun _ => ?_) (fun c9 => absurd (Int32.not_lt.mp (hlong n9 hn9)) c9)
        refine lv_aload_n hx hb dL_law_282 rfl (lv_at hl 2 rfl) ?_
        refine lv_iload hx hb dL_law_283 (lv_at hl 12 rfl) ?_
        refine vp_callSi (va_Run.run (va_runV (As := [.int (nI n9)]) (rest := []) ⟨hx, hb, hml, hown, hts⟩ (n_X1_certified l D cs ρ hI hap.1.1 n9 hn9) (cwV 1 hts gL_law_X1_certified rfl rfl rfl (by decide +kernel) ⟨Nat.le_of_ble_eq_true rfl, Nat.le_of_ble_eq_true rfl⟩) (rb_V hK hN hP (va_recv hK (one_P hP.1) (ci := 2) (q0 := 0) rfl rfl)) rfl rfl hl.1 rfl (lv_room (Nat.le_of_ble_eq_true rfl)) dL_law_285 ⟨(show cells + 1 + 0 ≤ 704666 by omega), (show slots + sK σ + 0 ≤ 6987184 by omega)⟩)) (fun r_27 hr_27 => ?_)
        rw [hr_27]
        refine lv_if_ge (tgt := 294) hx hb dL_law_288 (by decide) (fun c_28 => ?_) (fun c_28 => ?_)
        · refine lv_iinc (v := (cntS (fun i => hasC σ i) n9) + 1) (lv' := [(9, .int ((cntS (fun i => hasC σ i) n9) + 1)), (13, .int (nI j)), (0, .ref b), (1, .ref (r_h ρ)), (2, .ref M.1), (3, .int (nI tm)), (4, .int xv), (5, .long (digS σ)), (7, .int (nI (sK σ))), (8, .int (dayOf σ)), (10, .int (cntS (fun i => hasC σ i ∧ truC σ i) n9)), (11, .ref v), (12, .int (nI n9))]) hx hb dL_law_294 hl (k := 9) rfl rfl (by decide) rfl (fun ls hl => ?_)
          refine lv_iload hx hb dL_law_297 (lv_at hl 10 rfl) ?_
          refine lv_aload_n hx hb dL_law_299 rfl (lv_at hl 3 rfl) ?_
          refine lv_iload hx hb dL_law_300 (lv_at hl 12 rfl) ?_
          refine vp_callSi (va_Run.run (va_runV (As := [.int (nI n9)]) (rest := [.int (cntS (fun i => hasC σ i ∧ truC σ i) n9)]) ⟨hx, hb, hml, hown, hts⟩ (n_X1_isHonest l D cs ρ hI hap.1.1 n9 hn9 (cer_ge c_28)) (cwV 1 hts gL_law_X1_isHonest rfl rfl rfl (by decide +kernel) ⟨Nat.le_of_ble_eq_true rfl, Nat.le_of_ble_eq_true rfl⟩) (rb_V hK hN hP (va_recv hK (one_P hP.1) (ci := 2) (q0 := 0) rfl rfl)) rfl rfl hl.1 rfl (lv_room (Nat.le_of_ble_eq_true rfl)) dL_law_302 ⟨(show cells + 1 + 0 ≤ 704666 by omega), (show slots + sK σ + 0 ≤ 6987184 by omega)⟩)) (fun r_29 hr_29 => ?_)
          rw [hr_29]
          refine lv_if_eq (tgt := 312) hx hb dL_law_305 (by decide) (fun c_30 => ?_) (fun c_30 => ?_)
          · refine lv_iconst (v := 0) hx hb dL_law_312 (by decide) ?_
            refine lv_iadd hx hb dL_law_313 ?_
            refine lv_istore (lv' := [(10, .int ((cntS (fun i => hasC σ i ∧ truC σ i) n9) + 0)), (9, .int ((cntS (fun i => hasC σ i) n9) + 1)), (13, .int (nI j)), (0, .ref b), (1, .ref (r_h ρ)), (2, .ref M.1), (3, .int (nI tm)), (4, .int xv), (5, .long (digS σ)), (7, .int (nI (sK σ))), (8, .int (dayOf σ)), (11, .ref v), (12, .int (nI n9))]) hx hb dL_law_314 hl (by decide) rfl (fun ls hl => ?_)
            obtain ⟨ha9, hha, eha⟩ := hQ.2.2.1 n9 hn9
            refine lv_aload_n hx hb dL_law_316 rfl (lv_at hl 4 rfl) ?_
            refine lv_iload hx hb dL_law_317 (lv_at hl 12 rfl) ?_
            refine vp_callSi (va_Run.run (va_runV (As := [.int (nI n9)]) (rest := []) ⟨hx, hb, hml, hown, hts⟩ (n_X1_certified l D cs ρ hI hap.1.1 n9 hn9) (cwV 1 hts gL_law_X1_certified rfl rfl rfl (by decide +kernel) ⟨Nat.le_of_ble_eq_true rfl, Nat.le_of_ble_eq_true rfl⟩) (rb_V hK hN hP (va_recv hK (one_P hP.1) (ci := 2) (q0 := 0) rfl rfl)) rfl rfl hl.1 rfl (lv_room (Nat.le_of_ble_eq_true rfl)) dL_law_319 ⟨(show cells + 1 + 0 ≤ 704666 by omega), (show slots + sK σ + 0 ≤ 6987184 by omega)⟩)) (fun r_31 hr_31 => ?_)
            rw [hr_31]
            refine lv_aload_n hx hb dL_law_322 rfl (lv_at hl 4 rfl) ?_
            refine lv_iload hx hb dL_law_323 (lv_at hl 12 rfl) ?_
            refine lv_aload_n hx hb dL_law_325 rfl (lv_at hl 5 rfl) ?_
            refine va_get (D := D) (ci := 3) (v := .ref M.2.1) (C := RX2) (T := TX2) (N := 4) hx hb hts inlX2 hown hK hM 0 rfl rfl 3 (by decide) (hts (.fieldLink RL 9 "ShadowSocietyLaw$Sim" "members" "[[I") (List.mem_of_getElem? (i := 4) (by decide +kernel))) (fun _ h9 => h9) rfl dL_law_326 ?_
            refine lv_iload hx hb dL_law_329 (lv_at hl 12 rfl) ?_
            refine va_aldA hx hb hK hM 1 2 rfl rfl (vp_in_nI hn9 (Nat.lt_of_le_of_lt hI.1 (by decide))) (elm_at hn9 hI.1) dL_law_331 ?_
            refine lv_bipush (v := 6) hx hb dL_law_332 (by decide) ?_
            refine va_iald hx hb hK hM (2 + n9) 0 (simW_at hn9) rfl (by unfold vp_in; decide) dL_law_334 ?_
            rw [show rowF σ n9 (6 : Int32).toNatClampNeg = sAt σ n9 from rfl]
            refine vp_callSi (va_Run.run (va_runV (As := [.int (nI n9), .int (sAt σ n9)]) (rest := [.int (sCe σ n9)]) ⟨hx, hb, hml, hown, hts⟩ (n_X1_honestShadow l D cs ρ hI hap.1.1 n9 hn9 (sAt σ n9) (by rw [eha]; exact nI_pos (by omega)) (by rw [eha]; exact nI_lt (b := 24) hha (by decide))) (cwV 2 hts gL_law_X1_honestShadow rfl rfl rfl (by decide +kernel) ⟨Nat.le_of_ble_eq_true rfl, Nat.le_of_ble_eq_true rfl⟩) (rb_V hK hN hP (va_recv hK (one_P hP.1) (ci := 2) (q0 := 0) rfl rfl)) rfl rfl hl.1 rfl (lv_room (Nat.le_of_ble_eq_true rfl)) dL_law_335 ⟨(show cells + 1 + 0 ≤ 704666 by omega), (show slots + sK σ + 0 ≤ 6987184 by omega)⟩)) (fun r_32 hr_32 => ?_)
            rw [hr_32]
            refine lv_icmp_ne (tgt := 345) hx hb dL_law_338 (by decide) (fun _ => ?_) (fun c9 => absurd c9 ((fun q => b01_0.mp c_30 ⟨cer_ge c_28, q⟩)))
            refine lv_iconst (v := 0) hx hb dL_law_345 (by decide) ?_
            refine lv_istore (lv' := [(14, .int 0), (10, .int ((cntS (fun i => hasC σ i ∧ truC σ i) n9) + 0)), (9, .int ((cntS (fun i => hasC σ i) n9) + 1)), (13, .int (nI j)), (0, .ref b), (1, .ref (r_h ρ)), (2, .ref M.1), (3, .int (nI tm)), (4, .int xv), (5, .long (digS σ)), (7, .int (nI (sK σ))), (8, .int (dayOf σ)), (11, .ref v), (12, .int (nI n9))]) hx hb dL_law_346 hl (by decide) rfl (fun ls hl => ?_)
            refine lv_aload_n hx hb dL_law_348 rfl (lv_at hl 5 rfl) ?_
            refine lv_iload hx hb dL_law_349 (lv_at hl 13 rfl) ?_
            refine vp_callSi (va_Run.run (va_runV (As := [.int (nI n9)]) (rest := []) ⟨hx, hb, hml, hown, hts⟩ (n_X1_isHonest l D cs ρ hI hap.1.1 n9 hn9 (cer_ge c_28)) (cwV 1 hts gL_law_X1_isHonest rfl rfl rfl (by decide +kernel) ⟨Nat.le_of_ble_eq_true rfl, Nat.le_of_ble_eq_true rfl⟩) (rb_V hK hN hP (va_recv hK (one_P hP.1) (ci := 2) (q0 := 0) rfl rfl)) rfl rfl hl.1 rfl (lv_room (Nat.le_of_ble_eq_true rfl)) dL_law_351 ⟨(show cells + 1 + 0 ≤ 704666 by omega), (show slots + sK σ + 0 ≤ 6987184 by omega)⟩)) (fun r_33 hr_33 => ?_)
            rw [hr_33]
            refine lv_iload hx hb dL_law_354 (lv_at hl 0 rfl) ?_
            refine lv_icmp_eq (tgt := 361) hx hb dL_law_356 (by decide) (fun _ => ?_) (fun c9 => absurd (c_30) c9)
            refine lv_iinc (v := nI (n9 + 1)) (lv' := [(12, .int (nI (n9 + 1))), (14, .int 0), (10, .int ((cntS (fun i => hasC σ i ∧ truC σ i) n9) + 0)), (9, .int ((cntS (fun i => hasC σ i) n9) + 1)), (13, .int (nI j)), (0, .ref b), (1, .ref (r_h ρ)), (2, .ref M.1), (3, .int (nI tm)), (4, .int xv), (5, .long (digS σ)), (7, .int (nI (sK σ))), (8, .int (dayOf σ)), (11, .ref v)]) hx hb dL_law_361 hl (k := 13) rfl (nI_add _ 1) (by decide) rfl (fun ls hl => ?_)
            refine lv_goto (tgt := 115) hx hb dL_law_364 (by decide) ?_
            refine K115 ls _ _ ⟨hP, hM, hV⟩ hS ?_
            show lv_has ls 25 [(0, .ref b), (1, .ref (r_h ρ)), (2, .ref M.1), (3, .int (nI tm)), (4, .int xv), (5, .long (digS σ)), (7, .int (nI (sK σ))), (8, .int (dayOf σ)), (9, .int (cntS (fun i => hasC σ i) (n9 + 1))), (10, .int (cntS (fun i => hasC σ i ∧ truC σ i) (n9 + 1))), (11, .ref v), (12, .int (nI (n9 + 1)))]
            rw [show cntS (fun i => hasC σ i) (n9 + 1) = cntS (fun i => hasC σ i) n9 + 1 from cnt_t (p := fun i => hasC σ i) (cer_ge c_28)]
            rw [show cntS (fun i => hasC σ i ∧ truC σ i) (n9 + 1) = cntS (fun i => hasC σ i ∧ truC σ i) n9 + 0 from (cnt_f (p := fun i => hasC σ i ∧ truC σ i) (b01_0.mp c_30)).trans (Int32.add_zero _).symm]
            exact lv_sub hl [5, 6, 7, 8, 9, 10, 11, 12, 3, 2, 13, 0] rfl
          · refine lv_iconst (v := 1) hx hb dL_law_308 (by decide) ?_
            refine lv_goto (tgt := 313) hx hb dL_law_309 (by decide) ?_
            refine lv_iadd hx hb dL_law_313 ?_
            refine lv_istore (lv' := [(10, .int ((cntS (fun i => hasC σ i ∧ truC σ i) n9) + 1)), (9, .int ((cntS (fun i => hasC σ i) n9) + 1)), (13, .int (nI j)), (0, .ref b), (1, .ref (r_h ρ)), (2, .ref M.1), (3, .int (nI tm)), (4, .int xv), (5, .long (digS σ)), (7, .int (nI (sK σ))), (8, .int (dayOf σ)), (11, .ref v), (12, .int (nI n9))]) hx hb dL_law_314 hl (by decide) rfl (fun ls hl => ?_)
            obtain ⟨ha9, hha, eha⟩ := hQ.2.2.1 n9 hn9
            refine lv_aload_n hx hb dL_law_316 rfl (lv_at hl 4 rfl) ?_
            refine lv_iload hx hb dL_law_317 (lv_at hl 12 rfl) ?_
            refine vp_callSi (va_Run.run (va_runV (As := [.int (nI n9)]) (rest := []) ⟨hx, hb, hml, hown, hts⟩ (n_X1_certified l D cs ρ hI hap.1.1 n9 hn9) (cwV 1 hts gL_law_X1_certified rfl rfl rfl (by decide +kernel) ⟨Nat.le_of_ble_eq_true rfl, Nat.le_of_ble_eq_true rfl⟩) (rb_V hK hN hP (va_recv hK (one_P hP.1) (ci := 2) (q0 := 0) rfl rfl)) rfl rfl hl.1 rfl (lv_room (Nat.le_of_ble_eq_true rfl)) dL_law_319 ⟨(show cells + 1 + 0 ≤ 704666 by omega), (show slots + sK σ + 0 ≤ 6987184 by omega)⟩)) (fun r_34 hr_34 => ?_)
            rw [hr_34]
            refine lv_aload_n hx hb dL_law_322 rfl (lv_at hl 4 rfl) ?_
            refine lv_iload hx hb dL_law_323 (lv_at hl 12 rfl) ?_
            refine lv_aload_n hx hb dL_law_325 rfl (lv_at hl 5 rfl) ?_
            refine va_get (D := D) (ci := 3) (v := .ref M.2.1) (C := RX2) (T := TX2) (N := 4) hx hb hts inlX2 hown hK hM 0 rfl rfl 3 (by decide) (hts (.fieldLink RL 9 "ShadowSocietyLaw$Sim" "members" "[[I") (List.mem_of_getElem? (i := 4) (by decide +kernel))) (fun _ h9 => h9) rfl dL_law_326 ?_
            refine lv_iload hx hb dL_law_329 (lv_at hl 12 rfl) ?_
            refine va_aldA hx hb hK hM 1 2 rfl rfl (vp_in_nI hn9 (Nat.lt_of_le_of_lt hI.1 (by decide))) (elm_at hn9 hI.1) dL_law_331 ?_
            refine lv_bipush (v := 6) hx hb dL_law_332 (by decide) ?_
            refine va_iald hx hb hK hM (2 + n9) 0 (simW_at hn9) rfl (by unfold vp_in; decide) dL_law_334 ?_
            rw [show rowF σ n9 (6 : Int32).toNatClampNeg = sAt σ n9 from rfl]
            refine vp_callSi (va_Run.run (va_runV (As := [.int (nI n9), .int (sAt σ n9)]) (rest := [.int (sCe σ n9)]) ⟨hx, hb, hml, hown, hts⟩ (n_X1_honestShadow l D cs ρ hI hap.1.1 n9 hn9 (sAt σ n9) (by rw [eha]; exact nI_pos (by omega)) (by rw [eha]; exact nI_lt (b := 24) hha (by decide))) (cwV 2 hts gL_law_X1_honestShadow rfl rfl rfl (by decide +kernel) ⟨Nat.le_of_ble_eq_true rfl, Nat.le_of_ble_eq_true rfl⟩) (rb_V hK hN hP (va_recv hK (one_P hP.1) (ci := 2) (q0 := 0) rfl rfl)) rfl rfl hl.1 rfl (lv_room (Nat.le_of_ble_eq_true rfl)) dL_law_335 ⟨(show cells + 1 + 0 ≤ 704666 by omega), (show slots + sK σ + 0 ≤ 6987184 by omega)⟩)) (fun r_35 hr_35 => ?_)
            rw [hr_35]
            refine lv_icmp_ne (tgt := 345) hx hb dL_law_338 (by decide) (fun c9 => absurd ((b01_n.mp c_30).2) c9) (fun _ => ?_)
            refine lv_iconst (v := 1) hx hb dL_law_341 (by decide) ?_
            refine lv_goto (tgt := 346) hx hb dL_law_342 (by decide) ?_
            refine lv_istore (lv' := [(14, .int 1), (10, .int ((cntS (fun i => hasC σ i ∧ truC σ i) n9) + 1)), (9, .int ((cntS (fun i => hasC σ i) n9) + 1)), (13, .int (nI j)), (0, .ref b), (1, .ref (r_h ρ)), (2, .ref M.1), (3, .int (nI tm)), (4, .int xv), (5, .long (digS σ)), (7, .int (nI (sK σ))), (8, .int (dayOf σ)), (11, .ref v), (12, .int (nI n9))]) hx hb dL_law_346 hl (by decide) rfl (fun ls hl => ?_)
            refine lv_aload_n hx hb dL_law_348 rfl (lv_at hl 5 rfl) ?_
            refine lv_iload hx hb dL_law_349 (lv_at hl 13 rfl) ?_
            refine vp_callSi (va_Run.run (va_runV (As := [.int (nI n9)]) (rest := []) ⟨hx, hb, hml, hown, hts⟩ (n_X1_isHonest l D cs ρ hI hap.1.1 n9 hn9 (cer_ge c_28)) (cwV 1 hts gL_law_X1_isHonest rfl rfl rfl (by decide +kernel) ⟨Nat.le_of_ble_eq_true rfl, Nat.le_of_ble_eq_true rfl⟩) (rb_V hK hN hP (va_recv hK (one_P hP.1) (ci := 2) (q0 := 0) rfl rfl)) rfl rfl hl.1 rfl (lv_room (Nat.le_of_ble_eq_true rfl)) dL_law_351 ⟨(show cells + 1 + 0 ≤ 704666 by omega), (show slots + sK σ + 0 ≤ 6987184 by omega)⟩)) (fun r_36 hr_36 => ?_)
            rw [hr_36]
            refine lv_iload hx hb dL_law_354 (lv_at hl 0 rfl) ?_
            refine lv_icmp_eq (tgt := 361) hx hb dL_law_356 (by decide) (fun _ => ?_) (fun c9 => absurd (b01_t (b01_n.mp c_30)) c9)
            refine lv_iinc (v := nI (n9 + 1)) (lv' := [(12, .int (nI (n9 + 1))), (14, .int 1), (10, .int ((cntS (fun i => hasC σ i ∧ truC σ i) n9) + 1)), (9, .int ((cntS (fun i => hasC σ i) n9) + 1)), (13, .int (nI j)), (0, .ref b), (1, .ref (r_h ρ)), (2, .ref M.1), (3, .int (nI tm)), (4, .int xv), (5, .long (digS σ)), (7, .int (nI (sK σ))), (8, .int (dayOf σ)), (11, .ref v)]) hx hb dL_law_361 hl (k := 13) rfl (nI_add _ 1) (by decide) rfl (fun ls hl => ?_)
            refine lv_goto (tgt := 115) hx hb dL_law_364 (by decide) ?_
            refine K115 ls _ _ ⟨hP, hM, hV⟩ hS ?_
            show lv_has ls 25 [(0, .ref b), (1, .ref (r_h ρ)), (2, .ref M.1), (3, .int (nI tm)), (4, .int xv), (5, .long (digS σ)), (7, .int (nI (sK σ))), (8, .int (dayOf σ)), (9, .int (cntS (fun i => hasC σ i) (n9 + 1))), (10, .int (cntS (fun i => hasC σ i ∧ truC σ i) (n9 + 1))), (11, .ref v), (12, .int (nI (n9 + 1)))]
            rw [show cntS (fun i => hasC σ i) (n9 + 1) = cntS (fun i => hasC σ i) n9 + 1 from cnt_t (p := fun i => hasC σ i) (cer_ge c_28)]
            rw [show cntS (fun i => hasC σ i ∧ truC σ i) (n9 + 1) = cntS (fun i => hasC σ i ∧ truC σ i) n9 + 1 from cnt_t (p := fun i => hasC σ i ∧ truC σ i) (b01_n.mp c_30)]
            exact lv_sub hl [5, 6, 7, 8, 9, 10, 11, 12, 3, 2, 13, 0] rfl
        · refine lv_goto (tgt := 361) hx hb dL_law_291 (by decide) ?_
          refine lv_iinc (v := nI (n9 + 1)) (lv' := [(12, .int (nI (n9 + 1))), (13, .int (nI j)), (0, .ref b), (1, .ref (r_h ρ)), (2, .ref M.1), (3, .int (nI tm)), (4, .int xv), (5, .long (digS σ)), (7, .int (nI (sK σ))), (8, .int (dayOf σ)), (9, .int (cntS (fun i => hasC σ i) n9)), (10, .int (cntS (fun i => hasC σ i ∧ truC σ i) n9)), (11, .ref v)]) hx hb dL_law_361 hl (k := 12) rfl (nI_add _ 1) (by decide) rfl (fun ls hl => ?_)
          refine lv_goto (tgt := 115) hx hb dL_law_364 (by decide) ?_
          refine K115 ls _ _ ⟨hP, hM, hV⟩ hS ?_
          show lv_has ls 25 [(0, .ref b), (1, .ref (r_h ρ)), (2, .ref M.1), (3, .int (nI tm)), (4, .int xv), (5, .long (digS σ)), (7, .int (nI (sK σ))), (8, .int (dayOf σ)), (9, .int (cntS (fun i => hasC σ i) (n9 + 1))), (10, .int (cntS (fun i => hasC σ i ∧ truC σ i) (n9 + 1))), (11, .ref v), (12, .int (nI (n9 + 1)))]
          rw [show cntS (fun i => hasC σ i) (n9 + 1) = cntS (fun i => hasC σ i) n9 from cnt_f (p := fun i => hasC σ i) (fun q => q (cer_lt hQ.2.1 hn9 c_28)), show cntS (fun i => hasC σ i ∧ truC σ i) (n9 + 1) = cntS (fun i => hasC σ i ∧ truC σ i) n9 from cnt_f (p := fun i => hasC σ i ∧ truC σ i) (fun q => q.1 (cer_lt hQ.2.1 hn9 c_28))]
          exact lv_sub hl [2, 3, 4, 5, 6, 7, 8, 9, 10, 11, 12, 0] rfl
      · refine lv_iload hx hb dL_law_213 (lv_at hl 0 rfl) ?_
        refine lv_iload hx hb dL_law_215 (lv_at hl 12 rfl) ?_
        refine lv_icmp_ne (tgt := 246) hx hb dL_law_217 (by decide) (fun c_37 => ?_) (fun c_37 => ?_)
        · exact K246
        · refine lv_aload_n hx hb dL_law_220 rfl (lv_at hl 2 rfl) ?_
          refine lv_iload hx hb dL_law_221 (lv_at hl 12 rfl) ?_
          refine vp_callSi (va_Run.run (va_runV (As := [.int (nI n9)]) (rest := []) ⟨hx, hb, hml, hown, hts⟩ (n_X1_lampOf l D cs ρ hI hap.1.1 n9 hn9) (cwV 1 hts gL_law_X1_lampOf rfl rfl rfl (by decide +kernel) ⟨Nat.le_of_ble_eq_true rfl, Nat.le_of_ble_eq_true rfl⟩) (rb_V hK hN hP (va_recv hK (one_P hP.1) (ci := 2) (q0 := 0) rfl rfl)) rfl rfl hl.1 rfl (lv_room (Nat.le_of_ble_eq_true rfl)) dL_law_223 ⟨(show cells + 1 + 0 ≤ 704666 by omega), (show slots + sK σ + 0 ≤ 6987184 by omega)⟩)) (fun r_38 hr_38 => ?_)
          rw [hr_38]
          refine lv_if_ne (tgt := 246) hx hb dL_law_226 (by decide) (fun c_39 => ?_) (fun c_39 => ?_)
          · exact K246
          · refine lv_aload_n hx hb dL_law_229 rfl (lv_at hl 2 rfl) ?_
            refine lv_iload hx hb dL_law_230 (lv_at hl 12 rfl) ?_
            refine vp_callSi (va_Run.run (va_runV (As := [.int (nI n9)]) (rest := []) ⟨hx, hb, hml, hown, hts⟩ (n_X1_shadowOf l D cs ρ hI hap.1.1 n9 hn9) (cwV 1 hts gL_law_X1_shadowOf rfl rfl rfl (by decide +kernel) ⟨Nat.le_of_ble_eq_true rfl, Nat.le_of_ble_eq_true rfl⟩) (rb_V hK hN hP (va_recv hK (one_P hP.1) (ci := 2) (q0 := 0) rfl rfl)) rfl rfl hl.1 rfl (lv_room (Nat.le_of_ble_eq_true rfl)) dL_law_232 ⟨(show cells + 1 + 0 ≤ 704666 by omega), (show slots + sK σ + 0 ≤ 6987184 by omega)⟩)) (fun r_40 hr_40 => ?_)
            rw [hr_40]
            refine lv_aload_n hx hb dL_law_235 rfl (lv_at hl 2 rfl) ?_
            refine lv_iload hx hb dL_law_236 (lv_at hl 12 rfl) ?_
            refine lv_iload hx hb dL_law_238 (lv_at hl 8 rfl) ?_
            refine vp_callSi (va_Run.run (va_runV (As := [.int (nI n9), .int (dayOf σ)]) (rest := [.int (shadS σ n9 (dayOf σ))]) ⟨hx, hb, hml, hown, hts⟩ (n_X1_honestShadow l D cs ρ hI hap.1.1 n9 hn9 (dayOf σ) (by obtain ⟨d9, h9, e9⟩ := day_lt hI; rw [e9]; exact nI_pos (by omega)) (by obtain ⟨d9, h9, e9⟩ := day_lt hI; rw [e9]; exact nI_lt (b := 24) h9 (by decide))) (cwV 2 hts gL_law_X1_honestShadow rfl rfl rfl (by decide +kernel) ⟨Nat.le_of_ble_eq_true rfl, Nat.le_of_ble_eq_true rfl⟩) (rb_V hK hN hP (va_recv hK (one_P hP.1) (ci := 2) (q0 := 0) rfl rfl)) rfl rfl hl.1 rfl (lv_room (Nat.le_of_ble_eq_true rfl)) dL_law_240 ⟨(show cells + 1 + 0 ≤ 704666 by omega), (show slots + sK σ + 0 ≤ 6987184 by omega)⟩)) (fun r_41 hr_41 => ?_)
            rw [hr_41]
            refine lv_icmp_ne (tgt := 280) hx hb dL_law_243 (by decide) (fun c9 => absurd (sh_own hI hn9 (hw.trans c_37) c_39 _) c9) (fun _ => ?_)
            exact K246
  · obtain ⟨hP, hM, hV⟩ := hJ
    have hl : lv_has ls 25 [(0, .ref b), (1, .ref (r_h ρ)), (2, .ref M.1), (3, .int (nI tm)), (4, .int xv), (5, .long (digS σ)), (7, .int (nI (sK σ))), (8, .int (dayOf σ)), (9, .int (cntS (fun i => hasC σ i) (sK σ))), (10, .int (cntS (fun i => hasC σ i ∧ truC σ i) (sK σ))), (11, .ref v), (12, .int (nI (sK σ)))] := hl
    refine lv_iload hx hb dL_law_115 (lv_at hl 11 rfl) ?_
    refine lv_iload hx hb dL_law_117 (lv_at hl 6 rfl) ?_
    refine lv_icmp_ge (tgt := 367) hx hb dL_law_119 (by decide) (fun _ => ?_) (fun c9 => absurd (nI_le (Nat.le_refl _) (Nat.lt_of_le_of_lt hI.1 (by decide))) c9)
    refine lv_iconst (v := 0) hx hb dL_law_367 (by decide) ?_
    refine lv_istore (lv' := [(12, .int 0), (0, .ref b), (1, .ref (r_h ρ)), (2, .ref M.1), (3, .int (nI tm)), (4, .int xv), (5, .long (digS σ)), (7, .int (nI (sK σ))), (8, .int (dayOf σ)), (9, .int (cntS (fun i => hasC σ i) (sK σ))), (10, .int (cntS (fun i => hasC σ i ∧ truC σ i) (sK σ))), (11, .ref v)]) hx hb dL_law_368 hl (by decide) rfl (fun ls hl => ?_)
    refine lv_for (sK σ) (fun ls => F0 m 370 ls []) (fun n9 => [(0, .ref b), (1, .ref (r_h ρ)), (2, .ref M.1), (3, .int (nI tm)), (4, .int xv), (5, .long (digS σ)), (7, .int (nI (sK σ))), (8, .int (dayOf σ)), (9, .int (cntS (fun i => hasC σ i) (sK σ))), (10, .int (cntS (fun i => hasC σ i ∧ truC σ i) (sK σ))), (11, .ref v), (12, .int (nI n9))]) (fun _ => True) (show lv_has ls 25 [(0, .ref b), (1, .ref (r_h ρ)), (2, .ref M.1), (3, .int (nI tm)), (4, .int xv), (5, .long (digS σ)), (7, .int (nI (sK σ))), (8, .int (dayOf σ)), (9, .int (cntS (fun i => hasC σ i) (sK σ))), (10, .int (cntS (fun i => hasC σ i ∧ truC σ i) (sK σ))), (11, .ref v), (12, .int (nI 0))] from lv_sub hl [1, 2, 3, 4, 5, 6, 7, 8, 9, 10, 11, 0] rfl) (trivial) (fun n9 ls hn9 hj9 hl K9 => ?_) (fun ls hj9 hl => ?_)
    · have hl : lv_has ls 25 [(0, .ref b), (1, .ref (r_h ρ)), (2, .ref M.1), (3, .int (nI tm)), (4, .int xv), (5, .long (digS σ)), (7, .int (nI (sK σ))), (8, .int (dayOf σ)), (9, .int (cntS (fun i => hasC σ i) (sK σ))), (10, .int (cntS (fun i => hasC σ i ∧ truC σ i) (sK σ))), (11, .ref v), (12, .int (nI n9))] := hl
      refine lv_iload hx hb dL_law_370 (lv_at hl 11 rfl) ?_
      refine lv_iload hx hb dL_law_372 (lv_at hl 6 rfl) ?_
      refine lv_icmp_ge (tgt := 418) hx hb dL_law_374 (by decide) (fun c9 => absurd c9 (nI_ge hn9 (Nat.lt_of_le_of_lt hI.1 (by decide)))) (fun _ => ?_)
      refine lv_aload_n hx hb dL_law_377 rfl (lv_at hl 1 rfl) ?_
      refine lv_iload hx hb dL_law_378 (lv_at hl 11 rfl) ?_
      refine vp_callSi (va_Run.run (va_runV (As := [.int (nI n9)]) (rest := []) ⟨hx, hb, hml, hown, hts⟩ (n_X1_hasLent l D cs ρ hI hap.1.1 n9 hn9) (cwV 1 hts gL_law_X1_hasLent rfl rfl rfl (by decide +kernel) ⟨Nat.le_of_ble_eq_true rfl, Nat.le_of_ble_eq_true rfl⟩) (rb_V hK hN hP (va_recv hK (one_P hP.1) (ci := 2) (q0 := 0) rfl rfl)) rfl rfl hl.1 rfl (lv_room (Nat.le_of_ble_eq_true rfl)) dL_law_380 ⟨(show cells + 1 + 0 ≤ 704666 by omega), (show slots + sK σ + 0 ≤ 6987184 by omega)⟩)) (fun r_42 hr_42 => ?_)
      rw [hr_42]
      refine lv_aload hx hb dL_law_383 (lv_at hl 10 rfl) ?_
      refine lv_iload hx hb dL_law_385 (lv_at hl 11 rfl) ?_
      refine va_zald hx hb hK (one_P hV) 0 3 rfl rfl (vp_in_nI hn9 (Nat.lt_of_le_of_lt hI.1 (by decide))) dL_law_387 ?_
      rw [show (nI n9).toNatClampNeg = n9 from nI_clamp (Nat.lt_trans hn9 (Nat.lt_of_le_of_lt hI.1 (by decide)))]
      refine lv_if_eq (tgt := 406) hx hb dL_law_388 (by decide) (fun c_43 => ?_) (fun c_43 => ?_)
      · refine lv_iconst (v := 0) hx hb dL_law_406 (by decide) ?_
        refine lv_icmp_eq (tgt := 412) hx hb dL_law_407 (by decide) (fun _ => ?_) (fun c9 => absurd (b01_f (lent_0 hTt hn9 c_43)) c9)
        refine lv_iinc (v := nI (n9 + 1)) (lv' := [(12, .int (nI (n9 + 1))), (0, .ref b), (1, .ref (r_h ρ)), (2, .ref M.1), (3, .int (nI tm)), (4, .int xv), (5, .long (digS σ)), (7, .int (nI (sK σ))), (8, .int (dayOf σ)), (9, .int (cntS (fun i => hasC σ i) (sK σ))), (10, .int (cntS (fun i => hasC σ i ∧ truC σ i) (sK σ))), (11, .ref v)]) hx hb dL_law_412 hl (k := 11) rfl (nI_add _ 1) (by decide) rfl (fun ls hl => ?_)
        refine lv_goto (tgt := 370) hx hb dL_law_415 (by decide) ?_
        refine K9 ls (trivial) ?_
        show lv_has ls 25 [(0, .ref b), (1, .ref (r_h ρ)), (2, .ref M.1), (3, .int (nI tm)), (4, .int xv), (5, .long (digS σ)), (7, .int (nI (sK σ))), (8, .int (dayOf σ)), (9, .int (cntS (fun i => hasC σ i) (sK σ))), (10, .int (cntS (fun i => hasC σ i ∧ truC σ i) (sK σ))), (11, .ref v), (12, .int (nI (n9 + 1)))]
        exact lv_sub hl [1, 2, 3, 4, 5, 6, 7, 8, 9, 10, 11, 0] rfl
      · refine lv_aload_n hx hb dL_law_391 rfl (lv_at hl 1 rfl) ?_
        refine lv_iload hx hb dL_law_392 (lv_at hl 11 rfl) ?_
        refine vp_callSi (va_Run.run (va_runV (As := [.int (nI n9)]) (rest := [.int (b01 (lentS σ n9))]) ⟨hx, hb, hml, hown, hts⟩ (n_X1_wears l D cs ρ hI hap.1.1 n9 hn9) (cwV 1 hts gL_law_X1_wears rfl rfl rfl (by decide +kernel) ⟨Nat.le_of_ble_eq_true rfl, Nat.le_of_ble_eq_true rfl⟩) (rb_V hK hN hP (va_recv hK (one_P hP.1) (ci := 2) (q0 := 0) rfl rfl)) rfl rfl hl.1 rfl (lv_room (Nat.le_of_ble_eq_true rfl)) dL_law_394 ⟨(show cells + 1 + 0 ≤ 704666 by omega), (show slots + sK σ + 0 ≤ 6987184 by omega)⟩)) (fun r_44 hr_44 => ?_)
        rw [hr_44]
        refine lv_iload hx hb dL_law_397 (lv_at hl 11 rfl) ?_
        refine lv_icmp_eq (tgt := 406) hx hb dL_law_399 (by decide) (fun c_45 => ?_) (fun c_45 => ?_)
        · refine lv_iconst (v := 0) hx hb dL_law_406 (by decide) ?_
          refine lv_icmp_eq (tgt := 412) hx hb dL_law_407 (by decide) (fun _ => ?_) (fun c9 => absurd (b01_f (lent_own hTt hn9 c_45)) c9)
          refine lv_iinc (v := nI (n9 + 1)) (lv' := [(12, .int (nI (n9 + 1))), (0, .ref b), (1, .ref (r_h ρ)), (2, .ref M.1), (3, .int (nI tm)), (4, .int xv), (5, .long (digS σ)), (7, .int (nI (sK σ))), (8, .int (dayOf σ)), (9, .int (cntS (fun i => hasC σ i) (sK σ))), (10, .int (cntS (fun i => hasC σ i ∧ truC σ i) (sK σ))), (11, .ref v)]) hx hb dL_law_412 hl (k := 11) rfl (nI_add _ 1) (by decide) rfl (fun ls hl => ?_)
          refine lv_goto (tgt := 370) hx hb dL_law_415 (by decide) ?_
          refine K9 ls (trivial) ?_
          show lv_has ls 25 [(0, .ref b), (1, .ref (r_h ρ)), (2, .ref M.1), (3, .int (nI tm)), (4, .int xv), (5, .long (digS σ)), (7, .int (nI (sK σ))), (8, .int (dayOf σ)), (9, .int (cntS (fun i => hasC σ i) (sK σ))), (10, .int (cntS (fun i => hasC σ i ∧ truC σ i) (sK σ))), (11, .ref v), (12, .int (nI (n9 + 1)))]
          exact lv_sub hl [1, 2, 3, 4, 5, 6, 7, 8, 9, 10, 11, 0] rfl
        · refine lv_iconst (v := 1) hx hb dL_law_402 (by decide) ?_
          refine lv_goto (tgt := 407) hx hb dL_law_403 (by decide) ?_
          refine lv_icmp_eq (tgt := 412) hx hb dL_law_407 (by decide) (fun _ => ?_) (fun c9 => absurd (b01_t (lent_1 hTt hn9 c_43 c_45)) c9)
          refine lv_iinc (v := nI (n9 + 1)) (lv' := [(12, .int (nI (n9 + 1))), (0, .ref b), (1, .ref (r_h ρ)), (2, .ref M.1), (3, .int (nI tm)), (4, .int xv), (5, .long (digS σ)), (7, .int (nI (sK σ))), (8, .int (dayOf σ)), (9, .int (cntS (fun i => hasC σ i) (sK σ))), (10, .int (cntS (fun i => hasC σ i ∧ truC σ i) (sK σ))), (11, .ref v)]) hx hb dL_law_412 hl (k := 11) rfl (nI_add _ 1) (by decide) rfl (fun ls hl => ?_)
          refine lv_goto (tgt := 370) hx hb dL_law_415 (by decide) ?_
          refine K9 ls (trivial) ?_
          show lv_has ls 25 [(0, .ref b), (1, .ref (r_h ρ)), (2, .ref M.1), (3, .int (nI tm)), (4, .int xv), (5, .long (digS σ)), (7, .int (nI (sK σ))), (8, .int (dayOf σ)), (9, .int (cntS (fun i => hasC σ i) (sK σ))), (10, .int (cntS (fun i => hasC σ i ∧ truC σ i) (sK σ))), (11, .ref v), (12, .int (nI (n9 + 1)))]
          exact lv_sub hl [1, 2, 3, 4, 5, 6, 7, 8, 9, 10, 11, 0] rfl
    · have hl : lv_has ls 25 [(0, .ref b), (1, .ref (r_h ρ)), (2, .ref M.1), (3, .int (nI tm)), (4, .int xv), (5, .long (digS σ)), (7, .int (nI (sK σ))), (8, .int (dayOf σ)), (9, .int (cntS (fun i => hasC σ i) (sK σ))), (10, .int (cntS (fun i => hasC σ i ∧ truC σ i) (sK σ))), (11, .ref v), (12, .int (nI (sK σ)))] := hl
      refine lv_iload hx hb dL_law_370 (lv_at hl 11 rfl) ?_
      refine lv_iload hx hb dL_law_372 (lv_at hl 6 rfl) ?_
      refine lv_icmp_ge (tgt := 418) hx hb dL_law_374 (by decide) (fun _ => ?_) (fun c9 => absurd (nI_le (Nat.le_refl _) (Nat.lt_of_le_of_lt hI.1 (by decide))) c9)
      refine lv_iload hx hb dL_law_418 (lv_at hl 8 rfl) ?_
      refine lv_aload_n hx hb dL_law_420 rfl (lv_at hl 1 rfl) ?_
      refine vp_callSi (va_Run.run (va_runV (As := []) (rest := [.int (cntS (fun i => hasC σ i) (sK σ))]) ⟨hx, hb, hml, hown, hts⟩ (c_X1_certificates l D cs ρ hI hap.1.1) (cwV 0 hts gL_law_X1_certificates rfl rfl rfl (by decide +kernel) ⟨Nat.le_of_ble_eq_true rfl, Nat.le_of_ble_eq_true rfl⟩) (rb_V hK hN hP (va_recv hK (one_P hP.1) (ci := 2) (q0 := 0) rfl rfl)) rfl rfl hl.1 rfl (lv_room (Nat.le_of_ble_eq_true rfl)) dL_law_421 ⟨(show cells + 1 + 0 ≤ 704666 by omega), (show slots + sK σ + 0 ≤ 6987184 by omega)⟩)) (fun r_46 hr_46 => ?_)
      rw [hr_46]
      refine lv_icmp_ne (tgt := 436) hx hb dL_law_424 (by decide) (fun c9 => absurd (rfl) c9) (fun _ => ?_)
      refine lv_iload hx hb dL_law_427 (lv_at hl 9 rfl) ?_
      refine lv_aload_n hx hb dL_law_429 rfl (lv_at hl 1 rfl) ?_
      refine vp_callSi (va_Run.run (va_runV (As := []) (rest := [.int (cntS (fun i => hasC σ i ∧ truC σ i) (sK σ))]) ⟨hx, hb, hml, hown, hts⟩ (c_X1_honestOnes l D cs ρ hI hap.1.1) (cwV 0 hts gL_law_X1_honestOnes rfl rfl rfl (by decide +kernel) ⟨Nat.le_of_ble_eq_true rfl, Nat.le_of_ble_eq_true rfl⟩) (rb_V hK hN hP (va_recv hK (one_P hP.1) (ci := 2) (q0 := 0) rfl rfl)) rfl rfl hl.1 rfl (lv_room (Nat.le_of_ble_eq_true rfl)) dL_law_430 ⟨(show cells + 1 + 0 ≤ 704666 by omega), (show slots + sK σ + 0 ≤ 6987184 by omega)⟩)) (fun r_47 hr_47 => ?_)
      rw [hr_47]
      refine lv_icmp_eq (tgt := 438) hx hb dL_law_433 (by decide) (fun _ => ?_) (fun c9 => absurd (rfl) c9)
      refine W.widen (k := cells + 1) (n := slots + 10) (by omega) (by omega) ?_
      exact K ls H locs hP hM hS (lv_sub hl [0, 1, 2, 3, 4, 5, 6, 8, 9] rfl)
