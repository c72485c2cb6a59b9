/-! THE LAW'S CASES: reads of a member (laid by wip/whole/gen/law.py) -/
theorem lg_self (x : Int64) : lg_cmp x x = 0 := by
  unfold lg_cmp
  simp
theorem rdO_3 {σ : PS} {a : Int32} {f : Nat → Int32} : (rdO σ a f).1 ≤ 3 := by
  unfold rdO
  repeat' split
  all_goals first | exact Nat.zero_le 3 | exact Nat.le_of_ble_eq_true rfl
theorem honO_3 {σ : PS} {a b : Int32} : (honO σ a b).1 ≤ 3 := by
  unfold honO
  repeat' split
  all_goals first | exact Nat.zero_le 3 | exact Nat.le_of_ble_eq_true rfl
theorem isHO_3 {σ : PS} {a : Int32} : (isHO σ a).1 ≤ 3 := by
  unfold isHO
  repeat' split
  all_goals first | exact Nat.zero_le 3 | exact Nat.le_of_ble_eq_true rfl
set_option maxHeartbeats 400000 in
set_option maxRecDepth 100000 in
theorem q_lampOf {p : Program} {e : Env} {s : State} {m : MethodId} {below : List Frame} {meth : Method} {c : Code} {l : Launch} {b L : Nat} {xs : Nat → Int32} {D : va_G} {cs : Cs} {M : Nat × (Nat → Nat)} {x o e0 : Nat} (E : LwE p s m c l b L xs D cs M o e0) {Q : State → Prop} {d0 : Drawn} (hd0 : s.drawn.sameBut d0 lw_cs) {n9 : Nat} (hn : n9 < 512) (hn2 : 3 * n9 + 3 ≤ L) (hL : L ≤ 1536) {H : Heap} {locs : List Loc} {ls : Array Slot} {cells slots : Nat} (hJ : LwI D cs x M o e0 s.heap.size n9 H) (hS : va_S (fun q => s.heap.size ≤ q) s.heap H locs) (hl : lv_has ls 9 [(0, .ref b), (1, .ref x), (2, .ref M.1), (3, .ref o), (4, .int (nI (3 * n9)))]) (hc1 : cells + 14 ≤ 601024) (hc2 : slots + 148 ≤ 7293034)
    (K : ∀ (ls : Array Slot) (H : Heap) (locs : List Loc) (d : Drawn), s.drawn.sameBut d lw_cs → LwI D cs x M o e0 s.heap.size (n9 + 1) H → va_S (fun q => s.heap.size ≤ q) s.heap H locs → lv_has ls 9 [(0, .ref b), (1, .ref x), (2, .ref M.1), (3, .ref o), (4, .int (nI (3 * n9)))] → W p l e room_1 (s.setDrawn d) m #[.ref b] below meth c H locs (cells + 14) (slots + 148) Q (F0 m 1554 ls [])) :
    W p l e room_1 (s.setDrawn d0) m #[.ref b] below meth c H locs cells slots Q (F0 m 699 ls []) := by
  obtain ⟨hx, hb, hml, hown, hts, hX, hbl, hK, hN, hT, hNc, hE, hlf, hap2, hMs, hos, hoM⟩ := id E
  obtain ⟨ρ, σ, th, f, rfl, hP, hM, hO, hT0, hap, he0, hown9⟩ := hJ
  have hts := dr_words hts d0
  have hN9 := hN
  have hN := dr_N d0 hN
  have hT := dr_T d0 hT
  have hNc := dr_Nc d0 hNc
  have hE := dr_E d0 hE
  have hX : va_X b L xs (s.setDrawn d0) s.heap := hX
  have hK : va_K D vwCl (tyz cs) (s.setDrawn d0) := va_K.moved (u := s) (U := s.setDrawn d0) (Vm.Alike.refl s.vm) hK
  have hI := hT0.1
  have hoB : ¬ ownB ρ (sK σ) o := fun h => (hown9 o h).2.1 rfl
  have hA9 : ∀ q, mdA M H q → s.heap.size ≤ q := fun q h => h.elim (hMs q) (fun h => Nat.le_trans hS.1 h)
  have hB9 : ∀ q, hlA ρ (sK σ) o H q → s.heap.size ≤ q := fun q h => h.elim (fun h => h.elim (fun h => (hown9 q h).2.2) (fun h => Nat.le_trans hS.1 h)) (fun h => by rw [h]; exact hos)
  refine lv_aload_n hx hb dL_law_699 rfl (lv_at hl 1 rfl) ?_
  refine lv_aload_n hx hb dL_law_700 rfl (lv_at hl 0 rfl) ?_
  refine lv_iload hx hb dL_law_701 (lv_at hl 4 rfl) ?_
  refine lv_iconst (v := 1) hx hb dL_law_703 (by decide) ?_
  refine lv_iadd hx hb dL_law_704 ?_
  refine va_sld hx hb hX hbl (Nat.not_le.mpr hbl) hS (by show vp_in (nI (3 * n9) + nI 1) L; rw [nI_add]; exact vp_in_nI (by omega) (by omega)) dL_law_705 ?_
  refine lv_topi (fun a ea => ?_)
  refine lv_aload_n hx hb dL_law_706 rfl (lv_at hl 3 rfl) ?_
  refine vx_calli (vx_runSX (As := [.ref (r_h ρ), .int a, .ref o]) (rest := []) ⟨hx, hb, hml, hown, hts⟩ (h_lampOf l hlf D cs ρ hI hap H o f hoB a) (vx_cwSW 3 hts gL_law_L_lampOf rfl rfl rfl (by decide +kernel) ⟨Nat.le_of_ble_eq_true rfl, Nat.le_of_ble_eq_true rfl⟩) (hb_S hK hN ⟨rfl, hP, hO⟩ hT hNc hS.1 (fun q h => hS.2.1 q h (Nat.not_le.mpr h))) rfl rfl hl.1 rfl (lv_room (Nat.le_of_ble_eq_true rfl)) dL_law_707 ⟨(show cells + 1 ≤ 601024 by omega), (show slots + 6 ≤ 7293034 by omega)⟩) hS (fun q _ h => hB9 q h) hB9 (fun q _ h => h.elim) (fun E ce q9 u t H1 locs ht hvm hu _ _ _ _ _ _ _ => hu.elim) (fun r u t H1 locs ht hvm hw hB hz1 hk1 hS => ?_)
  obtain ⟨hr, hu1, hu2⟩ := hw
  rw [ht] at hB
  obtain ⟨hP, hO⟩ := hB
  rw [hu1] at hP
  have hM := mod_hl hM (fun q h => (hown9 q h).1) hoM hk1
  rw [hr]
  have h3 : (rdO σ a (fun i => sLa σ i)).1 ≤ 3 := rdO_3
  refine lv_istore (lv' := [(5, .int (nI (rdO σ a (fun i => sLa σ i)).1)), (0, .ref b), (1, .ref (r_h ρ)), (2, .ref M.1), (3, .ref o), (4, .int (nI (3 * n9)))]) hx hb dL_law_710 hl (by decide) rfl (fun ls hl => ?_)
  refine lv_aload_n hx hb dL_law_712 rfl (lv_at hl 3 rfl) ?_
  refine lv_aload_n hx hb dL_law_713 rfl (lv_at hl 1 rfl) ?_
  refine lv_iload hx hb dL_law_714 (lv_at hl 5 rfl) ?_
  refine lv_iconst (v := 1) hx hb dL_law_716 (by decide) ?_
  refine lv_iadd hx hb dL_law_717 ?_
  refine va_sld hx hb hX hbl (Nat.not_le.mpr hbl) hS (by show vp_in (nI (3 * n9) + nI 1) L; rw [nI_add]; exact vp_in_nI (by omega) (by omega)) dL_law_718 ?_
  rw [← ea]
  refine va_calli (va_runV (As := [.int a]) (rest := []) ⟨hx, hb, hml, hown, hts⟩ (c_X2_lampOf l D cs M th hI hap2 H1 a) (cwV 1 hts gL_law_X2_lampOf rfl rfl rfl (by decide +kernel) ⟨Nat.le_of_ble_eq_true rfl, Nat.le_of_ble_eq_true rfl⟩) (rb_V hK hN ⟨rfl, hM⟩ (va_recv hK hM (ci := 3) (q0 := 0) rfl rfl)) rfl rfl hl.1 rfl (lv_room (Nat.le_of_ble_eq_true rfl)) dL_law_719 ⟨(show cells + 1 + 0 ≤ 601024 by omega), (show slots + 6 + 0 ≤ 7293034 by omega)⟩) hS (fun q _ h => h.elim (hMs q) (fun h => Nat.le_trans hS.1 h)) (fun q h => h.elim (hMs q) (fun h => Nat.le_trans hS.1 h)) (fun r2 u2 t H1 locs ht hvm hp hB hz1 hk1 hS => ?_)
  have hp9 : u2 = ((rdO σ a (fun i => sLa σ i)).1, σ) ∧ ((rdO σ a (fun i => sLa σ i)).1 = 0 → r2 = (rdO σ a (fun i => sLa σ i)).2) := hp
  obtain ⟨hu9, hr2⟩ := hp9
  subst hu9
  rw [ht] at hB
  have hM : va_P D vwCl (modW cs M (nI (rdO σ a (fun i => sLa σ i)).1) (σ)) H1 := hB
  have hP := soc_md hP (fun q h => (hown9 q h).1) hk1
  have hO := out_md hO hoM hk1
  refine lv_istore (lv' := [(6, .int r2), (5, .int (nI (rdO σ a (fun i => sLa σ i)).1)), (0, .ref b), (1, .ref (r_h ρ)), (2, .ref M.1), (3, .ref o), (4, .int (nI (3 * n9)))]) hx hb dL_law_722 hl (by decide) rfl (fun ls hl => ?_)
  refine lv_aload_n hx hb dL_law_724 rfl (lv_at hl 4 rfl) ?_
  refine vp_callSi (va_Run.run (va_runV (As := []) (rest := []) ⟨hx, hb, hml, hown, hts⟩ (c_X2_thrown l D cs M (nI (rdO σ a (fun i => sLa σ i)).1) hI) (cwV 0 hts gL_law_X2_thrown rfl rfl rfl (by decide +kernel) ⟨Nat.le_of_ble_eq_true rfl, Nat.le_of_ble_eq_true rfl⟩) (rb_V hK hN hM (va_recv hK hM (ci := 3) (q0 := 0) rfl rfl)) rfl rfl hl.1 rfl (lv_room (Nat.le_of_ble_eq_true rfl)) dL_law_725 ⟨(show cells + 1 + 0 ≤ 601024 by omega), (show slots + 6 + 0 ≤ 7293034 by omega)⟩)) (fun r3 h3 => ?_)
  rw [h3]
  refine lv_iload hx hb dL_law_728 (lv_at hl 1 rfl) ?_
  refine lv_icmp_eq (tgt := 735) hx hb dL_law_730 (by decide) (fun _ => ?_) (fun c9 => absurd rfl c9)
  refine lv_iload hx hb dL_law_735 (lv_at hl 1 rfl) ?_
  refine lv_if_ne (tgt := 752) hx hb dL_law_737 (by decide) (fun c_1 => ?_) (fun c_1 => ?_)
  · refine lv_goto (tgt := 1554) hx hb dL_law_752 (by decide) ?_
    refine W.widen (k := cells + 14) (n := slots + 148) (by omega) (by omega) ?_
    exact K ls _ _ _ hd0 ⟨ρ, σ, (nI (rdO σ a (fun i => sLa σ i)).1), u.2, rfl, hP, hM, hO, invT_le hT0 (by omega) (by omega), hap, he0, hown9⟩ hS (lv_sub hl [2, 3, 4, 5, 6] rfl)
  · have h0 : (rdO σ a (fun i => sLa σ i)).1 = 0 := (nI_eq (a := (rdO σ a (fun i => sLa σ i)).1) (b := 0) (by omega) (by omega)).mp c_1
    refine lv_aload_n hx hb dL_law_740 rfl (lv_at hl 5 rfl) ?_
    refine lv_iconst (v := 0) hx hb dL_law_741 (by decide) ?_
    refine va_lald (i := 0) hx hb hK (one_P hO) 0 2 rfl rfl (by unfold vp_in; decide) dL_law_742 ?_
    rw [show u.2 (0 : Int32).toNatClampNeg = ((rdO σ a (fun i => sLa σ i)).2).toInt64 from hu2 h0]
    refine lv_iload hx hb dL_law_743 (lv_at hl 0 rfl) ?_
    refine lv_i2l (v := r2.toInt64) hx hb dL_law_745 rfl ?_
    rw [show r2 = (rdO σ a (fun i => sLa σ i)).2 from hr2 h0]
    refine W.lcmp hx hb dL_law_746 ?_
    refine lv_if_eq (tgt := 752) hx hb dL_law_747 (by decide) (fun _ => ?_) (fun c9 => absurd (lg_self _) c9)
    refine lv_goto (tgt := 1554) hx hb dL_law_752 (by decide) ?_
    refine W.widen (k := cells + 14) (n := slots + 148) (by omega) (by omega) ?_
    exact K ls _ _ _ hd0 ⟨ρ, σ, (nI (rdO σ a (fun i => sLa σ i)).1), u.2, rfl, hP, hM, hO, invT_le hT0 (by omega) (by omega), hap, he0, hown9⟩ hS (lv_sub hl [2, 3, 4, 5, 6] rfl)
set_option maxHeartbeats 400000 in
set_option maxRecDepth 100000 in
theorem q_purseOf {p : Program} {e : Env} {s : State} {m : MethodId} {below : List Frame} {meth : Method} {c : Code} {l : Launch} {b L : Nat} {xs : Nat → Int32} {D : va_G} {cs : Cs} {M : Nat × (Nat → Nat)} {x o e0 : Nat} (E : LwE p s m c l b L xs D cs M o e0) {Q : State → Prop} {d0 : Drawn} (hd0 : s.drawn.sameBut d0 lw_cs) {n9 : Nat} (hn : n9 < 512) (hn2 : 3 * n9 + 3 ≤ L) (hL : L ≤ 1536) {H : Heap} {locs : List Loc} {ls : Array Slot} {cells slots : Nat} (hJ : LwI D cs x M o e0 s.heap.size n9 H) (hS : va_S (fun q => s.heap.size ≤ q) s.heap H locs) (hl : lv_has ls 9 [(0, .ref b), (1, .ref x), (2, .ref M.1), (3, .ref o), (4, .int (nI (3 * n9)))]) (hc1 : cells + 14 ≤ 601024) (hc2 : slots + 148 ≤ 7293034)
    (K : ∀ (ls : Array Slot) (H : Heap) (locs : List Loc) (d : Drawn), s.drawn.sameBut d lw_cs → LwI D cs x M o e0 s.heap.size (n9 + 1) H → va_S (fun q => s.heap.size ≤ q) s.heap H locs → lv_has ls 9 [(0, .ref b), (1, .ref x), (2, .ref M.1), (3, .ref o), (4, .int (nI (3 * n9)))] → W p l e room_1 (s.setDrawn d) m #[.ref b] below meth c H locs (cells + 14) (slots + 148) Q (F0 m 1554 ls [])) :
    W p l e room_1 (s.setDrawn d0) m #[.ref b] below meth c H locs cells slots Q (F0 m 755 ls []) := by
  obtain ⟨hx, hb, hml, hown, hts, hX, hbl, hK, hN, hT, hNc, hE, hlf, hap2, hMs, hos, hoM⟩ := id E
  obtain ⟨ρ, σ, th, f, rfl, hP, hM, hO, hT0, hap, he0, hown9⟩ := hJ
  have hts := dr_words hts d0
  have hN9 := hN
  have hN := dr_N d0 hN
  have hT := dr_T d0 hT
  have hNc := dr_Nc d0 hNc
  have hE := dr_E d0 hE
  have hX : va_X b L xs (s.setDrawn d0) s.heap := hX
  have hK : va_K D vwCl (tyz cs) (s.setDrawn d0) := va_K.moved (u := s) (U := s.setDrawn d0) (Vm.Alike.refl s.vm) hK
  have hI := hT0.1
  have hoB : ¬ ownB ρ (sK σ) o := fun h => (hown9 o h).2.1 rfl
  have hA9 : ∀ q, mdA M H q → s.heap.size ≤ q := fun q h => h.elim (hMs q) (fun h => Nat.le_trans hS.1 h)
  have hB9 : ∀ q, hlA ρ (sK σ) o H q → s.heap.size ≤ q := fun q h => h.elim (fun h => h.elim (fun h => (hown9 q h).2.2) (fun h => Nat.le_trans hS.1 h)) (fun h => by rw [h]; exact hos)
  refine lv_aload_n hx hb dL_law_755 rfl (lv_at hl 1 rfl) ?_
  refine lv_aload_n hx hb dL_law_756 rfl (lv_at hl 0 rfl) ?_
  refine lv_iload hx hb dL_law_757 (lv_at hl 4 rfl) ?_
  refine lv_iconst (v := 1) hx hb dL_law_759 (by decide) ?_
  refine lv_iadd hx hb dL_law_760 ?_
  refine va_sld hx hb hX hbl (Nat.not_le.mpr hbl) hS (by show vp_in (nI (3 * n9) + nI 1) L; rw [nI_add]; exact vp_in_nI (by omega) (by omega)) dL_law_761 ?_
  refine lv_topi (fun a ea => ?_)
  refine lv_aload_n hx hb dL_law_762 rfl (lv_at hl 3 rfl) ?_
  refine vx_calli (vx_runSX (As := [.ref (r_h ρ), .int a, .ref o]) (rest := []) ⟨hx, hb, hml, hown, hts⟩ (h_purseOf l hlf D cs ρ hI hap H o f hoB a) (vx_cwSW 3 hts gL_law_L_purseOf rfl rfl rfl (by decide +kernel) ⟨Nat.le_of_ble_eq_true rfl, Nat.le_of_ble_eq_true rfl⟩) (hb_S hK hN ⟨rfl, hP, hO⟩ hT hNc hS.1 (fun q h => hS.2.1 q h (Nat.not_le.mpr h))) rfl rfl hl.1 rfl (lv_room (Nat.le_of_ble_eq_true rfl)) dL_law_763 ⟨(show cells + 1 ≤ 601024 by omega), (show slots + 6 ≤ 7293034 by omega)⟩) hS (fun q _ h => hB9 q h) hB9 (fun q _ h => h.elim) (fun E ce q9 u t H1 locs ht hvm hu _ _ _ _ _ _ _ => hu.elim) (fun r u t H1 locs ht hvm hw hB hz1 hk1 hS => ?_)
  obtain ⟨hr, hu1, hu2⟩ := hw
  rw [ht] at hB
  obtain ⟨hP, hO⟩ := hB
  rw [hu1] at hP
  have hM := mod_hl hM (fun q h => (hown9 q h).1) hoM hk1
  rw [hr]
  have h3 : (rdO σ a (fun i => sPu σ i)).1 ≤ 3 := rdO_3
  refine lv_istore (lv' := [(5, .int (nI (rdO σ a (fun i => sPu σ i)).1)), (0, .ref b), (1, .ref (r_h ρ)), (2, .ref M.1), (3, .ref o), (4, .int (nI (3 * n9)))]) hx hb dL_law_766 hl (by decide) rfl (fun ls hl => ?_)
  refine lv_aload_n hx hb dL_law_768 rfl (lv_at hl 3 rfl) ?_
  refine lv_aload_n hx hb dL_law_769 rfl (lv_at hl 1 rfl) ?_
  refine lv_iload hx hb dL_law_770 (lv_at hl 5 rfl) ?_
  refine lv_iconst (v := 1) hx hb dL_law_772 (by decide) ?_
  refine lv_iadd hx hb dL_law_773 ?_
  refine va_sld hx hb hX hbl (Nat.not_le.mpr hbl) hS (by show vp_in (nI (3 * n9) + nI 1) L; rw [nI_add]; exact vp_in_nI (by omega) (by omega)) dL_law_774 ?_
  rw [← ea]
  refine va_calli (va_runV (As := [.int a]) (rest := []) ⟨hx, hb, hml, hown, hts⟩ (c_X2_purseOf l D cs M th hI hap2 H1 a) (cwV 1 hts gL_law_X2_purseOf rfl rfl rfl (by decide +kernel) ⟨Nat.le_of_ble_eq_true rfl, Nat.le_of_ble_eq_true rfl⟩) (rb_V hK hN ⟨rfl, hM⟩ (va_recv hK hM (ci := 3) (q0 := 0) rfl rfl)) rfl rfl hl.1 rfl (lv_room (Nat.le_of_ble_eq_true rfl)) dL_law_775 ⟨(show cells + 1 + 0 ≤ 601024 by omega), (show slots + 6 + 0 ≤ 7293034 by omega)⟩) hS (fun q _ h => h.elim (hMs q) (fun h => Nat.le_trans hS.1 h)) (fun q h => h.elim (hMs q) (fun h => Nat.le_trans hS.1 h)) (fun r2 u2 t H1 locs ht hvm hp hB hz1 hk1 hS => ?_)
  have hp9 : u2 = ((rdO σ a (fun i => sPu σ i)).1, σ) ∧ ((rdO σ a (fun i => sPu σ i)).1 = 0 → r2 = (rdO σ a (fun i => sPu σ i)).2) := hp
  obtain ⟨hu9, hr2⟩ := hp9
  subst hu9
  rw [ht] at hB
  have hM : va_P D vwCl (modW cs M (nI (rdO σ a (fun i => sPu σ i)).1) (σ)) H1 := hB
  have hP := soc_md hP (fun q h => (hown9 q h).1) hk1
  have hO := out_md hO hoM hk1
  refine lv_istore (lv' := [(6, .int r2), (5, .int (nI (rdO σ a (fun i => sPu σ i)).1)), (0, .ref b), (1, .ref (r_h ρ)), (2, .ref M.1), (3, .ref o), (4, .int (nI (3 * n9)))]) hx hb dL_law_778 hl (by decide) rfl (fun ls hl => ?_)
  refine lv_aload_n hx hb dL_law_780 rfl (lv_at hl 4 rfl) ?_
  refine vp_callSi (va_Run.run (va_runV (As := []) (rest := []) ⟨hx, hb, hml, hown, hts⟩ (c_X2_thrown l D cs M (nI (rdO σ a (fun i => sPu σ i)).1) hI) (cwV 0 hts gL_law_X2_thrown rfl rfl rfl (by decide +kernel) ⟨Nat.le_of_ble_eq_true rfl, Nat.le_of_ble_eq_true rfl⟩) (rb_V hK hN hM (va_recv hK hM (ci := 3) (q0 := 0) rfl rfl)) rfl rfl hl.1 rfl (lv_room (Nat.le_of_ble_eq_true rfl)) dL_law_781 ⟨(show cells + 1 + 0 ≤ 601024 by omega), (show slots + 6 + 0 ≤ 7293034 by omega)⟩)) (fun r3 h3 => ?_)
  rw [h3]
  refine lv_iload hx hb dL_law_784 (lv_at hl 1 rfl) ?_
  refine lv_icmp_eq (tgt := 791) hx hb dL_law_786 (by decide) (fun _ => ?_) (fun c9 => absurd rfl c9)
  refine lv_iload hx hb dL_law_791 (lv_at hl 1 rfl) ?_
  refine lv_if_ne (tgt := 808) hx hb dL_law_793 (by decide) (fun c_1 => ?_) (fun c_1 => ?_)
  · refine lv_goto (tgt := 1554) hx hb dL_law_808 (by decide) ?_
    refine W.widen (k := cells + 14) (n := slots + 148) (by omega) (by omega) ?_
    exact K ls _ _ _ hd0 ⟨ρ, σ, (nI (rdO σ a (fun i => sPu σ i)).1), u.2, rfl, hP, hM, hO, invT_le hT0 (by omega) (by omega), hap, he0, hown9⟩ hS (lv_sub hl [2, 3, 4, 5, 6] rfl)
  · have h0 : (rdO σ a (fun i => sPu σ i)).1 = 0 := (nI_eq (a := (rdO σ a (fun i => sPu σ i)).1) (b := 0) (by omega) (by omega)).mp c_1
    refine lv_aload_n hx hb dL_law_796 rfl (lv_at hl 5 rfl) ?_
    refine lv_iconst (v := 0) hx hb dL_law_797 (by decide) ?_
    refine va_lald (i := 0) hx hb hK (one_P hO) 0 2 rfl rfl (by unfold vp_in; decide) dL_law_798 ?_
    rw [show u.2 (0 : Int32).toNatClampNeg = ((rdO σ a (fun i => sPu σ i)).2).toInt64 from hu2 h0]
    refine lv_iload hx hb dL_law_799 (lv_at hl 0 rfl) ?_
    refine lv_i2l (v := r2.toInt64) hx hb dL_law_801 rfl ?_
    rw [show r2 = (rdO σ a (fun i => sPu σ i)).2 from hr2 h0]
    refine W.lcmp hx hb dL_law_802 ?_
    refine lv_if_eq (tgt := 808) hx hb dL_law_803 (by decide) (fun _ => ?_) (fun c9 => absurd (lg_self _) c9)
    refine lv_goto (tgt := 1554) hx hb dL_law_808 (by decide) ?_
    refine W.widen (k := cells + 14) (n := slots + 148) (by omega) (by omega) ?_
    exact K ls _ _ _ hd0 ⟨ρ, σ, (nI (rdO σ a (fun i => sPu σ i)).1), u.2, rfl, hP, hM, hO, invT_le hT0 (by omega) (by omega), hap, he0, hown9⟩ hS (lv_sub hl [2, 3, 4, 5, 6] rfl)
set_option maxHeartbeats 400000 in
set_option maxRecDepth 100000 in
theorem q_wears {p : Program} {e : Env} {s : State} {m : MethodId} {below : List Frame} {meth : Method} {c : Code} {l : Launch} {b L : Nat} {xs : Nat → Int32} {D : va_G} {cs : Cs} {M : Nat × (Nat → Nat)} {x o e0 : Nat} (E : LwE p s m c l b L xs D cs M o e0) {Q : State → Prop} {d0 : Drawn} (hd0 : s.drawn.sameBut d0 lw_cs) {n9 : Nat} (hn : n9 < 512) (hn2 : 3 * n9 + 3 ≤ L) (hL : L ≤ 1536) {H : Heap} {locs : List Loc} {ls : Array Slot} {cells slots : Nat} (hJ : LwI D cs x M o e0 s.heap.size n9 H) (hS : va_S (fun q => s.heap.size ≤ q) s.heap H locs) (hl : lv_has ls 9 [(0, .ref b), (1, .ref x), (2, .ref M.1), (3, .ref o), (4, .int (nI (3 * n9)))]) (hc1 : cells + 14 ≤ 601024) (hc2 : slots + 148 ≤ 7293034)
    (K : ∀ (ls : Array Slot) (H : Heap) (locs : List Loc) (d : Drawn), s.drawn.sameBut d lw_cs → LwI D cs x M o e0 s.heap.size (n9 + 1) H → va_S (fun q => s.heap.size ≤ q) s.heap H locs → lv_has ls 9 [(0, .ref b), (1, .ref x), (2, .ref M.1), (3, .ref o), (4, .int (nI (3 * n9)))] → W p l e room_1 (s.setDrawn d) m #[.ref b] below meth c H locs (cells + 14) (slots + 148) Q (F0 m 1554 ls [])) :
    W p l e room_1 (s.setDrawn d0) m #[.ref b] below meth c H locs cells slots Q (F0 m 811 ls []) := by
  obtain ⟨hx, hb, hml, hown, hts, hX, hbl, hK, hN, hT, hNc, hE, hlf, hap2, hMs, hos, hoM⟩ := id E
  obtain ⟨ρ, σ, th, f, rfl, hP, hM, hO, hT0, hap, he0, hown9⟩ := hJ
  have hts := dr_words hts d0
  have hN9 := hN
  have hN := dr_N d0 hN
  have hT := dr_T d0 hT
  have hNc := dr_Nc d0 hNc
  have hE := dr_E d0 hE
  have hX : va_X b L xs (s.setDrawn d0) s.heap := hX
  have hK : va_K D vwCl (tyz cs) (s.setDrawn d0) := va_K.moved (u := s) (U := s.setDrawn d0) (Vm.Alike.refl s.vm) hK
  have hI := hT0.1
  have hoB : ¬ ownB ρ (sK σ) o := fun h => (hown9 o h).2.1 rfl
  have hA9 : ∀ q, mdA M H q → s.heap.size ≤ q := fun q h => h.elim (hMs q) (fun h => Nat.le_trans hS.1 h)
  have hB9 : ∀ q, hlA ρ (sK σ) o H q → s.heap.size ≤ q := fun q h => h.elim (fun h => h.elim (fun h => (hown9 q h).2.2) (fun h => Nat.le_trans hS.1 h)) (fun h => by rw [h]; exact hos)
  refine lv_aload_n hx hb dL_law_811 rfl (lv_at hl 1 rfl) ?_
  refine lv_aload_n hx hb dL_law_812 rfl (lv_at hl 0 rfl) ?_
  refine lv_iload hx hb dL_law_813 (lv_at hl 4 rfl) ?_
  refine lv_iconst (v := 1) hx hb dL_law_815 (by decide) ?_
  refine lv_iadd hx hb dL_law_816 ?_
  refine va_sld hx hb hX hbl (Nat.not_le.mpr hbl) hS (by show vp_in (nI (3 * n9) + nI 1) L; rw [nI_add]; exact vp_in_nI (by omega) (by omega)) dL_law_817 ?_
  refine lv_topi (fun a ea => ?_)
  refine lv_aload_n hx hb dL_law_818 rfl (lv_at hl 3 rfl) ?_
  refine vx_calli (vx_runSX (As := [.ref (r_h ρ), .int a, .ref o]) (rest := []) ⟨hx, hb, hml, hown, hts⟩ (h_wears l hlf D cs ρ hI hap H o f hoB a) (vx_cwSW 3 hts gL_law_L_wears rfl rfl rfl (by decide +kernel) ⟨Nat.le_of_ble_eq_true rfl, Nat.le_of_ble_eq_true rfl⟩) (hb_S hK hN ⟨rfl, hP, hO⟩ hT hNc hS.1 (fun q h => hS.2.1 q h (Nat.not_le.mpr h))) rfl rfl hl.1 rfl (lv_room (Nat.le_of_ble_eq_true rfl)) dL_law_819 ⟨(show cells + 1 ≤ 601024 by omega), (show slots + 6 ≤ 7293034 by omega)⟩) hS (fun q _ h => hB9 q h) hB9 (fun q _ h => h.elim) (fun E ce q9 u t H1 locs ht hvm hu _ _ _ _ _ _ _ => hu.elim) (fun r u t H1 locs ht hvm hw hB hz1 hk1 hS => ?_)
  obtain ⟨hr, hu1, hu2⟩ := hw
  rw [ht] at hB
  obtain ⟨hP, hO⟩ := hB
  rw [hu1] at hP
  have hM := mod_hl hM (fun q h => (hown9 q h).1) hoM hk1
  rw [hr]
  have h3 : (rdO σ a (fun i => sWe σ i)).1 ≤ 3 := rdO_3
  refine lv_istore (lv' := [(5, .int (nI (rdO σ a (fun i => sWe σ i)).1)), (0, .ref b), (1, .ref (r_h ρ)), (2, .ref M.1), (3, .ref o), (4, .int (nI (3 * n9)))]) hx hb dL_law_822 hl (by decide) rfl (fun ls hl => ?_)
  refine lv_aload_n hx hb dL_law_824 rfl (lv_at hl 3 rfl) ?_
  refine lv_aload_n hx hb dL_law_825 rfl (lv_at hl 1 rfl) ?_
  refine lv_iload hx hb dL_law_826 (lv_at hl 5 rfl) ?_
  refine lv_iconst (v := 1) hx hb dL_law_828 (by decide) ?_
  refine lv_iadd hx hb dL_law_829 ?_
  refine va_sld hx hb hX hbl (Nat.not_le.mpr hbl) hS (by show vp_in (nI (3 * n9) + nI 1) L; rw [nI_add]; exact vp_in_nI (by omega) (by omega)) dL_law_830 ?_
  rw [← ea]
  refine va_calli (va_runV (As := [.int a]) (rest := []) ⟨hx, hb, hml, hown, hts⟩ (c_X2_wears l D cs M th hI hap2 H1 a) (cwV 1 hts gL_law_X2_wears rfl rfl rfl (by decide +kernel) ⟨Nat.le_of_ble_eq_true rfl, Nat.le_of_ble_eq_true rfl⟩) (rb_V hK hN ⟨rfl, hM⟩ (va_recv hK hM (ci := 3) (q0 := 0) rfl rfl)) rfl rfl hl.1 rfl (lv_room (Nat.le_of_ble_eq_true rfl)) dL_law_831 ⟨(show cells + 1 + 0 ≤ 601024 by omega), (show slots + 6 + 0 ≤ 7293034 by omega)⟩) hS (fun q _ h => h.elim (hMs q) (fun h => Nat.le_trans hS.1 h)) (fun q h => h.elim (hMs q) (fun h => Nat.le_trans hS.1 h)) (fun r2 u2 t H1 locs ht hvm hp hB hz1 hk1 hS => ?_)
  have hp9 : u2 = ((rdO σ a (fun i => sWe σ i)).1, σ) ∧ ((rdO σ a (fun i => sWe σ i)).1 = 0 → r2 = (rdO σ a (fun i => sWe σ i)).2) := hp
  obtain ⟨hu9, hr2⟩ := hp9
  subst hu9
  rw [ht] at hB
  have hM : va_P D vwCl (modW cs M (nI (rdO σ a (fun i => sWe σ i)).1) (σ)) H1 := hB
  have hP := soc_md hP (fun q h => (hown9 q h).1) hk1
  have hO := out_md hO hoM hk1
  refine lv_istore (lv' := [(6, .int r2), (5, .int (nI (rdO σ a (fun i => sWe σ i)).1)), (0, .ref b), (1, .ref (r_h ρ)), (2, .ref M.1), (3, .ref o), (4, .int (nI (3 * n9)))]) hx hb dL_law_834 hl (by decide) rfl (fun ls hl => ?_)
  refine lv_aload_n hx hb dL_law_836 rfl (lv_at hl 4 rfl) ?_
  refine vp_callSi (va_Run.run (va_runV (As := []) (rest := []) ⟨hx, hb, hml, hown, hts⟩ (c_X2_thrown l D cs M (nI (rdO σ a (fun i => sWe σ i)).1) hI) (cwV 0 hts gL_law_X2_thrown rfl rfl rfl (by decide +kernel) ⟨Nat.le_of_ble_eq_true rfl, Nat.le_of_ble_eq_true rfl⟩) (rb_V hK hN hM (va_recv hK hM (ci := 3) (q0 := 0) rfl rfl)) rfl rfl hl.1 rfl (lv_room (Nat.le_of_ble_eq_true rfl)) dL_law_837 ⟨(show cells + 1 + 0 ≤ 601024 by omega), (show slots + 6 + 0 ≤ 7293034 by omega)⟩)) (fun r3 h3 => ?_)
  rw [h3]
  refine lv_iload hx hb dL_law_840 (lv_at hl 1 rfl) ?_
  refine lv_icmp_eq (tgt := 847) hx hb dL_law_842 (by decide) (fun _ => ?_) (fun c9 => absurd rfl c9)
  refine lv_iload hx hb dL_law_847 (lv_at hl 1 rfl) ?_
  refine lv_if_ne (tgt := 864) hx hb dL_law_849 (by decide) (fun c_1 => ?_) (fun c_1 => ?_)
  · refine lv_goto (tgt := 1554) hx hb dL_law_864 (by decide) ?_
    refine W.widen (k := cells + 14) (n := slots + 148) (by omega) (by omega) ?_
    exact K ls _ _ _ hd0 ⟨ρ, σ, (nI (rdO σ a (fun i => sWe σ i)).1), u.2, rfl, hP, hM, hO, invT_le hT0 (by omega) (by omega), hap, he0, hown9⟩ hS (lv_sub hl [2, 3, 4, 5, 6] rfl)
  · have h0 : (rdO σ a (fun i => sWe σ i)).1 = 0 := (nI_eq (a := (rdO σ a (fun i => sWe σ i)).1) (b := 0) (by omega) (by omega)).mp c_1
    refine lv_aload_n hx hb dL_law_852 rfl (lv_at hl 5 rfl) ?_
    refine lv_iconst (v := 0) hx hb dL_law_853 (by decide) ?_
    refine va_lald (i := 0) hx hb hK (one_P hO) 0 2 rfl rfl (by unfold vp_in; decide) dL_law_854 ?_
    rw [show u.2 (0 : Int32).toNatClampNeg = ((rdO σ a (fun i => sWe σ i)).2).toInt64 from hu2 h0]
    refine lv_iload hx hb dL_law_855 (lv_at hl 0 rfl) ?_
    refine lv_i2l (v := r2.toInt64) hx hb dL_law_857 rfl ?_
    rw [show r2 = (rdO σ a (fun i => sWe σ i)).2 from hr2 h0]
    refine W.lcmp hx hb dL_law_858 ?_
    refine lv_if_eq (tgt := 864) hx hb dL_law_859 (by decide) (fun _ => ?_) (fun c9 => absurd (lg_self _) c9)
    refine lv_goto (tgt := 1554) hx hb dL_law_864 (by decide) ?_
    refine W.widen (k := cells + 14) (n := slots + 148) (by omega) (by omega) ?_
    exact K ls _ _ _ hd0 ⟨ρ, σ, (nI (rdO σ a (fun i => sWe σ i)).1), u.2, rfl, hP, hM, hO, invT_le hT0 (by omega) (by omega), hap, he0, hown9⟩ hS (lv_sub hl [2, 3, 4, 5, 6] rfl)
set_option maxHeartbeats 400000 in
set_option maxRecDepth 100000 in
theorem q_hatOn {p : Program} {e : Env} {s : State} {m : MethodId} {below : List Frame} {meth : Method} {c : Code} {l : Launch} {b L : Nat} {xs : Nat → Int32} {D : va_G} {cs : Cs} {M : Nat × (Nat → Nat)} {x o e0 : Nat} (E : LwE p s m c l b L xs D cs M o e0) {Q : State → Prop} {d0 : Drawn} (hd0 : s.drawn.sameBut d0 lw_cs) {n9 : Nat} (hn : n9 < 512) (hn2 : 3 * n9 + 3 ≤ L) (hL : L ≤ 1536) {H : Heap} {locs : List Loc} {ls : Array Slot} {cells slots : Nat} (hJ : LwI D cs x M o e0 s.heap.size n9 H) (hS : va_S (fun q => s.heap.size ≤ q) s.heap H locs) (hl : lv_has ls 9 [(0, .ref b), (1, .ref x), (2, .ref M.1), (3, .ref o), (4, .int (nI (3 * n9)))]) (hc1 : cells + 14 ≤ 601024) (hc2 : slots + 148 ≤ 7293034)
    (K : ∀ (ls : Array Slot) (H : Heap) (locs : List Loc) (d : Drawn), s.drawn.sameBut d lw_cs → LwI D cs x M o e0 s.heap.size (n9 + 1) H → va_S (fun q => s.heap.size ≤ q) s.heap H locs → lv_has ls 9 [(0, .ref b), (1, .ref x), (2, .ref M.1), (3, .ref o), (4, .int (nI (3 * n9)))] → W p l e room_1 (s.setDrawn d) m #[.ref b] below meth c H locs (cells + 14) (slots + 148) Q (F0 m 1554 ls [])) :
    W p l e room_1 (s.setDrawn d0) m #[.ref b] below meth c H locs cells slots Q (F0 m 867 ls []) := by
  obtain ⟨hx, hb, hml, hown, hts, hX, hbl, hK, hN, hT, hNc, hE, hlf, hap2, hMs, hos, hoM⟩ := id E
  obtain ⟨ρ, σ, th, f, rfl, hP, hM, hO, hT0, hap, he0, hown9⟩ := hJ
  have hts := dr_words hts d0
  have hN9 := hN
  have hN := dr_N d0 hN
  have hT := dr_T d0 hT
  have hNc := dr_Nc d0 hNc
  have hE := dr_E d0 hE
  have hX : va_X b L xs (s.setDrawn d0) s.heap := hX
  have hK : va_K D vwCl (tyz cs) (s.setDrawn d0) := va_K.moved (u := s) (U := s.setDrawn d0) (Vm.Alike.refl s.vm) hK
  have hI := hT0.1
  have hoB : ¬ ownB ρ (sK σ) o := fun h => (hown9 o h).2.1 rfl
  have hA9 : ∀ q, mdA M H q → s.heap.size ≤ q := fun q h => h.elim (hMs q) (fun h => Nat.le_trans hS.1 h)
  have hB9 : ∀ q, hlA ρ (sK σ) o H q → s.heap.size ≤ q := fun q h => h.elim (fun h => h.elim (fun h => (hown9 q h).2.2) (fun h => Nat.le_trans hS.1 h)) (fun h => by rw [h]; exact hos)
  refine lv_aload_n hx hb dL_law_867 rfl (lv_at hl 1 rfl) ?_
  refine lv_aload_n hx hb dL_law_868 rfl (lv_at hl 0 rfl) ?_
  refine lv_iload hx hb dL_law_869 (lv_at hl 4 rfl) ?_
  refine lv_iconst (v := 1) hx hb dL_law_871 (by decide) ?_
  refine lv_iadd hx hb dL_law_872 ?_
  refine va_sld hx hb hX hbl (Nat.not_le.mpr hbl) hS (by show vp_in (nI (3 * n9) + nI 1) L; rw [nI_add]; exact vp_in_nI (by omega) (by omega)) dL_law_873 ?_
  refine lv_topi (fun a ea => ?_)
  refine lv_aload_n hx hb dL_law_874 rfl (lv_at hl 3 rfl) ?_
  refine vx_calli (vx_runSX (As := [.ref (r_h ρ), .int a, .ref o]) (rest := []) ⟨hx, hb, hml, hown, hts⟩ (h_hatOn l hlf D cs ρ hI hap H o f hoB a) (vx_cwSW 3 hts gL_law_L_hatOn rfl rfl rfl (by decide +kernel) ⟨Nat.le_of_ble_eq_true rfl, Nat.le_of_ble_eq_true rfl⟩) (hb_S hK hN ⟨rfl, hP, hO⟩ hT hNc hS.1 (fun q h => hS.2.1 q h (Nat.not_le.mpr h))) rfl rfl hl.1 rfl (lv_room (Nat.le_of_ble_eq_true rfl)) dL_law_875 ⟨(show cells + 1 ≤ 601024 by omega), (show slots + 6 ≤ 7293034 by omega)⟩) hS (fun q _ h => hB9 q h) hB9 (fun q _ h => h.elim) (fun E ce q9 u t H1 locs ht hvm hu _ _ _ _ _ _ _ => hu.elim) (fun r u t H1 locs ht hvm hw hB hz1 hk1 hS => ?_)
  obtain ⟨hr, hu1, hu2⟩ := hw
  rw [ht] at hB
  obtain ⟨hP, hO⟩ := hB
  rw [hu1] at hP
  have hM := mod_hl hM (fun q h => (hown9 q h).1) hoM hk1
  rw [hr]
  have h3 : (rdO σ a (fun i => wornH σ i)).1 ≤ 3 := rdO_3
  refine lv_istore (lv' := [(5, .int (nI (rdO σ a (fun i => wornH σ i)).1)), (0, .ref b), (1, .ref (r_h ρ)), (2, .ref M.1), (3, .ref o), (4, .int (nI (3 * n9)))]) hx hb dL_law_878 hl (by decide) rfl (fun ls hl => ?_)
  refine lv_aload_n hx hb dL_law_880 rfl (lv_at hl 3 rfl) ?_
  refine lv_aload_n hx hb dL_law_881 rfl (lv_at hl 1 rfl) ?_
  refine lv_iload hx hb dL_law_882 (lv_at hl 5 rfl) ?_
  refine lv_iconst (v := 1) hx hb dL_law_884 (by decide) ?_
  refine lv_iadd hx hb dL_law_885 ?_
  refine va_sld hx hb hX hbl (Nat.not_le.mpr hbl) hS (by show vp_in (nI (3 * n9) + nI 1) L; rw [nI_add]; exact vp_in_nI (by omega) (by omega)) dL_law_886 ?_
  rw [← ea]
  refine va_calli (va_runV (As := [.int a]) (rest := []) ⟨hx, hb, hml, hown, hts⟩ (c_X2_hatOn l D cs M th hI hap2 H1 a) (cwV 1 hts gL_law_X2_hatOn rfl rfl rfl (by decide +kernel) ⟨Nat.le_of_ble_eq_true rfl, Nat.le_of_ble_eq_true rfl⟩) (rb_V hK hN ⟨rfl, hM⟩ (va_recv hK hM (ci := 3) (q0 := 0) rfl rfl)) rfl rfl hl.1 rfl (lv_room (Nat.le_of_ble_eq_true rfl)) dL_law_887 ⟨(show cells + 1 + 0 ≤ 601024 by omega), (show slots + 6 + 0 ≤ 7293034 by omega)⟩) hS (fun q _ h => h.elim (hMs q) (fun h => Nat.le_trans hS.1 h)) (fun q h => h.elim (hMs q) (fun h => Nat.le_trans hS.1 h)) (fun r2 u2 t H1 locs ht hvm hp hB hz1 hk1 hS => ?_)
  have hp9 : u2 = ((rdO σ a (fun i => wornH σ i)).1, σ) ∧ ((rdO σ a (fun i => wornH σ i)).1 = 0 → r2 = (rdO σ a (fun i => wornH σ i)).2) := hp
  obtain ⟨hu9, hr2⟩ := hp9
  subst hu9
  rw [ht] at hB
  have hM : va_P D vwCl (modW cs M (nI (rdO σ a (fun i => wornH σ i)).1) (σ)) H1 := hB
  have hP := soc_md hP (fun q h => (hown9 q h).1) hk1
  have hO := out_md hO hoM hk1
  refine lv_istore (lv' := [(6, .int r2), (5, .int (nI (rdO σ a (fun i => wornH σ i)).1)), (0, .ref b), (1, .ref (r_h ρ)), (2, .ref M.1), (3, .ref o), (4, .int (nI (3 * n9)))]) hx hb dL_law_890 hl (by decide) rfl (fun ls hl => ?_)
  refine lv_aload_n hx hb dL_law_892 rfl (lv_at hl 4 rfl) ?_
  refine vp_callSi (va_Run.run (va_runV (As := []) (rest := []) ⟨hx, hb, hml, hown, hts⟩ (c_X2_thrown l D cs M (nI (rdO σ a (fun i => wornH σ i)).1) hI) (cwV 0 hts gL_law_X2_thrown rfl rfl rfl (by decide +kernel) ⟨Nat.le_of_ble_eq_true rfl, Nat.le_of_ble_eq_true rfl⟩) (rb_V hK hN hM (va_recv hK hM (ci := 3) (q0 := 0) rfl rfl)) rfl rfl hl.1 rfl (lv_room (Nat.le_of_ble_eq_true rfl)) dL_law_893 ⟨(show cells + 1 + 0 ≤ 601024 by omega), (show slots + 6 + 0 ≤ 7293034 by omega)⟩)) (fun r3 h3 => ?_)
  rw [h3]
  refine lv_iload hx hb dL_law_896 (lv_at hl 1 rfl) ?_
  refine lv_icmp_eq (tgt := 903) hx hb dL_law_898 (by decide) (fun _ => ?_) (fun c9 => absurd rfl c9)
  refine lv_iload hx hb dL_law_903 (lv_at hl 1 rfl) ?_
  refine lv_if_ne (tgt := 920) hx hb dL_law_905 (by decide) (fun c_1 => ?_) (fun c_1 => ?_)
  · refine lv_goto (tgt := 1554) hx hb dL_law_920 (by decide) ?_
    refine W.widen (k := cells + 14) (n := slots + 148) (by omega) (by omega) ?_
    exact K ls _ _ _ hd0 ⟨ρ, σ, (nI (rdO σ a (fun i => wornH σ i)).1), u.2, rfl, hP, hM, hO, invT_le hT0 (by omega) (by omega), hap, he0, hown9⟩ hS (lv_sub hl [2, 3, 4, 5, 6] rfl)
  · have h0 : (rdO σ a (fun i => wornH σ i)).1 = 0 := (nI_eq (a := (rdO σ a (fun i => wornH σ i)).1) (b := 0) (by omega) (by omega)).mp c_1
    refine lv_aload_n hx hb dL_law_908 rfl (lv_at hl 5 rfl) ?_
    refine lv_iconst (v := 0) hx hb dL_law_909 (by decide) ?_
    refine va_lald (i := 0) hx hb hK (one_P hO) 0 2 rfl rfl (by unfold vp_in; decide) dL_law_910 ?_
    rw [show u.2 (0 : Int32).toNatClampNeg = ((rdO σ a (fun i => wornH σ i)).2).toInt64 from hu2 h0]
    refine lv_iload hx hb dL_law_911 (lv_at hl 0 rfl) ?_
    refine lv_i2l (v := r2.toInt64) hx hb dL_law_913 rfl ?_
    rw [show r2 = (rdO σ a (fun i => wornH σ i)).2 from hr2 h0]
    refine W.lcmp hx hb dL_law_914 ?_
    refine lv_if_eq (tgt := 920) hx hb dL_law_915 (by decide) (fun _ => ?_) (fun c9 => absurd (lg_self _) c9)
    refine lv_goto (tgt := 1554) hx hb dL_law_920 (by decide) ?_
    refine W.widen (k := cells + 14) (n := slots + 148) (by omega) (by omega) ?_
    exact K ls _ _ _ hd0 ⟨ρ, σ, (nI (rdO σ a (fun i => wornH σ i)).1), u.2, rfl, hP, hM, hO, invT_le hT0 (by omega) (by omega), hap, he0, hown9⟩ hS (lv_sub hl [2, 3, 4, 5, 6] rfl)
set_option maxHeartbeats 400000 in
set_option maxRecDepth 100000 in
theorem q_hasLent {p : Program} {e : Env} {s : State} {m : MethodId} {below : List Frame} {meth : Method} {c : Code} {l : Launch} {b L : Nat} {xs : Nat → Int32} {D : va_G} {cs : Cs} {M : Nat × (Nat → Nat)} {x o e0 : Nat} (E : LwE p s m c l b L xs D cs M o e0) {Q : State → Prop} {d0 : Drawn} (hd0 : s.drawn.sameBut d0 lw_cs) {n9 : Nat} (hn : n9 < 512) (hn2 : 3 * n9 + 3 ≤ L) (hL : L ≤ 1536) {H : Heap} {locs : List Loc} {ls : Array Slot} {cells slots : Nat} (hJ : LwI D cs x M o e0 s.heap.size n9 H) (hS : va_S (fun q => s.heap.size ≤ q) s.heap H locs) (hl : lv_has ls 9 [(0, .ref b), (1, .ref x), (2, .ref M.1), (3, .ref o), (4, .int (nI (3 * n9)))]) (hc1 : cells + 14 ≤ 601024) (hc2 : slots + 148 ≤ 7293034)
    (K : ∀ (ls : Array Slot) (H : Heap) (locs : List Loc) (d : Drawn), s.drawn.sameBut d lw_cs → LwI D cs x M o e0 s.heap.size (n9 + 1) H → va_S (fun q => s.heap.size ≤ q) s.heap H locs → lv_has ls 9 [(0, .ref b), (1, .ref x), (2, .ref M.1), (3, .ref o), (4, .int (nI (3 * n9)))] → W p l e room_1 (s.setDrawn d) m #[.ref b] below meth c H locs (cells + 14) (slots + 148) Q (F0 m 1554 ls [])) :
    W p l e room_1 (s.setDrawn d0) m #[.ref b] below meth c H locs cells slots Q (F0 m 923 ls []) := by
  obtain ⟨hx, hb, hml, hown, hts, hX, hbl, hK, hN, hT, hNc, hE, hlf, hap2, hMs, hos, hoM⟩ := id E
  obtain ⟨ρ, σ, th, f, rfl, hP, hM, hO, hT0, hap, he0, hown9⟩ := hJ
  have hts := dr_words hts d0
  have hN9 := hN
  have hN := dr_N d0 hN
  have hT := dr_T d0 hT
  have hNc := dr_Nc d0 hNc
  have hE := dr_E d0 hE
  have hX : va_X b L xs (s.setDrawn d0) s.heap := hX
  have hK : va_K D vwCl (tyz cs) (s.setDrawn d0) := va_K.moved (u := s) (U := s.setDrawn d0) (Vm.Alike.refl s.vm) hK
  have hI := hT0.1
  have hoB : ¬ ownB ρ (sK σ) o := fun h => (hown9 o h).2.1 rfl
  have hA9 : ∀ q, mdA M H q → s.heap.size ≤ q := fun q h => h.elim (hMs q) (fun h => Nat.le_trans hS.1 h)
  have hB9 : ∀ q, hlA ρ (sK σ) o H q → s.heap.size ≤ q := fun q h => h.elim (fun h => h.elim (fun h => (hown9 q h).2.2) (fun h => Nat.le_trans hS.1 h)) (fun h => by rw [h]; exact hos)
  refine lv_aload_n hx hb dL_law_923 rfl (lv_at hl 1 rfl) ?_
  refine lv_aload_n hx hb dL_law_924 rfl (lv_at hl 0 rfl) ?_
  refine lv_iload hx hb dL_law_925 (lv_at hl 4 rfl) ?_
  refine lv_iconst (v := 1) hx hb dL_law_927 (by decide) ?_
  refine lv_iadd hx hb dL_law_928 ?_
  refine va_sld hx hb hX hbl (Nat.not_le.mpr hbl) hS (by show vp_in (nI (3 * n9) + nI 1) L; rw [nI_add]; exact vp_in_nI (by omega) (by omega)) dL_law_929 ?_
  refine lv_topi (fun a ea => ?_)
  refine lv_aload_n hx hb dL_law_930 rfl (lv_at hl 3 rfl) ?_
  refine vx_calli (vx_runSX (As := [.ref (r_h ρ), .int a, .ref o]) (rest := []) ⟨hx, hb, hml, hown, hts⟩ (h_hasLent l hlf D cs ρ hI hap H o f hoB a) (vx_cwSW 3 hts gL_law_L_hasLent rfl rfl rfl (by decide +kernel) ⟨Nat.le_of_ble_eq_true rfl, Nat.le_of_ble_eq_true rfl⟩) (hb_S hK hN ⟨rfl, hP, hO⟩ hT hNc hS.1 (fun q h => hS.2.1 q h (Nat.not_le.mpr h))) rfl rfl hl.1 rfl (lv_room (Nat.le_of_ble_eq_true rfl)) dL_law_931 ⟨(show cells + 1 ≤ 601024 by omega), (show slots + 6 ≤ 7293034 by omega)⟩) hS (fun q _ h => hB9 q h) hB9 (fun q _ h => h.elim) (fun E ce q9 u t H1 locs ht hvm hu _ _ _ _ _ _ _ => hu.elim) (fun r u t H1 locs ht hvm hw hB hz1 hk1 hS => ?_)
  obtain ⟨hr, hu1, hu2⟩ := hw
  rw [ht] at hB
  obtain ⟨hP, hO⟩ := hB
  rw [hu1] at hP
  have hM := mod_hl hM (fun q h => (hown9 q h).1) hoM hk1
  rw [hr]
  have h3 : (rdO σ a (fun i => b01 (lentS σ i))).1 ≤ 3 := rdO_3
  refine lv_istore (lv' := [(5, .int (nI (rdO σ a (fun i => b01 (lentS σ i))).1)), (0, .ref b), (1, .ref (r_h ρ)), (2, .ref M.1), (3, .ref o), (4, .int (nI (3 * n9)))]) hx hb dL_law_934 hl (by decide) rfl (fun ls hl => ?_)
  refine lv_aload_n hx hb dL_law_936 rfl (lv_at hl 3 rfl) ?_
  refine lv_aload_n hx hb dL_law_937 rfl (lv_at hl 1 rfl) ?_
  refine lv_iload hx hb dL_law_938 (lv_at hl 5 rfl) ?_
  refine lv_iconst (v := 1) hx hb dL_law_940 (by decide) ?_
  refine lv_iadd hx hb dL_law_941 ?_
  refine va_sld hx hb hX hbl (Nat.not_le.mpr hbl) hS (by show vp_in (nI (3 * n9) + nI 1) L; rw [nI_add]; exact vp_in_nI (by omega) (by omega)) dL_law_942 ?_
  rw [← ea]
  refine va_calli (va_runV (As := [.int a]) (rest := []) ⟨hx, hb, hml, hown, hts⟩ (c_X2_hasLent l D cs M th hI hap2 H1 a) (cwV 1 hts gL_law_X2_hasLent rfl rfl rfl (by decide +kernel) ⟨Nat.le_of_ble_eq_true rfl, Nat.le_of_ble_eq_true rfl⟩) (rb_V hK hN ⟨rfl, hM⟩ (va_recv hK hM (ci := 3) (q0 := 0) rfl rfl)) rfl rfl hl.1 rfl (lv_room (Nat.le_of_ble_eq_true rfl)) dL_law_943 ⟨(show cells + 1 + 0 ≤ 601024 by omega), (show slots + 6 + 0 ≤ 7293034 by omega)⟩) hS (fun q _ h => h.elim (hMs q) (fun h => Nat.le_trans hS.1 h)) (fun q h => h.elim (hMs q) (fun h => Nat.le_trans hS.1 h)) (fun r2 u2 t H1 locs ht hvm hp hB hz1 hk1 hS => ?_)
  have hp9 : u2 = ((rdO σ a (fun i => b01 (lentS σ i))).1, σ) ∧ ((rdO σ a (fun i => b01 (lentS σ i))).1 = 0 → r2 = (rdO σ a (fun i => b01 (lentS σ i))).2) := hp
  obtain ⟨hu9, hr2⟩ := hp9
  subst hu9
  rw [ht] at hB
  have hM : va_P D vwCl (modW cs M (nI (rdO σ a (fun i => b01 (lentS σ i))).1) (σ)) H1 := hB
  have hP := soc_md hP (fun q h => (hown9 q h).1) hk1
  have hO := out_md hO hoM hk1
  refine lv_istore (lv' := [(6, .int r2), (5, .int (nI (rdO σ a (fun i => b01 (lentS σ i))).1)), (0, .ref b), (1, .ref (r_h ρ)), (2, .ref M.1), (3, .ref o), (4, .int (nI (3 * n9)))]) hx hb dL_law_946 hl (by decide) rfl (fun ls hl => ?_)
  refine lv_aload_n hx hb dL_law_948 rfl (lv_at hl 4 rfl) ?_
  refine vp_callSi (va_Run.run (va_runV (As := []) (rest := []) ⟨hx, hb, hml, hown, hts⟩ (c_X2_thrown l D cs M (nI (rdO σ a (fun i => b01 (lentS σ i))).1) hI) (cwV 0 hts gL_law_X2_thrown rfl rfl rfl (by decide +kernel) ⟨Nat.le_of_ble_eq_true rfl, Nat.le_of_ble_eq_true rfl⟩) (rb_V hK hN hM (va_recv hK hM (ci := 3) (q0 := 0) rfl rfl)) rfl rfl hl.1 rfl (lv_room (Nat.le_of_ble_eq_true rfl)) dL_law_949 ⟨(show cells + 1 + 0 ≤ 601024 by omega), (show slots + 6 + 0 ≤ 7293034 by omega)⟩)) (fun r3 h3 => ?_)
  rw [h3]
  refine lv_iload hx hb dL_law_952 (lv_at hl 1 rfl) ?_
  refine lv_icmp_eq (tgt := 959) hx hb dL_law_954 (by decide) (fun _ => ?_) (fun c9 => absurd rfl c9)
  refine lv_iload hx hb dL_law_959 (lv_at hl 1 rfl) ?_
  refine lv_if_ne (tgt := 983) hx hb dL_law_961 (by decide) (fun c_1 => ?_) (fun c_1 => ?_)
  · refine lv_goto (tgt := 1554) hx hb dL_law_983 (by decide) ?_
    refine W.widen (k := cells + 14) (n := slots + 148) (by omega) (by omega) ?_
    exact K ls _ _ _ hd0 ⟨ρ, σ, (nI (rdO σ a (fun i => b01 (lentS σ i))).1), u.2, rfl, hP, hM, hO, invT_le hT0 (by omega) (by omega), hap, he0, hown9⟩ hS (lv_sub hl [2, 3, 4, 5, 6] rfl)
  · have h0 : (rdO σ a (fun i => b01 (lentS σ i))).1 = 0 := (nI_eq (a := (rdO σ a (fun i => b01 (lentS σ i))).1) (b := 0) (by omega) (by omega)).mp c_1
    refine lv_aload_n hx hb dL_law_964 rfl (lv_at hl 5 rfl) ?_
    refine lv_iconst (v := 0) hx hb dL_law_965 (by decide) ?_
    refine va_lald (i := 0) hx hb hK (one_P hO) 0 2 rfl rfl (by unfold vp_in; decide) dL_law_966 ?_
    rw [show u.2 (0 : Int32).toNatClampNeg = zL ((rdO σ a (fun i => b01 (lentS σ i))).2) from hu2 h0]
    refine lv_iload hx hb dL_law_967 (lv_at hl 0 rfl) ?_
    rw [hr2 h0]
    refine lv_if_eq (tgt := 976) hx hb dL_law_969 (by decide) (fun c8 => ?_) (fun c8 => ?_)
    · refine lv_lconst (v := 0) hx hb dL_law_976 (by decide) ?_
      rw [show zL ((rdO σ a (fun i => b01 (lentS σ i))).2) = 0 from if_pos c8]
      refine W.lcmp hx hb dL_law_977 ?_
      refine lv_if_eq (tgt := 983) hx hb dL_law_978 (by decide) (fun _ => ?_) (fun c9 => absurd (lg_self _) c9)
      refine lv_goto (tgt := 1554) hx hb dL_law_983 (by decide) ?_
      refine W.widen (k := cells + 14) (n := slots + 148) (by omega) (by omega) ?_
      exact K ls _ _ _ hd0 ⟨ρ, σ, (nI (rdO σ a (fun i => b01 (lentS σ i))).1), u.2, rfl, hP, hM, hO, invT_le hT0 (by omega) (by omega), hap, he0, hown9⟩ hS (lv_sub hl [2, 3, 4, 5, 6] rfl)
    · refine lv_lconst (v := 1) hx hb dL_law_972 (by decide) ?_
      refine lv_goto (tgt := 977) hx hb dL_law_973 (by decide) ?_
      rw [show zL ((rdO σ a (fun i => b01 (lentS σ i))).2) = 1 from if_neg c8]
      refine W.lcmp hx hb dL_law_977 ?_
      refine lv_if_eq (tgt := 983) hx hb dL_law_978 (by decide) (fun _ => ?_) (fun c9 => absurd (lg_self _) c9)
      refine lv_goto (tgt := 1554) hx hb dL_law_983 (by decide) ?_
      refine W.widen (k := cells + 14) (n := slots + 148) (by omega) (by omega) ?_
      exact K ls _ _ _ hd0 ⟨ρ, σ, (nI (rdO σ a (fun i => b01 (lentS σ i))).1), u.2, rfl, hP, hM, hO, invT_le hT0 (by omega) (by omega), hap, he0, hown9⟩ hS (lv_sub hl [2, 3, 4, 5, 6] rfl)
set_option maxHeartbeats 400000 in
set_option maxRecDepth 100000 in
theorem q_isExpelled {p : Program} {e : Env} {s : State} {m : MethodId} {below : List Frame} {meth : Method} {c : Code} {l : Launch} {b L : Nat} {xs : Nat → Int32} {D : va_G} {cs : Cs} {M : Nat × (Nat → Nat)} {x o e0 : Nat} (E : LwE p s m c l b L xs D cs M o e0) {Q : State → Prop} {d0 : Drawn} (hd0 : s.drawn.sameBut d0 lw_cs) {n9 : Nat} (hn : n9 < 512) (hn2 : 3 * n9 + 3 ≤ L) (hL : L ≤ 1536) {H : Heap} {locs : List Loc} {ls : Array Slot} {cells slots : Nat} (hJ : LwI D cs x M o e0 s.heap.size n9 H) (hS : va_S (fun q => s.heap.size ≤ q) s.heap H locs) (hl : lv_has ls 9 [(0, .ref b), (1, .ref x), (2, .ref M.1), (3, .ref o), (4, .int (nI (3 * n9)))]) (hc1 : cells + 14 ≤ 601024) (hc2 : slots + 148 ≤ 7293034)
    (K : ∀ (ls : Array Slot) (H : Heap) (locs : List Loc) (d : Drawn), s.drawn.sameBut d lw_cs → LwI D cs x M o e0 s.heap.size (n9 + 1) H → va_S (fun q => s.heap.size ≤ q) s.heap H locs → lv_has ls 9 [(0, .ref b), (1, .ref x), (2, .ref M.1), (3, .ref o), (4, .int (nI (3 * n9)))] → W p l e room_1 (s.setDrawn d) m #[.ref b] below meth c H locs (cells + 14) (slots + 148) Q (F0 m 1554 ls [])) :
    W p l e room_1 (s.setDrawn d0) m #[.ref b] below meth c H locs cells slots Q (F0 m 986 ls []) := by
  obtain ⟨hx, hb, hml, hown, hts, hX, hbl, hK, hN, hT, hNc, hE, hlf, hap2, hMs, hos, hoM⟩ := id E
  obtain ⟨ρ, σ, th, f, rfl, hP, hM, hO, hT0, hap, he0, hown9⟩ := hJ
  have hts := dr_words hts d0
  have hN9 := hN
  have hN := dr_N d0 hN
  have hT := dr_T d0 hT
  have hNc := dr_Nc d0 hNc
  have hE := dr_E d0 hE
  have hX : va_X b L xs (s.setDrawn d0) s.heap := hX
  have hK : va_K D vwCl (tyz cs) (s.setDrawn d0) := va_K.moved (u := s) (U := s.setDrawn d0) (Vm.Alike.refl s.vm) hK
  have hI := hT0.1
  have hoB : ¬ ownB ρ (sK σ) o := fun h => (hown9 o h).2.1 rfl
  have hA9 : ∀ q, mdA M H q → s.heap.size ≤ q := fun q h => h.elim (hMs q) (fun h => Nat.le_trans hS.1 h)
  have hB9 : ∀ q, hlA ρ (sK σ) o H q → s.heap.size ≤ q := fun q h => h.elim (fun h => h.elim (fun h => (hown9 q h).2.2) (fun h => Nat.le_trans hS.1 h)) (fun h => by rw [h]; exact hos)
  refine lv_aload_n hx hb dL_law_986 rfl (lv_at hl 1 rfl) ?_
  refine lv_aload_n hx hb dL_law_987 rfl (lv_at hl 0 rfl) ?_
  refine lv_iload hx hb dL_law_988 (lv_at hl 4 rfl) ?_
  refine lv_iconst (v := 1) hx hb dL_law_990 (by decide) ?_
  refine lv_iadd hx hb dL_law_991 ?_
  refine va_sld hx hb hX hbl (Nat.not_le.mpr hbl) hS (by show vp_in (nI (3 * n9) + nI 1) L; rw [nI_add]; exact vp_in_nI (by omega) (by omega)) dL_law_992 ?_
  refine lv_topi (fun a ea => ?_)
  refine lv_aload_n hx hb dL_law_993 rfl (lv_at hl 3 rfl) ?_
  refine vx_calli (vx_runSX (As := [.ref (r_h ρ), .int a, .ref o]) (rest := []) ⟨hx, hb, hml, hown, hts⟩ (h_isExpelled l hlf D cs ρ hI hap H o f hoB a) (vx_cwSW 3 hts gL_law_L_isExpelled rfl rfl rfl (by decide +kernel) ⟨Nat.le_of_ble_eq_true rfl, Nat.le_of_ble_eq_true rfl⟩) (hb_S hK hN ⟨rfl, hP, hO⟩ hT hNc hS.1 (fun q h => hS.2.1 q h (Nat.not_le.mpr h))) rfl rfl hl.1 rfl (lv_room (Nat.le_of_ble_eq_true rfl)) dL_law_994 ⟨(show cells + 1 ≤ 601024 by omega), (show slots + 6 ≤ 7293034 by omega)⟩) hS (fun q _ h => hB9 q h) hB9 (fun q _ h => h.elim) (fun E ce q9 u t H1 locs ht hvm hu _ _ _ _ _ _ _ => hu.elim) (fun r u t H1 locs ht hvm hw hB hz1 hk1 hS => ?_)
  obtain ⟨hr, hu1, hu2⟩ := hw
  rw [ht] at hB
  obtain ⟨hP, hO⟩ := hB
  rw [hu1] at hP
  have hM := mod_hl hM (fun q h => (hown9 q h).1) hoM hk1
  rw [hr]
  have h3 : (rdO σ a (fun i => b01 (outS σ i))).1 ≤ 3 := rdO_3
  refine lv_istore (lv' := [(5, .int (nI (rdO σ a (fun i => b01 (outS σ i))).1)), (0, .ref b), (1, .ref (r_h ρ)), (2, .ref M.1), (3, .ref o), (4, .int (nI (3 * n9)))]) hx hb dL_law_997 hl (by decide) rfl (fun ls hl => ?_)
  refine lv_aload_n hx hb dL_law_999 rfl (lv_at hl 3 rfl) ?_
  refine lv_aload_n hx hb dL_law_1000 rfl (lv_at hl 1 rfl) ?_
  refine lv_iload hx hb dL_law_1001 (lv_at hl 5 rfl) ?_
  refine lv_iconst (v := 1) hx hb dL_law_1003 (by decide) ?_
  refine lv_iadd hx hb dL_law_1004 ?_
  refine va_sld hx hb hX hbl (Nat.not_le.mpr hbl) hS (by show vp_in (nI (3 * n9) + nI 1) L; rw [nI_add]; exact vp_in_nI (by omega) (by omega)) dL_law_1005 ?_
  rw [← ea]
  refine va_calli (va_runV (As := [.int a]) (rest := []) ⟨hx, hb, hml, hown, hts⟩ (c_X2_isExpelled l D cs M th hI hap2 H1 a) (cwV 1 hts gL_law_X2_isExpelled rfl rfl rfl (by decide +kernel) ⟨Nat.le_of_ble_eq_true rfl, Nat.le_of_ble_eq_true rfl⟩) (rb_V hK hN ⟨rfl, hM⟩ (va_recv hK hM (ci := 3) (q0 := 0) rfl rfl)) rfl rfl hl.1 rfl (lv_room (Nat.le_of_ble_eq_true rfl)) dL_law_1006 ⟨(show cells + 1 + 0 ≤ 601024 by omega), (show slots + 6 + 0 ≤ 7293034 by omega)⟩) hS (fun q _ h => h.elim (hMs q) (fun h => Nat.le_trans hS.1 h)) (fun q h => h.elim (hMs q) (fun h => Nat.le_trans hS.1 h)) (fun r2 u2 t H1 locs ht hvm hp hB hz1 hk1 hS => ?_)
  have hp9 : u2 = ((rdO σ a (fun i => b01 (outS σ i))).1, σ) ∧ ((rdO σ a (fun i => b01 (outS σ i))).1 = 0 → r2 = (rdO σ a (fun i => b01 (outS σ i))).2) := hp
  obtain ⟨hu9, hr2⟩ := hp9
  subst hu9
  rw [ht] at hB
  have hM : va_P D vwCl (modW cs M (nI (rdO σ a (fun i => b01 (outS σ i))).1) (σ)) H1 := hB
  have hP := soc_md hP (fun q h => (hown9 q h).1) hk1
  have hO := out_md hO hoM hk1
  refine lv_istore (lv' := [(6, .int r2), (5, .int (nI (rdO σ a (fun i => b01 (outS σ i))).1)), (0, .ref b), (1, .ref (r_h ρ)), (2, .ref M.1), (3, .ref o), (4, .int (nI (3 * n9)))]) hx hb dL_law_1009 hl (by decide) rfl (fun ls hl => ?_)
  refine lv_aload_n hx hb dL_law_1011 rfl (lv_at hl 4 rfl) ?_
  refine vp_callSi (va_Run.run (va_runV (As := []) (rest := []) ⟨hx, hb, hml, hown, hts⟩ (c_X2_thrown l D cs M (nI (rdO σ a (fun i => b01 (outS σ i))).1) hI) (cwV 0 hts gL_law_X2_thrown rfl rfl rfl (by decide +kernel) ⟨Nat.le_of_ble_eq_true rfl, Nat.le_of_ble_eq_true rfl⟩) (rb_V hK hN hM (va_recv hK hM (ci := 3) (q0 := 0) rfl rfl)) rfl rfl hl.1 rfl (lv_room (Nat.le_of_ble_eq_true rfl)) dL_law_1012 ⟨(show cells + 1 + 0 ≤ 601024 by omega), (show slots + 6 + 0 ≤ 7293034 by omega)⟩)) (fun r3 h3 => ?_)
  rw [h3]
  refine lv_iload hx hb dL_law_1015 (lv_at hl 1 rfl) ?_
  refine lv_icmp_eq (tgt := 1022) hx hb dL_law_1017 (by decide) (fun _ => ?_) (fun c9 => absurd rfl c9)
  refine lv_iload hx hb dL_law_1022 (lv_at hl 1 rfl) ?_
  refine lv_if_ne (tgt := 1046) hx hb dL_law_1024 (by decide) (fun c_1 => ?_) (fun c_1 => ?_)
  · refine lv_goto (tgt := 1554) hx hb dL_law_1046 (by decide) ?_
    refine W.widen (k := cells + 14) (n := slots + 148) (by omega) (by omega) ?_
    exact K ls _ _ _ hd0 ⟨ρ, σ, (nI (rdO σ a (fun i => b01 (outS σ i))).1), u.2, rfl, hP, hM, hO, invT_le hT0 (by omega) (by omega), hap, he0, hown9⟩ hS (lv_sub hl [2, 3, 4, 5, 6] rfl)
  · have h0 : (rdO σ a (fun i => b01 (outS σ i))).1 = 0 := (nI_eq (a := (rdO σ a (fun i => b01 (outS σ i))).1) (b := 0) (by omega) (by omega)).mp c_1
    refine lv_aload_n hx hb dL_law_1027 rfl (lv_at hl 5 rfl) ?_
    refine lv_iconst (v := 0) hx hb dL_law_1028 (by decide) ?_
    refine va_lald (i := 0) hx hb hK (one_P hO) 0 2 rfl rfl (by unfold vp_in; decide) dL_law_1029 ?_
    rw [show u.2 (0 : Int32).toNatClampNeg = zL ((rdO σ a (fun i => b01 (outS σ i))).2) from hu2 h0]
    refine lv_iload hx hb dL_law_1030 (lv_at hl 0 rfl) ?_
    rw [hr2 h0]
    refine lv_if_eq (tgt := 1039) hx hb dL_law_1032 (by decide) (fun c8 => ?_) (fun c8 => ?_)
    · refine lv_lconst (v := 0) hx hb dL_law_1039 (by decide) ?_
      rw [show zL ((rdO σ a (fun i => b01 (outS σ i))).2) = 0 from if_pos c8]
      refine W.lcmp hx hb dL_law_1040 ?_
      refine lv_if_eq (tgt := 1046) hx hb dL_law_1041 (by decide) (fun _ => ?_) (fun c9 => absurd (lg_self _) c9)
      refine lv_goto (tgt := 1554) hx hb dL_law_1046 (by decide) ?_
      refine W.widen (k := cells + 14) (n := slots + 148) (by omega) (by omega) ?_
      exact K ls _ _ _ hd0 ⟨ρ, σ, (nI (rdO σ a (fun i => b01 (outS σ i))).1), u.2, rfl, hP, hM, hO, invT_le hT0 (by omega) (by omega), hap, he0, hown9⟩ hS (lv_sub hl [2, 3, 4, 5, 6] rfl)
    · refine lv_lconst (v := 1) hx hb dL_law_1035 (by decide) ?_
      refine lv_goto (tgt := 1040) hx hb dL_law_1036 (by decide) ?_
      rw [show zL ((rdO σ a (fun i => b01 (outS σ i))).2) = 1 from if_neg c8]
      refine W.lcmp hx hb dL_law_1040 ?_
      refine lv_if_eq (tgt := 1046) hx hb dL_law_1041 (by decide) (fun _ => ?_) (fun c9 => absurd (lg_self _) c9)
      refine lv_goto (tgt := 1554) hx hb dL_law_1046 (by decide) ?_
      refine W.widen (k := cells + 14) (n := slots + 148) (by omega) (by omega) ?_
      exact K ls _ _ _ hd0 ⟨ρ, σ, (nI (rdO σ a (fun i => b01 (outS σ i))).1), u.2, rfl, hP, hM, hO, invT_le hT0 (by omega) (by omega), hap, he0, hown9⟩ hS (lv_sub hl [2, 3, 4, 5, 6] rfl)
set_option maxHeartbeats 400000 in
set_option maxRecDepth 100000 in
theorem q_shadowOf {p : Program} {e : Env} {s : State} {m : MethodId} {below : List Frame} {meth : Method} {c : Code} {l : Launch} {b L : Nat} {xs : Nat → Int32} {D : va_G} {cs : Cs} {M : Nat × (Nat → Nat)} {x o e0 : Nat} (E : LwE p s m c l b L xs D cs M o e0) {Q : State → Prop} {d0 : Drawn} (hd0 : s.drawn.sameBut d0 lw_cs) {n9 : Nat} (hn : n9 < 512) (hn2 : 3 * n9 + 3 ≤ L) (hL : L ≤ 1536) {H : Heap} {locs : List Loc} {ls : Array Slot} {cells slots : Nat} (hJ : LwI D cs x M o e0 s.heap.size n9 H) (hS : va_S (fun q => s.heap.size ≤ q) s.heap H locs) (hl : lv_has ls 9 [(0, .ref b), (1, .ref x), (2, .ref M.1), (3, .ref o), (4, .int (nI (3 * n9)))]) (hc1 : cells + 14 ≤ 601024) (hc2 : slots + 148 ≤ 7293034)
    (K : ∀ (ls : Array Slot) (H : Heap) (locs : List Loc) (d : Drawn), s.drawn.sameBut d lw_cs → LwI D cs x M o e0 s.heap.size (n9 + 1) H → va_S (fun q => s.heap.size ≤ q) s.heap H locs → lv_has ls 9 [(0, .ref b), (1, .ref x), (2, .ref M.1), (3, .ref o), (4, .int (nI (3 * n9)))] → W p l e room_1 (s.setDrawn d) m #[.ref b] below meth c H locs (cells + 14) (slots + 148) Q (F0 m 1554 ls [])) :
    W p l e room_1 (s.setDrawn d0) m #[.ref b] below meth c H locs cells slots Q (F0 m 1049 ls []) := by
  obtain ⟨hx, hb, hml, hown, hts, hX, hbl, hK, hN, hT, hNc, hE, hlf, hap2, hMs, hos, hoM⟩ := id E
  obtain ⟨ρ, σ, th, f, rfl, hP, hM, hO, hT0, hap, he0, hown9⟩ := hJ
  have hts := dr_words hts d0
  have hN9 := hN
  have hN := dr_N d0 hN
  have hT := dr_T d0 hT
  have hNc := dr_Nc d0 hNc
  have hE := dr_E d0 hE
  have hX : va_X b L xs (s.setDrawn d0) s.heap := hX
  have hK : va_K D vwCl (tyz cs) (s.setDrawn d0) := va_K.moved (u := s) (U := s.setDrawn d0) (Vm.Alike.refl s.vm) hK
  have hI := hT0.1
  have hoB : ¬ ownB ρ (sK σ) o := fun h => (hown9 o h).2.1 rfl
  have hA9 : ∀ q, mdA M H q → s.heap.size ≤ q := fun q h => h.elim (hMs q) (fun h => Nat.le_trans hS.1 h)
  have hB9 : ∀ q, hlA ρ (sK σ) o H q → s.heap.size ≤ q := fun q h => h.elim (fun h => h.elim (fun h => (hown9 q h).2.2) (fun h => Nat.le_trans hS.1 h)) (fun h => by rw [h]; exact hos)
  refine lv_aload_n hx hb dL_law_1049 rfl (lv_at hl 1 rfl) ?_
  refine lv_aload_n hx hb dL_law_1050 rfl (lv_at hl 0 rfl) ?_
  refine lv_iload hx hb dL_law_1051 (lv_at hl 4 rfl) ?_
  refine lv_iconst (v := 1) hx hb dL_law_1053 (by decide) ?_
  refine lv_iadd hx hb dL_law_1054 ?_
  refine va_sld hx hb hX hbl (Nat.not_le.mpr hbl) hS (by show vp_in (nI (3 * n9) + nI 1) L; rw [nI_add]; exact vp_in_nI (by omega) (by omega)) dL_law_1055 ?_
  refine lv_topi (fun a ea => ?_)
  refine lv_aload_n hx hb dL_law_1056 rfl (lv_at hl 3 rfl) ?_
  refine vx_calli (vx_runSX (As := [.ref (r_h ρ), .int a, .ref o]) (rest := []) ⟨hx, hb, hml, hown, hts⟩ (h_shadowOf l hlf D cs ρ hI hap H o f hoB a) (vx_cwSW 3 hts gL_law_L_shadowOf rfl rfl rfl (by decide +kernel) ⟨Nat.le_of_ble_eq_true rfl, Nat.le_of_ble_eq_true rfl⟩) (hb_S hK hN ⟨rfl, hP, hO⟩ hT hNc hS.1 (fun q h => hS.2.1 q h (Nat.not_le.mpr h))) rfl rfl hl.1 rfl (lv_room (Nat.le_of_ble_eq_true rfl)) dL_law_1057 ⟨(show cells + 1 ≤ 601024 by omega), (show slots + 6 ≤ 7293034 by omega)⟩) hS (fun q _ h => hB9 q h) hB9 (fun q _ h => h.elim) (fun E ce q9 u t H1 locs ht hvm hu _ _ _ _ _ _ _ => hu.elim) (fun r u t H1 locs ht hvm hw hB hz1 hk1 hS => ?_)
  obtain ⟨hr, hu1, hu2⟩ := hw
  rw [ht] at hB
  obtain ⟨hP, hO⟩ := hB
  rw [hu1] at hP
  have hM := mod_hl hM (fun q h => (hown9 q h).1) hoM hk1
  rw [hr]
  have h3 : (rdO σ a (fun i => shadS σ i (dayOf σ))).1 ≤ 3 := rdO_3
  refine lv_istore (lv' := [(5, .int (nI (rdO σ a (fun i => shadS σ i (dayOf σ))).1)), (0, .ref b), (1, .ref (r_h ρ)), (2, .ref M.1), (3, .ref o), (4, .int (nI (3 * n9)))]) hx hb dL_law_1060 hl (by decide) rfl (fun ls hl => ?_)
  refine lv_aload_n hx hb dL_law_1062 rfl (lv_at hl 3 rfl) ?_
  refine lv_aload_n hx hb dL_law_1063 rfl (lv_at hl 1 rfl) ?_
  refine lv_iload hx hb dL_law_1064 (lv_at hl 5 rfl) ?_
  refine lv_iconst (v := 1) hx hb dL_law_1066 (by decide) ?_
  refine lv_iadd hx hb dL_law_1067 ?_
  refine va_sld hx hb hX hbl (Nat.not_le.mpr hbl) hS (by show vp_in (nI (3 * n9) + nI 1) L; rw [nI_add]; exact vp_in_nI (by omega) (by omega)) dL_law_1068 ?_
  rw [← ea]
  refine va_calli (va_runV (As := [.int a]) (rest := []) ⟨hx, hb, hml, hown, hts⟩ (c_X2_shadowOf l D cs M th hI hap2 H1 a) (cwV 1 hts gL_law_X2_shadowOf rfl rfl rfl (by decide +kernel) ⟨Nat.le_of_ble_eq_true rfl, Nat.le_of_ble_eq_true rfl⟩) (rb_V hK hN ⟨rfl, hM⟩ (va_recv hK hM (ci := 3) (q0 := 0) rfl rfl)) rfl rfl hl.1 rfl (lv_room (Nat.le_of_ble_eq_true rfl)) dL_law_1069 ⟨(show cells + 1 + 0 ≤ 601024 by omega), (show slots + 6 + 0 ≤ 7293034 by omega)⟩) hS (fun q _ h => h.elim (hMs q) (fun h => Nat.le_trans hS.1 h)) (fun q h => h.elim (hMs q) (fun h => Nat.le_trans hS.1 h)) (fun r2 u2 t H1 locs ht hvm hp hB hz1 hk1 hS => ?_)
  have hp9 : u2 = ((rdO σ a (fun i => shadS σ i (dayOf σ))).1, σ) ∧ ((rdO σ a (fun i => shadS σ i (dayOf σ))).1 = 0 → r2 = (rdO σ a (fun i => shadS σ i (dayOf σ))).2) := hp
  obtain ⟨hu9, hr2⟩ := hp9
  subst hu9
  rw [ht] at hB
  have hM : va_P D vwCl (modW cs M (nI (rdO σ a (fun i => shadS σ i (dayOf σ))).1) (σ)) H1 := hB
  have hP := soc_md hP (fun q h => (hown9 q h).1) hk1
  have hO := out_md hO hoM hk1
  refine lv_istore (lv' := [(6, .int r2), (5, .int (nI (rdO σ a (fun i => shadS σ i (dayOf σ))).1)), (0, .ref b), (1, .ref (r_h ρ)), (2, .ref M.1), (3, .ref o), (4, .int (nI (3 * n9)))]) hx hb dL_law_1072 hl (by decide) rfl (fun ls hl => ?_)
  refine lv_aload_n hx hb dL_law_1074 rfl (lv_at hl 4 rfl) ?_
  refine vp_callSi (va_Run.run (va_runV (As := []) (rest := []) ⟨hx, hb, hml, hown, hts⟩ (c_X2_thrown l D cs M (nI (rdO σ a (fun i => shadS σ i (dayOf σ))).1) hI) (cwV 0 hts gL_law_X2_thrown rfl rfl rfl (by decide +kernel) ⟨Nat.le_of_ble_eq_true rfl, Nat.le_of_ble_eq_true rfl⟩) (rb_V hK hN hM (va_recv hK hM (ci := 3) (q0 := 0) rfl rfl)) rfl rfl hl.1 rfl (lv_room (Nat.le_of_ble_eq_true rfl)) dL_law_1075 ⟨(show cells + 1 + 0 ≤ 601024 by omega), (show slots + 6 + 0 ≤ 7293034 by omega)⟩)) (fun r3 h3 => ?_)
  rw [h3]
  refine lv_iload hx hb dL_law_1078 (lv_at hl 1 rfl) ?_
  refine lv_icmp_eq (tgt := 1085) hx hb dL_law_1080 (by decide) (fun _ => ?_) (fun c9 => absurd rfl c9)
  refine lv_iload hx hb dL_law_1085 (lv_at hl 1 rfl) ?_
  refine lv_if_ne (tgt := 1102) hx hb dL_law_1087 (by decide) (fun c_1 => ?_) (fun c_1 => ?_)
  · refine lv_goto (tgt := 1554) hx hb dL_law_1102 (by decide) ?_
    refine W.widen (k := cells + 14) (n := slots + 148) (by omega) (by omega) ?_
    exact K ls _ _ _ hd0 ⟨ρ, σ, (nI (rdO σ a (fun i => shadS σ i (dayOf σ))).1), u.2, rfl, hP, hM, hO, invT_le hT0 (by omega) (by omega), hap, he0, hown9⟩ hS (lv_sub hl [2, 3, 4, 5, 6] rfl)
  · have h0 : (rdO σ a (fun i => shadS σ i (dayOf σ))).1 = 0 := (nI_eq (a := (rdO σ a (fun i => shadS σ i (dayOf σ))).1) (b := 0) (by omega) (by omega)).mp c_1
    refine lv_aload_n hx hb dL_law_1090 rfl (lv_at hl 5 rfl) ?_
    refine lv_iconst (v := 0) hx hb dL_law_1091 (by decide) ?_
    refine va_lald (i := 0) hx hb hK (one_P hO) 0 2 rfl rfl (by unfold vp_in; decide) dL_law_1092 ?_
    rw [show u.2 (0 : Int32).toNatClampNeg = ((rdO σ a (fun i => shadS σ i (dayOf σ))).2).toInt64 from hu2 h0]
    refine lv_iload hx hb dL_law_1093 (lv_at hl 0 rfl) ?_
    refine lv_i2l (v := r2.toInt64) hx hb dL_law_1095 rfl ?_
    rw [show r2 = (rdO σ a (fun i => shadS σ i (dayOf σ))).2 from hr2 h0]
    refine W.lcmp hx hb dL_law_1096 ?_
    refine lv_if_eq (tgt := 1102) hx hb dL_law_1097 (by decide) (fun _ => ?_) (fun c9 => absurd (lg_self _) c9)
    refine lv_goto (tgt := 1554) hx hb dL_law_1102 (by decide) ?_
    refine W.widen (k := cells + 14) (n := slots + 148) (by omega) (by omega) ?_
    exact K ls _ _ _ hd0 ⟨ρ, σ, (nI (rdO σ a (fun i => shadS σ i (dayOf σ))).1), u.2, rfl, hP, hM, hO, invT_le hT0 (by omega) (by omega), hap, he0, hown9⟩ hS (lv_sub hl [2, 3, 4, 5, 6] rfl)
set_option maxHeartbeats 400000 in
set_option maxRecDepth 100000 in
theorem q_certified {p : Program} {e : Env} {s : State} {m : MethodId} {below : List Frame} {meth : Method} {c : Code} {l : Launch} {b L : Nat} {xs : Nat → Int32} {D : va_G} {cs : Cs} {M : Nat × (Nat → Nat)} {x o e0 : Nat} (E : LwE p s m c l b L xs D cs M o e0) {Q : State → Prop} {d0 : Drawn} (hd0 : s.drawn.sameBut d0 lw_cs) {n9 : Nat} (hn : n9 < 512) (hn2 : 3 * n9 + 3 ≤ L) (hL : L ≤ 1536) {H : Heap} {locs : List Loc} {ls : Array Slot} {cells slots : Nat} (hJ : LwI D cs x M o e0 s.heap.size n9 H) (hS : va_S (fun q => s.heap.size ≤ q) s.heap H locs) (hl : lv_has ls 9 [(0, .ref b), (1, .ref x), (2, .ref M.1), (3, .ref o), (4, .int (nI (3 * n9)))]) (hc1 : cells + 14 ≤ 601024) (hc2 : slots + 148 ≤ 7293034)
    (K : ∀ (ls : Array Slot) (H : Heap) (locs : List Loc) (d : Drawn), s.drawn.sameBut d lw_cs → LwI D cs x M o e0 s.heap.size (n9 + 1) H → va_S (fun q => s.heap.size ≤ q) s.heap H locs → lv_has ls 9 [(0, .ref b), (1, .ref x), (2, .ref M.1), (3, .ref o), (4, .int (nI (3 * n9)))] → W p l e room_1 (s.setDrawn d) m #[.ref b] below meth c H locs (cells + 14) (slots + 148) Q (F0 m 1554 ls [])) :
    W p l e room_1 (s.setDrawn d0) m #[.ref b] below meth c H locs cells slots Q (F0 m 1173 ls []) := by
  obtain ⟨hx, hb, hml, hown, hts, hX, hbl, hK, hN, hT, hNc, hE, hlf, hap2, hMs, hos, hoM⟩ := id E
  obtain ⟨ρ, σ, th, f, rfl, hP, hM, hO, hT0, hap, he0, hown9⟩ := hJ
  have hts := dr_words hts d0
  have hN9 := hN
  have hN := dr_N d0 hN
  have hT := dr_T d0 hT
  have hNc := dr_Nc d0 hNc
  have hE := dr_E d0 hE
  have hX : va_X b L xs (s.setDrawn d0) s.heap := hX
  have hK : va_K D vwCl (tyz cs) (s.setDrawn d0) := va_K.moved (u := s) (U := s.setDrawn d0) (Vm.Alike.refl s.vm) hK
  have hI := hT0.1
  have hoB : ¬ ownB ρ (sK σ) o := fun h => (hown9 o h).2.1 rfl
  have hA9 : ∀ q, mdA M H q → s.heap.size ≤ q := fun q h => h.elim (hMs q) (fun h => Nat.le_trans hS.1 h)
  have hB9 : ∀ q, hlA ρ (sK σ) o H q → s.heap.size ≤ q := fun q h => h.elim (fun h => h.elim (fun h => (hown9 q h).2.2) (fun h => Nat.le_trans hS.1 h)) (fun h => by rw [h]; exact hos)
  refine lv_aload_n hx hb dL_law_1173 rfl (lv_at hl 1 rfl) ?_
  refine lv_aload_n hx hb dL_law_1174 rfl (lv_at hl 0 rfl) ?_
  refine lv_iload hx hb dL_law_1175 (lv_at hl 4 rfl) ?_
  refine lv_iconst (v := 1) hx hb dL_law_1177 (by decide) ?_
  refine lv_iadd hx hb dL_law_1178 ?_
  refine va_sld hx hb hX hbl (Nat.not_le.mpr hbl) hS (by show vp_in (nI (3 * n9) + nI 1) L; rw [nI_add]; exact vp_in_nI (by omega) (by omega)) dL_law_1179 ?_
  refine lv_topi (fun a ea => ?_)
  refine lv_aload_n hx hb dL_law_1180 rfl (lv_at hl 3 rfl) ?_
  refine vx_calli (vx_runSX (As := [.ref (r_h ρ), .int a, .ref o]) (rest := []) ⟨hx, hb, hml, hown, hts⟩ (h_certified l hlf D cs ρ hI hap H o f hoB a) (vx_cwSW 3 hts gL_law_L_certified rfl rfl rfl (by decide +kernel) ⟨Nat.le_of_ble_eq_true rfl, Nat.le_of_ble_eq_true rfl⟩) (hb_S hK hN ⟨rfl, hP, hO⟩ hT hNc hS.1 (fun q h => hS.2.1 q h (Nat.not_le.mpr h))) rfl rfl hl.1 rfl (lv_room (Nat.le_of_ble_eq_true rfl)) dL_law_1181 ⟨(show cells + 1 ≤ 601024 by omega), (show slots + 6 ≤ 7293034 by omega)⟩) hS (fun q _ h => hB9 q h) hB9 (fun q _ h => h.elim) (fun E ce q9 u t H1 locs ht hvm hu _ _ _ _ _ _ _ => hu.elim) (fun r u t H1 locs ht hvm hw hB hz1 hk1 hS => ?_)
  obtain ⟨hr, hu1, hu2⟩ := hw
  rw [ht] at hB
  obtain ⟨hP, hO⟩ := hB
  rw [hu1] at hP
  have hM := mod_hl hM (fun q h => (hown9 q h).1) hoM hk1
  rw [hr]
  have h3 : (rdO σ a (fun i => sCe σ i)).1 ≤ 3 := rdO_3
  refine lv_istore (lv' := [(5, .int (nI (rdO σ a (fun i => sCe σ i)).1)), (0, .ref b), (1, .ref (r_h ρ)), (2, .ref M.1), (3, .ref o), (4, .int (nI (3 * n9)))]) hx hb dL_law_1184 hl (by decide) rfl (fun ls hl => ?_)
  refine lv_aload_n hx hb dL_law_1186 rfl (lv_at hl 3 rfl) ?_
  refine lv_aload_n hx hb dL_law_1187 rfl (lv_at hl 1 rfl) ?_
  refine lv_iload hx hb dL_law_1188 (lv_at hl 5 rfl) ?_
  refine lv_iconst (v := 1) hx hb dL_law_1190 (by decide) ?_
  refine lv_iadd hx hb dL_law_1191 ?_
  refine va_sld hx hb hX hbl (Nat.not_le.mpr hbl) hS (by show vp_in (nI (3 * n9) + nI 1) L; rw [nI_add]; exact vp_in_nI (by omega) (by omega)) dL_law_1192 ?_
  rw [← ea]
  refine va_calli (va_runV (As := [.int a]) (rest := []) ⟨hx, hb, hml, hown, hts⟩ (c_X2_certified l D cs M th hI hap2 H1 a) (cwV 1 hts gL_law_X2_certified rfl rfl rfl (by decide +kernel) ⟨Nat.le_of_ble_eq_true rfl, Nat.le_of_ble_eq_true rfl⟩) (rb_V hK hN ⟨rfl, hM⟩ (va_recv hK hM (ci := 3) (q0 := 0) rfl rfl)) rfl rfl hl.1 rfl (lv_room (Nat.le_of_ble_eq_true rfl)) dL_law_1193 ⟨(show cells + 1 + 0 ≤ 601024 by omega), (show slots + 6 + 0 ≤ 7293034 by omega)⟩) hS (fun q _ h => h.elim (hMs q) (fun h => Nat.le_trans hS.1 h)) (fun q h => h.elim (hMs q) (fun h => Nat.le_trans hS.1 h)) (fun r2 u2 t H1 locs ht hvm hp hB hz1 hk1 hS => ?_)
  have hp9 : u2 = ((rdO σ a (fun i => sCe σ i)).1, σ) ∧ ((rdO σ a (fun i => sCe σ i)).1 = 0 → r2 = (rdO σ a (fun i => sCe σ i)).2) := hp
  obtain ⟨hu9, hr2⟩ := hp9
  subst hu9
  rw [ht] at hB
  have hM : va_P D vwCl (modW cs M (nI (rdO σ a (fun i => sCe σ i)).1) (σ)) H1 := hB
  have hP := soc_md hP (fun q h => (hown9 q h).1) hk1
  have hO := out_md hO hoM hk1
  refine lv_istore (lv' := [(6, .int r2), (5, .int (nI (rdO σ a (fun i => sCe σ i)).1)), (0, .ref b), (1, .ref (r_h ρ)), (2, .ref M.1), (3, .ref o), (4, .int (nI (3 * n9)))]) hx hb dL_law_1196 hl (by decide) rfl (fun ls hl => ?_)
  refine lv_aload_n hx hb dL_law_1198 rfl (lv_at hl 4 rfl) ?_
  refine vp_callSi (va_Run.run (va_runV (As := []) (rest := []) ⟨hx, hb, hml, hown, hts⟩ (c_X2_thrown l D cs M (nI (rdO σ a (fun i => sCe σ i)).1) hI) (cwV 0 hts gL_law_X2_thrown rfl rfl rfl (by decide +kernel) ⟨Nat.le_of_ble_eq_true rfl, Nat.le_of_ble_eq_true rfl⟩) (rb_V hK hN hM (va_recv hK hM (ci := 3) (q0 := 0) rfl rfl)) rfl rfl hl.1 rfl (lv_room (Nat.le_of_ble_eq_true rfl)) dL_law_1199 ⟨(show cells + 1 + 0 ≤ 601024 by omega), (show slots + 6 + 0 ≤ 7293034 by omega)⟩)) (fun r3 h3 => ?_)
  rw [h3]
  refine lv_iload hx hb dL_law_1202 (lv_at hl 1 rfl) ?_
  refine lv_icmp_eq (tgt := 1209) hx hb dL_law_1204 (by decide) (fun _ => ?_) (fun c9 => absurd rfl c9)
  refine lv_iload hx hb dL_law_1209 (lv_at hl 1 rfl) ?_
  refine lv_if_ne (tgt := 1226) hx hb dL_law_1211 (by decide) (fun c_1 => ?_) (fun c_1 => ?_)
  · refine lv_goto (tgt := 1554) hx hb dL_law_1226 (by decide) ?_
    refine W.widen (k := cells + 14) (n := slots + 148) (by omega) (by omega) ?_
    exact K ls _ _ _ hd0 ⟨ρ, σ, (nI (rdO σ a (fun i => sCe σ i)).1), u.2, rfl, hP, hM, hO, invT_le hT0 (by omega) (by omega), hap, he0, hown9⟩ hS (lv_sub hl [2, 3, 4, 5, 6] rfl)
  · have h0 : (rdO σ a (fun i => sCe σ i)).1 = 0 := (nI_eq (a := (rdO σ a (fun i => sCe σ i)).1) (b := 0) (by omega) (by omega)).mp c_1
    refine lv_aload_n hx hb dL_law_1214 rfl (lv_at hl 5 rfl) ?_
    refine lv_iconst (v := 0) hx hb dL_law_1215 (by decide) ?_
    refine va_lald (i := 0) hx hb hK (one_P hO) 0 2 rfl rfl (by unfold vp_in; decide) dL_law_1216 ?_
    rw [show u.2 (0 : Int32).toNatClampNeg = ((rdO σ a (fun i => sCe σ i)).2).toInt64 from hu2 h0]
    refine lv_iload hx hb dL_law_1217 (lv_at hl 0 rfl) ?_
    refine lv_i2l (v := r2.toInt64) hx hb dL_law_1219 rfl ?_
    rw [show r2 = (rdO σ a (fun i => sCe σ i)).2 from hr2 h0]
    refine W.lcmp hx hb dL_law_1220 ?_
    refine lv_if_eq (tgt := 1226) hx hb dL_law_1221 (by decide) (fun _ => ?_) (fun c9 => absurd (lg_self _) c9)
    refine lv_goto (tgt := 1554) hx hb dL_law_1226 (by decide) ?_
    refine W.widen (k := cells + 14) (n := slots + 148) (by omega) (by omega) ?_
    exact K ls _ _ _ hd0 ⟨ρ, σ, (nI (rdO σ a (fun i => sCe σ i)).1), u.2, rfl, hP, hM, hO, invT_le hT0 (by omega) (by omega), hap, he0, hown9⟩ hS (lv_sub hl [2, 3, 4, 5, 6] rfl)
set_option maxHeartbeats 400000 in
set_option maxRecDepth 100000 in
theorem q_auditBrings {p : Program} {e : Env} {s : State} {m : MethodId} {below : List Frame} {meth : Method} {c : Code} {l : Launch} {b L : Nat} {xs : Nat → Int32} {D : va_G} {cs : Cs} {M : Nat × (Nat → Nat)} {x o e0 : Nat} (E : LwE p s m c l b L xs D cs M o e0) {Q : State → Prop} {d0 : Drawn} (hd0 : s.drawn.sameBut d0 lw_cs) {n9 : Nat} (hn : n9 < 512) (hn2 : 3 * n9 + 3 ≤ L) (hL : L ≤ 1536) {H : Heap} {locs : List Loc} {ls : Array Slot} {cells slots : Nat} (hJ : LwI D cs x M o e0 s.heap.size n9 H) (hS : va_S (fun q => s.heap.size ≤ q) s.heap H locs) (hl : lv_has ls 9 [(0, .ref b), (1, .ref x), (2, .ref M.1), (3, .ref o), (4, .int (nI (3 * n9)))]) (hc1 : cells + 14 ≤ 601024) (hc2 : slots + 148 ≤ 7293034)
    (K : ∀ (ls : Array Slot) (H : Heap) (locs : List Loc) (d : Drawn), s.drawn.sameBut d lw_cs → LwI D cs x M o e0 s.heap.size (n9 + 1) H → va_S (fun q => s.heap.size ≤ q) s.heap H locs → lv_has ls 9 [(0, .ref b), (1, .ref x), (2, .ref M.1), (3, .ref o), (4, .int (nI (3 * n9)))] → W p l e room_1 (s.setDrawn d) m #[.ref b] below meth c H locs (cells + 14) (slots + 148) Q (F0 m 1554 ls [])) :
    W p l e room_1 (s.setDrawn d0) m #[.ref b] below meth c H locs cells slots Q (F0 m 1318 ls []) := by
  obtain ⟨hx, hb, hml, hown, hts, hX, hbl, hK, hN, hT, hNc, hE, hlf, hap2, hMs, hos, hoM⟩ := id E
  obtain ⟨ρ, σ, th, f, rfl, hP, hM, hO, hT0, hap, he0, hown9⟩ := hJ
  have hts := dr_words hts d0
  have hN9 := hN
  have hN := dr_N d0 hN
  have hT := dr_T d0 hT
  have hNc := dr_Nc d0 hNc
  have hE := dr_E d0 hE
  have hX : va_X b L xs (s.setDrawn d0) s.heap := hX
  have hK : va_K D vwCl (tyz cs) (s.setDrawn d0) := va_K.moved (u := s) (U := s.setDrawn d0) (Vm.Alike.refl s.vm) hK
  have hI := hT0.1
  have hoB : ¬ ownB ρ (sK σ) o := fun h => (hown9 o h).2.1 rfl
  have hA9 : ∀ q, mdA M H q → s.heap.size ≤ q := fun q h => h.elim (hMs q) (fun h => Nat.le_trans hS.1 h)
  have hB9 : ∀ q, hlA ρ (sK σ) o H q → s.heap.size ≤ q := fun q h => h.elim (fun h => h.elim (fun h => (hown9 q h).2.2) (fun h => Nat.le_trans hS.1 h)) (fun h => by rw [h]; exact hos)
  refine lv_aload_n hx hb dL_law_1318 rfl (lv_at hl 1 rfl) ?_
  refine lv_aload_n hx hb dL_law_1319 rfl (lv_at hl 0 rfl) ?_
  refine lv_iload hx hb dL_law_1320 (lv_at hl 4 rfl) ?_
  refine lv_iconst (v := 1) hx hb dL_law_1322 (by decide) ?_
  refine lv_iadd hx hb dL_law_1323 ?_
  refine va_sld hx hb hX hbl (Nat.not_le.mpr hbl) hS (by show vp_in (nI (3 * n9) + nI 1) L; rw [nI_add]; exact vp_in_nI (by omega) (by omega)) dL_law_1324 ?_
  refine lv_topi (fun a ea => ?_)
  refine lv_aload_n hx hb dL_law_1325 rfl (lv_at hl 3 rfl) ?_
  refine vx_calli (vx_runSX (As := [.ref (r_h ρ), .int a, .ref o]) (rest := []) ⟨hx, hb, hml, hown, hts⟩ (h_auditBrings l hlf D cs ρ hI hap H o f hoB a) (vx_cwSW 3 hts gL_law_L_auditBrings rfl rfl rfl (by decide +kernel) ⟨Nat.le_of_ble_eq_true rfl, Nat.le_of_ble_eq_true rfl⟩) (hb_S hK hN ⟨rfl, hP, hO⟩ hT hNc hS.1 (fun q h => hS.2.1 q h (Nat.not_le.mpr h))) rfl rfl hl.1 rfl (lv_room (Nat.le_of_ble_eq_true rfl)) dL_law_1326 ⟨(show cells + 1 ≤ 601024 by omega), (show slots + 6 ≤ 7293034 by omega)⟩) hS (fun q _ h => hB9 q h) hB9 (fun q _ h => h.elim) (fun E ce q9 u t H1 locs ht hvm hu _ _ _ _ _ _ _ => hu.elim) (fun r u t H1 locs ht hvm hw hB hz1 hk1 hS => ?_)
  obtain ⟨hr, hu1, hu2⟩ := hw
  rw [ht] at hB
  obtain ⟨hP, hO⟩ := hB
  rw [hu1] at hP
  have hM := mod_hl hM (fun q h => (hown9 q h).1) hoM hk1
  rw [hr]
  have h3 : (rdO σ a (fun i => gainS σ i)).1 ≤ 3 := rdO_3
  refine lv_istore (lv' := [(5, .int (nI (rdO σ a (fun i => gainS σ i)).1)), (0, .ref b), (1, .ref (r_h ρ)), (2, .ref M.1), (3, .ref o), (4, .int (nI (3 * n9)))]) hx hb dL_law_1329 hl (by decide) rfl (fun ls hl => ?_)
  refine lv_aload_n hx hb dL_law_1331 rfl (lv_at hl 3 rfl) ?_
  refine lv_aload_n hx hb dL_law_1332 rfl (lv_at hl 1 rfl) ?_
  refine lv_iload hx hb dL_law_1333 (lv_at hl 5 rfl) ?_
  refine lv_iconst (v := 1) hx hb dL_law_1335 (by decide) ?_
  refine lv_iadd hx hb dL_law_1336 ?_
  refine va_sld hx hb hX hbl (Nat.not_le.mpr hbl) hS (by show vp_in (nI (3 * n9) + nI 1) L; rw [nI_add]; exact vp_in_nI (by omega) (by omega)) dL_law_1337 ?_
  rw [← ea]
  refine va_calli (va_runV (As := [.int a]) (rest := []) ⟨hx, hb, hml, hown, hts⟩ (c_X2_auditBrings l D cs M th hI hap2 H1 a) (cwV 1 hts gL_law_X2_auditBrings rfl rfl rfl (by decide +kernel) ⟨Nat.le_of_ble_eq_true rfl, Nat.le_of_ble_eq_true rfl⟩) (rb_V hK hN ⟨rfl, hM⟩ (va_recv hK hM (ci := 3) (q0 := 0) rfl rfl)) rfl rfl hl.1 rfl (lv_room (Nat.le_of_ble_eq_true rfl)) dL_law_1338 ⟨(show cells + 1 + 0 ≤ 601024 by omega), (show slots + 6 + 0 ≤ 7293034 by omega)⟩) hS (fun q _ h => h.elim (hMs q) (fun h => Nat.le_trans hS.1 h)) (fun q h => h.elim (hMs q) (fun h => Nat.le_trans hS.1 h)) (fun r2 u2 t H1 locs ht hvm hp hB hz1 hk1 hS => ?_)
  have hp9 : u2 = ((rdO σ a (fun i => gainS σ i)).1, σ) ∧ ((rdO σ a (fun i => gainS σ i)).1 = 0 → r2 = (rdO σ a (fun i => gainS σ i)).2) := hp
  obtain ⟨hu9, hr2⟩ := hp9
  subst hu9
  rw [ht] at hB
  have hM : va_P D vwCl (modW cs M (nI (rdO σ a (fun i => gainS σ i)).1) (σ)) H1 := hB
  have hP := soc_md hP (fun q h => (hown9 q h).1) hk1
  have hO := out_md hO hoM hk1
  refine lv_istore (lv' := [(6, .int r2), (5, .int (nI (rdO σ a (fun i => gainS σ i)).1)), (0, .ref b), (1, .ref (r_h ρ)), (2, .ref M.1), (3, .ref o), (4, .int (nI (3 * n9)))]) hx hb dL_law_1341 hl (by decide) rfl (fun ls hl => ?_)
  refine lv_aload_n hx hb dL_law_1343 rfl (lv_at hl 4 rfl) ?_
  refine vp_callSi (va_Run.run (va_runV (As := []) (rest := []) ⟨hx, hb, hml, hown, hts⟩ (c_X2_thrown l D cs M (nI (rdO σ a (fun i => gainS σ i)).1) hI) (cwV 0 hts gL_law_X2_thrown rfl rfl rfl (by decide +kernel) ⟨Nat.le_of_ble_eq_true rfl, Nat.le_of_ble_eq_true rfl⟩) (rb_V hK hN hM (va_recv hK hM (ci := 3) (q0 := 0) rfl rfl)) rfl rfl hl.1 rfl (lv_room (Nat.le_of_ble_eq_true rfl)) dL_law_1344 ⟨(show cells + 1 + 0 ≤ 601024 by omega), (show slots + 6 + 0 ≤ 7293034 by omega)⟩)) (fun r3 h3 => ?_)
  rw [h3]
  refine lv_iload hx hb dL_law_1347 (lv_at hl 1 rfl) ?_
  refine lv_icmp_eq (tgt := 1354) hx hb dL_law_1349 (by decide) (fun _ => ?_) (fun c9 => absurd rfl c9)
  refine lv_iload hx hb dL_law_1354 (lv_at hl 1 rfl) ?_
  refine lv_if_ne (tgt := 1371) hx hb dL_law_1356 (by decide) (fun c_1 => ?_) (fun c_1 => ?_)
  · refine lv_goto (tgt := 1554) hx hb dL_law_1371 (by decide) ?_
    refine W.widen (k := cells + 14) (n := slots + 148) (by omega) (by omega) ?_
    exact K ls _ _ _ hd0 ⟨ρ, σ, (nI (rdO σ a (fun i => gainS σ i)).1), u.2, rfl, hP, hM, hO, invT_le hT0 (by omega) (by omega), hap, he0, hown9⟩ hS (lv_sub hl [2, 3, 4, 5, 6] rfl)
  · have h0 : (rdO σ a (fun i => gainS σ i)).1 = 0 := (nI_eq (a := (rdO σ a (fun i => gainS σ i)).1) (b := 0) (by omega) (by omega)).mp c_1
    refine lv_aload_n hx hb dL_law_1359 rfl (lv_at hl 5 rfl) ?_
    refine lv_iconst (v := 0) hx hb dL_law_1360 (by decide) ?_
    refine va_lald (i := 0) hx hb hK (one_P hO) 0 2 rfl rfl (by unfold vp_in; decide) dL_law_1361 ?_
    rw [show u.2 (0 : Int32).toNatClampNeg = ((rdO σ a (fun i => gainS σ i)).2).toInt64 from hu2 h0]
    refine lv_iload hx hb dL_law_1362 (lv_at hl 0 rfl) ?_
    refine lv_i2l (v := r2.toInt64) hx hb dL_law_1364 rfl ?_
    rw [show r2 = (rdO σ a (fun i => gainS σ i)).2 from hr2 h0]
    refine W.lcmp hx hb dL_law_1365 ?_
    refine lv_if_eq (tgt := 1371) hx hb dL_law_1366 (by decide) (fun _ => ?_) (fun c9 => absurd (lg_self _) c9)
    refine lv_goto (tgt := 1554) hx hb dL_law_1371 (by decide) ?_
    refine W.widen (k := cells + 14) (n := slots + 148) (by omega) (by omega) ?_
    exact K ls _ _ _ hd0 ⟨ρ, σ, (nI (rdO σ a (fun i => gainS σ i)).1), u.2, rfl, hP, hM, hO, invT_le hT0 (by omega) (by omega), hap, he0, hown9⟩ hS (lv_sub hl [2, 3, 4, 5, 6] rfl)
set_option maxHeartbeats 400000 in
set_option maxRecDepth 100000 in
theorem q_bestHat {p : Program} {e : Env} {s : State} {m : MethodId} {below : List Frame} {meth : Method} {c : Code} {l : Launch} {b L : Nat} {xs : Nat → Int32} {D : va_G} {cs : Cs} {M : Nat × (Nat → Nat)} {x o e0 : Nat} (E : LwE p s m c l b L xs D cs M o e0) {Q : State → Prop} {d0 : Drawn} (hd0 : s.drawn.sameBut d0 lw_cs) {n9 : Nat} (hn : n9 < 512) (hn2 : 3 * n9 + 3 ≤ L) (hL : L ≤ 1536) {H : Heap} {locs : List Loc} {ls : Array Slot} {cells slots : Nat} (hJ : LwI D cs x M o e0 s.heap.size n9 H) (hS : va_S (fun q => s.heap.size ≤ q) s.heap H locs) (hl : lv_has ls 9 [(0, .ref b), (1, .ref x), (2, .ref M.1), (3, .ref o), (4, .int (nI (3 * n9)))]) (hc1 : cells + 14 ≤ 601024) (hc2 : slots + 148 ≤ 7293034)
    (K : ∀ (ls : Array Slot) (H : Heap) (locs : List Loc) (d : Drawn), s.drawn.sameBut d lw_cs → LwI D cs x M o e0 s.heap.size (n9 + 1) H → va_S (fun q => s.heap.size ≤ q) s.heap H locs → lv_has ls 9 [(0, .ref b), (1, .ref x), (2, .ref M.1), (3, .ref o), (4, .int (nI (3 * n9)))] → W p l e room_1 (s.setDrawn d) m #[.ref b] below meth c H locs (cells + 14) (slots + 148) Q (F0 m 1554 ls [])) :
    W p l e room_1 (s.setDrawn d0) m #[.ref b] below meth c H locs cells slots Q (F0 m 1387 ls []) := by
  obtain ⟨hx, hb, hml, hown, hts, hX, hbl, hK, hN, hT, hNc, hE, hlf, hap2, hMs, hos, hoM⟩ := id E
  obtain ⟨ρ, σ, th, f, rfl, hP, hM, hO, hT0, hap, he0, hown9⟩ := hJ
  have hts := dr_words hts d0
  have hN9 := hN
  have hN := dr_N d0 hN
  have hT := dr_T d0 hT
  have hNc := dr_Nc d0 hNc
  have hE := dr_E d0 hE
  have hX : va_X b L xs (s.setDrawn d0) s.heap := hX
  have hK : va_K D vwCl (tyz cs) (s.setDrawn d0) := va_K.moved (u := s) (U := s.setDrawn d0) (Vm.Alike.refl s.vm) hK
  have hI := hT0.1
  have hoB : ¬ ownB ρ (sK σ) o := fun h => (hown9 o h).2.1 rfl
  have hA9 : ∀ q, mdA M H q → s.heap.size ≤ q := fun q h => h.elim (hMs q) (fun h => Nat.le_trans hS.1 h)
  have hB9 : ∀ q, hlA ρ (sK σ) o H q → s.heap.size ≤ q := fun q h => h.elim (fun h => h.elim (fun h => (hown9 q h).2.2) (fun h => Nat.le_trans hS.1 h)) (fun h => by rw [h]; exact hos)
  refine lv_aload_n hx hb dL_law_1387 rfl (lv_at hl 1 rfl) ?_
  refine lv_aload_n hx hb dL_law_1388 rfl (lv_at hl 0 rfl) ?_
  refine lv_iload hx hb dL_law_1389 (lv_at hl 4 rfl) ?_
  refine lv_iconst (v := 1) hx hb dL_law_1391 (by decide) ?_
  refine lv_iadd hx hb dL_law_1392 ?_
  refine va_sld hx hb hX hbl (Nat.not_le.mpr hbl) hS (by show vp_in (nI (3 * n9) + nI 1) L; rw [nI_add]; exact vp_in_nI (by omega) (by omega)) dL_law_1393 ?_
  refine lv_topi (fun a ea => ?_)
  refine lv_aload_n hx hb dL_law_1394 rfl (lv_at hl 3 rfl) ?_
  refine vx_calli (vx_runSX (As := [.ref (r_h ρ), .int a, .ref o]) (rest := []) ⟨hx, hb, hml, hown, hts⟩ (h_bestHat l hlf D cs ρ hI hap H o f hoB a) (vx_cwSW 3 hts gL_law_L_bestHat rfl rfl rfl (by decide +kernel) ⟨Nat.le_of_ble_eq_true rfl, Nat.le_of_ble_eq_true rfl⟩) (hb_S hK hN ⟨rfl, hP, hO⟩ hT hNc hS.1 (fun q h => hS.2.1 q h (Nat.not_le.mpr h))) rfl rfl hl.1 rfl (lv_room (Nat.le_of_ble_eq_true rfl)) dL_law_1395 ⟨(show cells + 1 ≤ 601024 by omega), (show slots + 6 ≤ 7293034 by omega)⟩) hS (fun q _ h => hB9 q h) hB9 (fun q _ h => h.elim) (fun E ce q9 u t H1 locs ht hvm hu _ _ _ _ _ _ _ => hu.elim) (fun r u t H1 locs ht hvm hw hB hz1 hk1 hS => ?_)
  obtain ⟨hr, hu1, hu2⟩ := hw
  rw [ht] at hB
  obtain ⟨hP, hO⟩ := hB
  rw [hu1] at hP
  have hM := mod_hl hM (fun q h => (hown9 q h).1) hoM hk1
  rw [hr]
  have h3 : (rdO σ a (fun i => bestS σ i)).1 ≤ 3 := rdO_3
  refine lv_istore (lv' := [(5, .int (nI (rdO σ a (fun i => bestS σ i)).1)), (0, .ref b), (1, .ref (r_h ρ)), (2, .ref M.1), (3, .ref o), (4, .int (nI (3 * n9)))]) hx hb dL_law_1398 hl (by decide) rfl (fun ls hl => ?_)
  refine lv_aload_n hx hb dL_law_1400 rfl (lv_at hl 3 rfl) ?_
  refine lv_aload_n hx hb dL_law_1401 rfl (lv_at hl 1 rfl) ?_
  refine lv_iload hx hb dL_law_1402 (lv_at hl 5 rfl) ?_
  refine lv_iconst (v := 1) hx hb dL_law_1404 (by decide) ?_
  refine lv_iadd hx hb dL_law_1405 ?_
  refine va_sld hx hb hX hbl (Nat.not_le.mpr hbl) hS (by show vp_in (nI (3 * n9) + nI 1) L; rw [nI_add]; exact vp_in_nI (by omega) (by omega)) dL_law_1406 ?_
  rw [← ea]
  refine va_calli (va_runV (As := [.int a]) (rest := []) ⟨hx, hb, hml, hown, hts⟩ (c_X2_bestHat l D cs M th hT0 hap2 H1 a) (cwV 1 hts gL_law_X2_bestHat rfl rfl rfl (by decide +kernel) ⟨Nat.le_of_ble_eq_true rfl, Nat.le_of_ble_eq_true rfl⟩) (rb_V hK hN ⟨rfl, hM⟩ (va_recv hK hM (ci := 3) (q0 := 0) rfl rfl)) rfl rfl hl.1 rfl (lv_room (Nat.le_of_ble_eq_true rfl)) dL_law_1407 ⟨(show cells + 1 + 0 ≤ 601024 by omega), (show slots + 6 + 0 ≤ 7293034 by omega)⟩) hS (fun q _ h => h.elim (hMs q) (fun h => Nat.le_trans hS.1 h)) (fun q h => h.elim (hMs q) (fun h => Nat.le_trans hS.1 h)) (fun r2 u2 t H1 locs ht hvm hp hB hz1 hk1 hS => ?_)
  have hp9 : u2 = ((rdO σ a (fun i => bestS σ i)).1, σ) ∧ ((rdO σ a (fun i => bestS σ i)).1 = 0 → r2 = (rdO σ a (fun i => bestS σ i)).2) := hp
  obtain ⟨hu9, hr2⟩ := hp9
  subst hu9
  rw [ht] at hB
  have hM : va_P D vwCl (modW cs M (nI (rdO σ a (fun i => bestS σ i)).1) (σ)) H1 := hB
  have hP := soc_md hP (fun q h => (hown9 q h).1) hk1
  have hO := out_md hO hoM hk1
  refine lv_istore (lv' := [(6, .int r2), (5, .int (nI (rdO σ a (fun i => bestS σ i)).1)), (0, .ref b), (1, .ref (r_h ρ)), (2, .ref M.1), (3, .ref o), (4, .int (nI (3 * n9)))]) hx hb dL_law_1410 hl (by decide) rfl (fun ls hl => ?_)
  refine lv_aload_n hx hb dL_law_1412 rfl (lv_at hl 4 rfl) ?_
  refine vp_callSi (va_Run.run (va_runV (As := []) (rest := []) ⟨hx, hb, hml, hown, hts⟩ (c_X2_thrown l D cs M (nI (rdO σ a (fun i => bestS σ i)).1) hI) (cwV 0 hts gL_law_X2_thrown rfl rfl rfl (by decide +kernel) ⟨Nat.le_of_ble_eq_true rfl, Nat.le_of_ble_eq_true rfl⟩) (rb_V hK hN hM (va_recv hK hM (ci := 3) (q0 := 0) rfl rfl)) rfl rfl hl.1 rfl (lv_room (Nat.le_of_ble_eq_true rfl)) dL_law_1413 ⟨(show cells + 1 + 0 ≤ 601024 by omega), (show slots + 6 + 0 ≤ 7293034 by omega)⟩)) (fun r3 h3 => ?_)
  rw [h3]
  refine lv_iload hx hb dL_law_1416 (lv_at hl 1 rfl) ?_
  refine lv_icmp_eq (tgt := 1423) hx hb dL_law_1418 (by decide) (fun _ => ?_) (fun c9 => absurd rfl c9)
  refine lv_iload hx hb dL_law_1423 (lv_at hl 1 rfl) ?_
  refine lv_if_ne (tgt := 1440) hx hb dL_law_1425 (by decide) (fun c_1 => ?_) (fun c_1 => ?_)
  · refine lv_goto (tgt := 1554) hx hb dL_law_1440 (by decide) ?_
    refine W.widen (k := cells + 14) (n := slots + 148) (by omega) (by omega) ?_
    exact K ls _ _ _ hd0 ⟨ρ, σ, (nI (rdO σ a (fun i => bestS σ i)).1), u.2, rfl, hP, hM, hO, invT_le hT0 (by omega) (by omega), hap, he0, hown9⟩ hS (lv_sub hl [2, 3, 4, 5, 6] rfl)
  · have h0 : (rdO σ a (fun i => bestS σ i)).1 = 0 := (nI_eq (a := (rdO σ a (fun i => bestS σ i)).1) (b := 0) (by omega) (by omega)).mp c_1
    refine lv_aload_n hx hb dL_law_1428 rfl (lv_at hl 5 rfl) ?_
    refine lv_iconst (v := 0) hx hb dL_law_1429 (by decide) ?_
    refine va_lald (i := 0) hx hb hK (one_P hO) 0 2 rfl rfl (by unfold vp_in; decide) dL_law_1430 ?_
    rw [show u.2 (0 : Int32).toNatClampNeg = ((rdO σ a (fun i => bestS σ i)).2).toInt64 from hu2 h0]
    refine lv_iload hx hb dL_law_1431 (lv_at hl 0 rfl) ?_
    refine lv_i2l (v := r2.toInt64) hx hb dL_law_1433 rfl ?_
    rw [show r2 = (rdO σ a (fun i => bestS σ i)).2 from hr2 h0]
    refine W.lcmp hx hb dL_law_1434 ?_
    refine lv_if_eq (tgt := 1440) hx hb dL_law_1435 (by decide) (fun _ => ?_) (fun c9 => absurd (lg_self _) c9)
    refine lv_goto (tgt := 1554) hx hb dL_law_1440 (by decide) ?_
    refine W.widen (k := cells + 14) (n := slots + 148) (by omega) (by omega) ?_
    exact K ls _ _ _ hd0 ⟨ρ, σ, (nI (rdO σ a (fun i => bestS σ i)).1), u.2, rfl, hP, hM, hO, invT_le hT0 (by omega) (by omega), hap, he0, hown9⟩ hS (lv_sub hl [2, 3, 4, 5, 6] rfl)
set_option maxHeartbeats 400000 in
set_option maxRecDepth 100000 in
theorem q_longestIn {p : Program} {e : Env} {s : State} {m : MethodId} {below : List Frame} {meth : Method} {c : Code} {l : Launch} {b L : Nat} {xs : Nat → Int32} {D : va_G} {cs : Cs} {M : Nat × (Nat → Nat)} {x o e0 : Nat} (E : LwE p s m c l b L xs D cs M o e0) {Q : State → Prop} {d0 : Drawn} (hd0 : s.drawn.sameBut d0 lw_cs) {n9 : Nat} (hn : n9 < 512) (hn2 : 3 * n9 + 3 ≤ L) (hL : L ≤ 1536) {H : Heap} {locs : List Loc} {ls : Array Slot} {cells slots : Nat} (hJ : LwI D cs x M o e0 s.heap.size n9 H) (hS : va_S (fun q => s.heap.size ≤ q) s.heap H locs) (hl : lv_has ls 9 [(0, .ref b), (1, .ref x), (2, .ref M.1), (3, .ref o), (4, .int (nI (3 * n9)))]) (hc1 : cells + 14 ≤ 601024) (hc2 : slots + 148 ≤ 7293034)
    (K : ∀ (ls : Array Slot) (H : Heap) (locs : List Loc) (d : Drawn), s.drawn.sameBut d lw_cs → LwI D cs x M o e0 s.heap.size (n9 + 1) H → va_S (fun q => s.heap.size ≤ q) s.heap H locs → lv_has ls 9 [(0, .ref b), (1, .ref x), (2, .ref M.1), (3, .ref o), (4, .int (nI (3 * n9)))] → W p l e room_1 (s.setDrawn d) m #[.ref b] below meth c H locs (cells + 14) (slots + 148) Q (F0 m 1554 ls [])) :
    W p l e room_1 (s.setDrawn d0) m #[.ref b] below meth c H locs cells slots Q (F0 m 1443 ls []) := by
  obtain ⟨hx, hb, hml, hown, hts, hX, hbl, hK, hN, hT, hNc, hE, hlf, hap2, hMs, hos, hoM⟩ := id E
  obtain ⟨ρ, σ, th, f, rfl, hP, hM, hO, hT0, hap, he0, hown9⟩ := hJ
  have hts := dr_words hts d0
  have hN9 := hN
  have hN := dr_N d0 hN
  have hT := dr_T d0 hT
  have hNc := dr_Nc d0 hNc
  have hE := dr_E d0 hE
  have hX : va_X b L xs (s.setDrawn d0) s.heap := hX
  have hK : va_K D vwCl (tyz cs) (s.setDrawn d0) := va_K.moved (u := s) (U := s.setDrawn d0) (Vm.Alike.refl s.vm) hK
  have hI := hT0.1
  have hoB : ¬ ownB ρ (sK σ) o := fun h => (hown9 o h).2.1 rfl
  have hA9 : ∀ q, mdA M H q → s.heap.size ≤ q := fun q h => h.elim (hMs q) (fun h => Nat.le_trans hS.1 h)
  have hB9 : ∀ q, hlA ρ (sK σ) o H q → s.heap.size ≤ q := fun q h => h.elim (fun h => h.elim (fun h => (hown9 q h).2.2) (fun h => Nat.le_trans hS.1 h)) (fun h => by rw [h]; exact hos)
  refine lv_aload_n hx hb dL_law_1443 rfl (lv_at hl 1 rfl) ?_
  refine lv_aload_n hx hb dL_law_1444 rfl (lv_at hl 0 rfl) ?_
  refine lv_iload hx hb dL_law_1445 (lv_at hl 4 rfl) ?_
  refine lv_iconst (v := 1) hx hb dL_law_1447 (by decide) ?_
  refine lv_iadd hx hb dL_law_1448 ?_
  refine va_sld hx hb hX hbl (Nat.not_le.mpr hbl) hS (by show vp_in (nI (3 * n9) + nI 1) L; rw [nI_add]; exact vp_in_nI (by omega) (by omega)) dL_law_1449 ?_
  refine lv_topi (fun a ea => ?_)
  refine lv_aload_n hx hb dL_law_1450 rfl (lv_at hl 3 rfl) ?_
  refine vx_calli (vx_runSX (As := [.ref (r_h ρ), .int a, .ref o]) (rest := []) ⟨hx, hb, hml, hown, hts⟩ (h_longestIn l hlf D cs ρ hI hap H o f hoB a) (vx_cwSW 3 hts gL_law_L_longestIn rfl rfl rfl (by decide +kernel) ⟨Nat.le_of_ble_eq_true rfl, Nat.le_of_ble_eq_true rfl⟩) (hb_S hK hN ⟨rfl, hP, hO⟩ hT hNc hS.1 (fun q h => hS.2.1 q h (Nat.not_le.mpr h))) rfl rfl hl.1 rfl (lv_room (Nat.le_of_ble_eq_true rfl)) dL_law_1451 ⟨(show cells + 1 ≤ 601024 by omega), (show slots + 6 ≤ 7293034 by omega)⟩) hS (fun q _ h => hB9 q h) hB9 (fun q _ h => h.elim) (fun E ce q9 u t H1 locs ht hvm hu _ _ _ _ _ _ _ => hu.elim) (fun r u t H1 locs ht hvm hw hB hz1 hk1 hS => ?_)
  obtain ⟨hr, hu1, hu2⟩ := hw
  rw [ht] at hB
  obtain ⟨hP, hO⟩ := hB
  rw [hu1] at hP
  have hM := mod_hl hM (fun q h => (hown9 q h).1) hoM hk1
  rw [hr]
  have h3 : (rdO σ a (fun i => longInS σ i)).1 ≤ 3 := rdO_3
  refine lv_istore (lv' := [(5, .int (nI (rdO σ a (fun i => longInS σ i)).1)), (0, .ref b), (1, .ref (r_h ρ)), (2, .ref M.1), (3, .ref o), (4, .int (nI (3 * n9)))]) hx hb dL_law_1454 hl (by decide) rfl (fun ls hl => ?_)
  refine lv_aload_n hx hb dL_law_1456 rfl (lv_at hl 3 rfl) ?_
  refine lv_aload_n hx hb dL_law_1457 rfl (lv_at hl 1 rfl) ?_
  refine lv_iload hx hb dL_law_1458 (lv_at hl 5 rfl) ?_
  refine lv_iconst (v := 1) hx hb dL_law_1460 (by decide) ?_
  refine lv_iadd hx hb dL_law_1461 ?_
  refine va_sld hx hb hX hbl (Nat.not_le.mpr hbl) hS (by show vp_in (nI (3 * n9) + nI 1) L; rw [nI_add]; exact vp_in_nI (by omega) (by omega)) dL_law_1462 ?_
  rw [← ea]
  refine va_calli (va_runV (As := [.int a]) (rest := []) ⟨hx, hb, hml, hown, hts⟩ (c_X2_longestIn l D cs M th hT0 hap2 H1 a) (cwV 1 hts gL_law_X2_longestIn rfl rfl rfl (by decide +kernel) ⟨Nat.le_of_ble_eq_true rfl, Nat.le_of_ble_eq_true rfl⟩) (rb_V hK hN ⟨rfl, hM⟩ (va_recv hK hM (ci := 3) (q0 := 0) rfl rfl)) rfl rfl hl.1 rfl (lv_room (Nat.le_of_ble_eq_true rfl)) dL_law_1463 ⟨(show cells + 1 + 0 ≤ 601024 by omega), (show slots + 6 + 0 ≤ 7293034 by omega)⟩) hS (fun q _ h => h.elim (hMs q) (fun h => Nat.le_trans hS.1 h)) (fun q h => h.elim (hMs q) (fun h => Nat.le_trans hS.1 h)) (fun r2 u2 t H1 locs ht hvm hp hB hz1 hk1 hS => ?_)
  have hp9 : u2 = ((rdO σ a (fun i => longInS σ i)).1, σ) ∧ ((rdO σ a (fun i => longInS σ i)).1 = 0 → r2 = (rdO σ a (fun i => longInS σ i)).2) := hp
  obtain ⟨hu9, hr2⟩ := hp9
  subst hu9
  rw [ht] at hB
  have hM : va_P D vwCl (modW cs M (nI (rdO σ a (fun i => longInS σ i)).1) (σ)) H1 := hB
  have hP := soc_md hP (fun q h => (hown9 q h).1) hk1
  have hO := out_md hO hoM hk1
  refine lv_istore (lv' := [(6, .int r2), (5, .int (nI (rdO σ a (fun i => longInS σ i)).1)), (0, .ref b), (1, .ref (r_h ρ)), (2, .ref M.1), (3, .ref o), (4, .int (nI (3 * n9)))]) hx hb dL_law_1466 hl (by decide) rfl (fun ls hl => ?_)
  refine lv_aload_n hx hb dL_law_1468 rfl (lv_at hl 4 rfl) ?_
  refine vp_callSi (va_Run.run (va_runV (As := []) (rest := []) ⟨hx, hb, hml, hown, hts⟩ (c_X2_thrown l D cs M (nI (rdO σ a (fun i => longInS σ i)).1) hI) (cwV 0 hts gL_law_X2_thrown rfl rfl rfl (by decide +kernel) ⟨Nat.le_of_ble_eq_true rfl, Nat.le_of_ble_eq_true rfl⟩) (rb_V hK hN hM (va_recv hK hM (ci := 3) (q0 := 0) rfl rfl)) rfl rfl hl.1 rfl (lv_room (Nat.le_of_ble_eq_true rfl)) dL_law_1469 ⟨(show cells + 1 + 0 ≤ 601024 by omega), (show slots + 6 + 0 ≤ 7293034 by omega)⟩)) (fun r3 h3 => ?_)
  rw [h3]
  refine lv_iload hx hb dL_law_1472 (lv_at hl 1 rfl) ?_
  refine lv_icmp_eq (tgt := 1479) hx hb dL_law_1474 (by decide) (fun _ => ?_) (fun c9 => absurd rfl c9)
  refine lv_iload hx hb dL_law_1479 (lv_at hl 1 rfl) ?_
  refine lv_if_ne (tgt := 1496) hx hb dL_law_1481 (by decide) (fun c_1 => ?_) (fun c_1 => ?_)
  · refine lv_goto (tgt := 1554) hx hb dL_law_1496 (by decide) ?_
    refine W.widen (k := cells + 14) (n := slots + 148) (by omega) (by omega) ?_
    exact K ls _ _ _ hd0 ⟨ρ, σ, (nI (rdO σ a (fun i => longInS σ i)).1), u.2, rfl, hP, hM, hO, invT_le hT0 (by omega) (by omega), hap, he0, hown9⟩ hS (lv_sub hl [2, 3, 4, 5, 6] rfl)
  · have h0 : (rdO σ a (fun i => longInS σ i)).1 = 0 := (nI_eq (a := (rdO σ a (fun i => longInS σ i)).1) (b := 0) (by omega) (by omega)).mp c_1
    refine lv_aload_n hx hb dL_law_1484 rfl (lv_at hl 5 rfl) ?_
    refine lv_iconst (v := 0) hx hb dL_law_1485 (by decide) ?_
    refine va_lald (i := 0) hx hb hK (one_P hO) 0 2 rfl rfl (by unfold vp_in; decide) dL_law_1486 ?_
    rw [show u.2 (0 : Int32).toNatClampNeg = ((rdO σ a (fun i => longInS σ i)).2).toInt64 from hu2 h0]
    refine lv_iload hx hb dL_law_1487 (lv_at hl 0 rfl) ?_
    refine lv_i2l (v := r2.toInt64) hx hb dL_law_1489 rfl ?_
    rw [show r2 = (rdO σ a (fun i => longInS σ i)).2 from hr2 h0]
    refine W.lcmp hx hb dL_law_1490 ?_
    refine lv_if_eq (tgt := 1496) hx hb dL_law_1491 (by decide) (fun _ => ?_) (fun c9 => absurd (lg_self _) c9)
    refine lv_goto (tgt := 1554) hx hb dL_law_1496 (by decide) ?_
    refine W.widen (k := cells + 14) (n := slots + 148) (by omega) (by omega) ?_
    exact K ls _ _ _ hd0 ⟨ρ, σ, (nI (rdO σ a (fun i => longInS σ i)).1), u.2, rfl, hP, hM, hO, invT_le hT0 (by omega) (by omega), hap, he0, hown9⟩ hS (lv_sub hl [2, 3, 4, 5, 6] rfl)
set_option maxHeartbeats 400000 in
set_option maxRecDepth 100000 in
theorem q_honestShadow {p : Program} {e : Env} {s : State} {m : MethodId} {below : List Frame} {meth : Method} {c : Code} {l : Launch} {b L : Nat} {xs : Nat → Int32} {D : va_G} {cs : Cs} {M : Nat × (Nat → Nat)} {x o e0 : Nat} (E : LwE p s m c l b L xs D cs M o e0) {Q : State → Prop} {d0 : Drawn} (hd0 : s.drawn.sameBut d0 lw_cs) {n9 : Nat} (hn : n9 < 512) (hn2 : 3 * n9 + 3 ≤ L) (hL : L ≤ 1536) {H : Heap} {locs : List Loc} {ls : Array Slot} {cells slots : Nat} (hJ : LwI D cs x M o e0 s.heap.size n9 H) (hS : va_S (fun q => s.heap.size ≤ q) s.heap H locs) (hl : lv_has ls 9 [(0, .ref b), (1, .ref x), (2, .ref M.1), (3, .ref o), (4, .int (nI (3 * n9)))]) (hc1 : cells + 14 ≤ 601024) (hc2 : slots + 148 ≤ 7293034)
    (K : ∀ (ls : Array Slot) (H : Heap) (locs : List Loc) (d : Drawn), s.drawn.sameBut d lw_cs → LwI D cs x M o e0 s.heap.size (n9 + 1) H → va_S (fun q => s.heap.size ≤ q) s.heap H locs → lv_has ls 9 [(0, .ref b), (1, .ref x), (2, .ref M.1), (3, .ref o), (4, .int (nI (3 * n9)))] → W p l e room_1 (s.setDrawn d) m #[.ref b] below meth c H locs (cells + 14) (slots + 148) Q (F0 m 1554 ls [])) :
    W p l e room_1 (s.setDrawn d0) m #[.ref b] below meth c H locs cells slots Q (F0 m 1105 ls []) := by
  obtain ⟨hx, hb, hml, hown, hts, hX, hbl, hK, hN, hT, hNc, hE, hlf, hap2, hMs, hos, hoM⟩ := id E
  obtain ⟨ρ, σ, th, f, rfl, hP, hM, hO, hT0, hap, he0, hown9⟩ := hJ
  have hts := dr_words hts d0
  have hN9 := hN
  have hN := dr_N d0 hN
  have hT := dr_T d0 hT
  have hNc := dr_Nc d0 hNc
  have hE := dr_E d0 hE
  have hX : va_X b L xs (s.setDrawn d0) s.heap := hX
  have hK : va_K D vwCl (tyz cs) (s.setDrawn d0) := va_K.moved (u := s) (U := s.setDrawn d0) (Vm.Alike.refl s.vm) hK
  have hI := hT0.1
  have hoB : ¬ ownB ρ (sK σ) o := fun h => (hown9 o h).2.1 rfl
  have hA9 : ∀ q, mdA M H q → s.heap.size ≤ q := fun q h => h.elim (hMs q) (fun h => Nat.le_trans hS.1 h)
  have hB9 : ∀ q, hlA ρ (sK σ) o H q → s.heap.size ≤ q := fun q h => h.elim (fun h => h.elim (fun h => (hown9 q h).2.2) (fun h => Nat.le_trans hS.1 h)) (fun h => by rw [h]; exact hos)
  refine lv_aload_n hx hb dL_law_1105 rfl (lv_at hl 1 rfl) ?_
  refine lv_aload_n hx hb dL_law_1106 rfl (lv_at hl 0 rfl) ?_
  refine lv_iload hx hb dL_law_1107 (lv_at hl 4 rfl) ?_
  refine lv_iconst (v := 1) hx hb dL_law_1109 (by decide) ?_
  refine lv_iadd hx hb dL_law_1110 ?_
  refine va_sld hx hb hX hbl (Nat.not_le.mpr hbl) hS (by show vp_in (nI (3 * n9) + nI 1) L; rw [nI_add]; exact vp_in_nI (by omega) (by omega)) dL_law_1111 ?_
  refine lv_topi (fun a ea => ?_)
  refine lv_aload_n hx hb dL_law_1112 rfl (lv_at hl 0 rfl) ?_
  refine lv_iload hx hb dL_law_1113 (lv_at hl 4 rfl) ?_
  refine lv_iconst (v := 2) hx hb dL_law_1115 (by decide) ?_
  refine lv_iadd hx hb dL_law_1116 ?_
  refine va_sld hx hb hX hbl (Nat.not_le.mpr hbl) hS (by show vp_in (nI (3 * n9) + nI 2) L; rw [nI_add]; exact vp_in_nI (by omega) (by omega)) dL_law_1117 ?_
  refine lv_topi (fun b9 eb9 => ?_)
  refine lv_aload_n hx hb dL_law_1118 rfl (lv_at hl 3 rfl) ?_
  refine vx_calli (vx_runSX (As := [.ref (r_h ρ), .int a, .int b9, .ref o]) (rest := []) ⟨hx, hb, hml, hown, hts⟩ (h_honestShadow l hlf D cs ρ hI hap H o f hoB a b9) (vx_cwSW 4 hts gL_law_L_honestShadow rfl rfl rfl (by decide +kernel) ⟨Nat.le_of_ble_eq_true rfl, Nat.le_of_ble_eq_true rfl⟩) (hb_S hK hN ⟨rfl, hP, hO⟩ hT hNc hS.1 (fun q h => hS.2.1 q h (Nat.not_le.mpr h))) rfl rfl hl.1 rfl (lv_room (Nat.le_of_ble_eq_true rfl)) dL_law_1119 ⟨(show cells + 2 ≤ 601024 by omega), (show slots + 12 ≤ 7293034 by omega)⟩) hS (fun q _ h => hB9 q h) hB9 (fun q _ h => h.elim) (fun E ce q9 u t H1 locs ht hvm hu _ _ _ _ _ _ _ => hu.elim) (fun r u t H1 locs ht hvm hw hB hz1 hk1 hS => ?_)
  obtain ⟨hr, hu1, hu2⟩ := hw
  rw [ht] at hB
  obtain ⟨hP, hO⟩ := hB
  rw [hu1] at hP
  have hM := mod_hl hM (fun q h => (hown9 q h).1) hoM hk1
  rw [hr]
  have h3 : (honO σ a b9).1 ≤ 3 := honO_3
  refine lv_istore (lv' := [(5, .int (nI (honO σ a b9).1)), (0, .ref b), (1, .ref (r_h ρ)), (2, .ref M.1), (3, .ref o), (4, .int (nI (3 * n9)))]) hx hb dL_law_1122 hl (by decide) rfl (fun ls hl => ?_)
  refine lv_aload_n hx hb dL_law_1124 rfl (lv_at hl 3 rfl) ?_
  refine lv_aload_n hx hb dL_law_1125 rfl (lv_at hl 1 rfl) ?_
  refine lv_iload hx hb dL_law_1126 (lv_at hl 5 rfl) ?_
  refine lv_iconst (v := 1) hx hb dL_law_1128 (by decide) ?_
  refine lv_iadd hx hb dL_law_1129 ?_
  refine va_sld hx hb hX hbl (Nat.not_le.mpr hbl) hS (by show vp_in (nI (3 * n9) + nI 1) L; rw [nI_add]; exact vp_in_nI (by omega) (by omega)) dL_law_1130 ?_
  rw [← ea]
  refine lv_aload_n hx hb dL_law_1131 rfl (lv_at hl 1 rfl) ?_
  refine lv_iload hx hb dL_law_1132 (lv_at hl 5 rfl) ?_
  refine lv_iconst (v := 2) hx hb dL_law_1134 (by decide) ?_
  refine lv_iadd hx hb dL_law_1135 ?_
  refine va_sld hx hb hX hbl (Nat.not_le.mpr hbl) hS (by show vp_in (nI (3 * n9) + nI 2) L; rw [nI_add]; exact vp_in_nI (by omega) (by omega)) dL_law_1136 ?_
  rw [← eb9]
  refine va_calli (va_runV (As := [.int a, .int b9]) (rest := []) ⟨hx, hb, hml, hown, hts⟩ (c_X2_honestShadow l D cs M th hI hap2 H1 a b9) (cwV 2 hts gL_law_X2_honestShadow rfl rfl rfl (by decide +kernel) ⟨Nat.le_of_ble_eq_true rfl, Nat.le_of_ble_eq_true rfl⟩) (rb_V hK hN ⟨rfl, hM⟩ (va_recv hK hM (ci := 3) (q0 := 0) rfl rfl)) rfl rfl hl.1 rfl (lv_room (Nat.le_of_ble_eq_true rfl)) dL_law_1137 ⟨(show cells + 2 + 0 ≤ 601024 by omega), (show slots + 12 + 0 ≤ 7293034 by omega)⟩) hS (fun q _ h => h.elim (hMs q) (fun h => Nat.le_trans hS.1 h)) (fun q h => h.elim (hMs q) (fun h => Nat.le_trans hS.1 h)) (fun r2 u2 t H1 locs ht hvm hp hB hz1 hk1 hS => ?_)
  have hp9 : u2 = ((honO σ a b9).1, σ) ∧ ((honO σ a b9).1 = 0 → r2 = (honO σ a b9).2) := hp
  obtain ⟨hu9, hr2⟩ := hp9
  subst hu9
  rw [ht] at hB
  have hM : va_P D vwCl (modW cs M (nI (honO σ a b9).1) (σ)) H1 := hB
  have hP := soc_md hP (fun q h => (hown9 q h).1) hk1
  have hO := out_md hO hoM hk1
  refine lv_istore (lv' := [(6, .int r2), (5, .int (nI (honO σ a b9).1)), (0, .ref b), (1, .ref (r_h ρ)), (2, .ref M.1), (3, .ref o), (4, .int (nI (3 * n9)))]) hx hb dL_law_1140 hl (by decide) rfl (fun ls hl => ?_)
  refine lv_aload_n hx hb dL_law_1142 rfl (lv_at hl 4 rfl) ?_
  refine vp_callSi (va_Run.run (va_runV (As := []) (rest := []) ⟨hx, hb, hml, hown, hts⟩ (c_X2_thrown l D cs M (nI (honO σ a b9).1) hI) (cwV 0 hts gL_law_X2_thrown rfl rfl rfl (by decide +kernel) ⟨Nat.le_of_ble_eq_true rfl, Nat.le_of_ble_eq_true rfl⟩) (rb_V hK hN hM (va_recv hK hM (ci := 3) (q0 := 0) rfl rfl)) rfl rfl hl.1 rfl (lv_room (Nat.le_of_ble_eq_true rfl)) dL_law_1143 ⟨(show cells + 2 + 0 ≤ 601024 by omega), (show slots + 12 + 0 ≤ 7293034 by omega)⟩)) (fun r3 h3 => ?_)
  rw [h3]
  refine lv_iload hx hb dL_law_1146 (lv_at hl 1 rfl) ?_
  refine lv_icmp_eq (tgt := 1153) hx hb dL_law_1148 (by decide) (fun _ => ?_) (fun c9 => absurd rfl c9)
  refine lv_iload hx hb dL_law_1153 (lv_at hl 1 rfl) ?_
  refine lv_if_ne (tgt := 1170) hx hb dL_law_1155 (by decide) (fun c_1 => ?_) (fun c_1 => ?_)
  · refine lv_goto (tgt := 1554) hx hb dL_law_1170 (by decide) ?_
    refine W.widen (k := cells + 14) (n := slots + 148) (by omega) (by omega) ?_
    exact K ls _ _ _ hd0 ⟨ρ, σ, (nI (honO σ a b9).1), u.2, rfl, hP, hM, hO, invT_le hT0 (by omega) (by omega), hap, he0, hown9⟩ hS (lv_sub hl [2, 3, 4, 5, 6] rfl)
  · have h0 : (honO σ a b9).1 = 0 := (nI_eq (a := (honO σ a b9).1) (b := 0) (by omega) (by omega)).mp c_1
    refine lv_aload_n hx hb dL_law_1158 rfl (lv_at hl 5 rfl) ?_
    refine lv_iconst (v := 0) hx hb dL_law_1159 (by decide) ?_
    refine va_lald (i := 0) hx hb hK (one_P hO) 0 2 rfl rfl (by unfold vp_in; decide) dL_law_1160 ?_
    rw [show u.2 (0 : Int32).toNatClampNeg = ((honO σ a b9).2).toInt64 from hu2 h0]
    refine lv_iload hx hb dL_law_1161 (lv_at hl 0 rfl) ?_
    refine lv_i2l (v := r2.toInt64) hx hb dL_law_1163 rfl ?_
    rw [show r2 = (honO σ a b9).2 from hr2 h0]
    refine W.lcmp hx hb dL_law_1164 ?_
    refine lv_if_eq (tgt := 1170) hx hb dL_law_1165 (by decide) (fun _ => ?_) (fun c9 => absurd (lg_self _) c9)
    refine lv_goto (tgt := 1554) hx hb dL_law_1170 (by decide) ?_
    refine W.widen (k := cells + 14) (n := slots + 148) (by omega) (by omega) ?_
    exact K ls _ _ _ hd0 ⟨ρ, σ, (nI (honO σ a b9).1), u.2, rfl, hP, hM, hO, invT_le hT0 (by omega) (by omega), hap, he0, hown9⟩ hS (lv_sub hl [2, 3, 4, 5, 6] rfl)
set_option maxHeartbeats 400000 in
set_option maxRecDepth 100000 in
theorem q_isHonest {p : Program} {e : Env} {s : State} {m : MethodId} {below : List Frame} {meth : Method} {c : Code} {l : Launch} {b L : Nat} {xs : Nat → Int32} {D : va_G} {cs : Cs} {M : Nat × (Nat → Nat)} {x o e0 : Nat} (E : LwE p s m c l b L xs D cs M o e0) {Q : State → Prop} {d0 : Drawn} (hd0 : s.drawn.sameBut d0 lw_cs) {n9 : Nat} (hn : n9 < 512) (hn2 : 3 * n9 + 3 ≤ L) (hL : L ≤ 1536) {H : Heap} {locs : List Loc} {ls : Array Slot} {cells slots : Nat} (hJ : LwI D cs x M o e0 s.heap.size n9 H) (hS : va_S (fun q => s.heap.size ≤ q) s.heap H locs) (hl : lv_has ls 9 [(0, .ref b), (1, .ref x), (2, .ref M.1), (3, .ref o), (4, .int (nI (3 * n9)))]) (hc1 : cells + 14 ≤ 601024) (hc2 : slots + 148 ≤ 7293034)
    (K : ∀ (ls : Array Slot) (H : Heap) (locs : List Loc) (d : Drawn), s.drawn.sameBut d lw_cs → LwI D cs x M o e0 s.heap.size (n9 + 1) H → va_S (fun q => s.heap.size ≤ q) s.heap H locs → lv_has ls 9 [(0, .ref b), (1, .ref x), (2, .ref M.1), (3, .ref o), (4, .int (nI (3 * n9)))] → W p l e room_1 (s.setDrawn d) m #[.ref b] below meth c H locs (cells + 14) (slots + 148) Q (F0 m 1554 ls [])) :
    W p l e room_1 (s.setDrawn d0) m #[.ref b] below meth c H locs cells slots Q (F0 m 1229 ls []) := by
  obtain ⟨hx, hb, hml, hown, hts, hX, hbl, hK, hN, hT, hNc, hE, hlf, hap2, hMs, hos, hoM⟩ := id E
  obtain ⟨ρ, σ, th, f, rfl, hP, hM, hO, hT0, hap, he0, hown9⟩ := hJ
  have hts := dr_words hts d0
  have hN9 := hN
  have hN := dr_N d0 hN
  have hT := dr_T d0 hT
  have hNc := dr_Nc d0 hNc
  have hE := dr_E d0 hE
  have hX : va_X b L xs (s.setDrawn d0) s.heap := hX
  have hK : va_K D vwCl (tyz cs) (s.setDrawn d0) := va_K.moved (u := s) (U := s.setDrawn d0) (Vm.Alike.refl s.vm) hK
  have hI := hT0.1
  have hoB : ¬ ownB ρ (sK σ) o := fun h => (hown9 o h).2.1 rfl
  have hA9 : ∀ q, mdA M H q → s.heap.size ≤ q := fun q h => h.elim (hMs q) (fun h => Nat.le_trans hS.1 h)
  have hB9 : ∀ q, hlA ρ (sK σ) o H q → s.heap.size ≤ q := fun q h => h.elim (fun h => h.elim (fun h => (hown9 q h).2.2) (fun h => Nat.le_trans hS.1 h)) (fun h => by rw [h]; exact hos)
  refine lv_aload_n hx hb dL_law_1229 rfl (lv_at hl 1 rfl) ?_
  refine lv_aload_n hx hb dL_law_1230 rfl (lv_at hl 0 rfl) ?_
  refine lv_iload hx hb dL_law_1231 (lv_at hl 4 rfl) ?_
  refine lv_iconst (v := 1) hx hb dL_law_1233 (by decide) ?_
  refine lv_iadd hx hb dL_law_1234 ?_
  refine va_sld hx hb hX hbl (Nat.not_le.mpr hbl) hS (by show vp_in (nI (3 * n9) + nI 1) L; rw [nI_add]; exact vp_in_nI (by omega) (by omega)) dL_law_1235 ?_
  refine lv_topi (fun a ea => ?_)
  refine lv_aload_n hx hb dL_law_1236 rfl (lv_at hl 3 rfl) ?_
  refine vx_calli (vx_runSX (As := [.ref (r_h ρ), .int a, .ref o]) (rest := []) ⟨hx, hb, hml, hown, hts⟩ (h_isHonest l hlf D cs ρ hI hap H o f hoB a) (vx_cwSW 3 hts gL_law_L_isHonest rfl rfl rfl (by decide +kernel) ⟨Nat.le_of_ble_eq_true rfl, Nat.le_of_ble_eq_true rfl⟩) (hb_S hK hN ⟨rfl, hP, hO⟩ hT hNc hS.1 (fun q h => hS.2.1 q h (Nat.not_le.mpr h))) rfl rfl hl.1 rfl (lv_room (Nat.le_of_ble_eq_true rfl)) dL_law_1237 ⟨(show cells + 2 ≤ 601024 by omega), (show slots + 12 ≤ 7293034 by omega)⟩) hS (fun q _ h => hB9 q h) hB9 (fun q _ h => h.elim) (fun E ce q9 u t H1 locs ht hvm hu _ _ _ _ _ _ _ => hu.elim) (fun r u t H1 locs ht hvm hw hB hz1 hk1 hS => ?_)
  obtain ⟨hr, hu1, hu2⟩ := hw
  rw [ht] at hB
  obtain ⟨hP, hO⟩ := hB
  rw [hu1] at hP
  have hM := mod_hl hM (fun q h => (hown9 q h).1) hoM hk1
  rw [hr]
  have h3 : (isHO σ a).1 ≤ 3 := isHO_3
  refine lv_istore (lv' := [(5, .int (nI (isHO σ a).1)), (0, .ref b), (1, .ref (r_h ρ)), (2, .ref M.1), (3, .ref o), (4, .int (nI (3 * n9)))]) hx hb dL_law_1240 hl (by decide) rfl (fun ls hl => ?_)
  refine lv_aload_n hx hb dL_law_1242 rfl (lv_at hl 3 rfl) ?_
  refine lv_aload_n hx hb dL_law_1243 rfl (lv_at hl 1 rfl) ?_
  refine lv_iload hx hb dL_law_1244 (lv_at hl 5 rfl) ?_
  refine lv_iconst (v := 1) hx hb dL_law_1246 (by decide) ?_
  refine lv_iadd hx hb dL_law_1247 ?_
  refine va_sld hx hb hX hbl (Nat.not_le.mpr hbl) hS (by show vp_in (nI (3 * n9) + nI 1) L; rw [nI_add]; exact vp_in_nI (by omega) (by omega)) dL_law_1248 ?_
  rw [← ea]
  refine va_calli (va_runV (As := [.int a]) (rest := []) ⟨hx, hb, hml, hown, hts⟩ (c_X2_isHonest l D cs M th hI hap2 H1 a) (cwV 1 hts gL_law_X2_isHonest rfl rfl rfl (by decide +kernel) ⟨Nat.le_of_ble_eq_true rfl, Nat.le_of_ble_eq_true rfl⟩) (rb_V hK hN ⟨rfl, hM⟩ (va_recv hK hM (ci := 3) (q0 := 0) rfl rfl)) rfl rfl hl.1 rfl (lv_room (Nat.le_of_ble_eq_true rfl)) dL_law_1249 ⟨(show cells + 2 + 0 ≤ 601024 by omega), (show slots + 12 + 0 ≤ 7293034 by omega)⟩) hS (fun q _ h => h.elim (hMs q) (fun h => Nat.le_trans hS.1 h)) (fun q h => h.elim (hMs q) (fun h => Nat.le_trans hS.1 h)) (fun r2 u2 t H1 locs ht hvm hp hB hz1 hk1 hS => ?_)
  have hp9 : u2 = ((isHO σ a).1, σ) ∧ ((isHO σ a).1 = 0 → r2 = (isHO σ a).2) := hp
  obtain ⟨hu9, hr2⟩ := hp9
  subst hu9
  rw [ht] at hB
  have hM : va_P D vwCl (modW cs M (nI (isHO σ a).1) (σ)) H1 := hB
  have hP := soc_md hP (fun q h => (hown9 q h).1) hk1
  have hO := out_md hO hoM hk1
  refine lv_istore (lv' := [(6, .int r2), (5, .int (nI (isHO σ a).1)), (0, .ref b), (1, .ref (r_h ρ)), (2, .ref M.1), (3, .ref o), (4, .int (nI (3 * n9)))]) hx hb dL_law_1252 hl (by decide) rfl (fun ls hl => ?_)
  refine lv_aload_n hx hb dL_law_1254 rfl (lv_at hl 4 rfl) ?_
  refine vp_callSi (va_Run.run (va_runV (As := []) (rest := []) ⟨hx, hb, hml, hown, hts⟩ (c_X2_thrown l D cs M (nI (isHO σ a).1) hI) (cwV 0 hts gL_law_X2_thrown rfl rfl rfl (by decide +kernel) ⟨Nat.le_of_ble_eq_true rfl, Nat.le_of_ble_eq_true rfl⟩) (rb_V hK hN hM (va_recv hK hM (ci := 3) (q0 := 0) rfl rfl)) rfl rfl hl.1 rfl (lv_room (Nat.le_of_ble_eq_true rfl)) dL_law_1255 ⟨(show cells + 2 + 0 ≤ 601024 by omega), (show slots + 12 + 0 ≤ 7293034 by omega)⟩)) (fun r3 h3 => ?_)
  rw [h3]
  refine lv_iload hx hb dL_law_1258 (lv_at hl 1 rfl) ?_
  refine lv_icmp_eq (tgt := 1265) hx hb dL_law_1260 (by decide) (fun _ => ?_) (fun c9 => absurd rfl c9)
  refine lv_iload hx hb dL_law_1265 (lv_at hl 1 rfl) ?_
  refine lv_if_ne (tgt := 1289) hx hb dL_law_1267 (by decide) (fun c_1 => ?_) (fun c_1 => ?_)
  · refine lv_goto (tgt := 1554) hx hb dL_law_1289 (by decide) ?_
    refine W.widen (k := cells + 14) (n := slots + 148) (by omega) (by omega) ?_
    exact K ls _ _ _ hd0 ⟨ρ, σ, (nI (isHO σ a).1), u.2, rfl, hP, hM, hO, invT_le hT0 (by omega) (by omega), hap, he0, hown9⟩ hS (lv_sub hl [2, 3, 4, 5, 6] rfl)
  · have h0 : (isHO σ a).1 = 0 := (nI_eq (a := (isHO σ a).1) (b := 0) (by omega) (by omega)).mp c_1
    refine lv_aload_n hx hb dL_law_1270 rfl (lv_at hl 5 rfl) ?_
    refine lv_iconst (v := 0) hx hb dL_law_1271 (by decide) ?_
    refine va_lald (i := 0) hx hb hK (one_P hO) 0 2 rfl rfl (by unfold vp_in; decide) dL_law_1272 ?_
    rw [show u.2 (0 : Int32).toNatClampNeg = zL ((isHO σ a).2) from hu2 h0]
    refine lv_iload hx hb dL_law_1273 (lv_at hl 0 rfl) ?_
    rw [hr2 h0]
    refine lv_if_eq (tgt := 1282) hx hb dL_law_1275 (by decide) (fun c8 => ?_) (fun c8 => ?_)
    · refine lv_lconst (v := 0) hx hb dL_law_1282 (by decide) ?_
      rw [show zL ((isHO σ a).2) = 0 from if_pos c8]
      refine W.lcmp hx hb dL_law_1283 ?_
      refine lv_if_eq (tgt := 1289) hx hb dL_law_1284 (by decide) (fun _ => ?_) (fun c9 => absurd (lg_self _) c9)
      refine lv_goto (tgt := 1554) hx hb dL_law_1289 (by decide) ?_
      refine W.widen (k := cells + 14) (n := slots + 148) (by omega) (by omega) ?_
      exact K ls _ _ _ hd0 ⟨ρ, σ, (nI (isHO σ a).1), u.2, rfl, hP, hM, hO, invT_le hT0 (by omega) (by omega), hap, he0, hown9⟩ hS (lv_sub hl [2, 3, 4, 5, 6] rfl)
    · refine lv_lconst (v := 1) hx hb dL_law_1278 (by decide) ?_
      refine lv_goto (tgt := 1283) hx hb dL_law_1279 (by decide) ?_
      rw [show zL ((isHO σ a).2) = 1 from if_neg c8]
      refine W.lcmp hx hb dL_law_1283 ?_
      refine lv_if_eq (tgt := 1289) hx hb dL_law_1284 (by decide) (fun _ => ?_) (fun c9 => absurd (lg_self _) c9)
      refine lv_goto (tgt := 1554) hx hb dL_law_1289 (by decide) ?_
      refine W.widen (k := cells + 14) (n := slots + 148) (by omega) (by omega) ?_
      exact K ls _ _ _ hd0 ⟨ρ, σ, (nI (isHO σ a).1), u.2, rfl, hP, hM, hO, invT_le hT0 (by omega) (by omega), hap, he0, hown9⟩ hS (lv_sub hl [2, 3, 4, 5, 6] rfl)
