/-! THE LAW'S ROUND: the audit (laid by wip/p35/gen/law3.py) -/
set_option maxHeartbeats 4000000 in
set_option maxRecDepth 100000 in
theorem q_audit {p : Program} {e : Env} {s : State} {m : MethodId} {below : List Frame} {meth : Method} {c : Code} {l : Launch} {b L : Nat} {xs : Nat → Int32} {D : va_G} {cs : Cs} {e0 : Nat} (E : LwE p s m c l b L xs D cs e0) {Q : State → Prop} {ρ : Rf} {M : Mf} {B : Nat} {σ : PS} (hQ : InvQ B σ) (hBB : B + 96 ≤ 40000) (hap : AptJ ρ M (sK σ)) (hk0 : 0 < sK σ) (hZo : ∀ q, ownJ ρ M (sK σ) q → s.heap.size ≤ q) {H : Heap} {locs : List Loc} {ls : Array Slot} {cells slots : Nat} (hP : Soc D cs ρ σ H) (hM : va_P D vwCl (simW cs M σ) H) (hS : va_S (fun q : Nat => s.heap.size ≤ q) s.heap H locs) {tm : Nat} {xv : Int32} (hl : lv_has ls 25 [(0, .ref b), (1, .ref (r_h ρ)), (2, .ref M.1), (3, .int (nI tm)), (4, .int xv), (5, .long (digS σ)), (7, .int (nI (sK σ))), (9, .int (certsS σ)), (10, .int (honOS σ))]) (hc1 : cells + 2 ≤ 704666) (hc2 : slots + 26 ≤ 6987184)
    (K : ∀ (ls : Array Slot) (H : Heap) (locs : List Loc), LJ D cs (r_h ρ) M.1 e0 s.heap.size (B + 24) True H → va_S (fun q : Nat => s.heap.size ≤ q) s.heap H locs → lv_has ls 25 [(0, .ref b), (1, .ref (r_h ρ)), (2, .ref M.1), (3, .int (nI tm)), (4, .int xv)] → W p l e room_1 s m #[.ref b] below meth c H locs (cells + 2) (slots + 26) Q (F0 m 961 ls [])) :
    W p l e room_1 s m #[.ref b] below meth c H locs cells slots Q (F0 m 659 ls []) := by
  obtain ⟨hx, hb, hml, hown, hts, hX, hbl, hL, hK, hN, hO, hT, hE, hlf⟩ := id E
  have hTt := hQ.1
  have hI := hTt.1
  have h10 := hI.1
  have hA : ∀ q : Nat, s.heap.size ≤ q → (fun q : Nat => s.heap.size ≤ q) q := fun _ h => h
  refine lv_aload_n hx hb dL_law_659 rfl (lv_at hl 1 rfl) ?_
  refine vp_callSi (va_Run.run (va_runV (As := []) (rest := []) ⟨hx, hb, hml, hown, hts⟩ (c_X1_hoursUntilAudit l D cs ρ hI hap.1.1) (cwV 0 hts gL_law_X1_hoursUntilAudit rfl rfl rfl (by decide +kernel) ⟨Nat.le_of_ble_eq_true rfl, Nat.le_of_ble_eq_true rfl⟩) (rb_V hK hN hP (va_recv hK (one_P hP.1) (ci := 2) (q0 := 0) rfl rfl)) rfl rfl hl.1 rfl (lv_room (Nat.le_of_ble_eq_true rfl)) dL_law_660 ⟨(show cells + 0 ≤ 704666 by omega), (show slots + 0 ≤ 6987184 by omega)⟩)) (fun r_1 hr_1 => ?_)
  rw [hr_1]
  obtain ⟨u, hu1, hu24, eu, hlost, hnoon, hcert, hhon, hall⟩ := aud_all hTt (by omega)
  refine W.eq (g2 := F0 m 663 ls [.int (nI u)]) (by rw [eu]) ?_
  refine lv_istore (lv' := [(20, .int (nI u)), (0, .ref b), (1, .ref (r_h ρ)), (2, .ref M.1), (3, .int (nI tm)), (4, .int xv), (5, .long (digS σ)), (7, .int (nI (sK σ))), (9, .int (certsS σ)), (10, .int (honOS σ))]) hx hb dL_law_663 hl (by decide) rfl (fun ls hl => ?_)
  refine lv_aload_n hx hb dL_law_665 rfl (lv_at hl 2 rfl) ?_
  refine vp_callSi (va_Run.run (va_runV (As := []) (rest := []) ⟨hx, hb, hml, hown, hts⟩ (c_X1_richestThen l D cs ρ hI hap.1.1) (cwV 0 hts gL_law_X1_richestThen rfl rfl rfl (by decide +kernel) ⟨Nat.le_of_ble_eq_true rfl, Nat.le_of_ble_eq_true rfl⟩) (rb_V hK hN hP (va_recv hK (one_P hP.1) (ci := 2) (q0 := 0) rfl rfl)) rfl rfl hl.1 rfl (lv_room (Nat.le_of_ble_eq_true rfl)) dL_law_666 ⟨(show cells + 0 ≤ 704666 by omega), (show slots + 0 ≤ 6987184 by omega)⟩)) (fun r_2 hr_2 => ?_)
  rw [hr_2]
  obtain ⟨br, hbr, ebr, hrich⟩ := rich_c hI hk0
  refine W.eq (g2 := F0 m 669 ls [.int (nI br)]) (by rw [ebr]) ?_
  refine lv_istore (lv' := [(21, .int (nI br)), (20, .int (nI u)), (0, .ref b), (1, .ref (r_h ρ)), (2, .ref M.1), (3, .int (nI tm)), (4, .int xv), (5, .long (digS σ)), (7, .int (nI (sK σ))), (9, .int (certsS σ)), (10, .int (honOS σ))]) hx hb dL_law_669 hl (by decide) rfl (fun ls hl => ?_)
  refine lv_iload hx hb dL_law_671 (lv_at hl 8 rfl) ?_
  refine va_newa (atype := .int) (ty := .int) (N' := sK σ) (a0 := (sK σ, .inl (fun _ => 0))) hx hb (hts (.arrayClass .int) (List.mem_of_getElem? (i := 5) (by decide +kernel))) rfl hK (P_app hM (soc_P hP)) (J_DZ hap rfl hZo) hS hA (fun cA => rfl) (nI_pos (Nat.lt_of_le_of_lt hI.1 (by decide))) (nI_clamp (Nat.lt_of_le_of_lt hI.1 (by decide))) (by show sK σ * 4 ≤ 536870912; omega) (show cells + 1 ≤ 704666 by omega) (show slots + sK σ ≤ 6987184 by omega) dL_law_673 (fun tv cA H hK9 hJ hDJ hS => ?_)
  obtain rfl := IA_eq (hK9.2 4 _ rfl).2 (hK9.2 0 _ rfl).2
  obtain ⟨hvz, hvn⟩ := D_appR hDJ
  have hV : va_at D vwCl (tv, .inl (cs.1, sK σ, .inl (fL 0 (gS σ) (fun _ => 0)))) H := by rw [fL_0]; exact P_appR hJ
  have hM : va_P D vwCl (simW cs M σ) H := P_appL (P_appL hJ)
  have hP : Soc D cs ρ σ H := P_soc (P_appR2 (P_appL hJ))
  have hvb : ∀ q, ownB ρ (sK σ) q → q ≠ tv := fun q h => by
    obtain ⟨k, y, hk, e⟩ := own_at (cs := cs) h
    rw [← e]
    exact hvn ((simW cs M σ).length + k) y (by rw [List.getElem?_append_right (Nat.le_add_right _ _), Nat.add_sub_cancel_left]; exact hk)
  have hvs : ∀ q, ownS M (sK σ) q → q ≠ tv := fun q h => by
    obtain ⟨k, y, hk, e⟩ := own_in (cs := cs) h
    rw [← e]
    exact hvn k y (by rw [List.getElem?_append_left (List.getElem?_eq_some_iff.mp hk).1]; exact hk)
  refine lv_astore (lv' := [(22, .ref tv), (21, .int (nI br)), (20, .int (nI u)), (0, .ref b), (1, .ref (r_h ρ)), (2, .ref M.1), (3, .int (nI tm)), (4, .int xv), (5, .long (digS σ)), (7, .int (nI (sK σ))), (9, .int (certsS σ)), (10, .int (honOS σ))]) hx hb dL_law_675 hl (by decide) rfl (fun ls hl => ?_)
  refine lv_iconst (v := 0) hx hb dL_law_677 (by decide) ?_
  refine lv_istore (lv' := [(23, .int 0), (22, .ref tv), (21, .int (nI br)), (20, .int (nI u)), (0, .ref b), (1, .ref (r_h ρ)), (2, .ref M.1), (3, .int (nI tm)), (4, .int xv), (5, .long (digS σ)), (7, .int (nI (sK σ))), (9, .int (certsS σ)), (10, .int (honOS σ))]) hx hb dL_law_678 hl (by decide) rfl (fun ls hl => ?_)
  refine lv_forH (sK σ) (fun ls => F0 m 680 ls []) (fun n9 => [(0, .ref b), (1, .ref (r_h ρ)), (2, .ref M.1), (3, .int (nI tm)), (4, .int xv), (5, .long (digS σ)), (7, .int (nI (sK σ))), (9, .int (certsS σ)), (10, .int (honOS σ)), (20, .int (nI u)), (21, .int (nI br)), (22, .ref tv), (23, .int (nI n9))]) (fun n X => Soc D cs ρ σ X ∧ va_P D vwCl (simW cs M σ) X ∧ va_at D vwCl (tv, .inl (cs.1, sK σ, .inl (fL n (gS σ) (fun _ => 0)))) X) (show lv_has ls 25 [(0, .ref b), (1, .ref (r_h ρ)), (2, .ref M.1), (3, .int (nI tm)), (4, .int xv), (5, .long (digS σ)), (7, .int (nI (sK σ))), (9, .int (certsS σ)), (10, .int (honOS σ)), (20, .int (nI u)), (21, .int (nI br)), (22, .ref tv), (23, .int (nI 0))] from lv_sub hl [4, 5, 6, 7, 8, 9, 10, 11, 12, 3, 2, 1, 0] rfl) ⟨hP, hM, hV⟩ hS (fun n9 ls H locs hn9 hJ hS hl K680 => ?_) (fun ls H locs hJ hS hl => ?_)
  · obtain ⟨hP, hM, hV⟩ := hJ
    have hl : lv_has ls 25 [(0, .ref b), (1, .ref (r_h ρ)), (2, .ref M.1), (3, .int (nI tm)), (4, .int xv), (5, .long (digS σ)), (7, .int (nI (sK σ))), (9, .int (certsS σ)), (10, .int (honOS σ)), (20, .int (nI u)), (21, .int (nI br)), (22, .ref tv), (23, .int (nI n9))] := hl
    refine lv_iload hx hb dL_law_680 (lv_at hl 12 rfl) ?_
    refine lv_iload hx hb dL_law_682 (lv_at hl 6 rfl) ?_
    refine lv_icmp_ge (tgt := 729) hx hb dL_law_684 (by decide) (fun c9 => absurd c9 (nI_ge hn9 (Nat.lt_of_le_of_lt hI.1 (by decide)))) (fun _ => ?_)
    refine lv_aload hx hb dL_law_687 (lv_at hl 11 rfl) ?_
    refine lv_iload hx hb dL_law_689 (lv_at hl 12 rfl) ?_
    refine lv_aload_n hx hb dL_law_691 rfl (lv_at hl 1 rfl) ?_
    refine lv_iload hx hb dL_law_692 (lv_at hl 12 rfl) ?_
    refine vp_callSi (va_Run.run (va_runV (As := [.int (nI n9)]) (rest := [.int (nI n9), .ref tv]) ⟨hx, hb, hml, hown, hts⟩ (n_X1_purseOf l D cs ρ hI hap.1.1 n9 hn9) (cwV 1 hts gL_law_X1_purseOf rfl rfl rfl (by decide +kernel) ⟨Nat.le_of_ble_eq_true rfl, Nat.le_of_ble_eq_true rfl⟩) (rb_V hK hN hP (va_recv hK (one_P hP.1) (ci := 2) (q0 := 0) rfl rfl)) rfl rfl hl.1 rfl (lv_room (Nat.le_of_ble_eq_true rfl)) dL_law_694 ⟨(show cells + 1 + 0 ≤ 704666 by omega), (show slots + sK σ + 0 ≤ 6987184 by omega)⟩)) (fun r_3 hr_3 => ?_)
    rw [hr_3]
    refine lv_aload_n hx hb dL_law_697 rfl (lv_at hl 1 rfl) ?_
    refine lv_iload hx hb dL_law_698 (lv_at hl 12 rfl) ?_
    refine vp_callSi (va_Run.run (va_runV (As := [.int (nI n9)]) (rest := [.int (sPu σ n9), .int (nI n9), .ref tv]) ⟨hx, hb, hml, hown, hts⟩ (n_X1_auditBrings l D cs ρ hI hap.1.1 n9 hn9) (cwV 1 hts gL_law_X1_auditBrings rfl rfl rfl (by decide +kernel) ⟨Nat.le_of_ble_eq_true rfl, Nat.le_of_ble_eq_true rfl⟩) (rb_V hK hN hP (va_recv hK (one_P hP.1) (ci := 2) (q0 := 0) rfl rfl)) rfl rfl hl.1 rfl (lv_room (Nat.le_of_ble_eq_true rfl)) dL_law_700 ⟨(show cells + 1 + 0 ≤ 704666 by omega), (show slots + sK σ + 0 ≤ 6987184 by omega)⟩)) (fun r_4 hr_4 => ?_)
    rw [hr_4]
    refine lv_iadd hx hb dL_law_703 ?_
    have hDV : va_D (fun q : Nat => s.heap.size ≤ q) ((tv, .inl (cs.1, sK σ, .inl (fL n9 (gS σ) (fun _ => 0)))) :: (simW cs M σ ++ socW cs ρ σ)) := D_cons hvz (J_DZ hap rfl hZo) hvn
    refine va_iast hx hb hK (P_cons hV (P_app hM (soc_P hP))) hDV hS 0 0 rfl rfl (vp_in_nI hn9 (Nat.lt_of_le_of_lt hI.1 (by decide))) dL_law_704 (fun H locs hJ hDJ hS => ?_)
    rw [show (nI n9).toNatClampNeg = n9 from nI_clamp (Nat.lt_trans hn9 (Nat.lt_of_le_of_lt hI.1 (by decide))), show upd (fL n9 (gS σ) (fun _ => 0)) n9 (sPu σ n9 + gainS σ n9) = fL (n9 + 1) (gS σ) (fun _ => 0) from fL_u rfl] at hJ
    have hV : va_at D vwCl (tv, .inl (cs.1, sK σ, .inl (fL (n9 + 1) (gS σ) (fun _ => 0)))) H := P_head hJ
    have hM : va_P D vwCl (simW cs M σ) H := P_appL (P_tail hJ)
    have hP : Soc D cs ρ σ H := P_soc (P_appR2 (P_tail hJ))
    refine lv_aload hx hb dL_law_705 (lv_at hl 11 rfl) ?_
    refine lv_iload hx hb dL_law_707 (lv_at hl 12 rfl) ?_
    refine va_iald hx hb hK (one_P hV) 0 0 rfl rfl (vp_in_nI hn9 (Nat.lt_of_le_of_lt hI.1 (by decide))) dL_law_709 ?_
    rw [show (nI n9).toNatClampNeg = n9 from nI_clamp (Nat.lt_trans hn9 (Nat.lt_of_le_of_lt hI.1 (by decide))), show fL (n9 + 1) (gS σ) (fun _ => 0) n9 = sPu σ n9 + gainS σ n9 from fL_lt (by omega)]
    refine lv_aload_n hx hb dL_law_710 rfl (lv_at hl 1 rfl) ?_
    refine lv_iload hx hb dL_law_711 (lv_at hl 12 rfl) ?_
    refine vp_callSi (va_Run.run (va_runV (As := [.int (nI n9)]) (rest := [.int (sPu σ n9 + gainS σ n9)]) ⟨hx, hb, hml, hown, hts⟩ (n_X1_purseOf l D cs ρ hI hap.1.1 n9 hn9) (cwV 1 hts gL_law_X1_purseOf rfl rfl rfl (by decide +kernel) ⟨Nat.le_of_ble_eq_true rfl, Nat.le_of_ble_eq_true rfl⟩) (rb_V hK hN hP (va_recv hK (one_P hP.1) (ci := 2) (q0 := 0) rfl rfl)) rfl rfl hl.1 rfl (lv_room (Nat.le_of_ble_eq_true rfl)) dL_law_713 ⟨(show cells + 1 + 0 ≤ 704666 by omega), (show slots + sK σ + 0 ≤ 6987184 by omega)⟩)) (fun r_5 hr_5 => ?_)
    rw [hr_5]
    refine lv_iconst (v := 3) hx hb dL_law_716 (by decide) ?_
    refine lv_iadd hx hb dL_law_717 ?_
    refine lv_icmp_le (tgt := 723) hx hb dL_law_718 (by decide) (fun _ => ?_) (fun c9 => absurd (Int32.not_lt.mp (then_le hQ hn9)) c9)
    refine lv_iinc (v := nI (n9 + 1)) (lv' := [(23, .int (nI (n9 + 1))), (0, .ref b), (1, .ref (r_h ρ)), (2, .ref M.1), (3, .int (nI tm)), (4, .int xv), (5, .long (digS σ)), (7, .int (nI (sK σ))), (9, .int (certsS σ)), (10, .int (honOS σ)), (20, .int (nI u)), (21, .int (nI br)), (22, .ref tv)]) hx hb dL_law_723 hl (k := 12) rfl (nI_add _ 1) (by decide) rfl (fun ls hl => ?_)
    refine lv_goto (tgt := 680) hx hb dL_law_726 (by decide) ?_
    refine K680 ls _ _ ⟨hP, hM, hV⟩ hS ?_
    exact lv_sub hl [1, 2, 3, 4, 5, 6, 7, 8, 9, 10, 11, 12, 0] rfl
  · obtain ⟨hP, hM, hV⟩ := hJ
    have hl : lv_has ls 25 [(0, .ref b), (1, .ref (r_h ρ)), (2, .ref M.1), (3, .int (nI tm)), (4, .int xv), (5, .long (digS σ)), (7, .int (nI (sK σ))), (9, .int (certsS σ)), (10, .int (honOS σ)), (20, .int (nI u)), (21, .int (nI br)), (22, .ref tv), (23, .int (nI (sK σ)))] := hl
    refine lv_iload hx hb dL_law_680 (lv_at hl 12 rfl) ?_
    refine lv_iload hx hb dL_law_682 (lv_at hl 6 rfl) ?_
    refine lv_icmp_ge (tgt := 729) hx hb dL_law_684 (by decide) (fun _ => ?_) (fun c9 => absurd (nI_le (Nat.le_refl _) (Nat.lt_of_le_of_lt hI.1 (by decide))) c9)
    refine lv_iconst (v := 0) hx hb dL_law_729 (by decide) ?_
    refine lv_istore (lv' := [(23, .int 0), (0, .ref b), (1, .ref (r_h ρ)), (2, .ref M.1), (3, .int (nI tm)), (4, .int xv), (5, .long (digS σ)), (7, .int (nI (sK σ))), (9, .int (certsS σ)), (10, .int (honOS σ)), (20, .int (nI u)), (21, .int (nI br)), (22, .ref tv)]) hx hb dL_law_730 hl (by decide) rfl (fun ls hl => ?_)
    refine lv_for (sK σ) (fun ls => F0 m 732 ls []) (fun n9 => [(0, .ref b), (1, .ref (r_h ρ)), (2, .ref M.1), (3, .int (nI tm)), (4, .int xv), (5, .long (digS σ)), (7, .int (nI (sK σ))), (9, .int (certsS σ)), (10, .int (honOS σ)), (20, .int (nI u)), (21, .int (nI br)), (22, .ref tv), (23, .int (nI n9))]) (fun _ => True) (show lv_has ls 25 [(0, .ref b), (1, .ref (r_h ρ)), (2, .ref M.1), (3, .int (nI tm)), (4, .int xv), (5, .long (digS σ)), (7, .int (nI (sK σ))), (9, .int (certsS σ)), (10, .int (honOS σ)), (20, .int (nI u)), (21, .int (nI br)), (22, .ref tv), (23, .int (nI 0))] from lv_sub hl [1, 2, 3, 4, 5, 6, 7, 8, 9, 10, 11, 12, 0] rfl) (trivial) (fun n9 ls hn9 hj9 hl K9 => ?_) (fun ls hj9 hl => ?_)
    · have hl : lv_has ls 25 [(0, .ref b), (1, .ref (r_h ρ)), (2, .ref M.1), (3, .int (nI tm)), (4, .int xv), (5, .long (digS σ)), (7, .int (nI (sK σ))), (9, .int (certsS σ)), (10, .int (honOS σ)), (20, .int (nI u)), (21, .int (nI br)), (22, .ref tv), (23, .int (nI n9))] := hl
      refine lv_iload hx hb dL_law_732 (lv_at hl 12 rfl) ?_
      refine lv_iload hx hb dL_law_734 (lv_at hl 6 rfl) ?_
      refine lv_icmp_ge (tgt := 780) hx hb dL_law_736 (by decide) (fun c9 => absurd c9 (nI_ge hn9 (Nat.lt_of_le_of_lt hI.1 (by decide)))) (fun _ => ?_)
      refine lv_aload hx hb dL_law_739 (lv_at hl 11 rfl) ?_
      refine lv_iload hx hb dL_law_741 (lv_at hl 12 rfl) ?_
      refine va_iald hx hb hK (one_P hV) 0 0 rfl rfl (vp_in_nI hn9 (Nat.lt_of_le_of_lt hI.1 (by decide))) dL_law_743 ?_
      rw [show (nI n9).toNatClampNeg = n9 from nI_clamp (Nat.lt_trans hn9 (Nat.lt_of_le_of_lt hI.1 (by decide))), show fL (sK σ) (gS σ) (fun _ => 0) n9 = sPu σ n9 + gainS σ n9 from fL_lt (by omega)]
      refine lv_aload hx hb dL_law_744 (lv_at hl 11 rfl) ?_
      refine lv_iload hx hb dL_law_746 (lv_at hl 10 rfl) ?_
      refine va_iald hx hb hK (one_P hV) 0 0 rfl rfl (vp_in_nI hbr (Nat.lt_of_le_of_lt hI.1 (by decide))) dL_law_748 ?_
      rw [show (nI br).toNatClampNeg = br from nI_clamp (Nat.lt_trans hbr (Nat.lt_of_le_of_lt hI.1 (by decide))), show fL (sK σ) (gS σ) (fun _ => 0) br = sPu σ br + gainS σ br from fL_lt (by omega)]
      refine lv_icmp_gt (tgt := 772) hx hb dL_law_749 (by decide) (fun c9 => absurd c9 ((hrich n9 hn9).1)) (fun _ => ?_)
      refine lv_iload hx hb dL_law_752 (lv_at hl 12 rfl) ?_
      refine lv_iload hx hb dL_law_754 (lv_at hl 10 rfl) ?_
      refine lv_icmp_ge (tgt := 774) hx hb dL_law_756 (by decide) (fun c_6 => ?_) (fun c_6 => ?_)
      · refine lv_iinc (v := nI (n9 + 1)) (lv' := [(23, .int (nI (n9 + 1))), (0, .ref b), (1, .ref (r_h ρ)), (2, .ref M.1), (3, .int (nI tm)), (4, .int xv), (5, .long (digS σ)), (7, .int (nI (sK σ))), (9, .int (certsS σ)), (10, .int (honOS σ)), (20, .int (nI u)), (21, .int (nI br)), (22, .ref tv)]) hx hb dL_law_774 hl (k := 12) rfl (nI_add _ 1) (by decide) rfl (fun ls hl => ?_)
        refine lv_goto (tgt := 732) hx hb dL_law_777 (by decide) ?_
        refine K9 ls (trivial) ?_
        show lv_has ls 25 [(0, .ref b), (1, .ref (r_h ρ)), (2, .ref M.1), (3, .int (nI tm)), (4, .int xv), (5, .long (digS σ)), (7, .int (nI (sK σ))), (9, .int (certsS σ)), (10, .int (honOS σ)), (20, .int (nI u)), (21, .int (nI br)), (22, .ref tv), (23, .int (nI (n9 + 1)))]
        exact lv_sub hl [1, 2, 3, 4, 5, 6, 7, 8, 9, 10, 11, 12, 0] rfl
      · refine lv_aload hx hb dL_law_759 (lv_at hl 11 rfl) ?_
        refine lv_iload hx hb dL_law_761 (lv_at hl 12 rfl) ?_
        refine va_iald hx hb hK (one_P hV) 0 0 rfl rfl (vp_in_nI hn9 (Nat.lt_of_le_of_lt hI.1 (by decide))) dL_law_763 ?_
        rw [show (nI n9).toNatClampNeg = n9 from nI_clamp (Nat.lt_trans hn9 (Nat.lt_of_le_of_lt hI.1 (by decide))), show fL (sK σ) (gS σ) (fun _ => 0) n9 = sPu σ n9 + gainS σ n9 from fL_lt (by omega)]
        refine lv_aload hx hb dL_law_764 (lv_at hl 11 rfl) ?_
        refine lv_iload hx hb dL_law_766 (lv_at hl 10 rfl) ?_
        refine va_iald hx hb hK (one_P hV) 0 0 rfl rfl (vp_in_nI hbr (Nat.lt_of_le_of_lt hI.1 (by decide))) dL_law_768 ?_
        rw [show (nI br).toNatClampNeg = br from nI_clamp (Nat.lt_trans hbr (Nat.lt_of_le_of_lt hI.1 (by decide))), show fL (sK σ) (gS σ) (fun _ => 0) br = sPu σ br + gainS σ br from fL_lt (by omega)]
        refine lv_icmp_ne (tgt := 774) hx hb dL_law_769 (by decide) (fun _ => ?_) (fun c9 => absurd c9 ((hrich n9 hn9).2 ((nI_ltI (by omega) (by omega)).mp (Int32.not_le.mp c_6))))
        refine lv_iinc (v := nI (n9 + 1)) (lv' := [(23, .int (nI (n9 + 1))), (0, .ref b), (1, .ref (r_h ρ)), (2, .ref M.1), (3, .int (nI tm)), (4, .int xv), (5, .long (digS σ)), (7, .int (nI (sK σ))), (9, .int (certsS σ)), (10, .int (honOS σ)), (20, .int (nI u)), (21, .int (nI br)), (22, .ref tv)]) hx hb dL_law_774 hl (k := 12) rfl (nI_add _ 1) (by decide) rfl (fun ls hl => ?_)
        refine lv_goto (tgt := 732) hx hb dL_law_777 (by decide) ?_
        refine K9 ls (trivial) ?_
        show lv_has ls 25 [(0, .ref b), (1, .ref (r_h ρ)), (2, .ref M.1), (3, .int (nI tm)), (4, .int xv), (5, .long (digS σ)), (7, .int (nI (sK σ))), (9, .int (certsS σ)), (10, .int (honOS σ)), (20, .int (nI u)), (21, .int (nI br)), (22, .ref tv), (23, .int (nI (n9 + 1)))]
        exact lv_sub hl [1, 2, 3, 4, 5, 6, 7, 8, 9, 10, 11, 12, 0] rfl
    · have hl : lv_has ls 25 [(0, .ref b), (1, .ref (r_h ρ)), (2, .ref M.1), (3, .int (nI tm)), (4, .int xv), (5, .long (digS σ)), (7, .int (nI (sK σ))), (9, .int (certsS σ)), (10, .int (honOS σ)), (20, .int (nI u)), (21, .int (nI br)), (22, .ref tv), (23, .int (nI (sK σ)))] := hl
      refine lv_iload hx hb dL_law_732 (lv_at hl 12 rfl) ?_
      refine lv_iload hx hb dL_law_734 (lv_at hl 6 rfl) ?_
      refine lv_icmp_ge (tgt := 780) hx hb dL_law_736 (by decide) (fun _ => ?_) (fun c9 => absurd (nI_le (Nat.le_refl _) (Nat.lt_of_le_of_lt hI.1 (by decide))) c9)
      refine lv_iload hx hb dL_law_780 (lv_at hl 9 rfl) ?_
      refine lv_iconst (v := 1) hx hb dL_law_782 (by decide) ?_
      refine lv_icmp_lt (tgt := 803) hx hb dL_law_783 (by decide) (fun c9 => absurd c9 (nI_nlt (b := 1) hu1 (by omega))) (fun _ => ?_)
      refine lv_iload hx hb dL_law_786 (lv_at hl 9 rfl) ?_
      refine lv_bipush (v := 24) hx hb dL_law_788 (by decide) ?_
      refine lv_icmp_gt (tgt := 803) hx hb dL_law_790 (by decide) (fun c9 => absurd c9 (nI_nlt (a := 24) (b := u) hu24 (by decide))) (fun _ => ?_)
      refine lv_aload_n hx hb dL_law_793 rfl (lv_at hl 1 rfl) ?_
      refine vp_callSl (va_Run.run (va_runV (As := []) (rest := []) ⟨hx, hb, hml, hown, hts⟩ (c_X1_digest l D cs ρ hI hap.1.1) (cwV 0 hts gL_law_X1_digest rfl rfl rfl (by decide +kernel) ⟨Nat.le_of_ble_eq_true rfl, Nat.le_of_ble_eq_true rfl⟩) (rb_V hK hN hP (va_recv hK (one_P hP.1) (ci := 2) (q0 := 0) rfl rfl)) rfl rfl hl.1 rfl (lv_room (Nat.le_of_ble_eq_true rfl)) dL_law_794 ⟨(show cells + 1 + 0 ≤ 704666 by omega), (show slots + sK σ + 0 ≤ 6987184 by omega)⟩)) (fun r_7 hr_7 => ?_)
      rw [hr_7]
      refine lv_lload hx hb dL_law_797 (lv_at hl 5 rfl) ?_
      refine W.lcmp hx hb dL_law_799 ?_
      refine lv_if_eq (tgt := 805) hx hb dL_law_800 (by decide) (fun _ => ?_) (fun c9 => absurd (lcmp_self _) c9)
      refine lv_iload hx hb dL_law_805 (lv_at hl 4 rfl) ?_
      refine lv_iconst (v := 3) hx hb dL_law_807 (by decide) ?_
      refine vp_callSi (va_Run.run (va_runS (As := [.int xv, .int (nI 3)]) (rest := []) ⟨hx, hb, hml, hown, hts⟩ (c_L_below l D cs xv 3 (by decide) (by decide)) (va_cwS 2 hts gL_law_L_below rfl rfl rfl (by decide +kernel) ⟨Nat.le_of_ble_eq_true rfl, Nat.le_of_ble_eq_true rfl⟩) (rb_S hK hN trivial) rfl rfl hl.1 rfl (lv_room (Nat.le_of_ble_eq_true rfl)) dL_law_808 ⟨(show cells + 1 + 0 ≤ 704666 by omega), (show slots + sK σ + 0 ≤ 6987184 by omega)⟩)) (fun r hr9 => ?_)
      obtain ⟨j8, hj8, e9⟩ := hr9
      rw [e9]
      refine lv_if_le (tgt := 817) hx hb dL_law_811 (by decide) (fun c_9 => ?_) (fun c_9 => ?_)
      · refine lv_aload_n hx hb dL_law_817 rfl (lv_at hl 1 rfl) ?_
        refine lv_iload hx hb dL_law_818 (lv_at hl 9 rfl) ?_
        have hop := pass_ok (σ := σ) (h := u) hu1 (by omega)
        refine vx_calli (vx_runV (As := [.int (nI u)]) (rest := []) ⟨hx, hb, hml, hown, hts⟩ (x_X1_pass l hlf D cs ρ hI hap.1 H (by omega) (nI u)) (cwV 1 hts gL_law_X1_pass rfl rfl rfl (by decide +kernel) ⟨Nat.le_of_ble_eq_true rfl, Nat.le_of_ble_eq_true rfl⟩) (ta_V (A := fun q : Nat => s.heap.size ≤ q) hK hN ⟨rfl, hP⟩ hT hS hA (va_recv hK (one_P hP.1) (ci := 2) (q0 := 0) rfl rfl)) rfl rfl hl.1 rfl (lv_room (Nat.le_of_ble_eq_true rfl)) dL_law_820 ⟨(show cells + 1 + 1 ≤ 704666 by omega), (show slots + sK σ + 6 ≤ 6987184 by omega)⟩) hS (fun q _ h => h.elim (fun h => hZo q (Or.inl h)) (fun h => Nat.le_trans hS.1 h)) (fun q h => h.elim (fun h => hZo q (Or.inl h)) (fun h => Nat.le_trans hS.1 h)) (fun q _ h => Nat.le_trans hS.1 h) (fun E9 ce q9 u9 t H locs ht hvm hu hB hz1 hk1 hS hce hcv hcl => ?_) (fun r u9 t H locs ht hvm hw hB hz1 hk1 hS => ?_)
        · exact absurd (show (0 : Nat) = 1 from by have h9 := hB.2; rw [hop] at h9; exact h9) (by decide)
        · obtain ⟨e1, e2⟩ := o_ok hop hw
          rw [e1]
          rw [ht, e2] at hB
          have hP : Soc D cs ρ (passN σ u) H := hB
          have hM := sim_kept hM (fun q h hlt => hk1 q hlt (fun z => z.elim (fun z2 => hap.2.2 q z2 h) (fun z => absurd hlt (Nat.not_lt.mpr z))))
          have hV : va_at D vwCl (tv, .inl (cs.1, sK σ, .inl (fL (sK σ) (gS σ) (fun _ => 0)))) H := hV.kept (hk1 tv hV.lt (fun z => z.elim (fun z2 => hvb tv z2 rfl) (fun z => absurd hV.lt (Nat.not_lt.mpr z))))
          refine lv_istore (lv' := [(23, .int (sRv (passN σ u) - sRv σ)), (0, .ref b), (1, .ref (r_h ρ)), (2, .ref M.1), (3, .int (nI tm)), (4, .int xv), (5, .long (digS σ)), (7, .int (nI (sK σ))), (9, .int (certsS σ)), (10, .int (honOS σ)), (20, .int (nI u)), (21, .int (nI br)), (22, .ref tv)]) hx hb dL_law_823 hl (by decide) rfl (fun ls hl => ?_)
          refine lv_iload hx hb dL_law_825 (lv_at hl 0 rfl) ?_
          refine lv_iload hx hb dL_law_827 (lv_at hl 8 rfl) ?_
          refine lv_iload hx hb dL_law_829 (lv_at hl 9 rfl) ?_
          refine lv_isub hx hb dL_law_831 ?_
          refine lv_icmp_ne (tgt := 873) hx hb dL_law_832 (by decide) (fun c9 => absurd (hlost) c9) (fun _ => ?_)
          refine lv_aload_n hx hb dL_law_835 rfl (lv_at hl 3 rfl) ?_
          refine lv_iload hx hb dL_law_836 (lv_at hl 10 rfl) ?_
          refine va_calli (va_runV (As := [.int (nI u)]) (rest := []) ⟨hx, hb, hml, hown, hts⟩ (c_X2_pass l D cs M hQ hap.2.1 H u (by omega) (by omega)) (cwV 1 hts gL_law_X2_pass rfl rfl rfl (by decide +kernel) ⟨Nat.le_of_ble_eq_true rfl, Nat.le_of_ble_eq_true rfl⟩) (rb_V hK hN ⟨rfl, hM⟩ (va_recv hK hM (ci := 3) (q0 := 0) rfl rfl)) rfl rfl hl.1 rfl (lv_room (Nat.le_of_ble_eq_true rfl)) dL_law_838 ⟨(show cells + 1 + 1 + 0 ≤ 704666 by omega), (show slots + sK σ + 6 + 0 ≤ 6987184 by omega)⟩) hS (fun q _ h => h.elim (fun h => hZo q (Or.inr h)) (fun h => Nat.le_trans hS.1 h)) (fun q h => h.elim (fun h => hZo q (Or.inr h)) (fun h => Nat.le_trans hS.1 h)) (fun r u9 t H locs ht hvm hw hB hz1 hk1 hS => ?_)
          obtain ⟨hr9, hw9⟩ := hw
          rw [ht, hw9] at hB
          have hM : va_P D vwCl (simW cs M (passN σ u)) H := hB
          have hP := soc_kept hP (fun q h hlt => hk1 q hlt (fun z => z.elim (hap.2.2 q (ownB_k (k_pass σ u) h)) (fun z => absurd hlt (Nat.not_lt.mpr z))))
          have hV : va_at D vwCl (tv, .inl (cs.1, sK σ, .inl (fL (sK σ) (gS σ) (fun _ => 0)))) H := hV.kept (hk1 tv hV.lt (fun z => z.elim (fun z2 => hvs tv z2 rfl) (fun z => absurd hV.lt (Nat.not_lt.mpr z))))
          rw [hr9]
          have hQt := invQ_passN hQ u (by omega)
          have hIt := hQt.1.1
          have hkt : sK (passN σ u) = sK σ := k_pass σ u
          have hapt : AptJ ρ M (sK (passN σ u)) := by rw [hkt]; exact hap
          refine lv_iload hx hb dL_law_841 (lv_at hl 0 rfl) ?_
          refine lv_icmp_ne (tgt := 873) hx hb dL_law_843 (by decide) (fun c9 => absurd (rfl) c9) (fun _ => ?_)
          refine lv_aload_n hx hb dL_law_846 rfl (lv_at hl 2 rfl) ?_
          refine vp_callSi (va_Run.run (va_runV (As := []) (rest := []) ⟨hx, hb, hml, hown, hts⟩ (c_X1_hourOfDay l D cs ρ hIt hapt.1.1) (cwV 0 hts gL_law_X1_hourOfDay rfl rfl rfl (by decide +kernel) ⟨Nat.le_of_ble_eq_true rfl, Nat.le_of_ble_eq_true rfl⟩) (rb_V hK hN hP (va_recv hK (one_P hP.1) (ci := 2) (q0 := 0) rfl rfl)) rfl rfl hl.1 rfl (lv_room (Nat.le_of_ble_eq_true rfl)) dL_law_847 ⟨(show cells + 1 + 1 + 0 + 0 ≤ 704666 by omega), (show slots + sK σ + 6 + 0 + 0 ≤ 6987184 by omega)⟩)) (fun r_10 hr_10 => ?_)
          rw [hr_10]
          refine lv_bipush (v := 12) hx hb dL_law_850 (by decide) ?_
          refine lv_icmp_ne (tgt := 873) hx hb dL_law_852 (by decide) (fun c9 => absurd (hnoon) c9) (fun _ => ?_)
          refine lv_aload_n hx hb dL_law_855 rfl (lv_at hl 2 rfl) ?_
          refine vp_callSi (va_Run.run (va_runV (As := []) (rest := []) ⟨hx, hb, hml, hown, hts⟩ (c_X1_certificates l D cs ρ hIt hapt.1.1) (cwV 0 hts gL_law_X1_certificates rfl rfl rfl (by decide +kernel) ⟨Nat.le_of_ble_eq_true rfl, Nat.le_of_ble_eq_true rfl⟩) (rb_V hK hN hP (va_recv hK (one_P hP.1) (ci := 2) (q0 := 0) rfl rfl)) rfl rfl hl.1 rfl (lv_room (Nat.le_of_ble_eq_true rfl)) dL_law_856 ⟨(show cells + 1 + 1 + 0 + 0 ≤ 704666 by omega), (show slots + sK σ + 6 + 0 + 0 ≤ 6987184 by omega)⟩)) (fun r_11 hr_11 => ?_)
          rw [hr_11]
          refine lv_iload hx hb dL_law_859 (lv_at hl 9 rfl) ?_
          refine lv_icmp_ne (tgt := 873) hx hb dL_law_861 (by decide) (fun c9 => absurd (hcert) c9) (fun _ => ?_)
          refine lv_aload_n hx hb dL_law_864 rfl (lv_at hl 2 rfl) ?_
          refine vp_callSi (va_Run.run (va_runV (As := []) (rest := []) ⟨hx, hb, hml, hown, hts⟩ (c_X1_honestOnes l D cs ρ hIt hapt.1.1) (cwV 0 hts gL_law_X1_honestOnes rfl rfl rfl (by decide +kernel) ⟨Nat.le_of_ble_eq_true rfl, Nat.le_of_ble_eq_true rfl⟩) (rb_V hK hN hP (va_recv hK (one_P hP.1) (ci := 2) (q0 := 0) rfl rfl)) rfl rfl hl.1 rfl (lv_room (Nat.le_of_ble_eq_true rfl)) dL_law_865 ⟨(show cells + 1 + 1 + 0 + 0 ≤ 704666 by omega), (show slots + sK σ + 6 + 0 + 0 ≤ 6987184 by omega)⟩)) (fun r_12 hr_12 => ?_)
          rw [hr_12]
          refine lv_iload hx hb dL_law_868 (lv_at hl 9 rfl) ?_
          refine lv_icmp_eq (tgt := 875) hx hb dL_law_870 (by decide) (fun _ => ?_) (fun c9 => absurd (hhon) c9)
          refine lv_iconst (v := 0) hx hb dL_law_875 (by decide) ?_
          refine lv_istore (lv' := [(24, .int 0), (23, .int (sRv (passN σ u) - sRv σ)), (0, .ref b), (1, .ref (r_h ρ)), (2, .ref M.1), (3, .int (nI tm)), (4, .int xv), (5, .long (digS σ)), (7, .int (nI (sK σ))), (9, .int (certsS σ)), (10, .int (honOS σ)), (20, .int (nI u)), (21, .int (nI br)), (22, .ref tv)]) hx hb dL_law_876 hl (by decide) rfl (fun ls hl => ?_)
          refine lv_for (sK σ) (fun ls => F0 m 878 ls []) (fun n9 => [(0, .ref b), (1, .ref (r_h ρ)), (2, .ref M.1), (3, .int (nI tm)), (4, .int xv), (7, .int (nI (sK σ))), (22, .ref tv), (24, .int (nI n9))]) (fun _ => True) (show lv_has ls 25 [(0, .ref b), (1, .ref (r_h ρ)), (2, .ref M.1), (3, .int (nI tm)), (4, .int xv), (7, .int (nI (sK σ))), (22, .ref tv), (24, .int (nI 0))] from lv_sub hl [2, 3, 4, 5, 6, 8, 13, 0] rfl) (trivial) (fun n9 ls hn9 hj9 hl K9 => ?_) (fun ls hj9 hl => ?_)
          · have hl : lv_has ls 25 [(0, .ref b), (1, .ref (r_h ρ)), (2, .ref M.1), (3, .int (nI tm)), (4, .int xv), (7, .int (nI (sK σ))), (22, .ref tv), (24, .int (nI n9))] := hl
            refine lv_iload hx hb dL_law_878 (lv_at hl 7 rfl) ?_
            refine lv_iload hx hb dL_law_880 (lv_at hl 5 rfl) ?_
            refine lv_icmp_ge (tgt := 961) hx hb dL_law_882 (by decide) (fun c9 => absurd c9 (nI_ge hn9 (Nat.lt_of_le_of_lt hI.1 (by decide)))) (fun _ => ?_)
            refine lv_aload_n hx hb dL_law_885 rfl (lv_at hl 1 rfl) ?_
            refine lv_iload hx hb dL_law_886 (lv_at hl 7 rfl) ?_
            refine vp_callSi (va_Run.run (va_runV (As := [.int (nI n9)]) (rest := []) ⟨hx, hb, hml, hown, hts⟩ (n_X1_purseOf l D cs ρ hIt hapt.1.1 n9 (by rw [hkt]; exact hn9)) (cwV 1 hts gL_law_X1_purseOf rfl rfl rfl (by decide +kernel) ⟨Nat.le_of_ble_eq_true rfl, Nat.le_of_ble_eq_true rfl⟩) (rb_V hK hN hP (va_recv hK (one_P hP.1) (ci := 2) (q0 := 0) rfl rfl)) rfl rfl hl.1 rfl (lv_room (Nat.le_of_ble_eq_true rfl)) dL_law_888 ⟨(show cells + 1 + 1 + 0 + 0 ≤ 704666 by omega), (show slots + sK σ + 6 + 0 + 0 ≤ 6987184 by omega)⟩)) (fun r_13 hr_13 => ?_)
            rw [hr_13]
            refine lv_aload hx hb dL_law_891 (lv_at hl 6 rfl) ?_
            refine lv_iload hx hb dL_law_893 (lv_at hl 7 rfl) ?_
            refine va_iald hx hb hK (one_P hV) 0 0 rfl rfl (vp_in_nI hn9 (Nat.lt_of_le_of_lt hI.1 (by decide))) dL_law_895 ?_
            rw [show (nI n9).toNatClampNeg = n9 from nI_clamp (Nat.lt_trans hn9 (Nat.lt_of_le_of_lt hI.1 (by decide))), show fL (sK σ) (gS σ) (fun _ => 0) n9 = sPu σ n9 + gainS σ n9 from fL_lt (by omega)]
            refine lv_icmp_ne (tgt := 953) hx hb dL_law_896 (by decide) (fun c9 => absurd ((hall n9 hn9).1) c9) (fun _ => ?_)
            refine lv_aload_n hx hb dL_law_899 rfl (lv_at hl 1 rfl) ?_
            refine lv_iload hx hb dL_law_900 (lv_at hl 7 rfl) ?_
            refine vp_callSi (va_Run.run (va_runV (As := [.int (nI n9)]) (rest := []) ⟨hx, hb, hml, hown, hts⟩ (n_X1_lampOf l D cs ρ hIt hapt.1.1 n9 (by rw [hkt]; exact hn9)) (cwV 1 hts gL_law_X1_lampOf rfl rfl rfl (by decide +kernel) ⟨Nat.le_of_ble_eq_true rfl, Nat.le_of_ble_eq_true rfl⟩) (rb_V hK hN hP (va_recv hK (one_P hP.1) (ci := 2) (q0 := 0) rfl rfl)) rfl rfl hl.1 rfl (lv_room (Nat.le_of_ble_eq_true rfl)) dL_law_902 ⟨(show cells + 1 + 1 + 0 + 0 ≤ 704666 by omega), (show slots + sK σ + 6 + 0 + 0 ≤ 6987184 by omega)⟩)) (fun r_14 hr_14 => ?_)
            rw [hr_14]
            refine lv_if_ne (tgt := 953) hx hb dL_law_905 (by decide) (fun c9 => absurd ((hall n9 hn9).2.1) c9) (fun _ => ?_)
            refine lv_aload_n hx hb dL_law_908 rfl (lv_at hl 1 rfl) ?_
            refine lv_iload hx hb dL_law_909 (lv_at hl 7 rfl) ?_
            refine vp_callSi (va_Run.run (va_runV (As := [.int (nI n9)]) (rest := []) ⟨hx, hb, hml, hown, hts⟩ (n_X1_wears l D cs ρ hIt hapt.1.1 n9 (by rw [hkt]; exact hn9)) (cwV 1 hts gL_law_X1_wears rfl rfl rfl (by decide +kernel) ⟨Nat.le_of_ble_eq_true rfl, Nat.le_of_ble_eq_true rfl⟩) (rb_V hK hN hP (va_recv hK (one_P hP.1) (ci := 2) (q0 := 0) rfl rfl)) rfl rfl hl.1 rfl (lv_room (Nat.le_of_ble_eq_true rfl)) dL_law_911 ⟨(show cells + 1 + 1 + 0 + 0 ≤ 704666 by omega), (show slots + sK σ + 6 + 0 + 0 ≤ 6987184 by omega)⟩)) (fun r_15 hr_15 => ?_)
            rw [hr_15]
            refine lv_aload_n hx hb dL_law_914 rfl (lv_at hl 2 rfl) ?_
            refine va_get (D := D) (ci := 3) (v := .ref M.2.1) (C := RX2) (T := TX2) (N := 4) hx hb hts inlX2 hown hK hM 0 rfl rfl 3 (by decide) (hts (.fieldLink RL 9 "ShadowSocietyLaw$Sim" "members" "[[I") (List.mem_of_getElem? (i := 4) (by decide +kernel))) (fun _ h9 => h9) rfl dL_law_915 ?_
            refine lv_iload hx hb dL_law_918 (lv_at hl 7 rfl) ?_
            refine va_aldA hx hb hK hM 1 2 rfl rfl (vp_in_nI (by rw [hkt]; exact hn9) (Nat.lt_of_le_of_lt hIt.1 (by decide))) (elm_at (by rw [hkt]; exact hn9) hIt.1) dL_law_920 ?_
            refine lv_iconst (v := 1) hx hb dL_law_921 (by decide) ?_
            refine va_iald hx hb hK hM (2 + n9) 0 (simW_at (by rw [hkt]; exact hn9)) rfl (by unfold vp_in; decide) dL_law_922 ?_
            rw [show rowF (passN σ u) n9 (1 : Int32).toNatClampNeg = sHa (passN σ u) n9 from rfl]
            refine lv_if_le (tgt := 931) hx hb dL_law_923 (by decide) (fun c_16 => ?_) (fun c_16 => ?_)
            · refine lv_iconst (v := (-1)) hx hb dL_law_931 (by decide) ?_
              refine lv_icmp_ne (tgt := 953) hx hb dL_law_932 (by decide) (fun c9 => absurd ((own_cases (hall n9 hn9).2.2.1 (hall n9 hn9).2.2.2.2.2).1 c_16) c9) (fun _ => ?_)
              refine lv_aload_n hx hb dL_law_935 rfl (lv_at hl 1 rfl) ?_
              refine lv_iload hx hb dL_law_936 (lv_at hl 7 rfl) ?_
              refine vp_callSi (va_Run.run (va_runV (As := [.int (nI n9)]) (rest := []) ⟨hx, hb, hml, hown, hts⟩ (n_X1_hasLent l D cs ρ hIt hapt.1.1 n9 (by rw [hkt]; exact hn9)) (cwV 1 hts gL_law_X1_hasLent rfl rfl rfl (by decide +kernel) ⟨Nat.le_of_ble_eq_true rfl, Nat.le_of_ble_eq_true rfl⟩) (rb_V hK hN hP (va_recv hK (one_P hP.1) (ci := 2) (q0 := 0) rfl rfl)) rfl rfl hl.1 rfl (lv_room (Nat.le_of_ble_eq_true rfl)) dL_law_938 ⟨(show cells + 1 + 1 + 0 + 0 ≤ 704666 by omega), (show slots + sK σ + 6 + 0 + 0 ≤ 6987184 by omega)⟩)) (fun r_17 hr_17 => ?_)
              rw [hr_17]
              refine lv_if_ne (tgt := 953) hx hb dL_law_941 (by decide) (fun c9 => absurd (b01_f (hall n9 hn9).2.2.2.1) c9) (fun _ => ?_)
              refine lv_aload_n hx hb dL_law_944 rfl (lv_at hl 1 rfl) ?_
              refine lv_iload hx hb dL_law_945 (lv_at hl 7 rfl) ?_
              refine vp_callSi (va_Run.run (va_runV (As := [.int (nI n9)]) (rest := []) ⟨hx, hb, hml, hown, hts⟩ (n_X1_shadowOf l D cs ρ hIt hapt.1.1 n9 (by rw [hkt]; exact hn9)) (cwV 1 hts gL_law_X1_shadowOf rfl rfl rfl (by decide +kernel) ⟨Nat.le_of_ble_eq_true rfl, Nat.le_of_ble_eq_true rfl⟩) (rb_V hK hN hP (va_recv hK (one_P hP.1) (ci := 2) (q0 := 0) rfl rfl)) rfl rfl hl.1 rfl (lv_room (Nat.le_of_ble_eq_true rfl)) dL_law_947 ⟨(show cells + 1 + 1 + 0 + 0 ≤ 704666 by omega), (show slots + sK σ + 6 + 0 + 0 ≤ 6987184 by omega)⟩)) (fun r_18 hr_18 => ?_)
              rw [hr_18]
              refine lv_if_eq (tgt := 955) hx hb dL_law_950 (by decide) (fun _ => ?_) (fun c9 => absurd ((hall n9 hn9).2.2.2.2.1) c9)
              refine lv_iinc (v := nI (n9 + 1)) (lv' := [(24, .int (nI (n9 + 1))), (0, .ref b), (1, .ref (r_h ρ)), (2, .ref M.1), (3, .int (nI tm)), (4, .int xv), (7, .int (nI (sK σ))), (22, .ref tv)]) hx hb dL_law_955 hl (k := 7) rfl (nI_add _ 1) (by decide) rfl (fun ls hl => ?_)
              refine lv_goto (tgt := 878) hx hb dL_law_958 (by decide) ?_
              refine K9 ls (trivial) ?_
              show lv_has ls 25 [(0, .ref b), (1, .ref (r_h ρ)), (2, .ref M.1), (3, .int (nI tm)), (4, .int xv), (7, .int (nI (sK σ))), (22, .ref tv), (24, .int (nI (n9 + 1)))]
              exact lv_sub hl [1, 2, 3, 4, 5, 6, 7, 0] rfl
            · refine lv_iload hx hb dL_law_926 (lv_at hl 7 rfl) ?_
              refine lv_goto (tgt := 932) hx hb dL_law_928 (by decide) ?_
              refine lv_icmp_ne (tgt := 953) hx hb dL_law_932 (by decide) (fun c9 => absurd ((own_cases (hall n9 hn9).2.2.1 (hall n9 hn9).2.2.2.2.2).2 c_16) c9) (fun _ => ?_)
              refine lv_aload_n hx hb dL_law_935 rfl (lv_at hl 1 rfl) ?_
              refine lv_iload hx hb dL_law_936 (lv_at hl 7 rfl) ?_
              refine vp_callSi (va_Run.run (va_runV (As := [.int (nI n9)]) (rest := []) ⟨hx, hb, hml, hown, hts⟩ (n_X1_hasLent l D cs ρ hIt hapt.1.1 n9 (by rw [hkt]; exact hn9)) (cwV 1 hts gL_law_X1_hasLent rfl rfl rfl (by decide +kernel) ⟨Nat.le_of_ble_eq_true rfl, Nat.le_of_ble_eq_true rfl⟩) (rb_V hK hN hP (va_recv hK (one_P hP.1) (ci := 2) (q0 := 0) rfl rfl)) rfl rfl hl.1 rfl (lv_room (Nat.le_of_ble_eq_true rfl)) dL_law_938 ⟨(show cells + 1 + 1 + 0 + 0 ≤ 704666 by omega), (show slots + sK σ + 6 + 0 + 0 ≤ 6987184 by omega)⟩)) (fun r_19 hr_19 => ?_)
              rw [hr_19]
              refine lv_if_ne (tgt := 953) hx hb dL_law_941 (by decide) (fun c9 => absurd (b01_f (hall n9 hn9).2.2.2.1) c9) (fun _ => ?_)
              refine lv_aload_n hx hb dL_law_944 rfl (lv_at hl 1 rfl) ?_
              refine lv_iload hx hb dL_law_945 (lv_at hl 7 rfl) ?_
              refine vp_callSi (va_Run.run (va_runV (As := [.int (nI n9)]) (rest := []) ⟨hx, hb, hml, hown, hts⟩ (n_X1_shadowOf l D cs ρ hIt hapt.1.1 n9 (by rw [hkt]; exact hn9)) (cwV 1 hts gL_law_X1_shadowOf rfl rfl rfl (by decide +kernel) ⟨Nat.le_of_ble_eq_true rfl, Nat.le_of_ble_eq_true rfl⟩) (rb_V hK hN hP (va_recv hK (one_P hP.1) (ci := 2) (q0 := 0) rfl rfl)) rfl rfl hl.1 rfl (lv_room (Nat.le_of_ble_eq_true rfl)) dL_law_947 ⟨(show cells + 1 + 1 + 0 + 0 ≤ 704666 by omega), (show slots + sK σ + 6 + 0 + 0 ≤ 6987184 by omega)⟩)) (fun r_20 hr_20 => ?_)
              rw [hr_20]
              refine lv_if_eq (tgt := 955) hx hb dL_law_950 (by decide) (fun _ => ?_) (fun c9 => absurd ((hall n9 hn9).2.2.2.2.1) c9)
              refine lv_iinc (v := nI (n9 + 1)) (lv' := [(24, .int (nI (n9 + 1))), (0, .ref b), (1, .ref (r_h ρ)), (2, .ref M.1), (3, .int (nI tm)), (4, .int xv), (7, .int (nI (sK σ))), (22, .ref tv)]) hx hb dL_law_955 hl (k := 7) rfl (nI_add _ 1) (by decide) rfl (fun ls hl => ?_)
              refine lv_goto (tgt := 878) hx hb dL_law_958 (by decide) ?_
              refine K9 ls (trivial) ?_
              show lv_has ls 25 [(0, .ref b), (1, .ref (r_h ρ)), (2, .ref M.1), (3, .int (nI tm)), (4, .int xv), (7, .int (nI (sK σ))), (22, .ref tv), (24, .int (nI (n9 + 1)))]
              exact lv_sub hl [1, 2, 3, 4, 5, 6, 7, 0] rfl
          · have hl : lv_has ls 25 [(0, .ref b), (1, .ref (r_h ρ)), (2, .ref M.1), (3, .int (nI tm)), (4, .int xv), (7, .int (nI (sK σ))), (22, .ref tv), (24, .int (nI (sK σ)))] := hl
            refine lv_iload hx hb dL_law_878 (lv_at hl 7 rfl) ?_
            refine lv_iload hx hb dL_law_880 (lv_at hl 5 rfl) ?_
            refine lv_icmp_ge (tgt := 961) hx hb dL_law_882 (by decide) (fun _ => ?_) (fun c9 => absurd (nI_le (Nat.le_refl _) (Nat.lt_of_le_of_lt hI.1 (by decide))) c9)
            refine W.widen (k := cells + 2) (n := slots + 26) (by omega) (by omega) ?_
            exact K ls H locs ⟨passN σ u, ρ, M, hP, hM, hapt, rfl, rfl, invQ_le hQt (by omega) (by omega), fun z => absurd z (Nat.ne_of_gt (by rw [hkt]; exact hk0)), fun q h => hZo q (by rw [hkt] at h; exact h), fun _ => by rw [hkt]; exact hk0⟩ hS (lv_sub hl [0, 1, 2, 3, 4] rfl)
      · refine lv_goto (tgt := 961) hx hb dL_law_814 (by decide) ?_
        refine W.widen (k := cells + 2) (n := slots + 26) (by omega) (by omega) ?_
        exact K ls H locs ⟨σ, ρ, M, hP, hM, hap, rfl, rfl, invQ_le hQ (by omega) (by omega), fun z => absurd z (Nat.ne_of_gt hk0), hZo, fun _ => hk0⟩ hS (lv_sub hl [0, 1, 2, 3, 4] rfl)
