/-! THE LAW'S ROUND: hats, hours ahead (laid by wip/p35/gen/law2.py) -/
set_option maxHeartbeats 4000000 in
set_option maxRecDepth 100000 in
theorem q_hats {p : Program} {e : Env} {s : State} {m : MethodId} {below : List Frame} {meth : Method} {c : Code} {l : Launch} {b L : Nat} {xs : Nat → Int32} {D : va_G} {cs : Cs} {e0 : Nat} (E : LwE p s m c l b L xs D cs e0) {Q : State → Prop} {ρ : Rf} {M : Mf} {B : Nat} {σ : PS} (hQ : InvQ B σ) (hBB : B + 96 ≤ 40000) (hap : AptJ ρ M (sK σ)) (hk0 : 0 < sK σ) (hZo : ∀ q, ownJ ρ M (sK σ) q → s.heap.size ≤ q) {H : Heap} {locs : List Loc} {ls : Array Slot} {cells slots : Nat} (hP : Soc D cs ρ σ H) (hM : va_P D vwCl (simW cs M σ) H) (hS : va_S (fun q : Nat => s.heap.size ≤ q) s.heap H locs) {tm : Nat} {xv : Int32} (hl : lv_has ls 25 [(0, .ref b), (1, .ref (r_h ρ)), (2, .ref M.1), (3, .int (nI tm)), (4, .int xv), (5, .long (digS σ)), (7, .int (nI (sK σ))), (9, .int (certsS σ)), (10, .int (honOS σ))]) (hc1 : cells + 88 ≤ 704666) (hc2 : slots + 776 ≤ 6987184)
    (K : ∀ (i : Nat) (hi : i < sK σ) (ls : Array Slot) (H : Heap) (locs : List Loc), Soc D cs ρ σ H → va_P D vwCl (simW cs M σ) H → va_S (fun q : Nat => s.heap.size ≤ q) s.heap H locs → lv_has ls 25 [(0, .ref b), (1, .ref (r_h ρ)), (2, .ref M.1), (3, .int (nI tm)), (4, .int xv), (5, .long (digS σ)), (7, .int (nI (sK σ))), (9, .int (certsS σ)), (10, .int (honOS σ)), (12, .int (nI i))] → W p l e room_1 s m #[.ref b] below meth c H locs (cells + 88) (slots + 776) Q (F0 m 556 ls [])) :
    W p l e room_1 s m #[.ref b] below meth c H locs cells slots Q (F0 m 438 ls []) := by
  obtain ⟨hx, hb, hml, hown, hts, hX, hbl, hL, hK, hN, hO, hT, hE, hlf⟩ := id E
  have hTt := hQ.1
  have hI := hTt.1
  have h10 := hI.1
  have hA : ∀ q : Nat, s.heap.size ≤ q → (fun q : Nat => s.heap.size ≤ q) q := fun _ h => h
  refine lv_iload hx hb dL_law_438 (lv_at hl 4 rfl) ?_
  refine lv_iconst (v := 3) hx hb dL_law_440 (by decide) ?_
  refine lv_ishr hx hb dL_law_441 ?_
  refine lv_topi (fun v_1 _ => ?_)
  refine lv_iload hx hb dL_law_442 (lv_at hl 6 rfl) ?_
  refine vp_callSi (va_Run.run (va_runS (As := [.int v_1, .int (nI (sK σ))]) (rest := []) ⟨hx, hb, hml, hown, hts⟩ (c_L_below l D cs v_1 (sK σ) hk0 (Nat.lt_of_le_of_lt hI.1 (by decide))) (va_cwS 2 hts gL_law_L_below rfl rfl rfl (by decide +kernel) ⟨Nat.le_of_ble_eq_true rfl, Nat.le_of_ble_eq_true rfl⟩) (rb_S hK hN trivial) rfl rfl hl.1 rfl (lv_room (Nat.le_of_ble_eq_true rfl)) dL_law_444 ⟨(show cells + 0 ≤ 704666 by omega), (show slots + 0 ≤ 6987184 by omega)⟩)) (fun r hr9 => ?_)
  obtain ⟨j2, hj2, e9⟩ := hr9
  rw [e9]
  refine lv_istore (lv' := [(12, .int (nI j2)), (0, .ref b), (1, .ref (r_h ρ)), (2, .ref M.1), (3, .int (nI tm)), (4, .int xv), (5, .long (digS σ)), (7, .int (nI (sK σ))), (9, .int (certsS σ)), (10, .int (honOS σ))]) hx hb dL_law_447 hl (by decide) rfl (fun ls hl => ?_)
  refine lv_iload hx hb dL_law_449 (lv_at hl 5 rfl) ?_
  refine lv_iconst (v := 5) hx hb dL_law_451 (by decide) ?_
  refine lv_ishr hx hb dL_law_452 ?_
  refine lv_topi (fun v_3 _ => ?_)
  refine lv_iload hx hb dL_law_453 (lv_at hl 7 rfl) ?_
  refine vp_callSi (va_Run.run (va_runS (As := [.int v_3, .int (nI (sK σ))]) (rest := []) ⟨hx, hb, hml, hown, hts⟩ (c_L_below l D cs v_3 (sK σ) hk0 (Nat.lt_of_le_of_lt hI.1 (by decide))) (va_cwS 2 hts gL_law_L_below rfl rfl rfl (by decide +kernel) ⟨Nat.le_of_ble_eq_true rfl, Nat.le_of_ble_eq_true rfl⟩) (rb_S hK hN trivial) rfl rfl hl.1 rfl (lv_room (Nat.le_of_ble_eq_true rfl)) dL_law_455 ⟨(show cells + 0 ≤ 704666 by omega), (show slots + 0 ≤ 6987184 by omega)⟩)) (fun r hr9 => ?_)
  obtain ⟨j4, hj4, e9⟩ := hr9
  rw [e9]
  refine lv_istore (lv' := [(13, .int (nI j4)), (12, .int (nI j2)), (0, .ref b), (1, .ref (r_h ρ)), (2, .ref M.1), (3, .int (nI tm)), (4, .int xv), (5, .long (digS σ)), (7, .int (nI (sK σ))), (9, .int (certsS σ)), (10, .int (honOS σ))]) hx hb dL_law_458 hl (by decide) rfl (fun ls hl => ?_)
  refine lv_aload_n hx hb dL_law_460 rfl (lv_at hl 3 rfl) ?_
  refine lv_iload hx hb dL_law_461 (lv_at hl 1 rfl) ?_
  refine vp_callSi (va_Run.run (va_runV (As := [.int (nI j2)]) (rest := []) ⟨hx, hb, hml, hown, hts⟩ (n_X1_bestHat l D cs ρ hI hap.1.1 j2 hj2) (cwV 1 hts gL_law_X1_bestHat rfl rfl rfl (by decide +kernel) ⟨Nat.le_of_ble_eq_true rfl, Nat.le_of_ble_eq_true rfl⟩) (rb_V hK hN hP (va_recv hK (one_P hP.1) (ci := 2) (q0 := 0) rfl rfl)) rfl rfl hl.1 rfl (lv_room (Nat.le_of_ble_eq_true rfl)) dL_law_463 ⟨(show cells + 0 ≤ 704666 by omega), (show slots + 0 ≤ 6987184 by omega)⟩)) (fun r_5 hr_5 => ?_)
  rw [hr_5]
  rcases best_c hTt hj2 with ⟨eb, hnb⟩ | ⟨bb, hbb, eb, hcb, hbm⟩
  · refine W.eq (g2 := F0 m 466 ls [.int (-1)]) (by rw [eb]) ?_
    refine lv_istore (lv' := [(14, .int (-1)), (13, .int (nI j4)), (12, .int (nI j2)), (0, .ref b), (1, .ref (r_h ρ)), (2, .ref M.1), (3, .int (nI tm)), (4, .int xv), (5, .long (digS σ)), (7, .int (nI (sK σ))), (9, .int (certsS σ)), (10, .int (honOS σ))]) hx hb dL_law_466 hl (by decide) rfl (fun ls hl => ?_)
    refine lv_aload_n hx hb dL_law_468 rfl (lv_at hl 5 rfl) ?_
    refine lv_iload hx hb dL_law_469 (lv_at hl 2 rfl) ?_
    refine lv_iload hx hb dL_law_471 (lv_at hl 1 rfl) ?_
    refine vp_callSi (va_Run.run (va_runV (As := [.int (nI j2), .int (nI j4)]) (rest := []) ⟨hx, hb, hml, hown, hts⟩ (c_X2_canBorrow l D cs M hI j2 hj2 j4 hj4) (cwV 2 hts gL_law_X2_canBorrow rfl rfl rfl (by decide +kernel) ⟨Nat.le_of_ble_eq_true rfl, Nat.le_of_ble_eq_true rfl⟩) (rb_V hK hN hM (va_recv hK hM (ci := 3) (q0 := 0) rfl rfl)) rfl rfl hl.1 rfl (lv_room (Nat.le_of_ble_eq_true rfl)) dL_law_473 ⟨(show cells + 0 ≤ 704666 by omega), (show slots + 0 ≤ 6987184 by omega)⟩)) (fun r_6 hr_6 => ?_)
    rw [hr_6]
    by_cases hcan : canM σ j2 j4
    · exact absurd hcan (hnb _ hj4)
    · refine W.eq (g2 := F0 m 476 ls [.int 0]) (by rw [b01_f hcan]) ?_
      refine lv_istore (lv' := [(15, .int 0), (14, .int (-1)), (13, .int (nI j4)), (12, .int (nI j2)), (0, .ref b), (1, .ref (r_h ρ)), (2, .ref M.1), (3, .int (nI tm)), (4, .int xv), (5, .long (digS σ)), (7, .int (nI (sK σ))), (9, .int (certsS σ)), (10, .int (honOS σ))]) hx hb dL_law_476 hl (by decide) rfl (fun ls hl => ?_)
      refine lv_iload hx hb dL_law_478 (lv_at hl 1 rfl) ?_
      refine lv_if_lt (tgt := 494) hx hb dL_law_480 (by decide) (fun _ => ?_) (fun c9 => absurd (by decide) c9)
      refine lv_iload hx hb dL_law_494 (lv_at hl 1 rfl) ?_
      refine lv_if_ge (tgt := 504) hx hb dL_law_496 (by decide) (fun c9 => absurd c9 (by decide)) (fun _ => ?_)
      refine lv_iload hx hb dL_law_499 (lv_at hl 0 rfl) ?_
      refine lv_if_ne (tgt := 554) hx hb dL_law_501 (by decide) (fun c9 => absurd (rfl) c9) (fun _ => ?_)
      refine lv_iload hx hb dL_law_504 (lv_at hl 0 rfl) ?_
      refine lv_if_eq (tgt := 556) hx hb dL_law_506 (by decide) (fun _ => ?_) (fun c9 => absurd (rfl) c9)
      refine W.widen (k := cells + 88) (n := slots + 776) (by omega) (by omega) ?_
      exact K j2 hj2 ls H locs hP hM hS (lv_sub hl [4, 5, 6, 7, 8, 9, 10, 11, 12, 3] rfl)
  · refine W.eq (g2 := F0 m 466 ls [.int (nI bb)]) (by rw [eb]) ?_
    refine lv_istore (lv' := [(14, .int (nI bb)), (13, .int (nI j4)), (12, .int (nI j2)), (0, .ref b), (1, .ref (r_h ρ)), (2, .ref M.1), (3, .int (nI tm)), (4, .int xv), (5, .long (digS σ)), (7, .int (nI (sK σ))), (9, .int (certsS σ)), (10, .int (honOS σ))]) hx hb dL_law_466 hl (by decide) rfl (fun ls hl => ?_)
    refine lv_aload_n hx hb dL_law_468 rfl (lv_at hl 5 rfl) ?_
    refine lv_iload hx hb dL_law_469 (lv_at hl 2 rfl) ?_
    refine lv_iload hx hb dL_law_471 (lv_at hl 1 rfl) ?_
    refine vp_callSi (va_Run.run (va_runV (As := [.int (nI j2), .int (nI j4)]) (rest := []) ⟨hx, hb, hml, hown, hts⟩ (c_X2_canBorrow l D cs M hI j2 hj2 j4 hj4) (cwV 2 hts gL_law_X2_canBorrow rfl rfl rfl (by decide +kernel) ⟨Nat.le_of_ble_eq_true rfl, Nat.le_of_ble_eq_true rfl⟩) (rb_V hK hN hM (va_recv hK hM (ci := 3) (q0 := 0) rfl rfl)) rfl rfl hl.1 rfl (lv_room (Nat.le_of_ble_eq_true rfl)) dL_law_473 ⟨(show cells + 0 ≤ 704666 by omega), (show slots + 0 ≤ 6987184 by omega)⟩)) (fun r_7 hr_7 => ?_)
    rw [hr_7]
    by_cases hcan : canM σ j2 j4
    · refine W.eq (g2 := F0 m 476 ls [.int 1]) (by rw [b01_t hcan]) ?_
      refine lv_istore (lv' := [(15, .int 1), (14, .int (nI bb)), (13, .int (nI j4)), (12, .int (nI j2)), (0, .ref b), (1, .ref (r_h ρ)), (2, .ref M.1), (3, .int (nI tm)), (4, .int xv), (5, .long (digS σ)), (7, .int (nI (sK σ))), (9, .int (certsS σ)), (10, .int (honOS σ))]) hx hb dL_law_476 hl (by decide) rfl (fun ls hl => ?_)
      refine lv_iload hx hb dL_law_478 (lv_at hl 1 rfl) ?_
      refine lv_if_lt (tgt := 494) hx hb dL_law_480 (by decide) (fun c9 => absurd c9 (nI_pos (Nat.lt_trans hbb (Nat.lt_of_le_of_lt hI.1 (by decide))))) (fun _ => ?_)
      refine lv_aload_n hx hb dL_law_483 rfl (lv_at hl 6 rfl) ?_
      refine lv_iload hx hb dL_law_484 (lv_at hl 3 rfl) ?_
      refine lv_iload hx hb dL_law_486 (lv_at hl 1 rfl) ?_
      refine vp_callSi (va_Run.run (va_runV (As := [.int (nI j2), .int (nI bb)]) (rest := []) ⟨hx, hb, hml, hown, hts⟩ (c_X2_canBorrow l D cs M hI j2 hj2 bb hbb) (cwV 2 hts gL_law_X2_canBorrow rfl rfl rfl (by decide +kernel) ⟨Nat.le_of_ble_eq_true rfl, Nat.le_of_ble_eq_true rfl⟩) (rb_V hK hN hM (va_recv hK hM (ci := 3) (q0 := 0) rfl rfl)) rfl rfl hl.1 rfl (lv_room (Nat.le_of_ble_eq_true rfl)) dL_law_488 ⟨(show cells + 0 ≤ 704666 by omega), (show slots + 0 ≤ 6987184 by omega)⟩)) (fun r_8 hr_8 => ?_)
      rw [hr_8]
      refine lv_if_eq (tgt := 554) hx hb dL_law_491 (by decide) (fun c9 => absurd c9 (b01_n.mpr hcb)) (fun _ => ?_)
      refine lv_iload hx hb dL_law_494 (lv_at hl 1 rfl) ?_
      refine lv_if_ge (tgt := 504) hx hb dL_law_496 (by decide) (fun _ => ?_) (fun c9 => absurd (nI_pos' (Nat.lt_trans hbb (Nat.lt_of_le_of_lt hI.1 (by decide)))) c9)
      refine lv_iload hx hb dL_law_504 (lv_at hl 0 rfl) ?_
      refine lv_if_eq (tgt := 556) hx hb dL_law_506 (by decide) (fun c9 => absurd c9 (by decide)) (fun _ => ?_)
      refine lv_aload_n hx hb dL_law_509 rfl (lv_at hl 6 rfl) ?_
      refine lv_iload hx hb dL_law_510 (lv_at hl 3 rfl) ?_
      refine lv_iload hx hb dL_law_512 (lv_at hl 2 rfl) ?_
      refine va_calli (va_runS (As := [.ref M.1, .int (nI j2), .int (nI j4)]) (rest := []) ⟨hx, hb, hml, hown, hts⟩ (c_L_with l D cs M hI H j2 hj2 j4 hj4) (va_cwS 3 hts gL_law_L_with rfl rfl rfl (by decide +kernel) ⟨Nat.le_of_ble_eq_true rfl, Nat.le_of_ble_eq_true rfl⟩) (ao_S hK hN hO ⟨rfl, hM⟩) rfl rfl hl.1 rfl (lv_room (Nat.le_of_ble_eq_true rfl)) dL_law_514 ⟨(show cells + 22 ≤ 704666 by omega), (show slots + 194 ≤ 6987184 by omega)⟩) hS (fun q _ h => Nat.le_trans hS.1 h) (fun q h => Nat.le_trans hS.1 h) (fun r u t H locs ht hvm hw hB hz1 hk1 hS => ?_)
      rw [hw]
      have hP := soc_kept hP (fun q _ h2 => hk1 q h2 (Nat.not_le.mpr h2))
      have hM := sim_kept hM (fun q _ h2 => hk1 q h2 (Nat.not_le.mpr h2))
      refine lv_aload_n hx hb dL_law_517 rfl (lv_at hl 6 rfl) ?_
      refine lv_iload hx hb dL_law_518 (lv_at hl 3 rfl) ?_
      refine lv_iload hx hb dL_law_520 (lv_at hl 1 rfl) ?_
      refine va_calli (va_runS (As := [.ref M.1, .int (nI j2), .int (nI bb)]) (rest := [.int (shadS (bwS σ j2 j4) j2 (dayOf (bwS σ j2 j4)))]) ⟨hx, hb, hml, hown, hts⟩ (c_L_with l D cs M hI H j2 hj2 bb hbb) (va_cwS 3 hts gL_law_L_with rfl rfl rfl (by decide +kernel) ⟨Nat.le_of_ble_eq_true rfl, Nat.le_of_ble_eq_true rfl⟩) (ao_S hK hN hO ⟨rfl, hM⟩) rfl rfl hl.1 rfl (lv_room (Nat.le_of_ble_eq_true rfl)) dL_law_522 ⟨(show cells + 22 + 22 ≤ 704666 by omega), (show slots + 194 + 194 ≤ 6987184 by omega)⟩) hS (fun q _ h => Nat.le_trans hS.1 h) (fun q h => Nat.le_trans hS.1 h) (fun r u t H locs ht hvm hw hB hz1 hk1 hS => ?_)
      rw [hw]
      have hP := soc_kept hP (fun q _ h2 => hk1 q h2 (Nat.not_le.mpr h2))
      have hM := sim_kept hM (fun q _ h2 => hk1 q h2 (Nat.not_le.mpr h2))
      refine lv_icmp_gt (tgt := 554) hx hb dL_law_525 (by decide) (fun c9 => absurd c9 ((with_c hTt hj2 hj4 hbb (hbm j4 hj4 hcan).1 (hbm j4 hj4 hcan).2).1)) (fun _ => ?_)
      refine lv_aload_n hx hb dL_law_528 rfl (lv_at hl 6 rfl) ?_
      refine lv_iload hx hb dL_law_529 (lv_at hl 3 rfl) ?_
      refine lv_iload hx hb dL_law_531 (lv_at hl 2 rfl) ?_
      refine va_calli (va_runS (As := [.ref M.1, .int (nI j2), .int (nI j4)]) (rest := []) ⟨hx, hb, hml, hown, hts⟩ (c_L_with l D cs M hI H j2 hj2 j4 hj4) (va_cwS 3 hts gL_law_L_with rfl rfl rfl (by decide +kernel) ⟨Nat.le_of_ble_eq_true rfl, Nat.le_of_ble_eq_true rfl⟩) (ao_S hK hN hO ⟨rfl, hM⟩) rfl rfl hl.1 rfl (lv_room (Nat.le_of_ble_eq_true rfl)) dL_law_533 ⟨(show cells + 22 + 22 + 22 ≤ 704666 by omega), (show slots + 194 + 194 + 194 ≤ 6987184 by omega)⟩) hS (fun q _ h => Nat.le_trans hS.1 h) (fun q h => Nat.le_trans hS.1 h) (fun r u t H locs ht hvm hw hB hz1 hk1 hS => ?_)
      rw [hw]
      have hP := soc_kept hP (fun q _ h2 => hk1 q h2 (Nat.not_le.mpr h2))
      have hM := sim_kept hM (fun q _ h2 => hk1 q h2 (Nat.not_le.mpr h2))
      refine lv_aload_n hx hb dL_law_536 rfl (lv_at hl 6 rfl) ?_
      refine lv_iload hx hb dL_law_537 (lv_at hl 3 rfl) ?_
      refine lv_iload hx hb dL_law_539 (lv_at hl 1 rfl) ?_
      refine va_calli (va_runS (As := [.ref M.1, .int (nI j2), .int (nI bb)]) (rest := [.int (shadS (bwS σ j2 j4) j2 (dayOf (bwS σ j2 j4)))]) ⟨hx, hb, hml, hown, hts⟩ (c_L_with l D cs M hI H j2 hj2 bb hbb) (va_cwS 3 hts gL_law_L_with rfl rfl rfl (by decide +kernel) ⟨Nat.le_of_ble_eq_true rfl, Nat.le_of_ble_eq_true rfl⟩) (ao_S hK hN hO ⟨rfl, hM⟩) rfl rfl hl.1 rfl (lv_room (Nat.le_of_ble_eq_true rfl)) dL_law_541 ⟨(show cells + 22 + 22 + 22 + 22 ≤ 704666 by omega), (show slots + 194 + 194 + 194 + 194 ≤ 6987184 by omega)⟩) hS (fun q _ h => Nat.le_trans hS.1 h) (fun q h => Nat.le_trans hS.1 h) (fun r u t H locs ht hvm hw hB hz1 hk1 hS => ?_)
      rw [hw]
      have hP := soc_kept hP (fun q _ h2 => hk1 q h2 (Nat.not_le.mpr h2))
      have hM := sim_kept hM (fun q _ h2 => hk1 q h2 (Nat.not_le.mpr h2))
      refine lv_icmp_ne (tgt := 556) hx hb dL_law_544 (by decide) (fun c_9 => ?_) (fun c_9 => ?_)
      · refine W.widen (k := cells + 88) (n := slots + 776) (by omega) (by omega) ?_
        exact K j2 hj2 ls H locs hP hM hS (lv_sub hl [4, 5, 6, 7, 8, 9, 10, 11, 12, 3] rfl)
      · refine lv_iload hx hb dL_law_547 (lv_at hl 2 rfl) ?_
        refine lv_iload hx hb dL_law_549 (lv_at hl 1 rfl) ?_
        refine lv_icmp_ge (tgt := 556) hx hb dL_law_551 (by decide) (fun _ => ?_) (fun c9 => absurd (Int32.not_lt.mp ((with_c hTt hj2 hj4 hbb (hbm j4 hj4 hcan).1 (hbm j4 hj4 hcan).2).2 c_9)) c9)
        refine W.widen (k := cells + 88) (n := slots + 776) (by omega) (by omega) ?_
        exact K j2 hj2 ls H locs hP hM hS (lv_sub hl [4, 5, 6, 7, 8, 9, 10, 11, 12, 3] rfl)
    · refine W.eq (g2 := F0 m 476 ls [.int 0]) (by rw [b01_f hcan]) ?_
      refine lv_istore (lv' := [(15, .int 0), (14, .int (nI bb)), (13, .int (nI j4)), (12, .int (nI j2)), (0, .ref b), (1, .ref (r_h ρ)), (2, .ref M.1), (3, .int (nI tm)), (4, .int xv), (5, .long (digS σ)), (7, .int (nI (sK σ))), (9, .int (certsS σ)), (10, .int (honOS σ))]) hx hb dL_law_476 hl (by decide) rfl (fun ls hl => ?_)
      refine lv_iload hx hb dL_law_478 (lv_at hl 1 rfl) ?_
      refine lv_if_lt (tgt := 494) hx hb dL_law_480 (by decide) (fun c9 => absurd c9 (nI_pos (Nat.lt_trans hbb (Nat.lt_of_le_of_lt hI.1 (by decide))))) (fun _ => ?_)
      refine lv_aload_n hx hb dL_law_483 rfl (lv_at hl 6 rfl) ?_
      refine lv_iload hx hb dL_law_484 (lv_at hl 3 rfl) ?_
      refine lv_iload hx hb dL_law_486 (lv_at hl 1 rfl) ?_
      refine vp_callSi (va_Run.run (va_runV (As := [.int (nI j2), .int (nI bb)]) (rest := []) ⟨hx, hb, hml, hown, hts⟩ (c_X2_canBorrow l D cs M hI j2 hj2 bb hbb) (cwV 2 hts gL_law_X2_canBorrow rfl rfl rfl (by decide +kernel) ⟨Nat.le_of_ble_eq_true rfl, Nat.le_of_ble_eq_true rfl⟩) (rb_V hK hN hM (va_recv hK hM (ci := 3) (q0 := 0) rfl rfl)) rfl rfl hl.1 rfl (lv_room (Nat.le_of_ble_eq_true rfl)) dL_law_488 ⟨(show cells + 0 ≤ 704666 by omega), (show slots + 0 ≤ 6987184 by omega)⟩)) (fun r_10 hr_10 => ?_)
      rw [hr_10]
      refine lv_if_eq (tgt := 554) hx hb dL_law_491 (by decide) (fun c9 => absurd c9 (b01_n.mpr hcb)) (fun _ => ?_)
      refine lv_iload hx hb dL_law_494 (lv_at hl 1 rfl) ?_
      refine lv_if_ge (tgt := 504) hx hb dL_law_496 (by decide) (fun _ => ?_) (fun c9 => absurd (nI_pos' (Nat.lt_trans hbb (Nat.lt_of_le_of_lt hI.1 (by decide)))) c9)
      refine lv_iload hx hb dL_law_504 (lv_at hl 0 rfl) ?_
      refine lv_if_eq (tgt := 556) hx hb dL_law_506 (by decide) (fun _ => ?_) (fun c9 => absurd (rfl) c9)
      refine W.widen (k := cells + 88) (n := slots + 776) (by omega) (by omega) ?_
      exact K j2 hj2 ls H locs hP hM hS (lv_sub hl [4, 5, 6, 7, 8, 9, 10, 11, 12, 3] rfl)
set_option maxHeartbeats 4000000 in
set_option maxRecDepth 100000 in
theorem q_ahead {p : Program} {e : Env} {s : State} {m : MethodId} {below : List Frame} {meth : Method} {c : Code} {l : Launch} {b L : Nat} {xs : Nat → Int32} {D : va_G} {cs : Cs} {e0 : Nat} (E : LwE p s m c l b L xs D cs e0) {Q : State → Prop} {ρ : Rf} {M : Mf} {B : Nat} {σ : PS} (hQ : InvQ B σ) (hBB : B + 96 ≤ 40000) (hap : AptJ ρ M (sK σ)) (hk0 : 0 < sK σ) (hZo : ∀ q, ownJ ρ M (sK σ) q → s.heap.size ≤ q) {H : Heap} {locs : List Loc} {ls : Array Slot} {cells slots : Nat} (hP : Soc D cs ρ σ H) (hM : va_P D vwCl (simW cs M σ) H) (hS : va_S (fun q : Nat => s.heap.size ≤ q) s.heap H locs) {tm : Nat} {xv : Int32} (i : Nat) (hi : i < sK σ) (hl : lv_has ls 25 [(0, .ref b), (1, .ref (r_h ρ)), (2, .ref M.1), (3, .int (nI tm)), (4, .int xv), (5, .long (digS σ)), (7, .int (nI (sK σ))), (9, .int (certsS σ)), (10, .int (honOS σ)), (12, .int (nI i))]) (hc1 : cells + 44 ≤ 704666) (hc2 : slots + 388 ≤ 6987184)
    (K : ∀ (ls : Array Slot) (H : Heap) (locs : List Loc), Soc D cs ρ σ H → va_P D vwCl (simW cs M σ) H → va_S (fun q : Nat => s.heap.size ≤ q) s.heap H locs → lv_has ls 25 [(0, .ref b), (1, .ref (r_h ρ)), (2, .ref M.1), (3, .int (nI tm)), (4, .int xv), (5, .long (digS σ)), (7, .int (nI (sK σ))), (9, .int (certsS σ)), (10, .int (honOS σ))] → W p l e room_1 s m #[.ref b] below meth c H locs (cells + 44) (slots + 388) Q (F0 m 659 ls [])) :
    W p l e room_1 s m #[.ref b] below meth c H locs cells slots Q (F0 m 556 ls []) := by
  obtain ⟨hx, hb, hml, hown, hts, hX, hbl, hL, hK, hN, hO, hT, hE, hlf⟩ := id E
  have hTt := hQ.1
  have hI := hTt.1
  have h10 := hI.1
  have hA : ∀ q : Nat, s.heap.size ≤ q → (fun q : Nat => s.heap.size ≤ q) q := fun _ h => h
  refine lv_aload_n hx hb dL_law_556 rfl (lv_at hl 2 rfl) ?_
  have hSz1 := hS.1
  have hPz1 := soc_own_lt hP
  have hMz1 := sim_own_lt hM
  refine va_callr (va_runV (As := []) (rest := []) ⟨hx, hb, hml, hown, hts⟩ (c_X2_copy l D cs M hI H) (cwV 0 hts gL_law_X2_copy rfl rfl rfl (by decide +kernel) ⟨Nat.le_of_ble_eq_true rfl, Nat.le_of_ble_eq_true rfl⟩) (ao_V hK hN hO ⟨rfl, hM⟩ (va_recv hK hM (ci := 3) (q0 := 0) rfl rfl)) rfl rfl hl.1 rfl (lv_room (Nat.le_of_ble_eq_true rfl)) dL_law_557 ⟨(show cells + 22 ≤ 704666 by omega), (show slots + 194 ≤ 6987184 by omega)⟩) hS (fun q _ h => Nat.le_trans hS.1 h) (fun q h => Nat.le_trans hS.1 h) (fun u1 x1 t H locs ht hvm hw hB hz1 hk1 hS => ?_)
  rw [ht] at hB
  obtain ⟨hC, haC, hoC1⟩ := hB
  have hP := soc_kept hP (fun q _ h2 => hk1 q h2 (Nat.not_le.mpr h2))
  have hM := sim_kept hM (fun q _ h2 => hk1 q h2 (Nat.not_le.mpr h2))
  have hoZ : ∀ q, ownS (x1, u1) (sK σ) q → s.heap.size ≤ q := fun q h => Nat.le_trans hSz1 (hoC1 q h)
  have hdP : ∀ q, ownB ρ (sK σ) q → ¬ ownS (x1, u1) (sK σ) q := fun q h1 h2 => absurd (hPz1 q h1) (Nat.not_lt.mpr (hoC1 q h2))
  have hdM : ∀ q, ownS M (sK σ) q → ¬ ownS (x1, u1) (sK σ) q := fun q h1 h2 => absurd (hMz1 q h1) (Nat.not_lt.mpr (hoC1 q h2))
  refine lv_astore (lv' := [(16, .ref x1), (0, .ref b), (1, .ref (r_h ρ)), (2, .ref M.1), (3, .int (nI tm)), (4, .int xv), (5, .long (digS σ)), (7, .int (nI (sK σ))), (9, .int (certsS σ)), (10, .int (honOS σ)), (12, .int (nI i))]) hx hb dL_law_560 hl (by decide) rfl (fun ls hl => ?_)
  refine lv_aload_n hx hb dL_law_562 rfl (lv_at hl 2 rfl) ?_
  refine lv_iload hx hb dL_law_563 (lv_at hl 10 rfl) ?_
  refine vp_callSi (va_Run.run (va_runV (As := [.int (nI i)]) (rest := []) ⟨hx, hb, hml, hown, hts⟩ (n_X1_longestIn l D cs ρ hI hap.1.1 i hi) (cwV 1 hts gL_law_X1_longestIn rfl rfl rfl (by decide +kernel) ⟨Nat.le_of_ble_eq_true rfl, Nat.le_of_ble_eq_true rfl⟩) (rb_V hK hN hP (va_recv hK (one_P hP.1) (ci := 2) (q0 := 0) rfl rfl)) rfl rfl hl.1 rfl (lv_room (Nat.le_of_ble_eq_true rfl)) dL_law_565 ⟨(show cells + 22 + 0 ≤ 704666 by omega), (show slots + 194 + 0 ≤ 6987184 by omega)⟩)) (fun r_1 hr_1 => ?_)
  rw [hr_1]
  obtain ⟨bs, hbs, ebs, hsoon⟩ := soon_c σ i
  refine W.eq (g2 := F0 m 568 ls [.int (nI bs)]) (by rw [ebs]) ?_
  refine lv_istore (lv' := [(17, .int (nI bs)), (16, .ref x1), (0, .ref b), (1, .ref (r_h ρ)), (2, .ref M.1), (3, .int (nI tm)), (4, .int xv), (5, .long (digS σ)), (7, .int (nI (sK σ))), (9, .int (certsS σ)), (10, .int (honOS σ)), (12, .int (nI i))]) hx hb dL_law_568 hl (by decide) rfl (fun ls hl => ?_)
  refine lv_iload hx hb dL_law_570 (lv_at hl 6 rfl) ?_
  refine lv_iconst (v := 4) hx hb dL_law_572 (by decide) ?_
  refine lv_ishr hx hb dL_law_573 ?_
  refine lv_topi (fun v_2 _ => ?_)
  refine lv_bipush (v := 24) hx hb dL_law_574 (by decide) ?_
  refine vp_callSi (va_Run.run (va_runS (As := [.int v_2, .int (nI 24)]) (rest := []) ⟨hx, hb, hml, hown, hts⟩ (c_L_below l D cs v_2 24 (by decide) (by decide)) (va_cwS 2 hts gL_law_L_below rfl rfl rfl (by decide +kernel) ⟨Nat.le_of_ble_eq_true rfl, Nat.le_of_ble_eq_true rfl⟩) (rb_S hK hN trivial) rfl rfl hl.1 rfl (lv_room (Nat.le_of_ble_eq_true rfl)) dL_law_576 ⟨(show cells + 22 + 0 ≤ 704666 by omega), (show slots + 194 + 0 ≤ 6987184 by omega)⟩)) (fun r hr9 => ?_)
  obtain ⟨j3, hj3, e9⟩ := hr9
  rw [e9]
  refine lv_istore (lv' := [(18, .int (nI j3)), (17, .int (nI bs)), (16, .ref x1), (0, .ref b), (1, .ref (r_h ρ)), (2, .ref M.1), (3, .int (nI tm)), (4, .int xv), (5, .long (digS σ)), (7, .int (nI (sK σ))), (9, .int (certsS σ)), (10, .int (honOS σ)), (12, .int (nI i))]) hx hb dL_law_579 hl (by decide) rfl (fun ls hl => ?_)
  refine lv_iload hx hb dL_law_581 (lv_at hl 1 rfl) ?_
  refine lv_if_lt (tgt := 593) hx hb dL_law_583 (by decide) (fun c9 => absurd c9 (nI_pos (by omega))) (fun _ => ?_)
  refine lv_iload hx hb dL_law_586 (lv_at hl 1 rfl) ?_
  refine lv_bipush (v := 23) hx hb dL_law_588 (by decide) ?_
  refine lv_icmp_le (tgt := 595) hx hb dL_law_590 (by decide) (fun _ => ?_) (fun c9 => absurd (nI_le (b := 23) (by omega) (by decide)) c9)
  refine lv_aload hx hb dL_law_595 (lv_at hl 2 rfl) ?_
  refine lv_iload hx hb dL_law_597 (lv_at hl 1 rfl) ?_
  refine va_calli (va_runV (As := [.int (nI bs)]) (rest := []) ⟨hx, hb, hml, hown, hts⟩ (c_X2_pass l D cs (x1, u1) hQ haC H bs (by omega) (by omega)) (cwV 1 hts gL_law_X2_pass rfl rfl rfl (by decide +kernel) ⟨Nat.le_of_ble_eq_true rfl, Nat.le_of_ble_eq_true rfl⟩) (rb_V hK hN ⟨rfl, hC⟩ (va_recv hK hC (ci := 3) (q0 := 0) rfl rfl)) rfl rfl hl.1 rfl (lv_room (Nat.le_of_ble_eq_true rfl)) dL_law_599 ⟨(show cells + 22 + 0 ≤ 704666 by omega), (show slots + 194 + 0 ≤ 6987184 by omega)⟩) hS (fun q _ h => h.elim (hoZ q) (fun h => Nat.le_trans hS.1 h)) (fun q h => h.elim (hoZ q) (fun h => Nat.le_trans hS.1 h)) (fun r u t H locs ht hvm hw hB hz1 hk1 hS => ?_)
  obtain ⟨hr9, hw9⟩ := hw
  rw [ht, hw9] at hB
  have hC : va_P D vwCl (simW cs (x1, u1) (passN σ bs)) H := hB
  have hP := soc_kept hP (fun q h hlt => hk1 q hlt (fun z => z.elim (hdP q h) (fun z => absurd hlt (Nat.not_lt.mpr z))))
  have hM := sim_kept hM (fun q h hlt => hk1 q hlt (fun z => z.elim (hdM q h) (fun z => absurd hlt (Nat.not_lt.mpr z))))
  rw [hr9]
  refine lv_pop hx hb dL_law_602 rfl ?_
  refine lv_aload hx hb dL_law_603 (lv_at hl 2 rfl) ?_
  refine lv_iload hx hb dL_law_605 (lv_at hl 12 rfl) ?_
  refine vp_callSi (va_Run.run (va_runV (As := [.int (nI i)]) (rest := []) ⟨hx, hb, hml, hown, hts⟩ (c_X2_shadow l D cs (x1, u1) (invQ_passN hQ bs (by omega)).1.1 i (by rw [k_pass]; exact hi)) (cwV 1 hts gL_law_X2_shadow rfl rfl rfl (by decide +kernel) ⟨Nat.le_of_ble_eq_true rfl, Nat.le_of_ble_eq_true rfl⟩) (rb_V hK hN hC (va_recv hK hC (ci := 3) (q0 := 0) rfl rfl)) rfl rfl hl.1 rfl (lv_room (Nat.le_of_ble_eq_true rfl)) dL_law_607 ⟨(show cells + 22 + 0 + 0 ≤ 704666 by omega), (show slots + 194 + 0 + 0 ≤ 6987184 by omega)⟩)) (fun r hr9 => ?_)
  rw [hr9, ahead_pass hTt (by omega) hi (by omega)]
  refine lv_istore (lv' := [(19, .int (aheadS σ i (nI bs))), (18, .int (nI j3)), (17, .int (nI bs)), (16, .ref x1), (0, .ref b), (1, .ref (r_h ρ)), (2, .ref M.1), (3, .int (nI tm)), (4, .int xv), (5, .long (digS σ)), (7, .int (nI (sK σ))), (9, .int (certsS σ)), (10, .int (honOS σ)), (12, .int (nI i))]) hx hb dL_law_610 hl (by decide) rfl (fun ls hl => ?_)
  refine lv_aload_n hx hb dL_law_612 rfl (lv_at hl 6 rfl) ?_
  have hSz2 := hS.1
  have hPz2 := soc_own_lt hP
  have hMz2 := sim_own_lt hM
  refine va_callr (va_runV (As := []) (rest := []) ⟨hx, hb, hml, hown, hts⟩ (c_X2_copy l D cs M hI H) (cwV 0 hts gL_law_X2_copy rfl rfl rfl (by decide +kernel) ⟨Nat.le_of_ble_eq_true rfl, Nat.le_of_ble_eq_true rfl⟩) (ao_V hK hN hO ⟨rfl, hM⟩ (va_recv hK hM (ci := 3) (q0 := 0) rfl rfl)) rfl rfl hl.1 rfl (lv_room (Nat.le_of_ble_eq_true rfl)) dL_law_613 ⟨(show cells + 22 + 0 + 22 ≤ 704666 by omega), (show slots + 194 + 0 + 194 ≤ 6987184 by omega)⟩) hS (fun q _ h => Nat.le_trans hS.1 h) (fun q h => Nat.le_trans hS.1 h) (fun u2 x2 t H locs ht hvm hw hB hz1 hk1 hS => ?_)
  rw [ht] at hB
  obtain ⟨hC, haC, hoC2⟩ := hB
  have hP := soc_kept hP (fun q _ h2 => hk1 q h2 (Nat.not_le.mpr h2))
  have hM := sim_kept hM (fun q _ h2 => hk1 q h2 (Nat.not_le.mpr h2))
  have hoZ : ∀ q, ownS (x2, u2) (sK σ) q → s.heap.size ≤ q := fun q h => Nat.le_trans hSz2 (hoC2 q h)
  have hdP : ∀ q, ownB ρ (sK σ) q → ¬ ownS (x2, u2) (sK σ) q := fun q h1 h2 => absurd (hPz2 q h1) (Nat.not_lt.mpr (hoC2 q h2))
  have hdM : ∀ q, ownS M (sK σ) q → ¬ ownS (x2, u2) (sK σ) q := fun q h1 h2 => absurd (hMz2 q h1) (Nat.not_lt.mpr (hoC2 q h2))
  refine lv_astore (lv' := [(16, .ref x2), (19, .int (aheadS σ i (nI bs))), (18, .int (nI j3)), (17, .int (nI bs)), (0, .ref b), (1, .ref (r_h ρ)), (2, .ref M.1), (3, .int (nI tm)), (4, .int xv), (5, .long (digS σ)), (7, .int (nI (sK σ))), (9, .int (certsS σ)), (10, .int (honOS σ)), (12, .int (nI i))]) hx hb dL_law_616 hl (by decide) rfl (fun ls hl => ?_)
  refine lv_aload hx hb dL_law_618 (lv_at hl 0 rfl) ?_
  refine lv_iload hx hb dL_law_620 (lv_at hl 2 rfl) ?_
  refine va_calli (va_runV (As := [.int (nI j3)]) (rest := []) ⟨hx, hb, hml, hown, hts⟩ (c_X2_pass l D cs (x2, u2) hQ haC H j3 (by omega) (by omega)) (cwV 1 hts gL_law_X2_pass rfl rfl rfl (by decide +kernel) ⟨Nat.le_of_ble_eq_true rfl, Nat.le_of_ble_eq_true rfl⟩) (rb_V hK hN ⟨rfl, hC⟩ (va_recv hK hC (ci := 3) (q0 := 0) rfl rfl)) rfl rfl hl.1 rfl (lv_room (Nat.le_of_ble_eq_true rfl)) dL_law_622 ⟨(show cells + 22 + 0 + 22 + 0 ≤ 704666 by omega), (show slots + 194 + 0 + 194 + 0 ≤ 6987184 by omega)⟩) hS (fun q _ h => h.elim (hoZ q) (fun h => Nat.le_trans hS.1 h)) (fun q h => h.elim (hoZ q) (fun h => Nat.le_trans hS.1 h)) (fun r u t H locs ht hvm hw hB hz1 hk1 hS => ?_)
  obtain ⟨hr9, hw9⟩ := hw
  rw [ht, hw9] at hB
  have hC : va_P D vwCl (simW cs (x2, u2) (passN σ j3)) H := hB
  have hP := soc_kept hP (fun q h hlt => hk1 q hlt (fun z => z.elim (hdP q h) (fun z => absurd hlt (Nat.not_lt.mpr z))))
  have hM := sim_kept hM (fun q h hlt => hk1 q hlt (fun z => z.elim (hdM q h) (fun z => absurd hlt (Nat.not_lt.mpr z))))
  rw [hr9]
  refine lv_pop hx hb dL_law_625 rfl ?_
  refine lv_aload hx hb dL_law_626 (lv_at hl 0 rfl) ?_
  refine lv_iload hx hb dL_law_628 (lv_at hl 13 rfl) ?_
  refine vp_callSi (va_Run.run (va_runV (As := [.int (nI i)]) (rest := []) ⟨hx, hb, hml, hown, hts⟩ (c_X2_shadow l D cs (x2, u2) (invQ_passN hQ j3 (by omega)).1.1 i (by rw [k_pass]; exact hi)) (cwV 1 hts gL_law_X2_shadow rfl rfl rfl (by decide +kernel) ⟨Nat.le_of_ble_eq_true rfl, Nat.le_of_ble_eq_true rfl⟩) (rb_V hK hN hC (va_recv hK hC (ci := 3) (q0 := 0) rfl rfl)) rfl rfl hl.1 rfl (lv_room (Nat.le_of_ble_eq_true rfl)) dL_law_630 ⟨(show cells + 22 + 0 + 22 + 0 + 0 ≤ 704666 by omega), (show slots + 194 + 0 + 194 + 0 + 0 ≤ 6987184 by omega)⟩)) (fun r hr9 => ?_)
  rw [hr9, ahead_pass hTt (by omega) hi (by omega)]
  refine lv_iload hx hb dL_law_633 (lv_at hl 1 rfl) ?_
  refine lv_icmp_gt (tgt := 657) hx hb dL_law_635 (by decide) (fun c9 => absurd c9 ((hsoon j3 hj3).1)) (fun _ => ?_)
  refine lv_iload hx hb dL_law_638 (lv_at hl 2 rfl) ?_
  refine lv_iload hx hb dL_law_640 (lv_at hl 3 rfl) ?_
  refine lv_icmp_ge (tgt := 659) hx hb dL_law_642 (by decide) (fun c_4 => ?_) (fun c_4 => ?_)
  · refine W.widen (k := cells + 44) (n := slots + 388) (by omega) (by omega) ?_
    exact K ls H locs hP hM hS (lv_sub hl [4, 5, 6, 7, 8, 9, 10, 11, 12] rfl)
  · refine lv_aload hx hb dL_law_645 (lv_at hl 0 rfl) ?_
    refine lv_iload hx hb dL_law_647 (lv_at hl 13 rfl) ?_
    refine vp_callSi (va_Run.run (va_runV (As := [.int (nI i)]) (rest := []) ⟨hx, hb, hml, hown, hts⟩ (c_X2_shadow l D cs (x2, u2) (invQ_passN hQ j3 (by omega)).1.1 i (by rw [k_pass]; exact hi)) (cwV 1 hts gL_law_X2_shadow rfl rfl rfl (by decide +kernel) ⟨Nat.le_of_ble_eq_true rfl, Nat.le_of_ble_eq_true rfl⟩) (rb_V hK hN hC (va_recv hK hC (ci := 3) (q0 := 0) rfl rfl)) rfl rfl hl.1 rfl (lv_room (Nat.le_of_ble_eq_true rfl)) dL_law_649 ⟨(show cells + 22 + 0 + 22 + 0 + 0 ≤ 704666 by omega), (show slots + 194 + 0 + 194 + 0 + 0 ≤ 6987184 by omega)⟩)) (fun r hr9 => ?_)
    rw [hr9, ahead_pass hTt (by omega) hi (by omega)]
    refine lv_iload hx hb dL_law_652 (lv_at hl 1 rfl) ?_
    refine lv_icmp_ne (tgt := 659) hx hb dL_law_654 (by decide) (fun _ => ?_) (fun c9 => absurd c9 ((hsoon j3 hj3).2 ((nI_ltI (by omega) (by omega)).mp (Int32.not_le.mp c_4))))
    refine W.widen (k := cells + 44) (n := slots + 388) (by omega) (by omega) ?_
    exact K ls H locs hP hM hS (lv_sub hl [4, 5, 6, 7, 8, 9, 10, 11, 12] rfl)
