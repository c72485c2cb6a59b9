/-! THE LAW'S CASE: meanShadow (laid by wip/whole/gen/law.py) -/
set_option maxHeartbeats 400000 in
set_option maxRecDepth 100000 in
theorem q_meanShadow {p : Program} {e : Env} {s : State} {m : MethodId} {below : List Frame} {meth : Method} {c : Code} {l : Launch} {b L : Nat} {xs : Nat → Int32} {D : va_G} {cs : Cs} {M : Nat × (Nat → Nat)} {x o e0 : Nat} (E : LwE p s m c l b L xs D cs M o e0) {Q : State → Prop} {d0 : Drawn} (hd0 : s.drawn.sameBut d0 lw_cs) {n9 : Nat} (hn : n9 < 512) (hn2 : 3 * n9 + 3 ≤ L) (hL : L ≤ 1536) {H : Heap} {locs : List Loc} {ls : Array Slot} {cells slots : Nat} (hJ : LwI D cs x M o e0 s.heap.size n9 H) (hS : va_S (fun q => s.heap.size ≤ q) s.heap H locs) (hl : lv_has ls 9 [(0, .ref b), (1, .ref x), (2, .ref M.1), (3, .ref o), (4, .int (nI (3 * n9)))]) (hc1 : cells + 14 ≤ 601024) (hc2 : slots + 148 ≤ 7293034)
    (K : ∀ (ls : Array Slot) (H : Heap) (locs : List Loc) (d : Drawn), s.drawn.sameBut d lw_cs → LwI D cs x M o e0 s.heap.size (n9 + 1) H → va_S (fun q => s.heap.size ≤ q) s.heap H locs → lv_has ls 9 [(0, .ref b), (1, .ref x), (2, .ref M.1), (3, .ref o), (4, .int (nI (3 * n9)))] → W p l e room_1 (s.setDrawn d) m #[.ref b] below meth c H locs (cells + 14) (slots + 148) Q (F0 m 1554 ls [])) :
    W p l e room_1 (s.setDrawn d0) m #[.ref b] below meth c H locs cells slots Q (F0 m 1499 ls []) := by
  obtain ⟨hx, hb, hml, hown, hts, hX, hbl, hK, hN, hT, hNc, hE, hlf, hap2, hMs, hos, hoM⟩ := id E
  obtain ⟨ρ, σ, th, f, rfl, hP, hM, hO, hT0, hap, he0, hown9⟩ := hJ
  have hts0 := hts
  have hK0 := hK
  have hts := dr_words hts d0
  have hN9 := hN
  have hN := dr_N d0 hN
  have hT := dr_T d0 hT
  have hNc := dr_Nc d0 hNc
  have hE := dr_E d0 hE
  have hX : va_X b L xs (s.setDrawn d0) s.heap := hX
  have hK : va_K D vwCl (tyz cs) (s.setDrawn d0) := va_K.moved (u := s) (U := s.setDrawn d0) (Vm.Alike.refl s.vm) hK
  have hI := hT0.1
  have hoB : ¬ ownB ρ (sK σ) o := fun h => (hown9 o h).2.1 rfl
  have hA9 : ∀ q, mdA M H q → s.heap.size ≤ q := fun q h => h.elim (hMs q) (fun h => Nat.le_trans hS.1 h)
  have hB9 : ∀ q, hlA ρ (sK σ) o H q → s.heap.size ≤ q := fun q h => h.elim (fun h => h.elim (fun h => (hown9 q h).2.2) (fun h => Nat.le_trans hS.1 h)) (fun h => by rw [h]; exact hos)
  refine lv_aload_n hx hb dL_law_1499 rfl (lv_at hl 1 rfl) ?_
  refine va_calldD hd0 (va_runV_D (As := []) (rest := []) ⟨hx, hb, hml, hown, hts⟩ (c_X1_meanShadow l D cs ρ hI hap.1 H) (cwV 0 hts gL_law_X1_meanShadow rfl rfl rfl (by decide +kernel) ⟨Nat.le_of_ble_eq_true rfl, Nat.le_of_ble_eq_true rfl⟩) (rb_V hK hN ⟨rfl, hP⟩ (va_recv hK (one_P hP.1) (ci := 2) (q0 := 0) rfl rfl)) rfl rfl hl.1 rfl (lv_room (Nat.le_of_ble_eq_true rfl)) dL_law_1500 ⟨(show cells + 0 ≤ 601024 by omega), (show slots + 0 ≤ 7293034 by omega)⟩) hS (fun q _ h => h.elim) (fun q h => h.elim) (fun p9 u t H1 locs ht hvm hw1 hB hz1 hk1 hS1 d1 hd1 => ?_)
  have hH1 : H1 = H := ht.symm.trans hB
  subst hH1
  have hS := hS1
  have hts := dr_words hts0 d1
  have hN := dr_N d1 hN9
  have hK : va_K D vwCl (tyz cs) (s.setDrawn d1) := va_K.moved (u := s) (U := s.setDrawn d1) (Vm.Alike.refl s.vm) hK0
  refine lv_dstore (lv' := [(5, .double p9), (0, .ref b), (1, .ref (r_h ρ)), (2, .ref M.1), (3, .ref o), (4, .int (nI (3 * n9)))]) hx hb dL_law_1503 hl (by decide) rfl (fun ls hl => ?_)
  refine lv_aload_n hx hb dL_law_1505 rfl (lv_at hl 3 rfl) ?_
  refine va_calldD hd1 (va_runV_D (As := []) (rest := []) ⟨hx, hb, hml, hown, hts⟩ (c_X2_meanShadow l D cs M th hI hap2 H1) (cwV 0 hts gL_law_X2_meanShadow rfl rfl rfl (by decide +kernel) ⟨Nat.le_of_ble_eq_true rfl, Nat.le_of_ble_eq_true rfl⟩) (rb_V hK hN ⟨rfl, hM⟩ (va_recv hK hM (ci := 3) (q0 := 0) rfl rfl)) rfl rfl hl.1 rfl (lv_room (Nat.le_of_ble_eq_true rfl)) dL_law_1506 ⟨(show cells + 0 + 0 ≤ 601024 by omega), (show slots + 0 + 0 ≤ 7293034 by omega)⟩) hS (fun q _ h => h.elim (hMs q) (fun h => Nat.le_trans hS.1 h)) (fun q h => h.elim (hMs q) (fun h => Nat.le_trans hS.1 h)) (fun q9 u2 t2 H2 locs ht2 hvm2 hp hB hz1 hk1 hS d2 hd2 => ?_)
  obtain ⟨hu9, hw2⟩ := hp
  subst hu9
  rw [ht2] at hB
  have hM : va_P D vwCl (modW cs M (nI 0) σ) H2 := hB
  have hP := soc_md hP (fun q h => (hown9 q h).1) hk1
  have hO := out_md hO hoM hk1
  refine lv_dstore (lv' := [(7, .double q9), (5, .double p9), (0, .ref b), (1, .ref (r_h ρ)), (2, .ref M.1), (3, .ref o), (4, .int (nI (3 * n9)))]) hx hb dL_law_1509 hl (by decide) rfl (fun ls hl => ?_)
  refine lv_dload hx hb dL_law_1511 (lv_at hl 1 rfl) ?_
  refine lv_dload hx hb dL_law_1513 (lv_at hl 0 rfl) ?_
  refine lv_dcmp hx hb dL_law_1515 ?_
  rcases mn_cmp hw1 hw2 with h1 | ⟨h1, h2, h3⟩
  · rw [show Op.cmpValue (FP.dcmp p9 q9) CmpOp.l = 0 from by rw [h1]; rfl]
    refine lv_if_eq (tgt := 1537) hx hb dL_law_1516 (by decide) (fun _ => ?_) (fun c9 => absurd rfl c9)
    refine lv_goto (tgt := 1554) hx hb dL_law_1537 (by decide) ?_
    refine W.widen (k := cells + 14) (n := slots + 148) (by omega) (by omega) ?_
    exact K ls _ _ _ hd2 ⟨ρ, σ, (nI 0), f, rfl, hP, hM, hO, invT_le hT0 (by omega) (by omega), hap, he0, hown9⟩ hS (lv_sub hl [2, 3, 4, 5, 6] rfl)
  · rw [show Op.cmpValue (FP.dcmp p9 q9) CmpOp.l = -1 from by rw [h1]; rfl]
    refine lv_if_eq (tgt := 1537) hx hb dL_law_1516 (by decide) (fun c9 => absurd c9 (by decide)) (fun _ => ?_)
    refine lv_dload hx hb dL_law_1519 (lv_at hl 1 rfl) ?_
    refine lv_dload hx hb dL_law_1521 (lv_at hl 1 rfl) ?_
    refine lv_dcmp hx hb dL_law_1523 ?_
    rw [show Op.cmpValue (FP.dcmp p9 p9) CmpOp.l = -1 from by rw [h2]; rfl]
    refine lv_if_eq (tgt := 1535) hx hb dL_law_1524 (by decide) (fun c9 => absurd c9 (by decide)) (fun _ => ?_)
    refine lv_dload hx hb dL_law_1527 (lv_at hl 0 rfl) ?_
    refine lv_dload hx hb dL_law_1529 (lv_at hl 0 rfl) ?_
    refine lv_dcmp hx hb dL_law_1531 ?_
    rw [show Op.cmpValue (FP.dcmp q9 q9) CmpOp.l = -1 from by rw [h3]; rfl]
    refine lv_if_ne (tgt := 1537) hx hb dL_law_1532 (by decide) (fun _ => ?_) (fun c9 => absurd c9 (by decide))
    refine lv_goto (tgt := 1554) hx hb dL_law_1537 (by decide) ?_
    refine W.widen (k := cells + 14) (n := slots + 148) (by omega) (by omega) ?_
    exact K ls _ _ _ hd2 ⟨ρ, σ, (nI 0), f, rfl, hP, hM, hO, invT_le hT0 (by omega) (by omega), hap, he0, hown9⟩ hS (lv_sub hl [2, 3, 4, 5, 6] rfl)
