/-! THE LAW'S CASES: plain reads (laid by wip/whole/gen/law.py) -/
set_option maxHeartbeats 4000000 in
set_option maxRecDepth 100000 in
theorem q_members {p : Program} {e : Env} {s : State} {m : MethodId} {below : List Frame} {meth : Method} {c : Code} {l : Launch} {b L : Nat} {xs : Nat → Int32} {D : va_G} {cs : Cs} {M : Nat × (Nat → Nat)} {x o e0 : Nat} (E : LwE p s m c l b L xs D cs M o e0) {Q : State → Prop} {d0 : Drawn} (hd0 : s.drawn.sameBut d0 lw_cs) {n9 : Nat} (hn : n9 < 512) (hn2 : 3 * n9 + 3 ≤ L) (hL : L ≤ 1536) {H : Heap} {locs : List Loc} {ls : Array Slot} {cells slots : Nat} (hJ : LwI D cs x M o e0 s.heap.size n9 H) (hS : va_S (fun q => s.heap.size ≤ q) s.heap H locs) (hl : lv_has ls 9 [(0, .ref b), (1, .ref x), (2, .ref M.1), (3, .ref o), (4, .int (nI (3 * n9)))]) (hc1 : cells + 14 ≤ 601024) (hc2 : slots + 148 ≤ 7293034)
    (K : ∀ (ls : Array Slot) (H : Heap) (locs : List Loc) (d : Drawn), s.drawn.sameBut d lw_cs → LwI D cs x M o e0 s.heap.size (n9 + 1) H → va_S (fun q => s.heap.size ≤ q) s.heap H locs → lv_has ls 9 [(0, .ref b), (1, .ref x), (2, .ref M.1), (3, .ref o), (4, .int (nI (3 * n9)))] → W p l e room_1 (s.setDrawn d) m #[.ref b] below meth c H locs (cells + 14) (slots + 148) Q (F0 m 1554 ls [])) :
    W p l e room_1 (s.setDrawn d0) m #[.ref b] below meth c H locs cells slots Q (F0 m 608 ls []) := by
  obtain ⟨hx, hb, hml, hown, hts, hX, hbl, hK, hN, hT, hNc, hE, hlf, hap2, hMs, hos, hoM⟩ := id E
  obtain ⟨ρ, σ, th, f, rfl, hP, hM, hO, hT0, hap, he0, hown9⟩ := hJ
  have hts := dr_words hts d0
  have hN9 := hN
  have hN := dr_N d0 hN
  have hT := dr_T d0 hT
  have hNc := dr_Nc d0 hNc
  have hE := dr_E d0 hE
  have hX : va_X b L xs (s.setDrawn d0) s.heap := hX
  have hK : va_K D vwCl (tyz cs) (s.setDrawn d0) := va_K.moved (u := s) (U := s.setDrawn d0) (Vm.Alike.refl s.vm) hK
  have hI := hT0.1
  have hoB : ¬ ownB ρ (sK σ) o := fun h => (hown9 o h).2.1 rfl
  have hA9 : ∀ q, mdA M H q → s.heap.size ≤ q := fun q h => h.elim (hMs q) (fun h => Nat.le_trans hS.1 h)
  have hB9 : ∀ q, hlA ρ (sK σ) o H q → s.heap.size ≤ q := fun q h => h.elim (fun h => h.elim (fun h => (hown9 q h).2.2) (fun h => Nat.le_trans hS.1 h)) (fun h => by rw [h]; exact hos)
  refine lv_aload_n hx hb dL_law_608 rfl (lv_at hl 1 rfl) ?_
  refine vp_callSi (va_Run.run (va_runV (As := []) (rest := []) ⟨hx, hb, hml, hown, hts⟩ (c_X1_members l D cs ρ hI hap.1) (cwV 0 hts gL_law_X1_members rfl rfl rfl (by decide +kernel) ⟨Nat.le_of_ble_eq_true rfl, Nat.le_of_ble_eq_true rfl⟩) (rb_V hK hN hP (va_recv hK (one_P hP.1) (ci := 2) (q0 := 0) rfl rfl)) rfl rfl hl.1 rfl (lv_room (Nat.le_of_ble_eq_true rfl)) dL_law_609 ⟨(show cells + 0 ≤ 601024 by omega), (show slots + 0 ≤ 7293034 by omega)⟩)) (fun r1 h1 => ?_)
  rw [h1]
  refine lv_aload_n hx hb dL_law_612 rfl (lv_at hl 2 rfl) ?_
  refine va_calli (va_runV (As := []) (rest := [.int (nI (sK σ))]) ⟨hx, hb, hml, hown, hts⟩ (c_X2_members l D cs M th hI hap2 H) (cwV 0 hts gL_law_X2_members rfl rfl rfl (by decide +kernel) ⟨Nat.le_of_ble_eq_true rfl, Nat.le_of_ble_eq_true rfl⟩) (rb_V hK hN ⟨rfl, hM⟩ (va_recv hK hM (ci := 3) (q0 := 0) rfl rfl)) rfl rfl hl.1 rfl (lv_room (Nat.le_of_ble_eq_true rfl)) dL_law_613 ⟨(show cells + 0 ≤ 601024 by omega), (show slots + 0 ≤ 7293034 by omega)⟩) hS (fun q _ h => h.elim (hMs q) (fun h => Nat.le_trans hS.1 h)) (fun q h => h.elim (hMs q) (fun h => Nat.le_trans hS.1 h)) (fun r2 u2 t H1 locs ht hvm hp hB hz1 hk1 hS => ?_)
  have hp9 : u2 = ((((0, nI (sK σ)) : Nat × Int32)).1, σ) ∧ ((((0, nI (sK σ)) : Nat × Int32)).1 = 0 → r2 = (((0, nI (sK σ)) : Nat × Int32)).2) := hp
  obtain ⟨hu9, hr2⟩ := hp9
  subst hu9
  rw [ht] at hB
  have hM : va_P D vwCl (modW cs M (nI (((0, nI (sK σ)) : Nat × Int32)).1) (σ)) H1 := hB
  have hP := soc_md hP (fun q h => (hown9 q h).1) hk1
  have hO := out_md hO hoM hk1
  have hr2 : r2 = nI (sK σ) := hr2 rfl
  rw [hr2]
  refine lv_icmp_eq (tgt := 1554) hx hb dL_law_616 (by decide) (fun _ => ?_) (fun c9 => absurd (rfl) c9)
  refine W.widen (k := cells + 14) (n := slots + 148) (by omega) (by omega) ?_
  exact K ls _ _ _ hd0 ⟨ρ, σ, (nI (((0, nI (sK σ)) : Nat × Int32)).1), f, rfl, hP, hM, hO, invT_le hT0 (by omega) (by omega), hap, he0, hown9⟩ hS (lv_sub hl [0, 1, 2, 3, 4] rfl)
set_option maxHeartbeats 4000000 in
set_option maxRecDepth 100000 in
theorem q_hour {p : Program} {e : Env} {s : State} {m : MethodId} {below : List Frame} {meth : Method} {c : Code} {l : Launch} {b L : Nat} {xs : Nat → Int32} {D : va_G} {cs : Cs} {M : Nat × (Nat → Nat)} {x o e0 : Nat} (E : LwE p s m c l b L xs D cs M o e0) {Q : State → Prop} {d0 : Drawn} (hd0 : s.drawn.sameBut d0 lw_cs) {n9 : Nat} (hn : n9 < 512) (hn2 : 3 * n9 + 3 ≤ L) (hL : L ≤ 1536) {H : Heap} {locs : List Loc} {ls : Array Slot} {cells slots : Nat} (hJ : LwI D cs x M o e0 s.heap.size n9 H) (hS : va_S (fun q => s.heap.size ≤ q) s.heap H locs) (hl : lv_has ls 9 [(0, .ref b), (1, .ref x), (2, .ref M.1), (3, .ref o), (4, .int (nI (3 * n9)))]) (hc1 : cells + 14 ≤ 601024) (hc2 : slots + 148 ≤ 7293034)
    (K : ∀ (ls : Array Slot) (H : Heap) (locs : List Loc) (d : Drawn), s.drawn.sameBut d lw_cs → LwI D cs x M o e0 s.heap.size (n9 + 1) H → va_S (fun q => s.heap.size ≤ q) s.heap H locs → lv_has ls 9 [(0, .ref b), (1, .ref x), (2, .ref M.1), (3, .ref o), (4, .int (nI (3 * n9)))] → W p l e room_1 (s.setDrawn d) m #[.ref b] below meth c H locs (cells + 14) (slots + 148) Q (F0 m 1554 ls [])) :
    W p l e room_1 (s.setDrawn d0) m #[.ref b] below meth c H locs cells slots Q (F0 m 621 ls []) := by
  obtain ⟨hx, hb, hml, hown, hts, hX, hbl, hK, hN, hT, hNc, hE, hlf, hap2, hMs, hos, hoM⟩ := id E
  obtain ⟨ρ, σ, th, f, rfl, hP, hM, hO, hT0, hap, he0, hown9⟩ := hJ
  have hts := dr_words hts d0
  have hN9 := hN
  have hN := dr_N d0 hN
  have hT := dr_T d0 hT
  have hNc := dr_Nc d0 hNc
  have hE := dr_E d0 hE
  have hX : va_X b L xs (s.setDrawn d0) s.heap := hX
  have hK : va_K D vwCl (tyz cs) (s.setDrawn d0) := va_K.moved (u := s) (U := s.setDrawn d0) (Vm.Alike.refl s.vm) hK
  have hI := hT0.1
  have hoB : ¬ ownB ρ (sK σ) o := fun h => (hown9 o h).2.1 rfl
  have hA9 : ∀ q, mdA M H q → s.heap.size ≤ q := fun q h => h.elim (hMs q) (fun h => Nat.le_trans hS.1 h)
  have hB9 : ∀ q, hlA ρ (sK σ) o H q → s.heap.size ≤ q := fun q h => h.elim (fun h => h.elim (fun h => (hown9 q h).2.2) (fun h => Nat.le_trans hS.1 h)) (fun h => by rw [h]; exact hos)
  refine lv_aload_n hx hb dL_law_621 rfl (lv_at hl 1 rfl) ?_
  refine vp_callSi (va_Run.run (va_runV (As := []) (rest := []) ⟨hx, hb, hml, hown, hts⟩ (c_X1_hour l D cs ρ hI hap.1) (cwV 0 hts gL_law_X1_hour rfl rfl rfl (by decide +kernel) ⟨Nat.le_of_ble_eq_true rfl, Nat.le_of_ble_eq_true rfl⟩) (rb_V hK hN hP (va_recv hK (one_P hP.1) (ci := 2) (q0 := 0) rfl rfl)) rfl rfl hl.1 rfl (lv_room (Nat.le_of_ble_eq_true rfl)) dL_law_622 ⟨(show cells + 0 ≤ 601024 by omega), (show slots + 0 ≤ 7293034 by omega)⟩)) (fun r1 h1 => ?_)
  rw [h1]
  refine lv_aload_n hx hb dL_law_625 rfl (lv_at hl 2 rfl) ?_
  refine va_calli (va_runV (As := []) (rest := [.int (sHr σ)]) ⟨hx, hb, hml, hown, hts⟩ (c_X2_hour l D cs M th hI hap2 H) (cwV 0 hts gL_law_X2_hour rfl rfl rfl (by decide +kernel) ⟨Nat.le_of_ble_eq_true rfl, Nat.le_of_ble_eq_true rfl⟩) (rb_V hK hN ⟨rfl, hM⟩ (va_recv hK hM (ci := 3) (q0 := 0) rfl rfl)) rfl rfl hl.1 rfl (lv_room (Nat.le_of_ble_eq_true rfl)) dL_law_626 ⟨(show cells + 0 ≤ 601024 by omega), (show slots + 0 ≤ 7293034 by omega)⟩) hS (fun q _ h => h.elim (hMs q) (fun h => Nat.le_trans hS.1 h)) (fun q h => h.elim (hMs q) (fun h => Nat.le_trans hS.1 h)) (fun r2 u2 t H1 locs ht hvm hp hB hz1 hk1 hS => ?_)
  have hp9 : u2 = ((((0, sHr σ) : Nat × Int32)).1, σ) ∧ ((((0, sHr σ) : Nat × Int32)).1 = 0 → r2 = (((0, sHr σ) : Nat × Int32)).2) := hp
  obtain ⟨hu9, hr2⟩ := hp9
  subst hu9
  rw [ht] at hB
  have hM : va_P D vwCl (modW cs M (nI (((0, sHr σ) : Nat × Int32)).1) (σ)) H1 := hB
  have hP := soc_md hP (fun q h => (hown9 q h).1) hk1
  have hO := out_md hO hoM hk1
  have hr2 : r2 = sHr σ := hr2 rfl
  rw [hr2]
  refine lv_icmp_eq (tgt := 1554) hx hb dL_law_629 (by decide) (fun _ => ?_) (fun c9 => absurd (rfl) c9)
  refine W.widen (k := cells + 14) (n := slots + 148) (by omega) (by omega) ?_
  exact K ls _ _ _ hd0 ⟨ρ, σ, (nI (((0, sHr σ) : Nat × Int32)).1), f, rfl, hP, hM, hO, invT_le hT0 (by omega) (by omega), hap, he0, hown9⟩ hS (lv_sub hl [0, 1, 2, 3, 4] rfl)
set_option maxHeartbeats 4000000 in
set_option maxRecDepth 100000 in
theorem q_hourOfDay {p : Program} {e : Env} {s : State} {m : MethodId} {below : List Frame} {meth : Method} {c : Code} {l : Launch} {b L : Nat} {xs : Nat → Int32} {D : va_G} {cs : Cs} {M : Nat × (Nat → Nat)} {x o e0 : Nat} (E : LwE p s m c l b L xs D cs M o e0) {Q : State → Prop} {d0 : Drawn} (hd0 : s.drawn.sameBut d0 lw_cs) {n9 : Nat} (hn : n9 < 512) (hn2 : 3 * n9 + 3 ≤ L) (hL : L ≤ 1536) {H : Heap} {locs : List Loc} {ls : Array Slot} {cells slots : Nat} (hJ : LwI D cs x M o e0 s.heap.size n9 H) (hS : va_S (fun q => s.heap.size ≤ q) s.heap H locs) (hl : lv_has ls 9 [(0, .ref b), (1, .ref x), (2, .ref M.1), (3, .ref o), (4, .int (nI (3 * n9)))]) (hc1 : cells + 14 ≤ 601024) (hc2 : slots + 148 ≤ 7293034)
    (K : ∀ (ls : Array Slot) (H : Heap) (locs : List Loc) (d : Drawn), s.drawn.sameBut d lw_cs → LwI D cs x M o e0 s.heap.size (n9 + 1) H → va_S (fun q => s.heap.size ≤ q) s.heap H locs → lv_has ls 9 [(0, .ref b), (1, .ref x), (2, .ref M.1), (3, .ref o), (4, .int (nI (3 * n9)))] → W p l e room_1 (s.setDrawn d) m #[.ref b] below meth c H locs (cells + 14) (slots + 148) Q (F0 m 1554 ls [])) :
    W p l e room_1 (s.setDrawn d0) m #[.ref b] below meth c H locs cells slots Q (F0 m 634 ls []) := by
  obtain ⟨hx, hb, hml, hown, hts, hX, hbl, hK, hN, hT, hNc, hE, hlf, hap2, hMs, hos, hoM⟩ := id E
  obtain ⟨ρ, σ, th, f, rfl, hP, hM, hO, hT0, hap, he0, hown9⟩ := hJ
  have hts := dr_words hts d0
  have hN9 := hN
  have hN := dr_N d0 hN
  have hT := dr_T d0 hT
  have hNc := dr_Nc d0 hNc
  have hE := dr_E d0 hE
  have hX : va_X b L xs (s.setDrawn d0) s.heap := hX
  have hK : va_K D vwCl (tyz cs) (s.setDrawn d0) := va_K.moved (u := s) (U := s.setDrawn d0) (Vm.Alike.refl s.vm) hK
  have hI := hT0.1
  have hoB : ¬ ownB ρ (sK σ) o := fun h => (hown9 o h).2.1 rfl
  have hA9 : ∀ q, mdA M H q → s.heap.size ≤ q := fun q h => h.elim (hMs q) (fun h => Nat.le_trans hS.1 h)
  have hB9 : ∀ q, hlA ρ (sK σ) o H q → s.heap.size ≤ q := fun q h => h.elim (fun h => h.elim (fun h => (hown9 q h).2.2) (fun h => Nat.le_trans hS.1 h)) (fun h => by rw [h]; exact hos)
  refine lv_aload_n hx hb dL_law_634 rfl (lv_at hl 1 rfl) ?_
  refine vp_callSi (va_Run.run (va_runV (As := []) (rest := []) ⟨hx, hb, hml, hown, hts⟩ (c_X1_hourOfDay l D cs ρ hI hap.1) (cwV 0 hts gL_law_X1_hourOfDay rfl rfl rfl (by decide +kernel) ⟨Nat.le_of_ble_eq_true rfl, Nat.le_of_ble_eq_true rfl⟩) (rb_V hK hN hP (va_recv hK (one_P hP.1) (ci := 2) (q0 := 0) rfl rfl)) rfl rfl hl.1 rfl (lv_room (Nat.le_of_ble_eq_true rfl)) dL_law_635 ⟨(show cells + 0 ≤ 601024 by omega), (show slots + 0 ≤ 7293034 by omega)⟩)) (fun r1 h1 => ?_)
  rw [h1]
  refine lv_aload_n hx hb dL_law_638 rfl (lv_at hl 2 rfl) ?_
  refine va_calli (va_runV (As := []) (rest := [.int (dayOf σ)]) ⟨hx, hb, hml, hown, hts⟩ (c_X2_hourOfDay l D cs M th hI hap2 H) (cwV 0 hts gL_law_X2_hourOfDay rfl rfl rfl (by decide +kernel) ⟨Nat.le_of_ble_eq_true rfl, Nat.le_of_ble_eq_true rfl⟩) (rb_V hK hN ⟨rfl, hM⟩ (va_recv hK hM (ci := 3) (q0 := 0) rfl rfl)) rfl rfl hl.1 rfl (lv_room (Nat.le_of_ble_eq_true rfl)) dL_law_639 ⟨(show cells + 0 ≤ 601024 by omega), (show slots + 0 ≤ 7293034 by omega)⟩) hS (fun q _ h => h.elim (hMs q) (fun h => Nat.le_trans hS.1 h)) (fun q h => h.elim (hMs q) (fun h => Nat.le_trans hS.1 h)) (fun r2 u2 t H1 locs ht hvm hp hB hz1 hk1 hS => ?_)
  have hp9 : u2 = ((((0, dayOf σ) : Nat × Int32)).1, σ) ∧ ((((0, dayOf σ) : Nat × Int32)).1 = 0 → r2 = (((0, dayOf σ) : Nat × Int32)).2) := hp
  obtain ⟨hu9, hr2⟩ := hp9
  subst hu9
  rw [ht] at hB
  have hM : va_P D vwCl (modW cs M (nI (((0, dayOf σ) : Nat × Int32)).1) (σ)) H1 := hB
  have hP := soc_md hP (fun q h => (hown9 q h).1) hk1
  have hO := out_md hO hoM hk1
  have hr2 : r2 = dayOf σ := hr2 rfl
  rw [hr2]
  refine lv_icmp_eq (tgt := 1554) hx hb dL_law_642 (by decide) (fun _ => ?_) (fun c9 => absurd (rfl) c9)
  refine W.widen (k := cells + 14) (n := slots + 148) (by omega) (by omega) ?_
  exact K ls _ _ _ hd0 ⟨ρ, σ, (nI (((0, dayOf σ) : Nat × Int32)).1), f, rfl, hP, hM, hO, invT_le hT0 (by omega) (by omega), hap, he0, hown9⟩ hS (lv_sub hl [0, 1, 2, 3, 4] rfl)
set_option maxHeartbeats 4000000 in
set_option maxRecDepth 100000 in
theorem q_seized {p : Program} {e : Env} {s : State} {m : MethodId} {below : List Frame} {meth : Method} {c : Code} {l : Launch} {b L : Nat} {xs : Nat → Int32} {D : va_G} {cs : Cs} {M : Nat × (Nat → Nat)} {x o e0 : Nat} (E : LwE p s m c l b L xs D cs M o e0) {Q : State → Prop} {d0 : Drawn} (hd0 : s.drawn.sameBut d0 lw_cs) {n9 : Nat} (hn : n9 < 512) (hn2 : 3 * n9 + 3 ≤ L) (hL : L ≤ 1536) {H : Heap} {locs : List Loc} {ls : Array Slot} {cells slots : Nat} (hJ : LwI D cs x M o e0 s.heap.size n9 H) (hS : va_S (fun q => s.heap.size ≤ q) s.heap H locs) (hl : lv_has ls 9 [(0, .ref b), (1, .ref x), (2, .ref M.1), (3, .ref o), (4, .int (nI (3 * n9)))]) (hc1 : cells + 14 ≤ 601024) (hc2 : slots + 148 ≤ 7293034)
    (K : ∀ (ls : Array Slot) (H : Heap) (locs : List Loc) (d : Drawn), s.drawn.sameBut d lw_cs → LwI D cs x M o e0 s.heap.size (n9 + 1) H → va_S (fun q => s.heap.size ≤ q) s.heap H locs → lv_has ls 9 [(0, .ref b), (1, .ref x), (2, .ref M.1), (3, .ref o), (4, .int (nI (3 * n9)))] → W p l e room_1 (s.setDrawn d) m #[.ref b] below meth c H locs (cells + 14) (slots + 148) Q (F0 m 1554 ls [])) :
    W p l e room_1 (s.setDrawn d0) m #[.ref b] below meth c H locs cells slots Q (F0 m 647 ls []) := by
  obtain ⟨hx, hb, hml, hown, hts, hX, hbl, hK, hN, hT, hNc, hE, hlf, hap2, hMs, hos, hoM⟩ := id E
  obtain ⟨ρ, σ, th, f, rfl, hP, hM, hO, hT0, hap, he0, hown9⟩ := hJ
  have hts := dr_words hts d0
  have hN9 := hN
  have hN := dr_N d0 hN
  have hT := dr_T d0 hT
  have hNc := dr_Nc d0 hNc
  have hE := dr_E d0 hE
  have hX : va_X b L xs (s.setDrawn d0) s.heap := hX
  have hK : va_K D vwCl (tyz cs) (s.setDrawn d0) := va_K.moved (u := s) (U := s.setDrawn d0) (Vm.Alike.refl s.vm) hK
  have hI := hT0.1
  have hoB : ¬ ownB ρ (sK σ) o := fun h => (hown9 o h).2.1 rfl
  have hA9 : ∀ q, mdA M H q → s.heap.size ≤ q := fun q h => h.elim (hMs q) (fun h => Nat.le_trans hS.1 h)
  have hB9 : ∀ q, hlA ρ (sK σ) o H q → s.heap.size ≤ q := fun q h => h.elim (fun h => h.elim (fun h => (hown9 q h).2.2) (fun h => Nat.le_trans hS.1 h)) (fun h => by rw [h]; exact hos)
  refine lv_aload_n hx hb dL_law_647 rfl (lv_at hl 1 rfl) ?_
  refine vp_callSi (va_Run.run (va_runV (As := []) (rest := []) ⟨hx, hb, hml, hown, hts⟩ (c_X1_seized l D cs ρ hI hap.1) (cwV 0 hts gL_law_X1_seized rfl rfl rfl (by decide +kernel) ⟨Nat.le_of_ble_eq_true rfl, Nat.le_of_ble_eq_true rfl⟩) (rb_V hK hN hP (va_recv hK (one_P hP.1) (ci := 2) (q0 := 0) rfl rfl)) rfl rfl hl.1 rfl (lv_room (Nat.le_of_ble_eq_true rfl)) dL_law_648 ⟨(show cells + 0 ≤ 601024 by omega), (show slots + 0 ≤ 7293034 by omega)⟩)) (fun r1 h1 => ?_)
  rw [h1]
  refine lv_aload_n hx hb dL_law_651 rfl (lv_at hl 2 rfl) ?_
  refine va_calli (va_runV (As := []) (rest := [.int (sSz σ)]) ⟨hx, hb, hml, hown, hts⟩ (c_X2_seized l D cs M th hI hap2 H) (cwV 0 hts gL_law_X2_seized rfl rfl rfl (by decide +kernel) ⟨Nat.le_of_ble_eq_true rfl, Nat.le_of_ble_eq_true rfl⟩) (rb_V hK hN ⟨rfl, hM⟩ (va_recv hK hM (ci := 3) (q0 := 0) rfl rfl)) rfl rfl hl.1 rfl (lv_room (Nat.le_of_ble_eq_true rfl)) dL_law_652 ⟨(show cells + 0 ≤ 601024 by omega), (show slots + 0 ≤ 7293034 by omega)⟩) hS (fun q _ h => h.elim (hMs q) (fun h => Nat.le_trans hS.1 h)) (fun q h => h.elim (hMs q) (fun h => Nat.le_trans hS.1 h)) (fun r2 u2 t H1 locs ht hvm hp hB hz1 hk1 hS => ?_)
  have hp9 : u2 = ((((0, sSz σ) : Nat × Int32)).1, σ) ∧ ((((0, sSz σ) : Nat × Int32)).1 = 0 → r2 = (((0, sSz σ) : Nat × Int32)).2) := hp
  obtain ⟨hu9, hr2⟩ := hp9
  subst hu9
  rw [ht] at hB
  have hM : va_P D vwCl (modW cs M (nI (((0, sSz σ) : Nat × Int32)).1) (σ)) H1 := hB
  have hP := soc_md hP (fun q h => (hown9 q h).1) hk1
  have hO := out_md hO hoM hk1
  have hr2 : r2 = sSz σ := hr2 rfl
  rw [hr2]
  refine lv_icmp_eq (tgt := 1554) hx hb dL_law_655 (by decide) (fun _ => ?_) (fun c9 => absurd (rfl) c9)
  refine W.widen (k := cells + 14) (n := slots + 148) (by omega) (by omega) ?_
  exact K ls _ _ _ hd0 ⟨ρ, σ, (nI (((0, sSz σ) : Nat × Int32)).1), f, rfl, hP, hM, hO, invT_le hT0 (by omega) (by omega), hap, he0, hown9⟩ hS (lv_sub hl [0, 1, 2, 3, 4] rfl)
set_option maxHeartbeats 4000000 in
set_option maxRecDepth 100000 in
theorem q_revoked {p : Program} {e : Env} {s : State} {m : MethodId} {below : List Frame} {meth : Method} {c : Code} {l : Launch} {b L : Nat} {xs : Nat → Int32} {D : va_G} {cs : Cs} {M : Nat × (Nat → Nat)} {x o e0 : Nat} (E : LwE p s m c l b L xs D cs M o e0) {Q : State → Prop} {d0 : Drawn} (hd0 : s.drawn.sameBut d0 lw_cs) {n9 : Nat} (hn : n9 < 512) (hn2 : 3 * n9 + 3 ≤ L) (hL : L ≤ 1536) {H : Heap} {locs : List Loc} {ls : Array Slot} {cells slots : Nat} (hJ : LwI D cs x M o e0 s.heap.size n9 H) (hS : va_S (fun q => s.heap.size ≤ q) s.heap H locs) (hl : lv_has ls 9 [(0, .ref b), (1, .ref x), (2, .ref M.1), (3, .ref o), (4, .int (nI (3 * n9)))]) (hc1 : cells + 14 ≤ 601024) (hc2 : slots + 148 ≤ 7293034)
    (K : ∀ (ls : Array Slot) (H : Heap) (locs : List Loc) (d : Drawn), s.drawn.sameBut d lw_cs → LwI D cs x M o e0 s.heap.size (n9 + 1) H → va_S (fun q => s.heap.size ≤ q) s.heap H locs → lv_has ls 9 [(0, .ref b), (1, .ref x), (2, .ref M.1), (3, .ref o), (4, .int (nI (3 * n9)))] → W p l e room_1 (s.setDrawn d) m #[.ref b] below meth c H locs (cells + 14) (slots + 148) Q (F0 m 1554 ls [])) :
    W p l e room_1 (s.setDrawn d0) m #[.ref b] below meth c H locs cells slots Q (F0 m 660 ls []) := by
  obtain ⟨hx, hb, hml, hown, hts, hX, hbl, hK, hN, hT, hNc, hE, hlf, hap2, hMs, hos, hoM⟩ := id E
  obtain ⟨ρ, σ, th, f, rfl, hP, hM, hO, hT0, hap, he0, hown9⟩ := hJ
  have hts := dr_words hts d0
  have hN9 := hN
  have hN := dr_N d0 hN
  have hT := dr_T d0 hT
  have hNc := dr_Nc d0 hNc
  have hE := dr_E d0 hE
  have hX : va_X b L xs (s.setDrawn d0) s.heap := hX
  have hK : va_K D vwCl (tyz cs) (s.setDrawn d0) := va_K.moved (u := s) (U := s.setDrawn d0) (Vm.Alike.refl s.vm) hK
  have hI := hT0.1
  have hoB : ¬ ownB ρ (sK σ) o := fun h => (hown9 o h).2.1 rfl
  have hA9 : ∀ q, mdA M H q → s.heap.size ≤ q := fun q h => h.elim (hMs q) (fun h => Nat.le_trans hS.1 h)
  have hB9 : ∀ q, hlA ρ (sK σ) o H q → s.heap.size ≤ q := fun q h => h.elim (fun h => h.elim (fun h => (hown9 q h).2.2) (fun h => Nat.le_trans hS.1 h)) (fun h => by rw [h]; exact hos)
  refine lv_aload_n hx hb dL_law_660 rfl (lv_at hl 1 rfl) ?_
  refine vp_callSi (va_Run.run (va_runV (As := []) (rest := []) ⟨hx, hb, hml, hown, hts⟩ (c_X1_revoked l D cs ρ hI hap.1) (cwV 0 hts gL_law_X1_revoked rfl rfl rfl (by decide +kernel) ⟨Nat.le_of_ble_eq_true rfl, Nat.le_of_ble_eq_true rfl⟩) (rb_V hK hN hP (va_recv hK (one_P hP.1) (ci := 2) (q0 := 0) rfl rfl)) rfl rfl hl.1 rfl (lv_room (Nat.le_of_ble_eq_true rfl)) dL_law_661 ⟨(show cells + 0 ≤ 601024 by omega), (show slots + 0 ≤ 7293034 by omega)⟩)) (fun r1 h1 => ?_)
  rw [h1]
  refine lv_aload_n hx hb dL_law_664 rfl (lv_at hl 2 rfl) ?_
  refine va_calli (va_runV (As := []) (rest := [.int (sRv σ)]) ⟨hx, hb, hml, hown, hts⟩ (c_X2_revoked l D cs M th hI hap2 H) (cwV 0 hts gL_law_X2_revoked rfl rfl rfl (by decide +kernel) ⟨Nat.le_of_ble_eq_true rfl, Nat.le_of_ble_eq_true rfl⟩) (rb_V hK hN ⟨rfl, hM⟩ (va_recv hK hM (ci := 3) (q0 := 0) rfl rfl)) rfl rfl hl.1 rfl (lv_room (Nat.le_of_ble_eq_true rfl)) dL_law_665 ⟨(show cells + 0 ≤ 601024 by omega), (show slots + 0 ≤ 7293034 by omega)⟩) hS (fun q _ h => h.elim (hMs q) (fun h => Nat.le_trans hS.1 h)) (fun q h => h.elim (hMs q) (fun h => Nat.le_trans hS.1 h)) (fun r2 u2 t H1 locs ht hvm hp hB hz1 hk1 hS => ?_)
  have hp9 : u2 = ((((0, sRv σ) : Nat × Int32)).1, σ) ∧ ((((0, sRv σ) : Nat × Int32)).1 = 0 → r2 = (((0, sRv σ) : Nat × Int32)).2) := hp
  obtain ⟨hu9, hr2⟩ := hp9
  subst hu9
  rw [ht] at hB
  have hM : va_P D vwCl (modW cs M (nI (((0, sRv σ) : Nat × Int32)).1) (σ)) H1 := hB
  have hP := soc_md hP (fun q h => (hown9 q h).1) hk1
  have hO := out_md hO hoM hk1
  have hr2 : r2 = sRv σ := hr2 rfl
  rw [hr2]
  refine lv_icmp_eq (tgt := 1554) hx hb dL_law_668 (by decide) (fun _ => ?_) (fun c9 => absurd (rfl) c9)
  refine W.widen (k := cells + 14) (n := slots + 148) (by omega) (by omega) ?_
  exact K ls _ _ _ hd0 ⟨ρ, σ, (nI (((0, sRv σ) : Nat × Int32)).1), f, rfl, hP, hM, hO, invT_le hT0 (by omega) (by omega), hap, he0, hown9⟩ hS (lv_sub hl [0, 1, 2, 3, 4] rfl)
set_option maxHeartbeats 4000000 in
set_option maxRecDepth 100000 in
theorem q_certificates {p : Program} {e : Env} {s : State} {m : MethodId} {below : List Frame} {meth : Method} {c : Code} {l : Launch} {b L : Nat} {xs : Nat → Int32} {D : va_G} {cs : Cs} {M : Nat × (Nat → Nat)} {x o e0 : Nat} (E : LwE p s m c l b L xs D cs M o e0) {Q : State → Prop} {d0 : Drawn} (hd0 : s.drawn.sameBut d0 lw_cs) {n9 : Nat} (hn : n9 < 512) (hn2 : 3 * n9 + 3 ≤ L) (hL : L ≤ 1536) {H : Heap} {locs : List Loc} {ls : Array Slot} {cells slots : Nat} (hJ : LwI D cs x M o e0 s.heap.size n9 H) (hS : va_S (fun q => s.heap.size ≤ q) s.heap H locs) (hl : lv_has ls 9 [(0, .ref b), (1, .ref x), (2, .ref M.1), (3, .ref o), (4, .int (nI (3 * n9)))]) (hc1 : cells + 14 ≤ 601024) (hc2 : slots + 148 ≤ 7293034)
    (K : ∀ (ls : Array Slot) (H : Heap) (locs : List Loc) (d : Drawn), s.drawn.sameBut d lw_cs → LwI D cs x M o e0 s.heap.size (n9 + 1) H → va_S (fun q => s.heap.size ≤ q) s.heap H locs → lv_has ls 9 [(0, .ref b), (1, .ref x), (2, .ref M.1), (3, .ref o), (4, .int (nI (3 * n9)))] → W p l e room_1 (s.setDrawn d) m #[.ref b] below meth c H locs (cells + 14) (slots + 148) Q (F0 m 1554 ls [])) :
    W p l e room_1 (s.setDrawn d0) m #[.ref b] below meth c H locs cells slots Q (F0 m 673 ls []) := by
  obtain ⟨hx, hb, hml, hown, hts, hX, hbl, hK, hN, hT, hNc, hE, hlf, hap2, hMs, hos, hoM⟩ := id E
  obtain ⟨ρ, σ, th, f, rfl, hP, hM, hO, hT0, hap, he0, hown9⟩ := hJ
  have hts := dr_words hts d0
  have hN9 := hN
  have hN := dr_N d0 hN
  have hT := dr_T d0 hT
  have hNc := dr_Nc d0 hNc
  have hE := dr_E d0 hE
  have hX : va_X b L xs (s.setDrawn d0) s.heap := hX
  have hK : va_K D vwCl (tyz cs) (s.setDrawn d0) := va_K.moved (u := s) (U := s.setDrawn d0) (Vm.Alike.refl s.vm) hK
  have hI := hT0.1
  have hoB : ¬ ownB ρ (sK σ) o := fun h => (hown9 o h).2.1 rfl
  have hA9 : ∀ q, mdA M H q → s.heap.size ≤ q := fun q h => h.elim (hMs q) (fun h => Nat.le_trans hS.1 h)
  have hB9 : ∀ q, hlA ρ (sK σ) o H q → s.heap.size ≤ q := fun q h => h.elim (fun h => h.elim (fun h => (hown9 q h).2.2) (fun h => Nat.le_trans hS.1 h)) (fun h => by rw [h]; exact hos)
  refine lv_aload_n hx hb dL_law_673 rfl (lv_at hl 1 rfl) ?_
  refine vp_callSi (va_Run.run (va_runV (As := []) (rest := []) ⟨hx, hb, hml, hown, hts⟩ (c_X1_certificates l D cs ρ hI hap.1) (cwV 0 hts gL_law_X1_certificates rfl rfl rfl (by decide +kernel) ⟨Nat.le_of_ble_eq_true rfl, Nat.le_of_ble_eq_true rfl⟩) (rb_V hK hN hP (va_recv hK (one_P hP.1) (ci := 2) (q0 := 0) rfl rfl)) rfl rfl hl.1 rfl (lv_room (Nat.le_of_ble_eq_true rfl)) dL_law_674 ⟨(show cells + 0 ≤ 601024 by omega), (show slots + 0 ≤ 7293034 by omega)⟩)) (fun r1 h1 => ?_)
  rw [h1]
  refine lv_aload_n hx hb dL_law_677 rfl (lv_at hl 2 rfl) ?_
  refine va_calli (va_runV (As := []) (rest := [.int (certsS σ)]) ⟨hx, hb, hml, hown, hts⟩ (c_X2_certificates_ l D cs M th hI hap2 H) (cwV 0 hts gL_law_X2_certificates_ rfl rfl rfl (by decide +kernel) ⟨Nat.le_of_ble_eq_true rfl, Nat.le_of_ble_eq_true rfl⟩) (rb_V hK hN ⟨rfl, hM⟩ (va_recv hK hM (ci := 3) (q0 := 0) rfl rfl)) rfl rfl hl.1 rfl (lv_room (Nat.le_of_ble_eq_true rfl)) dL_law_678 ⟨(show cells + 0 ≤ 601024 by omega), (show slots + 0 ≤ 7293034 by omega)⟩) hS (fun q _ h => h.elim (hMs q) (fun h => Nat.le_trans hS.1 h)) (fun q h => h.elim (hMs q) (fun h => Nat.le_trans hS.1 h)) (fun r2 u2 t H1 locs ht hvm hp hB hz1 hk1 hS => ?_)
  have hp9 : u2 = ((((0, certsS σ) : Nat × Int32)).1, σ) ∧ ((((0, certsS σ) : Nat × Int32)).1 = 0 → r2 = (((0, certsS σ) : Nat × Int32)).2) := hp
  obtain ⟨hu9, hr2⟩ := hp9
  subst hu9
  rw [ht] at hB
  have hM : va_P D vwCl (modW cs M (nI (((0, certsS σ) : Nat × Int32)).1) (σ)) H1 := hB
  have hP := soc_md hP (fun q h => (hown9 q h).1) hk1
  have hO := out_md hO hoM hk1
  have hr2 : r2 = certsS σ := hr2 rfl
  rw [hr2]
  refine lv_icmp_eq (tgt := 1554) hx hb dL_law_681 (by decide) (fun _ => ?_) (fun c9 => absurd (rfl) c9)
  refine W.widen (k := cells + 14) (n := slots + 148) (by omega) (by omega) ?_
  exact K ls _ _ _ hd0 ⟨ρ, σ, (nI (((0, certsS σ) : Nat × Int32)).1), f, rfl, hP, hM, hO, invT_le hT0 (by omega) (by omega), hap, he0, hown9⟩ hS (lv_sub hl [0, 1, 2, 3, 4] rfl)
set_option maxHeartbeats 4000000 in
set_option maxRecDepth 100000 in
theorem q_honestOnes {p : Program} {e : Env} {s : State} {m : MethodId} {below : List Frame} {meth : Method} {c : Code} {l : Launch} {b L : Nat} {xs : Nat → Int32} {D : va_G} {cs : Cs} {M : Nat × (Nat → Nat)} {x o e0 : Nat} (E : LwE p s m c l b L xs D cs M o e0) {Q : State → Prop} {d0 : Drawn} (hd0 : s.drawn.sameBut d0 lw_cs) {n9 : Nat} (hn : n9 < 512) (hn2 : 3 * n9 + 3 ≤ L) (hL : L ≤ 1536) {H : Heap} {locs : List Loc} {ls : Array Slot} {cells slots : Nat} (hJ : LwI D cs x M o e0 s.heap.size n9 H) (hS : va_S (fun q => s.heap.size ≤ q) s.heap H locs) (hl : lv_has ls 9 [(0, .ref b), (1, .ref x), (2, .ref M.1), (3, .ref o), (4, .int (nI (3 * n9)))]) (hc1 : cells + 14 ≤ 601024) (hc2 : slots + 148 ≤ 7293034)
    (K : ∀ (ls : Array Slot) (H : Heap) (locs : List Loc) (d : Drawn), s.drawn.sameBut d lw_cs → LwI D cs x M o e0 s.heap.size (n9 + 1) H → va_S (fun q => s.heap.size ≤ q) s.heap H locs → lv_has ls 9 [(0, .ref b), (1, .ref x), (2, .ref M.1), (3, .ref o), (4, .int (nI (3 * n9)))] → W p l e room_1 (s.setDrawn d) m #[.ref b] below meth c H locs (cells + 14) (slots + 148) Q (F0 m 1554 ls [])) :
    W p l e room_1 (s.setDrawn d0) m #[.ref b] below meth c H locs cells slots Q (F0 m 686 ls []) := by
  obtain ⟨hx, hb, hml, hown, hts, hX, hbl, hK, hN, hT, hNc, hE, hlf, hap2, hMs, hos, hoM⟩ := id E
  obtain ⟨ρ, σ, th, f, rfl, hP, hM, hO, hT0, hap, he0, hown9⟩ := hJ
  have hts := dr_words hts d0
  have hN9 := hN
  have hN := dr_N d0 hN
  have hT := dr_T d0 hT
  have hNc := dr_Nc d0 hNc
  have hE := dr_E d0 hE
  have hX : va_X b L xs (s.setDrawn d0) s.heap := hX
  have hK : va_K D vwCl (tyz cs) (s.setDrawn d0) := va_K.moved (u := s) (U := s.setDrawn d0) (Vm.Alike.refl s.vm) hK
  have hI := hT0.1
  have hoB : ¬ ownB ρ (sK σ) o := fun h => (hown9 o h).2.1 rfl
  have hA9 : ∀ q, mdA M H q → s.heap.size ≤ q := fun q h => h.elim (hMs q) (fun h => Nat.le_trans hS.1 h)
  have hB9 : ∀ q, hlA ρ (sK σ) o H q → s.heap.size ≤ q := fun q h => h.elim (fun h => h.elim (fun h => (hown9 q h).2.2) (fun h => Nat.le_trans hS.1 h)) (fun h => by rw [h]; exact hos)
  refine lv_aload_n hx hb dL_law_686 rfl (lv_at hl 1 rfl) ?_
  refine vp_callSi (va_Run.run (va_runV (As := []) (rest := []) ⟨hx, hb, hml, hown, hts⟩ (c_X1_honestOnes l D cs ρ hI hap.1) (cwV 0 hts gL_law_X1_honestOnes rfl rfl rfl (by decide +kernel) ⟨Nat.le_of_ble_eq_true rfl, Nat.le_of_ble_eq_true rfl⟩) (rb_V hK hN hP (va_recv hK (one_P hP.1) (ci := 2) (q0 := 0) rfl rfl)) rfl rfl hl.1 rfl (lv_room (Nat.le_of_ble_eq_true rfl)) dL_law_687 ⟨(show cells + 0 ≤ 601024 by omega), (show slots + 0 ≤ 7293034 by omega)⟩)) (fun r1 h1 => ?_)
  rw [h1]
  refine lv_aload_n hx hb dL_law_690 rfl (lv_at hl 2 rfl) ?_
  refine va_calli (va_runV (As := []) (rest := [.int (honOS σ)]) ⟨hx, hb, hml, hown, hts⟩ (c_X2_honestOnes l D cs M th hI hap2 H) (cwV 0 hts gL_law_X2_honestOnes rfl rfl rfl (by decide +kernel) ⟨Nat.le_of_ble_eq_true rfl, Nat.le_of_ble_eq_true rfl⟩) (rb_V hK hN ⟨rfl, hM⟩ (va_recv hK hM (ci := 3) (q0 := 0) rfl rfl)) rfl rfl hl.1 rfl (lv_room (Nat.le_of_ble_eq_true rfl)) dL_law_691 ⟨(show cells + 0 ≤ 601024 by omega), (show slots + 0 ≤ 7293034 by omega)⟩) hS (fun q _ h => h.elim (hMs q) (fun h => Nat.le_trans hS.1 h)) (fun q h => h.elim (hMs q) (fun h => Nat.le_trans hS.1 h)) (fun r2 u2 t H1 locs ht hvm hp hB hz1 hk1 hS => ?_)
  have hp9 : u2 = ((((0, honOS σ) : Nat × Int32)).1, σ) ∧ ((((0, honOS σ) : Nat × Int32)).1 = 0 → r2 = (((0, honOS σ) : Nat × Int32)).2) := hp
  obtain ⟨hu9, hr2⟩ := hp9
  subst hu9
  rw [ht] at hB
  have hM : va_P D vwCl (modW cs M (nI (((0, honOS σ) : Nat × Int32)).1) (σ)) H1 := hB
  have hP := soc_md hP (fun q h => (hown9 q h).1) hk1
  have hO := out_md hO hoM hk1
  have hr2 : r2 = honOS σ := hr2 rfl
  rw [hr2]
  refine lv_icmp_eq (tgt := 1554) hx hb dL_law_694 (by decide) (fun _ => ?_) (fun c9 => absurd (rfl) c9)
  refine W.widen (k := cells + 14) (n := slots + 148) (by omega) (by omega) ?_
  exact K ls _ _ _ hd0 ⟨ρ, σ, (nI (((0, honOS σ) : Nat × Int32)).1), f, rfl, hP, hM, hO, invT_le hT0 (by omega) (by omega), hap, he0, hown9⟩ hS (lv_sub hl [0, 1, 2, 3, 4] rfl)
set_option maxHeartbeats 4000000 in
set_option maxRecDepth 100000 in
theorem q_longest {p : Program} {e : Env} {s : State} {m : MethodId} {below : List Frame} {meth : Method} {c : Code} {l : Launch} {b L : Nat} {xs : Nat → Int32} {D : va_G} {cs : Cs} {M : Nat × (Nat → Nat)} {x o e0 : Nat} (E : LwE p s m c l b L xs D cs M o e0) {Q : State → Prop} {d0 : Drawn} (hd0 : s.drawn.sameBut d0 lw_cs) {n9 : Nat} (hn : n9 < 512) (hn2 : 3 * n9 + 3 ≤ L) (hL : L ≤ 1536) {H : Heap} {locs : List Loc} {ls : Array Slot} {cells slots : Nat} (hJ : LwI D cs x M o e0 s.heap.size n9 H) (hS : va_S (fun q => s.heap.size ≤ q) s.heap H locs) (hl : lv_has ls 9 [(0, .ref b), (1, .ref x), (2, .ref M.1), (3, .ref o), (4, .int (nI (3 * n9)))]) (hc1 : cells + 14 ≤ 601024) (hc2 : slots + 148 ≤ 7293034)
    (K : ∀ (ls : Array Slot) (H : Heap) (locs : List Loc) (d : Drawn), s.drawn.sameBut d lw_cs → LwI D cs x M o e0 s.heap.size (n9 + 1) H → va_S (fun q => s.heap.size ≤ q) s.heap H locs → lv_has ls 9 [(0, .ref b), (1, .ref x), (2, .ref M.1), (3, .ref o), (4, .int (nI (3 * n9)))] → W p l e room_1 (s.setDrawn d) m #[.ref b] below meth c H locs (cells + 14) (slots + 148) Q (F0 m 1554 ls [])) :
    W p l e room_1 (s.setDrawn d0) m #[.ref b] below meth c H locs cells slots Q (F0 m 1292 ls []) := by
  obtain ⟨hx, hb, hml, hown, hts, hX, hbl, hK, hN, hT, hNc, hE, hlf, hap2, hMs, hos, hoM⟩ := id E
  obtain ⟨ρ, σ, th, f, rfl, hP, hM, hO, hT0, hap, he0, hown9⟩ := hJ
  have hts := dr_words hts d0
  have hN9 := hN
  have hN := dr_N d0 hN
  have hT := dr_T d0 hT
  have hNc := dr_Nc d0 hNc
  have hE := dr_E d0 hE
  have hX : va_X b L xs (s.setDrawn d0) s.heap := hX
  have hK : va_K D vwCl (tyz cs) (s.setDrawn d0) := va_K.moved (u := s) (U := s.setDrawn d0) (Vm.Alike.refl s.vm) hK
  have hI := hT0.1
  have hoB : ¬ ownB ρ (sK σ) o := fun h => (hown9 o h).2.1 rfl
  have hA9 : ∀ q, mdA M H q → s.heap.size ≤ q := fun q h => h.elim (hMs q) (fun h => Nat.le_trans hS.1 h)
  have hB9 : ∀ q, hlA ρ (sK σ) o H q → s.heap.size ≤ q := fun q h => h.elim (fun h => h.elim (fun h => (hown9 q h).2.2) (fun h => Nat.le_trans hS.1 h)) (fun h => by rw [h]; exact hos)
  refine lv_aload_n hx hb dL_law_1292 rfl (lv_at hl 1 rfl) ?_
  refine vp_callSi (va_Run.run (va_runV (As := []) (rest := []) ⟨hx, hb, hml, hown, hts⟩ (c_X1_longest l D cs ρ hI hap.1) (cwV 0 hts gL_law_X1_longest rfl rfl rfl (by decide +kernel) ⟨Nat.le_of_ble_eq_true rfl, Nat.le_of_ble_eq_true rfl⟩) (rb_V hK hN hP (va_recv hK (one_P hP.1) (ci := 2) (q0 := 0) rfl rfl)) rfl rfl hl.1 rfl (lv_room (Nat.le_of_ble_eq_true rfl)) dL_law_1293 ⟨(show cells + 0 ≤ 601024 by omega), (show slots + 0 ≤ 7293034 by omega)⟩)) (fun r1 h1 => ?_)
  rw [h1]
  refine lv_aload_n hx hb dL_law_1296 rfl (lv_at hl 2 rfl) ?_
  refine va_calli (va_runV (As := []) (rest := [.int (longS σ)]) ⟨hx, hb, hml, hown, hts⟩ (c_X2_longest l D cs M th hI hap2 H) (cwV 0 hts gL_law_X2_longest rfl rfl rfl (by decide +kernel) ⟨Nat.le_of_ble_eq_true rfl, Nat.le_of_ble_eq_true rfl⟩) (rb_V hK hN ⟨rfl, hM⟩ (va_recv hK hM (ci := 3) (q0 := 0) rfl rfl)) rfl rfl hl.1 rfl (lv_room (Nat.le_of_ble_eq_true rfl)) dL_law_1297 ⟨(show cells + 0 ≤ 601024 by omega), (show slots + 0 ≤ 7293034 by omega)⟩) hS (fun q _ h => h.elim (hMs q) (fun h => Nat.le_trans hS.1 h)) (fun q h => h.elim (hMs q) (fun h => Nat.le_trans hS.1 h)) (fun r2 u2 t H1 locs ht hvm hp hB hz1 hk1 hS => ?_)
  have hp9 : u2 = ((((0, longS σ) : Nat × Int32)).1, σ) ∧ ((((0, longS σ) : Nat × Int32)).1 = 0 → r2 = (((0, longS σ) : Nat × Int32)).2) := hp
  obtain ⟨hu9, hr2⟩ := hp9
  subst hu9
  rw [ht] at hB
  have hM : va_P D vwCl (modW cs M (nI (((0, longS σ) : Nat × Int32)).1) (σ)) H1 := hB
  have hP := soc_md hP (fun q h => (hown9 q h).1) hk1
  have hO := out_md hO hoM hk1
  have hr2 : r2 = longS σ := hr2 rfl
  rw [hr2]
  refine lv_icmp_eq (tgt := 1554) hx hb dL_law_1300 (by decide) (fun _ => ?_) (fun c9 => absurd (rfl) c9)
  refine W.widen (k := cells + 14) (n := slots + 148) (by omega) (by omega) ?_
  exact K ls _ _ _ hd0 ⟨ρ, σ, (nI (((0, longS σ) : Nat × Int32)).1), f, rfl, hP, hM, hO, invT_le hT0 (by omega) (by omega), hap, he0, hown9⟩ hS (lv_sub hl [0, 1, 2, 3, 4] rfl)
set_option maxHeartbeats 4000000 in
set_option maxRecDepth 100000 in
theorem q_hoursUntilAudit {p : Program} {e : Env} {s : State} {m : MethodId} {below : List Frame} {meth : Method} {c : Code} {l : Launch} {b L : Nat} {xs : Nat → Int32} {D : va_G} {cs : Cs} {M : Nat × (Nat → Nat)} {x o e0 : Nat} (E : LwE p s m c l b L xs D cs M o e0) {Q : State → Prop} {d0 : Drawn} (hd0 : s.drawn.sameBut d0 lw_cs) {n9 : Nat} (hn : n9 < 512) (hn2 : 3 * n9 + 3 ≤ L) (hL : L ≤ 1536) {H : Heap} {locs : List Loc} {ls : Array Slot} {cells slots : Nat} (hJ : LwI D cs x M o e0 s.heap.size n9 H) (hS : va_S (fun q => s.heap.size ≤ q) s.heap H locs) (hl : lv_has ls 9 [(0, .ref b), (1, .ref x), (2, .ref M.1), (3, .ref o), (4, .int (nI (3 * n9)))]) (hc1 : cells + 14 ≤ 601024) (hc2 : slots + 148 ≤ 7293034)
    (K : ∀ (ls : Array Slot) (H : Heap) (locs : List Loc) (d : Drawn), s.drawn.sameBut d lw_cs → LwI D cs x M o e0 s.heap.size (n9 + 1) H → va_S (fun q => s.heap.size ≤ q) s.heap H locs → lv_has ls 9 [(0, .ref b), (1, .ref x), (2, .ref M.1), (3, .ref o), (4, .int (nI (3 * n9)))] → W p l e room_1 (s.setDrawn d) m #[.ref b] below meth c H locs (cells + 14) (slots + 148) Q (F0 m 1554 ls [])) :
    W p l e room_1 (s.setDrawn d0) m #[.ref b] below meth c H locs cells slots Q (F0 m 1305 ls []) := by
  obtain ⟨hx, hb, hml, hown, hts, hX, hbl, hK, hN, hT, hNc, hE, hlf, hap2, hMs, hos, hoM⟩ := id E
  obtain ⟨ρ, σ, th, f, rfl, hP, hM, hO, hT0, hap, he0, hown9⟩ := hJ
  have hts := dr_words hts d0
  have hN9 := hN
  have hN := dr_N d0 hN
  have hT := dr_T d0 hT
  have hNc := dr_Nc d0 hNc
  have hE := dr_E d0 hE
  have hX : va_X b L xs (s.setDrawn d0) s.heap := hX
  have hK : va_K D vwCl (tyz cs) (s.setDrawn d0) := va_K.moved (u := s) (U := s.setDrawn d0) (Vm.Alike.refl s.vm) hK
  have hI := hT0.1
  have hoB : ¬ ownB ρ (sK σ) o := fun h => (hown9 o h).2.1 rfl
  have hA9 : ∀ q, mdA M H q → s.heap.size ≤ q := fun q h => h.elim (hMs q) (fun h => Nat.le_trans hS.1 h)
  have hB9 : ∀ q, hlA ρ (sK σ) o H q → s.heap.size ≤ q := fun q h => h.elim (fun h => h.elim (fun h => (hown9 q h).2.2) (fun h => Nat.le_trans hS.1 h)) (fun h => by rw [h]; exact hos)
  refine lv_aload_n hx hb dL_law_1305 rfl (lv_at hl 1 rfl) ?_
  refine vp_callSi (va_Run.run (va_runV (As := []) (rest := []) ⟨hx, hb, hml, hown, hts⟩ (c_X1_hoursUntilAudit l D cs ρ hI hap.1) (cwV 0 hts gL_law_X1_hoursUntilAudit rfl rfl rfl (by decide +kernel) ⟨Nat.le_of_ble_eq_true rfl, Nat.le_of_ble_eq_true rfl⟩) (rb_V hK hN hP (va_recv hK (one_P hP.1) (ci := 2) (q0 := 0) rfl rfl)) rfl rfl hl.1 rfl (lv_room (Nat.le_of_ble_eq_true rfl)) dL_law_1306 ⟨(show cells + 0 ≤ 601024 by omega), (show slots + 0 ≤ 7293034 by omega)⟩)) (fun r1 h1 => ?_)
  rw [h1]
  refine lv_aload_n hx hb dL_law_1309 rfl (lv_at hl 2 rfl) ?_
  refine va_calli (va_runV (As := []) (rest := [.int (untS σ)]) ⟨hx, hb, hml, hown, hts⟩ (c_X2_hoursUntilAudit l D cs M th hI hap2 H) (cwV 0 hts gL_law_X2_hoursUntilAudit rfl rfl rfl (by decide +kernel) ⟨Nat.le_of_ble_eq_true rfl, Nat.le_of_ble_eq_true rfl⟩) (rb_V hK hN ⟨rfl, hM⟩ (va_recv hK hM (ci := 3) (q0 := 0) rfl rfl)) rfl rfl hl.1 rfl (lv_room (Nat.le_of_ble_eq_true rfl)) dL_law_1310 ⟨(show cells + 0 ≤ 601024 by omega), (show slots + 0 ≤ 7293034 by omega)⟩) hS (fun q _ h => h.elim (hMs q) (fun h => Nat.le_trans hS.1 h)) (fun q h => h.elim (hMs q) (fun h => Nat.le_trans hS.1 h)) (fun r2 u2 t H1 locs ht hvm hp hB hz1 hk1 hS => ?_)
  have hp9 : u2 = ((((0, untS σ) : Nat × Int32)).1, σ) ∧ ((((0, untS σ) : Nat × Int32)).1 = 0 → r2 = (((0, untS σ) : Nat × Int32)).2) := hp
  obtain ⟨hu9, hr2⟩ := hp9
  subst hu9
  rw [ht] at hB
  have hM : va_P D vwCl (modW cs M (nI (((0, untS σ) : Nat × Int32)).1) (σ)) H1 := hB
  have hP := soc_md hP (fun q h => (hown9 q h).1) hk1
  have hO := out_md hO hoM hk1
  have hr2 : r2 = untS σ := hr2 rfl
  rw [hr2]
  refine lv_icmp_eq (tgt := 1554) hx hb dL_law_1313 (by decide) (fun _ => ?_) (fun c9 => absurd (rfl) c9)
  refine W.widen (k := cells + 14) (n := slots + 148) (by omega) (by omega) ?_
  exact K ls _ _ _ hd0 ⟨ρ, σ, (nI (((0, untS σ) : Nat × Int32)).1), f, rfl, hP, hM, hO, invT_le hT0 (by omega) (by omega), hap, he0, hown9⟩ hS (lv_sub hl [0, 1, 2, 3, 4] rfl)
set_option maxHeartbeats 4000000 in
set_option maxRecDepth 100000 in
theorem q_richestThen {p : Program} {e : Env} {s : State} {m : MethodId} {below : List Frame} {meth : Method} {c : Code} {l : Launch} {b L : Nat} {xs : Nat → Int32} {D : va_G} {cs : Cs} {M : Nat × (Nat → Nat)} {x o e0 : Nat} (E : LwE p s m c l b L xs D cs M o e0) {Q : State → Prop} {d0 : Drawn} (hd0 : s.drawn.sameBut d0 lw_cs) {n9 : Nat} (hn : n9 < 512) (hn2 : 3 * n9 + 3 ≤ L) (hL : L ≤ 1536) {H : Heap} {locs : List Loc} {ls : Array Slot} {cells slots : Nat} (hJ : LwI D cs x M o e0 s.heap.size n9 H) (hS : va_S (fun q => s.heap.size ≤ q) s.heap H locs) (hl : lv_has ls 9 [(0, .ref b), (1, .ref x), (2, .ref M.1), (3, .ref o), (4, .int (nI (3 * n9)))]) (hc1 : cells + 14 ≤ 601024) (hc2 : slots + 148 ≤ 7293034)
    (K : ∀ (ls : Array Slot) (H : Heap) (locs : List Loc) (d : Drawn), s.drawn.sameBut d lw_cs → LwI D cs x M o e0 s.heap.size (n9 + 1) H → va_S (fun q => s.heap.size ≤ q) s.heap H locs → lv_has ls 9 [(0, .ref b), (1, .ref x), (2, .ref M.1), (3, .ref o), (4, .int (nI (3 * n9)))] → W p l e room_1 (s.setDrawn d) m #[.ref b] below meth c H locs (cells + 14) (slots + 148) Q (F0 m 1554 ls [])) :
    W p l e room_1 (s.setDrawn d0) m #[.ref b] below meth c H locs cells slots Q (F0 m 1374 ls []) := by
  obtain ⟨hx, hb, hml, hown, hts, hX, hbl, hK, hN, hT, hNc, hE, hlf, hap2, hMs, hos, hoM⟩ := id E
  obtain ⟨ρ, σ, th, f, rfl, hP, hM, hO, hT0, hap, he0, hown9⟩ := hJ
  have hts := dr_words hts d0
  have hN9 := hN
  have hN := dr_N d0 hN
  have hT := dr_T d0 hT
  have hNc := dr_Nc d0 hNc
  have hE := dr_E d0 hE
  have hX : va_X b L xs (s.setDrawn d0) s.heap := hX
  have hK : va_K D vwCl (tyz cs) (s.setDrawn d0) := va_K.moved (u := s) (U := s.setDrawn d0) (Vm.Alike.refl s.vm) hK
  have hI := hT0.1
  have hoB : ¬ ownB ρ (sK σ) o := fun h => (hown9 o h).2.1 rfl
  have hA9 : ∀ q, mdA M H q → s.heap.size ≤ q := fun q h => h.elim (hMs q) (fun h => Nat.le_trans hS.1 h)
  have hB9 : ∀ q, hlA ρ (sK σ) o H q → s.heap.size ≤ q := fun q h => h.elim (fun h => h.elim (fun h => (hown9 q h).2.2) (fun h => Nat.le_trans hS.1 h)) (fun h => by rw [h]; exact hos)
  refine lv_aload_n hx hb dL_law_1374 rfl (lv_at hl 1 rfl) ?_
  refine vp_callSi (va_Run.run (va_runV (As := []) (rest := []) ⟨hx, hb, hml, hown, hts⟩ (c_X1_richestThen l D cs ρ hI hap.1) (cwV 0 hts gL_law_X1_richestThen rfl rfl rfl (by decide +kernel) ⟨Nat.le_of_ble_eq_true rfl, Nat.le_of_ble_eq_true rfl⟩) (rb_V hK hN hP (va_recv hK (one_P hP.1) (ci := 2) (q0 := 0) rfl rfl)) rfl rfl hl.1 rfl (lv_room (Nat.le_of_ble_eq_true rfl)) dL_law_1375 ⟨(show cells + 0 ≤ 601024 by omega), (show slots + 0 ≤ 7293034 by omega)⟩)) (fun r1 h1 => ?_)
  rw [h1]
  refine lv_aload_n hx hb dL_law_1378 rfl (lv_at hl 2 rfl) ?_
  refine va_calli (va_runV (As := []) (rest := [.int (richS σ)]) ⟨hx, hb, hml, hown, hts⟩ (c_X2_richestThen l D cs M th hI hap2 H) (cwV 0 hts gL_law_X2_richestThen rfl rfl rfl (by decide +kernel) ⟨Nat.le_of_ble_eq_true rfl, Nat.le_of_ble_eq_true rfl⟩) (rb_V hK hN ⟨rfl, hM⟩ (va_recv hK hM (ci := 3) (q0 := 0) rfl rfl)) rfl rfl hl.1 rfl (lv_room (Nat.le_of_ble_eq_true rfl)) dL_law_1379 ⟨(show cells + 0 ≤ 601024 by omega), (show slots + 0 ≤ 7293034 by omega)⟩) hS (fun q _ h => h.elim (hMs q) (fun h => Nat.le_trans hS.1 h)) (fun q h => h.elim (hMs q) (fun h => Nat.le_trans hS.1 h)) (fun r2 u2 t H1 locs ht hvm hp hB hz1 hk1 hS => ?_)
  have hp9 : u2 = ((((0, richS σ) : Nat × Int32)).1, σ) ∧ ((((0, richS σ) : Nat × Int32)).1 = 0 → r2 = (((0, richS σ) : Nat × Int32)).2) := hp
  obtain ⟨hu9, hr2⟩ := hp9
  subst hu9
  rw [ht] at hB
  have hM : va_P D vwCl (modW cs M (nI (((0, richS σ) : Nat × Int32)).1) (σ)) H1 := hB
  have hP := soc_md hP (fun q h => (hown9 q h).1) hk1
  have hO := out_md hO hoM hk1
  have hr2 : r2 = richS σ := hr2 rfl
  rw [hr2]
  refine lv_icmp_eq (tgt := 1554) hx hb dL_law_1382 (by decide) (fun _ => ?_) (fun c9 => absurd (rfl) c9)
  refine W.widen (k := cells + 14) (n := slots + 148) (by omega) (by omega) ?_
  exact K ls _ _ _ hd0 ⟨ρ, σ, (nI (((0, richS σ) : Nat × Int32)).1), f, rfl, hP, hM, hO, invT_le hT0 (by omega) (by omega), hap, he0, hown9⟩ hS (lv_sub hl [0, 1, 2, 3, 4] rfl)
