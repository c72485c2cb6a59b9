/-! THE LAW'S CASES: calls that write (laid by wip/whole/gen/law.py) -/
theorem buy_3 {σ : PS} {a b : Int32} : (buyO σ a b).1 ≤ 3 := by
  unfold buyO
  repeat' split
  all_goals first | exact Nat.zero_le 3 | exact Nat.le_of_ble_eq_true rfl
theorem drop_3 {σ : PS} {a : Int32} : (dropO σ a).1 ≤ 3 := by
  unfold dropO
  repeat' split
  all_goals first | exact Nat.zero_le 3 | exact Nat.le_of_ble_eq_true rfl
theorem borr_3 {σ : PS} {a b : Int32} : (borrO σ a b).1 ≤ 3 := by
  unfold borrO
  repeat' split
  all_goals first | exact Nat.zero_le 3 | exact Nat.le_of_ble_eq_true rfl
theorem give_3 {σ : PS} {a : Int32} : (giveO σ a).1 ≤ 3 := by
  unfold giveO
  repeat' split
  all_goals first | exact Nat.zero_le 3 | exact Nat.le_of_ble_eq_true rfl
theorem cert_3 {σ : PS} {a : Int32} : (certO σ a).1 ≤ 3 := by
  unfold certO
  repeat' split
  all_goals first | exact Nat.zero_le 3 | exact Nat.le_of_ble_eq_true rfl
theorem pass_3 {σ : PS} {a : Int32} : (passO σ a).1 ≤ 3 := by
  unfold passO
  repeat' split
  all_goals first | exact Nat.zero_le 3 | exact Nat.le_of_ble_eq_true rfl
theorem join_3 {σ : PS} {a b : Int32} : (joinO σ a b).1 ≤ 3 := by
  unfold joinO
  repeat' split
  all_goals first | exact Nat.zero_le 3 | exact Nat.le_of_ble_eq_true rfl
set_option maxHeartbeats 400000 in
set_option maxRecDepth 100000 in
theorem q_buyLamp {p : Program} {e : Env} {s : State} {m : MethodId} {below : List Frame} {meth : Method} {c : Code} {l : Launch} {b L : Nat} {xs : Nat → Int32} {D : va_G} {cs : Cs} {M : Nat × (Nat → Nat)} {x o e0 : Nat} (E : LwE p s m c l b L xs D cs M o e0) {Q : State → Prop} {d0 : Drawn} (hd0 : s.drawn.sameBut d0 lw_cs) {n9 : Nat} (hn : n9 < 512) (hn2 : 3 * n9 + 3 ≤ L) (hL : L ≤ 1536) {H : Heap} {locs : List Loc} {ls : Array Slot} {cells slots : Nat} (hJ : LwI D cs x M o e0 s.heap.size n9 H) (hS : va_S (fun q => s.heap.size ≤ q) s.heap H locs) (hl : lv_has ls 9 [(0, .ref b), (1, .ref x), (2, .ref M.1), (3, .ref o), (4, .int (nI (3 * n9)))]) (hc1 : cells + 14 ≤ 601024) (hc2 : slots + 148 ≤ 7293034)
    (K : ∀ (ls : Array Slot) (H : Heap) (locs : List Loc) (d : Drawn), s.drawn.sameBut d lw_cs → LwI D cs x M o e0 s.heap.size (n9 + 1) H → va_S (fun q => s.heap.size ≤ q) s.heap H locs → lv_has ls 9 [(0, .ref b), (1, .ref x), (2, .ref M.1), (3, .ref o), (4, .int (nI (3 * n9)))] → W p l e room_1 (s.setDrawn d) m #[.ref b] below meth c H locs (cells + 14) (slots + 148) Q (F0 m 1554 ls [])) :
    W p l e room_1 (s.setDrawn d0) m #[.ref b] below meth c H locs cells slots Q (F0 m 248 ls []) := by
  obtain ⟨hx, hb, hml, hown, hts, hX, hbl, hK, hN, hT, hNc, hE, hlf, hap2, hMs, hos, hoM⟩ := id E
  obtain ⟨ρ, σ, th, f, rfl, hP, hM, hO, hT0, hap, he0, hown9⟩ := hJ
  have hts := dr_words hts d0
  have hN9 := hN
  have hN := dr_N d0 hN
  have hT := dr_T d0 hT
  have hNc := dr_Nc d0 hNc
  have hE := dr_E d0 hE
  have hX : va_X b L xs (s.setDrawn d0) s.heap := hX
  have hK : va_K D vwCl (tyz cs) (s.setDrawn d0) := va_K.moved (u := s) (U := s.setDrawn d0) (Vm.Alike.refl s.vm) hK
  have hI := hT0.1
  have hoB : ¬ ownB ρ (sK σ) o := fun h => (hown9 o h).2.1 rfl
  have hA9 : ∀ q, mdA M H q → s.heap.size ≤ q := fun q h => h.elim (hMs q) (fun h => Nat.le_trans hS.1 h)
  have hB9 : ∀ q, hlA ρ (sK σ) o H q → s.heap.size ≤ q := fun q h => h.elim (fun h => h.elim (fun h => (hown9 q h).2.2) (fun h => Nat.le_trans hS.1 h)) (fun h => by rw [h]; exact hos)
  refine lv_aload_n hx hb dL_law_248 rfl (lv_at hl 1 rfl) ?_
  refine lv_aload_n hx hb dL_law_249 rfl (lv_at hl 0 rfl) ?_
  refine lv_iload hx hb dL_law_250 (lv_at hl 4 rfl) ?_
  refine lv_iconst (v := 1) hx hb dL_law_252 (by decide) ?_
  refine lv_iadd hx hb dL_law_253 ?_
  refine va_sld hx hb hX hbl (Nat.not_le.mpr hbl) hS (by show vp_in (nI (3 * n9) + nI 1) L; rw [nI_add]; exact vp_in_nI (by omega) (by omega)) dL_law_254 ?_
  refine lv_topi (fun a ea => ?_)
  refine lv_aload_n hx hb dL_law_255 rfl (lv_at hl 0 rfl) ?_
  refine lv_iload hx hb dL_law_256 (lv_at hl 4 rfl) ?_
  refine lv_iconst (v := 2) hx hb dL_law_258 (by decide) ?_
  refine lv_iadd hx hb dL_law_259 ?_
  refine va_sld hx hb hX hbl (Nat.not_le.mpr hbl) hS (by show vp_in (nI (3 * n9) + nI 2) L; rw [nI_add]; exact vp_in_nI (by omega) (by omega)) dL_law_260 ?_
  refine lv_topi (fun b9 eb9 => ?_)
  refine lv_aload_n hx hb dL_law_261 rfl (lv_at hl 3 rfl) ?_
  refine vx_calli (vx_runSX (As := [.ref (r_h ρ), .int a, .int b9, .ref o]) (rest := []) ⟨hx, hb, hml, hown, hts⟩ (h_buyLamp l hlf D cs ρ hI hap H o f hoB a b9) (vx_cwSW 4 hts gL_law_L_buyLamp rfl rfl rfl (by decide +kernel) ⟨Nat.le_of_ble_eq_true rfl, Nat.le_of_ble_eq_true rfl⟩) (hb_S hK hN ⟨rfl, hP, hO⟩ hT hNc hS.1 (fun q h => hS.2.1 q h (Nat.not_le.mpr h))) rfl rfl hl.1 rfl (lv_room (Nat.le_of_ble_eq_true rfl)) dL_law_262 ⟨(show cells + 2 ≤ 601024 by omega), (show slots + 12 ≤ 7293034 by omega)⟩) hS (fun q _ h => hB9 q h) hB9 (fun q _ h => h.elim) (fun E ce q9 u t H1 locs ht hvm hu _ _ _ _ _ _ _ => hu.elim) (fun r u t H1 locs ht hvm hw hB hz1 hk1 hS => ?_)
  obtain ⟨hr, hu1, hu2⟩ := hw
  rw [ht] at hB
  obtain ⟨hP, hO⟩ := hB
  rw [hu1] at hP
  have hM := mod_hl hM (fun q h => (hown9 q h).1) hoM hk1
  rw [hr]
  have h3 : (buyO σ a b9).1 ≤ 3 := buy_3
  have hkk : sK ((buyO σ a b9).2.2) = sK σ := buy_k
  have hap : AptA ρ (sK ((buyO σ a b9).2.2)) := by rw [hkk]; exact hap
  have he0 : sK ((buyO σ a b9).2.2) = 0 → r_e ρ = e0 := by rw [hkk]; exact he0
  have hown9 : ∀ q, ownB ρ (sK ((buyO σ a b9).2.2)) q → ¬ ownM M q ∧ q ≠ o ∧ s.heap.size ≤ q := by rw [hkk]; exact hown9
  refine lv_istore (lv' := [(5, .int (nI (buyO σ a b9).1)), (0, .ref b), (1, .ref (r_h ρ)), (2, .ref M.1), (3, .ref o), (4, .int (nI (3 * n9)))]) hx hb dL_law_265 hl (by decide) rfl (fun ls hl => ?_)
  refine lv_aload_n hx hb dL_law_267 rfl (lv_at hl 3 rfl) ?_
  refine lv_aload_n hx hb dL_law_268 rfl (lv_at hl 1 rfl) ?_
  refine lv_iload hx hb dL_law_269 (lv_at hl 5 rfl) ?_
  refine lv_iconst (v := 1) hx hb dL_law_271 (by decide) ?_
  refine lv_iadd hx hb dL_law_272 ?_
  refine va_sld hx hb hX hbl (Nat.not_le.mpr hbl) hS (by show vp_in (nI (3 * n9) + nI 1) L; rw [nI_add]; exact vp_in_nI (by omega) (by omega)) dL_law_273 ?_
  rw [← ea]
  refine lv_aload_n hx hb dL_law_274 rfl (lv_at hl 1 rfl) ?_
  refine lv_iload hx hb dL_law_275 (lv_at hl 5 rfl) ?_
  refine lv_iconst (v := 2) hx hb dL_law_277 (by decide) ?_
  refine lv_iadd hx hb dL_law_278 ?_
  refine va_sld hx hb hX hbl (Nat.not_le.mpr hbl) hS (by show vp_in (nI (3 * n9) + nI 2) L; rw [nI_add]; exact vp_in_nI (by omega) (by omega)) dL_law_279 ?_
  rw [← eb9]
  refine va_calli (va_runV (As := [.int a, .int b9]) (rest := []) ⟨hx, hb, hml, hown, hts⟩ (c_X2_buyLamp l D cs M th hI hap2 H1 a b9) (cwV 2 hts gL_law_X2_buyLamp rfl rfl rfl (by decide +kernel) ⟨Nat.le_of_ble_eq_true rfl, Nat.le_of_ble_eq_true rfl⟩) (rb_V hK hN ⟨rfl, hM⟩ (va_recv hK hM (ci := 3) (q0 := 0) rfl rfl)) rfl rfl hl.1 rfl (lv_room (Nat.le_of_ble_eq_true rfl)) dL_law_280 ⟨(show cells + 2 + 0 ≤ 601024 by omega), (show slots + 12 + 0 ≤ 7293034 by omega)⟩) hS (fun q _ h => h.elim (hMs q) (fun h => Nat.le_trans hS.1 h)) (fun q h => h.elim (hMs q) (fun h => Nat.le_trans hS.1 h)) (fun r2 u2 t H1 locs ht hvm hp hB hz1 hk1 hS => ?_)
  have hp9 : u2 = ((((buyO σ a b9).1, (buyO σ a b9).2.1)).1, (buyO σ a b9).2.2) ∧ ((((buyO σ a b9).1, (buyO σ a b9).2.1)).1 = 0 → r2 = (((buyO σ a b9).1, (buyO σ a b9).2.1)).2) := hp
  obtain ⟨hu9, hr2⟩ := hp9
  subst hu9
  rw [ht] at hB
  have hM : va_P D vwCl (modW cs M (nI (((buyO σ a b9).1, (buyO σ a b9).2.1)).1) ((buyO σ a b9).2.2)) H1 := hB
  have hP := soc_md hP (fun q h => (hown9 q h).1) hk1
  have hO := out_md hO hoM hk1
  refine lv_istore (lv' := [(6, .int r2), (5, .int (nI (buyO σ a b9).1)), (0, .ref b), (1, .ref (r_h ρ)), (2, .ref M.1), (3, .ref o), (4, .int (nI (3 * n9)))]) hx hb dL_law_283 hl (by decide) rfl (fun ls hl => ?_)
  refine lv_aload_n hx hb dL_law_285 rfl (lv_at hl 4 rfl) ?_
  refine vp_callSi (va_Run.run (va_runV (As := []) (rest := []) ⟨hx, hb, hml, hown, hts⟩ (c_X2_thrown l D cs M (nI (((buyO σ a b9).1, (buyO σ a b9).2.1)).1) (invT_buy hT0 a b9).1) (cwV 0 hts gL_law_X2_thrown rfl rfl rfl (by decide +kernel) ⟨Nat.le_of_ble_eq_true rfl, Nat.le_of_ble_eq_true rfl⟩) (rb_V hK hN hM (va_recv hK hM (ci := 3) (q0 := 0) rfl rfl)) rfl rfl hl.1 rfl (lv_room (Nat.le_of_ble_eq_true rfl)) dL_law_286 ⟨(show cells + 2 + 0 ≤ 601024 by omega), (show slots + 12 + 0 ≤ 7293034 by omega)⟩)) (fun r3 h3 => ?_)
  rw [h3]
  refine lv_iload hx hb dL_law_289 (lv_at hl 1 rfl) ?_
  refine lv_icmp_eq (tgt := 296) hx hb dL_law_291 (by decide) (fun _ => ?_) (fun c9 => absurd rfl c9)
  refine lv_iload hx hb dL_law_296 (lv_at hl 1 rfl) ?_
  refine lv_if_ne (tgt := 313) hx hb dL_law_298 (by decide) (fun c_1 => ?_) (fun c_1 => ?_)
  · refine lv_goto (tgt := 1554) hx hb dL_law_313 (by decide) ?_
    refine W.widen (k := cells + 14) (n := slots + 148) (by omega) (by omega) ?_
    exact K ls _ _ _ hd0 ⟨ρ, ((buyO σ a b9).2.2), (nI (((buyO σ a b9).1, (buyO σ a b9).2.1)).1), u.2, rfl, hP, hM, hO, invT_le (invT_buy hT0 a b9) (by omega) (by omega), hap, he0, hown9⟩ hS (lv_sub hl [2, 3, 4, 5, 6] rfl)
  · have h0 : (buyO σ a b9).1 = 0 := (nI_eq (a := (buyO σ a b9).1) (b := 0) (by omega) (by omega)).mp c_1
    refine lv_aload_n hx hb dL_law_301 rfl (lv_at hl 5 rfl) ?_
    refine lv_iconst (v := 0) hx hb dL_law_302 (by decide) ?_
    refine va_lald (i := 0) hx hb hK (one_P hO) 0 2 rfl rfl (by unfold vp_in; decide) dL_law_303 ?_
    rw [show u.2 (0 : Int32).toNatClampNeg = ((buyO σ a b9).2.1).toInt64 from hu2 h0]
    refine lv_iload hx hb dL_law_304 (lv_at hl 0 rfl) ?_
    refine lv_i2l (v := r2.toInt64) hx hb dL_law_306 rfl ?_
    rw [show r2 = (buyO σ a b9).2.1 from hr2 h0]
    refine W.lcmp hx hb dL_law_307 ?_
    refine lv_if_eq (tgt := 313) hx hb dL_law_308 (by decide) (fun _ => ?_) (fun c9 => absurd (lg_self _) c9)
    refine lv_goto (tgt := 1554) hx hb dL_law_313 (by decide) ?_
    refine W.widen (k := cells + 14) (n := slots + 148) (by omega) (by omega) ?_
    exact K ls _ _ _ hd0 ⟨ρ, ((buyO σ a b9).2.2), (nI (((buyO σ a b9).1, (buyO σ a b9).2.1)).1), u.2, rfl, hP, hM, hO, invT_le (invT_buy hT0 a b9) (by omega) (by omega), hap, he0, hown9⟩ hS (lv_sub hl [2, 3, 4, 5, 6] rfl)
set_option maxHeartbeats 400000 in
set_option maxRecDepth 100000 in
theorem q_dropLamp {p : Program} {e : Env} {s : State} {m : MethodId} {below : List Frame} {meth : Method} {c : Code} {l : Launch} {b L : Nat} {xs : Nat → Int32} {D : va_G} {cs : Cs} {M : Nat × (Nat → Nat)} {x o e0 : Nat} (E : LwE p s m c l b L xs D cs M o e0) {Q : State → Prop} {d0 : Drawn} (hd0 : s.drawn.sameBut d0 lw_cs) {n9 : Nat} (hn : n9 < 512) (hn2 : 3 * n9 + 3 ≤ L) (hL : L ≤ 1536) {H : Heap} {locs : List Loc} {ls : Array Slot} {cells slots : Nat} (hJ : LwI D cs x M o e0 s.heap.size n9 H) (hS : va_S (fun q => s.heap.size ≤ q) s.heap H locs) (hl : lv_has ls 9 [(0, .ref b), (1, .ref x), (2, .ref M.1), (3, .ref o), (4, .int (nI (3 * n9)))]) (hc1 : cells + 14 ≤ 601024) (hc2 : slots + 148 ≤ 7293034)
    (K : ∀ (ls : Array Slot) (H : Heap) (locs : List Loc) (d : Drawn), s.drawn.sameBut d lw_cs → LwI D cs x M o e0 s.heap.size (n9 + 1) H → va_S (fun q => s.heap.size ≤ q) s.heap H locs → lv_has ls 9 [(0, .ref b), (1, .ref x), (2, .ref M.1), (3, .ref o), (4, .int (nI (3 * n9)))] → W p l e room_1 (s.setDrawn d) m #[.ref b] below meth c H locs (cells + 14) (slots + 148) Q (F0 m 1554 ls [])) :
    W p l e room_1 (s.setDrawn d0) m #[.ref b] below meth c H locs cells slots Q (F0 m 316 ls []) := by
  obtain ⟨hx, hb, hml, hown, hts, hX, hbl, hK, hN, hT, hNc, hE, hlf, hap2, hMs, hos, hoM⟩ := id E
  obtain ⟨ρ, σ, th, f, rfl, hP, hM, hO, hT0, hap, he0, hown9⟩ := hJ
  have hts := dr_words hts d0
  have hN9 := hN
  have hN := dr_N d0 hN
  have hT := dr_T d0 hT
  have hNc := dr_Nc d0 hNc
  have hE := dr_E d0 hE
  have hX : va_X b L xs (s.setDrawn d0) s.heap := hX
  have hK : va_K D vwCl (tyz cs) (s.setDrawn d0) := va_K.moved (u := s) (U := s.setDrawn d0) (Vm.Alike.refl s.vm) hK
  have hI := hT0.1
  have hoB : ¬ ownB ρ (sK σ) o := fun h => (hown9 o h).2.1 rfl
  have hA9 : ∀ q, mdA M H q → s.heap.size ≤ q := fun q h => h.elim (hMs q) (fun h => Nat.le_trans hS.1 h)
  have hB9 : ∀ q, hlA ρ (sK σ) o H q → s.heap.size ≤ q := fun q h => h.elim (fun h => h.elim (fun h => (hown9 q h).2.2) (fun h => Nat.le_trans hS.1 h)) (fun h => by rw [h]; exact hos)
  refine lv_aload_n hx hb dL_law_316 rfl (lv_at hl 1 rfl) ?_
  refine lv_aload_n hx hb dL_law_317 rfl (lv_at hl 0 rfl) ?_
  refine lv_iload hx hb dL_law_318 (lv_at hl 4 rfl) ?_
  refine lv_iconst (v := 1) hx hb dL_law_320 (by decide) ?_
  refine lv_iadd hx hb dL_law_321 ?_
  refine va_sld hx hb hX hbl (Nat.not_le.mpr hbl) hS (by show vp_in (nI (3 * n9) + nI 1) L; rw [nI_add]; exact vp_in_nI (by omega) (by omega)) dL_law_322 ?_
  refine lv_topi (fun a ea => ?_)
  refine lv_aload_n hx hb dL_law_323 rfl (lv_at hl 3 rfl) ?_
  refine vx_calli (vx_runSX (As := [.ref (r_h ρ), .int a, .ref o]) (rest := []) ⟨hx, hb, hml, hown, hts⟩ (h_dropLamp l hlf D cs ρ hI hap H o f hoB a) (vx_cwSW 3 hts gL_law_L_dropLamp rfl rfl rfl (by decide +kernel) ⟨Nat.le_of_ble_eq_true rfl, Nat.le_of_ble_eq_true rfl⟩) (hb_S hK hN ⟨rfl, hP, hO⟩ hT hNc hS.1 (fun q h => hS.2.1 q h (Nat.not_le.mpr h))) rfl rfl hl.1 rfl (lv_room (Nat.le_of_ble_eq_true rfl)) dL_law_324 ⟨(show cells + 2 ≤ 601024 by omega), (show slots + 12 ≤ 7293034 by omega)⟩) hS (fun q _ h => hB9 q h) hB9 (fun q _ h => h.elim) (fun E ce q9 u t H1 locs ht hvm hu _ _ _ _ _ _ _ => hu.elim) (fun r u t H1 locs ht hvm hw hB hz1 hk1 hS => ?_)
  obtain ⟨hr, hu1, hu2⟩ := hw
  rw [ht] at hB
  obtain ⟨hP, hO⟩ := hB
  rw [hu1] at hP
  have hM := mod_hl hM (fun q h => (hown9 q h).1) hoM hk1
  rw [hr]
  have h3 : (dropO σ a).1 ≤ 3 := drop_3
  have hkk : sK ((dropO σ a).2.2) = sK σ := drop_k
  have hap : AptA ρ (sK ((dropO σ a).2.2)) := by rw [hkk]; exact hap
  have he0 : sK ((dropO σ a).2.2) = 0 → r_e ρ = e0 := by rw [hkk]; exact he0
  have hown9 : ∀ q, ownB ρ (sK ((dropO σ a).2.2)) q → ¬ ownM M q ∧ q ≠ o ∧ s.heap.size ≤ q := by rw [hkk]; exact hown9
  refine lv_istore (lv' := [(5, .int (nI (dropO σ a).1)), (0, .ref b), (1, .ref (r_h ρ)), (2, .ref M.1), (3, .ref o), (4, .int (nI (3 * n9)))]) hx hb dL_law_327 hl (by decide) rfl (fun ls hl => ?_)
  refine lv_aload_n hx hb dL_law_329 rfl (lv_at hl 3 rfl) ?_
  refine lv_aload_n hx hb dL_law_330 rfl (lv_at hl 1 rfl) ?_
  refine lv_iload hx hb dL_law_331 (lv_at hl 5 rfl) ?_
  refine lv_iconst (v := 1) hx hb dL_law_333 (by decide) ?_
  refine lv_iadd hx hb dL_law_334 ?_
  refine va_sld hx hb hX hbl (Nat.not_le.mpr hbl) hS (by show vp_in (nI (3 * n9) + nI 1) L; rw [nI_add]; exact vp_in_nI (by omega) (by omega)) dL_law_335 ?_
  rw [← ea]
  refine va_calli (va_runV (As := [.int a]) (rest := []) ⟨hx, hb, hml, hown, hts⟩ (c_X2_dropLamp l D cs M th hI hap2 H1 a) (cwV 1 hts gL_law_X2_dropLamp rfl rfl rfl (by decide +kernel) ⟨Nat.le_of_ble_eq_true rfl, Nat.le_of_ble_eq_true rfl⟩) (rb_V hK hN ⟨rfl, hM⟩ (va_recv hK hM (ci := 3) (q0 := 0) rfl rfl)) rfl rfl hl.1 rfl (lv_room (Nat.le_of_ble_eq_true rfl)) dL_law_336 ⟨(show cells + 2 + 0 ≤ 601024 by omega), (show slots + 12 + 0 ≤ 7293034 by omega)⟩) hS (fun q _ h => h.elim (hMs q) (fun h => Nat.le_trans hS.1 h)) (fun q h => h.elim (hMs q) (fun h => Nat.le_trans hS.1 h)) (fun r2 u2 t H1 locs ht hvm hp hB hz1 hk1 hS => ?_)
  have hp9 : u2 = ((((dropO σ a).1, (dropO σ a).2.1)).1, (dropO σ a).2.2) ∧ ((((dropO σ a).1, (dropO σ a).2.1)).1 = 0 → r2 = (((dropO σ a).1, (dropO σ a).2.1)).2) := hp
  obtain ⟨hu9, hr2⟩ := hp9
  subst hu9
  rw [ht] at hB
  have hM : va_P D vwCl (modW cs M (nI (((dropO σ a).1, (dropO σ a).2.1)).1) ((dropO σ a).2.2)) H1 := hB
  have hP := soc_md hP (fun q h => (hown9 q h).1) hk1
  have hO := out_md hO hoM hk1
  refine lv_istore (lv' := [(6, .int r2), (5, .int (nI (dropO σ a).1)), (0, .ref b), (1, .ref (r_h ρ)), (2, .ref M.1), (3, .ref o), (4, .int (nI (3 * n9)))]) hx hb dL_law_339 hl (by decide) rfl (fun ls hl => ?_)
  refine lv_aload_n hx hb dL_law_341 rfl (lv_at hl 4 rfl) ?_
  refine vp_callSi (va_Run.run (va_runV (As := []) (rest := []) ⟨hx, hb, hml, hown, hts⟩ (c_X2_thrown l D cs M (nI (((dropO σ a).1, (dropO σ a).2.1)).1) (invT_drop hT0 a).1) (cwV 0 hts gL_law_X2_thrown rfl rfl rfl (by decide +kernel) ⟨Nat.le_of_ble_eq_true rfl, Nat.le_of_ble_eq_true rfl⟩) (rb_V hK hN hM (va_recv hK hM (ci := 3) (q0 := 0) rfl rfl)) rfl rfl hl.1 rfl (lv_room (Nat.le_of_ble_eq_true rfl)) dL_law_342 ⟨(show cells + 2 + 0 ≤ 601024 by omega), (show slots + 12 + 0 ≤ 7293034 by omega)⟩)) (fun r3 h3 => ?_)
  rw [h3]
  refine lv_iload hx hb dL_law_345 (lv_at hl 1 rfl) ?_
  refine lv_icmp_eq (tgt := 352) hx hb dL_law_347 (by decide) (fun _ => ?_) (fun c9 => absurd rfl c9)
  refine lv_iload hx hb dL_law_352 (lv_at hl 1 rfl) ?_
  refine lv_if_ne (tgt := 369) hx hb dL_law_354 (by decide) (fun c_1 => ?_) (fun c_1 => ?_)
  · refine lv_goto (tgt := 1554) hx hb dL_law_369 (by decide) ?_
    refine W.widen (k := cells + 14) (n := slots + 148) (by omega) (by omega) ?_
    exact K ls _ _ _ hd0 ⟨ρ, ((dropO σ a).2.2), (nI (((dropO σ a).1, (dropO σ a).2.1)).1), u.2, rfl, hP, hM, hO, invT_le (invT_drop hT0 a) (by omega) (by omega), hap, he0, hown9⟩ hS (lv_sub hl [2, 3, 4, 5, 6] rfl)
  · have h0 : (dropO σ a).1 = 0 := (nI_eq (a := (dropO σ a).1) (b := 0) (by omega) (by omega)).mp c_1
    refine lv_aload_n hx hb dL_law_357 rfl (lv_at hl 5 rfl) ?_
    refine lv_iconst (v := 0) hx hb dL_law_358 (by decide) ?_
    refine va_lald (i := 0) hx hb hK (one_P hO) 0 2 rfl rfl (by unfold vp_in; decide) dL_law_359 ?_
    rw [show u.2 (0 : Int32).toNatClampNeg = ((dropO σ a).2.1).toInt64 from hu2 h0]
    refine lv_iload hx hb dL_law_360 (lv_at hl 0 rfl) ?_
    refine lv_i2l (v := r2.toInt64) hx hb dL_law_362 rfl ?_
    rw [show r2 = (dropO σ a).2.1 from hr2 h0]
    refine W.lcmp hx hb dL_law_363 ?_
    refine lv_if_eq (tgt := 369) hx hb dL_law_364 (by decide) (fun _ => ?_) (fun c9 => absurd (lg_self _) c9)
    refine lv_goto (tgt := 1554) hx hb dL_law_369 (by decide) ?_
    refine W.widen (k := cells + 14) (n := slots + 148) (by omega) (by omega) ?_
    exact K ls _ _ _ hd0 ⟨ρ, ((dropO σ a).2.2), (nI (((dropO σ a).1, (dropO σ a).2.1)).1), u.2, rfl, hP, hM, hO, invT_le (invT_drop hT0 a) (by omega) (by omega), hap, he0, hown9⟩ hS (lv_sub hl [2, 3, 4, 5, 6] rfl)
set_option maxHeartbeats 400000 in
set_option maxRecDepth 100000 in
theorem q_borrow {p : Program} {e : Env} {s : State} {m : MethodId} {below : List Frame} {meth : Method} {c : Code} {l : Launch} {b L : Nat} {xs : Nat → Int32} {D : va_G} {cs : Cs} {M : Nat × (Nat → Nat)} {x o e0 : Nat} (E : LwE p s m c l b L xs D cs M o e0) {Q : State → Prop} {d0 : Drawn} (hd0 : s.drawn.sameBut d0 lw_cs) {n9 : Nat} (hn : n9 < 512) (hn2 : 3 * n9 + 3 ≤ L) (hL : L ≤ 1536) {H : Heap} {locs : List Loc} {ls : Array Slot} {cells slots : Nat} (hJ : LwI D cs x M o e0 s.heap.size n9 H) (hS : va_S (fun q => s.heap.size ≤ q) s.heap H locs) (hl : lv_has ls 9 [(0, .ref b), (1, .ref x), (2, .ref M.1), (3, .ref o), (4, .int (nI (3 * n9)))]) (hc1 : cells + 14 ≤ 601024) (hc2 : slots + 148 ≤ 7293034)
    (K : ∀ (ls : Array Slot) (H : Heap) (locs : List Loc) (d : Drawn), s.drawn.sameBut d lw_cs → LwI D cs x M o e0 s.heap.size (n9 + 1) H → va_S (fun q => s.heap.size ≤ q) s.heap H locs → lv_has ls 9 [(0, .ref b), (1, .ref x), (2, .ref M.1), (3, .ref o), (4, .int (nI (3 * n9)))] → W p l e room_1 (s.setDrawn d) m #[.ref b] below meth c H locs (cells + 14) (slots + 148) Q (F0 m 1554 ls [])) :
    W p l e room_1 (s.setDrawn d0) m #[.ref b] below meth c H locs cells slots Q (F0 m 372 ls []) := by
  obtain ⟨hx, hb, hml, hown, hts, hX, hbl, hK, hN, hT, hNc, hE, hlf, hap2, hMs, hos, hoM⟩ := id E
  obtain ⟨ρ, σ, th, f, rfl, hP, hM, hO, hT0, hap, he0, hown9⟩ := hJ
  have hts := dr_words hts d0
  have hN9 := hN
  have hN := dr_N d0 hN
  have hT := dr_T d0 hT
  have hNc := dr_Nc d0 hNc
  have hE := dr_E d0 hE
  have hX : va_X b L xs (s.setDrawn d0) s.heap := hX
  have hK : va_K D vwCl (tyz cs) (s.setDrawn d0) := va_K.moved (u := s) (U := s.setDrawn d0) (Vm.Alike.refl s.vm) hK
  have hI := hT0.1
  have hoB : ¬ ownB ρ (sK σ) o := fun h => (hown9 o h).2.1 rfl
  have hA9 : ∀ q, mdA M H q → s.heap.size ≤ q := fun q h => h.elim (hMs q) (fun h => Nat.le_trans hS.1 h)
  have hB9 : ∀ q, hlA ρ (sK σ) o H q → s.heap.size ≤ q := fun q h => h.elim (fun h => h.elim (fun h => (hown9 q h).2.2) (fun h => Nat.le_trans hS.1 h)) (fun h => by rw [h]; exact hos)
  refine lv_aload_n hx hb dL_law_372 rfl (lv_at hl 1 rfl) ?_
  refine lv_aload_n hx hb dL_law_373 rfl (lv_at hl 0 rfl) ?_
  refine lv_iload hx hb dL_law_374 (lv_at hl 4 rfl) ?_
  refine lv_iconst (v := 1) hx hb dL_law_376 (by decide) ?_
  refine lv_iadd hx hb dL_law_377 ?_
  refine va_sld hx hb hX hbl (Nat.not_le.mpr hbl) hS (by show vp_in (nI (3 * n9) + nI 1) L; rw [nI_add]; exact vp_in_nI (by omega) (by omega)) dL_law_378 ?_
  refine lv_topi (fun a ea => ?_)
  refine lv_aload_n hx hb dL_law_379 rfl (lv_at hl 0 rfl) ?_
  refine lv_iload hx hb dL_law_380 (lv_at hl 4 rfl) ?_
  refine lv_iconst (v := 2) hx hb dL_law_382 (by decide) ?_
  refine lv_iadd hx hb dL_law_383 ?_
  refine va_sld hx hb hX hbl (Nat.not_le.mpr hbl) hS (by show vp_in (nI (3 * n9) + nI 2) L; rw [nI_add]; exact vp_in_nI (by omega) (by omega)) dL_law_384 ?_
  refine lv_topi (fun b9 eb9 => ?_)
  refine lv_aload_n hx hb dL_law_385 rfl (lv_at hl 3 rfl) ?_
  refine vx_calli (vx_runSX (As := [.ref (r_h ρ), .int a, .int b9, .ref o]) (rest := []) ⟨hx, hb, hml, hown, hts⟩ (h_borrow l hlf D cs ρ hI hap H o f hoB a b9) (vx_cwSW 4 hts gL_law_L_borrow rfl rfl rfl (by decide +kernel) ⟨Nat.le_of_ble_eq_true rfl, Nat.le_of_ble_eq_true rfl⟩) (hb_S hK hN ⟨rfl, hP, hO⟩ hT hNc hS.1 (fun q h => hS.2.1 q h (Nat.not_le.mpr h))) rfl rfl hl.1 rfl (lv_room (Nat.le_of_ble_eq_true rfl)) dL_law_386 ⟨(show cells + 3 ≤ 601024 by omega), (show slots + 18 ≤ 7293034 by omega)⟩) hS (fun q _ h => hB9 q h) hB9 (fun q _ h => h.elim) (fun E ce q9 u t H1 locs ht hvm hu _ _ _ _ _ _ _ => hu.elim) (fun r u t H1 locs ht hvm hw hB hz1 hk1 hS => ?_)
  obtain ⟨hr, hu1, hu2⟩ := hw
  rw [ht] at hB
  obtain ⟨hP, hO⟩ := hB
  rw [hu1] at hP
  have hM := mod_hl hM (fun q h => (hown9 q h).1) hoM hk1
  rw [hr]
  have h3 : (borrO σ a b9).1 ≤ 3 := borr_3
  have hkk : sK ((borrO σ a b9).2.2) = sK σ := borr_k
  have hap : AptA ρ (sK ((borrO σ a b9).2.2)) := by rw [hkk]; exact hap
  have he0 : sK ((borrO σ a b9).2.2) = 0 → r_e ρ = e0 := by rw [hkk]; exact he0
  have hown9 : ∀ q, ownB ρ (sK ((borrO σ a b9).2.2)) q → ¬ ownM M q ∧ q ≠ o ∧ s.heap.size ≤ q := by rw [hkk]; exact hown9
  refine lv_istore (lv' := [(5, .int (nI (borrO σ a b9).1)), (0, .ref b), (1, .ref (r_h ρ)), (2, .ref M.1), (3, .ref o), (4, .int (nI (3 * n9)))]) hx hb dL_law_389 hl (by decide) rfl (fun ls hl => ?_)
  refine lv_aload_n hx hb dL_law_391 rfl (lv_at hl 3 rfl) ?_
  refine lv_aload_n hx hb dL_law_392 rfl (lv_at hl 1 rfl) ?_
  refine lv_iload hx hb dL_law_393 (lv_at hl 5 rfl) ?_
  refine lv_iconst (v := 1) hx hb dL_law_395 (by decide) ?_
  refine lv_iadd hx hb dL_law_396 ?_
  refine va_sld hx hb hX hbl (Nat.not_le.mpr hbl) hS (by show vp_in (nI (3 * n9) + nI 1) L; rw [nI_add]; exact vp_in_nI (by omega) (by omega)) dL_law_397 ?_
  rw [← ea]
  refine lv_aload_n hx hb dL_law_398 rfl (lv_at hl 1 rfl) ?_
  refine lv_iload hx hb dL_law_399 (lv_at hl 5 rfl) ?_
  refine lv_iconst (v := 2) hx hb dL_law_401 (by decide) ?_
  refine lv_iadd hx hb dL_law_402 ?_
  refine va_sld hx hb hX hbl (Nat.not_le.mpr hbl) hS (by show vp_in (nI (3 * n9) + nI 2) L; rw [nI_add]; exact vp_in_nI (by omega) (by omega)) dL_law_403 ?_
  rw [← eb9]
  refine va_calli (va_runV (As := [.int a, .int b9]) (rest := []) ⟨hx, hb, hml, hown, hts⟩ (c_X2_borrow l D cs M th hT0 hap2 H1 a b9) (cwV 2 hts gL_law_X2_borrow rfl rfl rfl (by decide +kernel) ⟨Nat.le_of_ble_eq_true rfl, Nat.le_of_ble_eq_true rfl⟩) (rb_V hK hN ⟨rfl, hM⟩ (va_recv hK hM (ci := 3) (q0 := 0) rfl rfl)) rfl rfl hl.1 rfl (lv_room (Nat.le_of_ble_eq_true rfl)) dL_law_404 ⟨(show cells + 3 + 0 ≤ 601024 by omega), (show slots + 18 + 0 ≤ 7293034 by omega)⟩) hS (fun q _ h => h.elim (hMs q) (fun h => Nat.le_trans hS.1 h)) (fun q h => h.elim (hMs q) (fun h => Nat.le_trans hS.1 h)) (fun r2 u2 t H1 locs ht hvm hp hB hz1 hk1 hS => ?_)
  have hp9 : u2 = ((((borrO σ a b9).1, (borrO σ a b9).2.1)).1, (borrO σ a b9).2.2) ∧ ((((borrO σ a b9).1, (borrO σ a b9).2.1)).1 = 0 → r2 = (((borrO σ a b9).1, (borrO σ a b9).2.1)).2) := hp
  obtain ⟨hu9, hr2⟩ := hp9
  subst hu9
  rw [ht] at hB
  have hM : va_P D vwCl (modW cs M (nI (((borrO σ a b9).1, (borrO σ a b9).2.1)).1) ((borrO σ a b9).2.2)) H1 := hB
  have hP := soc_md hP (fun q h => (hown9 q h).1) hk1
  have hO := out_md hO hoM hk1
  refine lv_istore (lv' := [(6, .int r2), (5, .int (nI (borrO σ a b9).1)), (0, .ref b), (1, .ref (r_h ρ)), (2, .ref M.1), (3, .ref o), (4, .int (nI (3 * n9)))]) hx hb dL_law_407 hl (by decide) rfl (fun ls hl => ?_)
  refine lv_aload_n hx hb dL_law_409 rfl (lv_at hl 4 rfl) ?_
  refine vp_callSi (va_Run.run (va_runV (As := []) (rest := []) ⟨hx, hb, hml, hown, hts⟩ (c_X2_thrown l D cs M (nI (((borrO σ a b9).1, (borrO σ a b9).2.1)).1) (invT_borr hT0 a b9).1) (cwV 0 hts gL_law_X2_thrown rfl rfl rfl (by decide +kernel) ⟨Nat.le_of_ble_eq_true rfl, Nat.le_of_ble_eq_true rfl⟩) (rb_V hK hN hM (va_recv hK hM (ci := 3) (q0 := 0) rfl rfl)) rfl rfl hl.1 rfl (lv_room (Nat.le_of_ble_eq_true rfl)) dL_law_410 ⟨(show cells + 3 + 0 ≤ 601024 by omega), (show slots + 18 + 0 ≤ 7293034 by omega)⟩)) (fun r3 h3 => ?_)
  rw [h3]
  refine lv_iload hx hb dL_law_413 (lv_at hl 1 rfl) ?_
  refine lv_icmp_eq (tgt := 420) hx hb dL_law_415 (by decide) (fun _ => ?_) (fun c9 => absurd rfl c9)
  refine lv_iload hx hb dL_law_420 (lv_at hl 1 rfl) ?_
  refine lv_if_ne (tgt := 437) hx hb dL_law_422 (by decide) (fun c_1 => ?_) (fun c_1 => ?_)
  · refine lv_goto (tgt := 1554) hx hb dL_law_437 (by decide) ?_
    refine W.widen (k := cells + 14) (n := slots + 148) (by omega) (by omega) ?_
    exact K ls _ _ _ hd0 ⟨ρ, ((borrO σ a b9).2.2), (nI (((borrO σ a b9).1, (borrO σ a b9).2.1)).1), u.2, rfl, hP, hM, hO, invT_le (invT_borr hT0 a b9) (by omega) (by omega), hap, he0, hown9⟩ hS (lv_sub hl [2, 3, 4, 5, 6] rfl)
  · have h0 : (borrO σ a b9).1 = 0 := (nI_eq (a := (borrO σ a b9).1) (b := 0) (by omega) (by omega)).mp c_1
    refine lv_aload_n hx hb dL_law_425 rfl (lv_at hl 5 rfl) ?_
    refine lv_iconst (v := 0) hx hb dL_law_426 (by decide) ?_
    refine va_lald (i := 0) hx hb hK (one_P hO) 0 2 rfl rfl (by unfold vp_in; decide) dL_law_427 ?_
    rw [show u.2 (0 : Int32).toNatClampNeg = ((borrO σ a b9).2.1).toInt64 from hu2 h0]
    refine lv_iload hx hb dL_law_428 (lv_at hl 0 rfl) ?_
    refine lv_i2l (v := r2.toInt64) hx hb dL_law_430 rfl ?_
    rw [show r2 = (borrO σ a b9).2.1 from hr2 h0]
    refine W.lcmp hx hb dL_law_431 ?_
    refine lv_if_eq (tgt := 437) hx hb dL_law_432 (by decide) (fun _ => ?_) (fun c9 => absurd (lg_self _) c9)
    refine lv_goto (tgt := 1554) hx hb dL_law_437 (by decide) ?_
    refine W.widen (k := cells + 14) (n := slots + 148) (by omega) (by omega) ?_
    exact K ls _ _ _ hd0 ⟨ρ, ((borrO σ a b9).2.2), (nI (((borrO σ a b9).1, (borrO σ a b9).2.1)).1), u.2, rfl, hP, hM, hO, invT_le (invT_borr hT0 a b9) (by omega) (by omega), hap, he0, hown9⟩ hS (lv_sub hl [2, 3, 4, 5, 6] rfl)
set_option maxHeartbeats 400000 in
set_option maxRecDepth 100000 in
theorem q_giveBack {p : Program} {e : Env} {s : State} {m : MethodId} {below : List Frame} {meth : Method} {c : Code} {l : Launch} {b L : Nat} {xs : Nat → Int32} {D : va_G} {cs : Cs} {M : Nat × (Nat → Nat)} {x o e0 : Nat} (E : LwE p s m c l b L xs D cs M o e0) {Q : State → Prop} {d0 : Drawn} (hd0 : s.drawn.sameBut d0 lw_cs) {n9 : Nat} (hn : n9 < 512) (hn2 : 3 * n9 + 3 ≤ L) (hL : L ≤ 1536) {H : Heap} {locs : List Loc} {ls : Array Slot} {cells slots : Nat} (hJ : LwI D cs x M o e0 s.heap.size n9 H) (hS : va_S (fun q => s.heap.size ≤ q) s.heap H locs) (hl : lv_has ls 9 [(0, .ref b), (1, .ref x), (2, .ref M.1), (3, .ref o), (4, .int (nI (3 * n9)))]) (hc1 : cells + 14 ≤ 601024) (hc2 : slots + 148 ≤ 7293034)
    (K : ∀ (ls : Array Slot) (H : Heap) (locs : List Loc) (d : Drawn), s.drawn.sameBut d lw_cs → LwI D cs x M o e0 s.heap.size (n9 + 1) H → va_S (fun q => s.heap.size ≤ q) s.heap H locs → lv_has ls 9 [(0, .ref b), (1, .ref x), (2, .ref M.1), (3, .ref o), (4, .int (nI (3 * n9)))] → W p l e room_1 (s.setDrawn d) m #[.ref b] below meth c H locs (cells + 14) (slots + 148) Q (F0 m 1554 ls [])) :
    W p l e room_1 (s.setDrawn d0) m #[.ref b] below meth c H locs cells slots Q (F0 m 440 ls []) := by
  obtain ⟨hx, hb, hml, hown, hts, hX, hbl, hK, hN, hT, hNc, hE, hlf, hap2, hMs, hos, hoM⟩ := id E
  obtain ⟨ρ, σ, th, f, rfl, hP, hM, hO, hT0, hap, he0, hown9⟩ := hJ
  have hts := dr_words hts d0
  have hN9 := hN
  have hN := dr_N d0 hN
  have hT := dr_T d0 hT
  have hNc := dr_Nc d0 hNc
  have hE := dr_E d0 hE
  have hX : va_X b L xs (s.setDrawn d0) s.heap := hX
  have hK : va_K D vwCl (tyz cs) (s.setDrawn d0) := va_K.moved (u := s) (U := s.setDrawn d0) (Vm.Alike.refl s.vm) hK
  have hI := hT0.1
  have hoB : ¬ ownB ρ (sK σ) o := fun h => (hown9 o h).2.1 rfl
  have hA9 : ∀ q, mdA M H q → s.heap.size ≤ q := fun q h => h.elim (hMs q) (fun h => Nat.le_trans hS.1 h)
  have hB9 : ∀ q, hlA ρ (sK σ) o H q → s.heap.size ≤ q := fun q h => h.elim (fun h => h.elim (fun h => (hown9 q h).2.2) (fun h => Nat.le_trans hS.1 h)) (fun h => by rw [h]; exact hos)
  refine lv_aload_n hx hb dL_law_440 rfl (lv_at hl 1 rfl) ?_
  refine lv_aload_n hx hb dL_law_441 rfl (lv_at hl 0 rfl) ?_
  refine lv_iload hx hb dL_law_442 (lv_at hl 4 rfl) ?_
  refine lv_iconst (v := 1) hx hb dL_law_444 (by decide) ?_
  refine lv_iadd hx hb dL_law_445 ?_
  refine va_sld hx hb hX hbl (Nat.not_le.mpr hbl) hS (by show vp_in (nI (3 * n9) + nI 1) L; rw [nI_add]; exact vp_in_nI (by omega) (by omega)) dL_law_446 ?_
  refine lv_topi (fun a ea => ?_)
  refine lv_aload_n hx hb dL_law_447 rfl (lv_at hl 3 rfl) ?_
  refine vx_calli (vx_runSX (As := [.ref (r_h ρ), .int a, .ref o]) (rest := []) ⟨hx, hb, hml, hown, hts⟩ (h_giveBack l hlf D cs ρ hT0 hap H o f hoB a) (vx_cwSW 3 hts gL_law_L_giveBack rfl rfl rfl (by decide +kernel) ⟨Nat.le_of_ble_eq_true rfl, Nat.le_of_ble_eq_true rfl⟩) (hb_S hK hN ⟨rfl, hP, hO⟩ hT hNc hS.1 (fun q h => hS.2.1 q h (Nat.not_le.mpr h))) rfl rfl hl.1 rfl (lv_room (Nat.le_of_ble_eq_true rfl)) dL_law_448 ⟨(show cells + 2 ≤ 601024 by omega), (show slots + 12 ≤ 7293034 by omega)⟩) hS (fun q _ h => hB9 q h) hB9 (fun q _ h => h.elim) (fun E ce q9 u t H1 locs ht hvm hu _ _ _ _ _ _ _ => hu.elim) (fun r u t H1 locs ht hvm hw hB hz1 hk1 hS => ?_)
  obtain ⟨hr, hu1, hu2⟩ := hw
  rw [ht] at hB
  obtain ⟨hP, hO⟩ := hB
  rw [hu1] at hP
  have hM := mod_hl hM (fun q h => (hown9 q h).1) hoM hk1
  rw [hr]
  have h3 : (giveO σ a).1 ≤ 3 := give_3
  have hkk : sK ((giveO σ a).2.2) = sK σ := give_k
  have hap : AptA ρ (sK ((giveO σ a).2.2)) := by rw [hkk]; exact hap
  have he0 : sK ((giveO σ a).2.2) = 0 → r_e ρ = e0 := by rw [hkk]; exact he0
  have hown9 : ∀ q, ownB ρ (sK ((giveO σ a).2.2)) q → ¬ ownM M q ∧ q ≠ o ∧ s.heap.size ≤ q := by rw [hkk]; exact hown9
  refine lv_istore (lv' := [(5, .int (nI (giveO σ a).1)), (0, .ref b), (1, .ref (r_h ρ)), (2, .ref M.1), (3, .ref o), (4, .int (nI (3 * n9)))]) hx hb dL_law_451 hl (by decide) rfl (fun ls hl => ?_)
  refine lv_aload_n hx hb dL_law_453 rfl (lv_at hl 3 rfl) ?_
  refine lv_aload_n hx hb dL_law_454 rfl (lv_at hl 1 rfl) ?_
  refine lv_iload hx hb dL_law_455 (lv_at hl 5 rfl) ?_
  refine lv_iconst (v := 1) hx hb dL_law_457 (by decide) ?_
  refine lv_iadd hx hb dL_law_458 ?_
  refine va_sld hx hb hX hbl (Nat.not_le.mpr hbl) hS (by show vp_in (nI (3 * n9) + nI 1) L; rw [nI_add]; exact vp_in_nI (by omega) (by omega)) dL_law_459 ?_
  rw [← ea]
  refine va_calli (va_runV (As := [.int a]) (rest := []) ⟨hx, hb, hml, hown, hts⟩ (c_X2_giveBack l D cs M th hI hap2 H1 a) (cwV 1 hts gL_law_X2_giveBack rfl rfl rfl (by decide +kernel) ⟨Nat.le_of_ble_eq_true rfl, Nat.le_of_ble_eq_true rfl⟩) (rb_V hK hN ⟨rfl, hM⟩ (va_recv hK hM (ci := 3) (q0 := 0) rfl rfl)) rfl rfl hl.1 rfl (lv_room (Nat.le_of_ble_eq_true rfl)) dL_law_460 ⟨(show cells + 2 + 0 ≤ 601024 by omega), (show slots + 12 + 0 ≤ 7293034 by omega)⟩) hS (fun q _ h => h.elim (hMs q) (fun h => Nat.le_trans hS.1 h)) (fun q h => h.elim (hMs q) (fun h => Nat.le_trans hS.1 h)) (fun r2 u2 t H1 locs ht hvm hp hB hz1 hk1 hS => ?_)
  have hp9 : u2 = ((((giveO σ a).1, (giveO σ a).2.1)).1, (giveO σ a).2.2) ∧ ((((giveO σ a).1, (giveO σ a).2.1)).1 = 0 → r2 = (((giveO σ a).1, (giveO σ a).2.1)).2) := hp
  obtain ⟨hu9, hr2⟩ := hp9
  subst hu9
  rw [ht] at hB
  have hM : va_P D vwCl (modW cs M (nI (((giveO σ a).1, (giveO σ a).2.1)).1) ((giveO σ a).2.2)) H1 := hB
  have hP := soc_md hP (fun q h => (hown9 q h).1) hk1
  have hO := out_md hO hoM hk1
  refine lv_istore (lv' := [(6, .int r2), (5, .int (nI (giveO σ a).1)), (0, .ref b), (1, .ref (r_h ρ)), (2, .ref M.1), (3, .ref o), (4, .int (nI (3 * n9)))]) hx hb dL_law_463 hl (by decide) rfl (fun ls hl => ?_)
  refine lv_aload_n hx hb dL_law_465 rfl (lv_at hl 4 rfl) ?_
  refine vp_callSi (va_Run.run (va_runV (As := []) (rest := []) ⟨hx, hb, hml, hown, hts⟩ (c_X2_thrown l D cs M (nI (((giveO σ a).1, (giveO σ a).2.1)).1) (invT_give hT0 a).1) (cwV 0 hts gL_law_X2_thrown rfl rfl rfl (by decide +kernel) ⟨Nat.le_of_ble_eq_true rfl, Nat.le_of_ble_eq_true rfl⟩) (rb_V hK hN hM (va_recv hK hM (ci := 3) (q0 := 0) rfl rfl)) rfl rfl hl.1 rfl (lv_room (Nat.le_of_ble_eq_true rfl)) dL_law_466 ⟨(show cells + 2 + 0 ≤ 601024 by omega), (show slots + 12 + 0 ≤ 7293034 by omega)⟩)) (fun r3 h3 => ?_)
  rw [h3]
  refine lv_iload hx hb dL_law_469 (lv_at hl 1 rfl) ?_
  refine lv_icmp_eq (tgt := 476) hx hb dL_law_471 (by decide) (fun _ => ?_) (fun c9 => absurd rfl c9)
  refine lv_iload hx hb dL_law_476 (lv_at hl 1 rfl) ?_
  refine lv_if_ne (tgt := 493) hx hb dL_law_478 (by decide) (fun c_1 => ?_) (fun c_1 => ?_)
  · refine lv_goto (tgt := 1554) hx hb dL_law_493 (by decide) ?_
    refine W.widen (k := cells + 14) (n := slots + 148) (by omega) (by omega) ?_
    exact K ls _ _ _ hd0 ⟨ρ, ((giveO σ a).2.2), (nI (((giveO σ a).1, (giveO σ a).2.1)).1), u.2, rfl, hP, hM, hO, invT_le (invT_give hT0 a) (by omega) (by omega), hap, he0, hown9⟩ hS (lv_sub hl [2, 3, 4, 5, 6] rfl)
  · have h0 : (giveO σ a).1 = 0 := (nI_eq (a := (giveO σ a).1) (b := 0) (by omega) (by omega)).mp c_1
    refine lv_aload_n hx hb dL_law_481 rfl (lv_at hl 5 rfl) ?_
    refine lv_iconst (v := 0) hx hb dL_law_482 (by decide) ?_
    refine va_lald (i := 0) hx hb hK (one_P hO) 0 2 rfl rfl (by unfold vp_in; decide) dL_law_483 ?_
    rw [show u.2 (0 : Int32).toNatClampNeg = ((giveO σ a).2.1).toInt64 from hu2 h0]
    refine lv_iload hx hb dL_law_484 (lv_at hl 0 rfl) ?_
    refine lv_i2l (v := r2.toInt64) hx hb dL_law_486 rfl ?_
    rw [show r2 = (giveO σ a).2.1 from hr2 h0]
    refine W.lcmp hx hb dL_law_487 ?_
    refine lv_if_eq (tgt := 493) hx hb dL_law_488 (by decide) (fun _ => ?_) (fun c9 => absurd (lg_self _) c9)
    refine lv_goto (tgt := 1554) hx hb dL_law_493 (by decide) ?_
    refine W.widen (k := cells + 14) (n := slots + 148) (by omega) (by omega) ?_
    exact K ls _ _ _ hd0 ⟨ρ, ((giveO σ a).2.2), (nI (((giveO σ a).1, (giveO σ a).2.1)).1), u.2, rfl, hP, hM, hO, invT_le (invT_give hT0 a) (by omega) (by omega), hap, he0, hown9⟩ hS (lv_sub hl [2, 3, 4, 5, 6] rfl)
set_option maxHeartbeats 400000 in
set_option maxRecDepth 100000 in
theorem q_certify {p : Program} {e : Env} {s : State} {m : MethodId} {below : List Frame} {meth : Method} {c : Code} {l : Launch} {b L : Nat} {xs : Nat → Int32} {D : va_G} {cs : Cs} {M : Nat × (Nat → Nat)} {x o e0 : Nat} (E : LwE p s m c l b L xs D cs M o e0) {Q : State → Prop} {d0 : Drawn} (hd0 : s.drawn.sameBut d0 lw_cs) {n9 : Nat} (hn : n9 < 512) (hn2 : 3 * n9 + 3 ≤ L) (hL : L ≤ 1536) {H : Heap} {locs : List Loc} {ls : Array Slot} {cells slots : Nat} (hJ : LwI D cs x M o e0 s.heap.size n9 H) (hS : va_S (fun q => s.heap.size ≤ q) s.heap H locs) (hl : lv_has ls 9 [(0, .ref b), (1, .ref x), (2, .ref M.1), (3, .ref o), (4, .int (nI (3 * n9)))]) (hc1 : cells + 14 ≤ 601024) (hc2 : slots + 148 ≤ 7293034)
    (K : ∀ (ls : Array Slot) (H : Heap) (locs : List Loc) (d : Drawn), s.drawn.sameBut d lw_cs → LwI D cs x M o e0 s.heap.size (n9 + 1) H → va_S (fun q => s.heap.size ≤ q) s.heap H locs → lv_has ls 9 [(0, .ref b), (1, .ref x), (2, .ref M.1), (3, .ref o), (4, .int (nI (3 * n9)))] → W p l e room_1 (s.setDrawn d) m #[.ref b] below meth c H locs (cells + 14) (slots + 148) Q (F0 m 1554 ls [])) :
    W p l e room_1 (s.setDrawn d0) m #[.ref b] below meth c H locs cells slots Q (F0 m 496 ls []) := by
  obtain ⟨hx, hb, hml, hown, hts, hX, hbl, hK, hN, hT, hNc, hE, hlf, hap2, hMs, hos, hoM⟩ := id E
  obtain ⟨ρ, σ, th, f, rfl, hP, hM, hO, hT0, hap, he0, hown9⟩ := hJ
  have hts := dr_words hts d0
  have hN9 := hN
  have hN := dr_N d0 hN
  have hT := dr_T d0 hT
  have hNc := dr_Nc d0 hNc
  have hE := dr_E d0 hE
  have hX : va_X b L xs (s.setDrawn d0) s.heap := hX
  have hK : va_K D vwCl (tyz cs) (s.setDrawn d0) := va_K.moved (u := s) (U := s.setDrawn d0) (Vm.Alike.refl s.vm) hK
  have hI := hT0.1
  have hoB : ¬ ownB ρ (sK σ) o := fun h => (hown9 o h).2.1 rfl
  have hA9 : ∀ q, mdA M H q → s.heap.size ≤ q := fun q h => h.elim (hMs q) (fun h => Nat.le_trans hS.1 h)
  have hB9 : ∀ q, hlA ρ (sK σ) o H q → s.heap.size ≤ q := fun q h => h.elim (fun h => h.elim (fun h => (hown9 q h).2.2) (fun h => Nat.le_trans hS.1 h)) (fun h => by rw [h]; exact hos)
  refine lv_aload_n hx hb dL_law_496 rfl (lv_at hl 1 rfl) ?_
  refine lv_aload_n hx hb dL_law_497 rfl (lv_at hl 0 rfl) ?_
  refine lv_iload hx hb dL_law_498 (lv_at hl 4 rfl) ?_
  refine lv_iconst (v := 1) hx hb dL_law_500 (by decide) ?_
  refine lv_iadd hx hb dL_law_501 ?_
  refine va_sld hx hb hX hbl (Nat.not_le.mpr hbl) hS (by show vp_in (nI (3 * n9) + nI 1) L; rw [nI_add]; exact vp_in_nI (by omega) (by omega)) dL_law_502 ?_
  refine lv_topi (fun a ea => ?_)
  refine lv_aload_n hx hb dL_law_503 rfl (lv_at hl 3 rfl) ?_
  refine vx_calli (vx_runSX (As := [.ref (r_h ρ), .int a, .ref o]) (rest := []) ⟨hx, hb, hml, hown, hts⟩ (h_certify l hlf D cs ρ hI hap H o f hoB a) (vx_cwSW 3 hts gL_law_L_certify rfl rfl rfl (by decide +kernel) ⟨Nat.le_of_ble_eq_true rfl, Nat.le_of_ble_eq_true rfl⟩) (hb_S hK hN ⟨rfl, hP, hO⟩ hT hNc hS.1 (fun q h => hS.2.1 q h (Nat.not_le.mpr h))) rfl rfl hl.1 rfl (lv_room (Nat.le_of_ble_eq_true rfl)) dL_law_504 ⟨(show cells + 2 ≤ 601024 by omega), (show slots + 12 ≤ 7293034 by omega)⟩) hS (fun q _ h => hB9 q h) hB9 (fun q _ h => h.elim) (fun E ce q9 u t H1 locs ht hvm hu _ _ _ _ _ _ _ => hu.elim) (fun r u t H1 locs ht hvm hw hB hz1 hk1 hS => ?_)
  obtain ⟨hr, hu1, hu2⟩ := hw
  rw [ht] at hB
  obtain ⟨hP, hO⟩ := hB
  rw [hu1] at hP
  have hM := mod_hl hM (fun q h => (hown9 q h).1) hoM hk1
  rw [hr]
  have h3 : (certO σ a).1 ≤ 3 := cert_3
  have hkk : sK ((certO σ a).2.2) = sK σ := cert_k
  have hap : AptA ρ (sK ((certO σ a).2.2)) := by rw [hkk]; exact hap
  have he0 : sK ((certO σ a).2.2) = 0 → r_e ρ = e0 := by rw [hkk]; exact he0
  have hown9 : ∀ q, ownB ρ (sK ((certO σ a).2.2)) q → ¬ ownM M q ∧ q ≠ o ∧ s.heap.size ≤ q := by rw [hkk]; exact hown9
  refine lv_istore (lv' := [(5, .int (nI (certO σ a).1)), (0, .ref b), (1, .ref (r_h ρ)), (2, .ref M.1), (3, .ref o), (4, .int (nI (3 * n9)))]) hx hb dL_law_507 hl (by decide) rfl (fun ls hl => ?_)
  refine lv_aload_n hx hb dL_law_509 rfl (lv_at hl 3 rfl) ?_
  refine lv_aload_n hx hb dL_law_510 rfl (lv_at hl 1 rfl) ?_
  refine lv_iload hx hb dL_law_511 (lv_at hl 5 rfl) ?_
  refine lv_iconst (v := 1) hx hb dL_law_513 (by decide) ?_
  refine lv_iadd hx hb dL_law_514 ?_
  refine va_sld hx hb hX hbl (Nat.not_le.mpr hbl) hS (by show vp_in (nI (3 * n9) + nI 1) L; rw [nI_add]; exact vp_in_nI (by omega) (by omega)) dL_law_515 ?_
  rw [← ea]
  refine va_calli (va_runV (As := [.int a]) (rest := []) ⟨hx, hb, hml, hown, hts⟩ (c_X2_certify l D cs M th hI hap2 H1 a) (cwV 1 hts gL_law_X2_certify rfl rfl rfl (by decide +kernel) ⟨Nat.le_of_ble_eq_true rfl, Nat.le_of_ble_eq_true rfl⟩) (rb_V hK hN ⟨rfl, hM⟩ (va_recv hK hM (ci := 3) (q0 := 0) rfl rfl)) rfl rfl hl.1 rfl (lv_room (Nat.le_of_ble_eq_true rfl)) dL_law_516 ⟨(show cells + 2 + 0 ≤ 601024 by omega), (show slots + 12 + 0 ≤ 7293034 by omega)⟩) hS (fun q _ h => h.elim (hMs q) (fun h => Nat.le_trans hS.1 h)) (fun q h => h.elim (hMs q) (fun h => Nat.le_trans hS.1 h)) (fun r2 u2 t H1 locs ht hvm hp hB hz1 hk1 hS => ?_)
  have hp9 : u2 = ((((certO σ a).1, (certO σ a).2.1)).1, (certO σ a).2.2) ∧ ((((certO σ a).1, (certO σ a).2.1)).1 = 0 → r2 = (((certO σ a).1, (certO σ a).2.1)).2) := hp
  obtain ⟨hu9, hr2⟩ := hp9
  subst hu9
  rw [ht] at hB
  have hM : va_P D vwCl (modW cs M (nI (((certO σ a).1, (certO σ a).2.1)).1) ((certO σ a).2.2)) H1 := hB
  have hP := soc_md hP (fun q h => (hown9 q h).1) hk1
  have hO := out_md hO hoM hk1
  refine lv_istore (lv' := [(6, .int r2), (5, .int (nI (certO σ a).1)), (0, .ref b), (1, .ref (r_h ρ)), (2, .ref M.1), (3, .ref o), (4, .int (nI (3 * n9)))]) hx hb dL_law_519 hl (by decide) rfl (fun ls hl => ?_)
  refine lv_aload_n hx hb dL_law_521 rfl (lv_at hl 4 rfl) ?_
  refine vp_callSi (va_Run.run (va_runV (As := []) (rest := []) ⟨hx, hb, hml, hown, hts⟩ (c_X2_thrown l D cs M (nI (((certO σ a).1, (certO σ a).2.1)).1) (invT_cert hT0 a).1) (cwV 0 hts gL_law_X2_thrown rfl rfl rfl (by decide +kernel) ⟨Nat.le_of_ble_eq_true rfl, Nat.le_of_ble_eq_true rfl⟩) (rb_V hK hN hM (va_recv hK hM (ci := 3) (q0 := 0) rfl rfl)) rfl rfl hl.1 rfl (lv_room (Nat.le_of_ble_eq_true rfl)) dL_law_522 ⟨(show cells + 2 + 0 ≤ 601024 by omega), (show slots + 12 + 0 ≤ 7293034 by omega)⟩)) (fun r3 h3 => ?_)
  rw [h3]
  refine lv_iload hx hb dL_law_525 (lv_at hl 1 rfl) ?_
  refine lv_icmp_eq (tgt := 532) hx hb dL_law_527 (by decide) (fun _ => ?_) (fun c9 => absurd rfl c9)
  refine lv_iload hx hb dL_law_532 (lv_at hl 1 rfl) ?_
  refine lv_if_ne (tgt := 549) hx hb dL_law_534 (by decide) (fun c_1 => ?_) (fun c_1 => ?_)
  · refine lv_goto (tgt := 1554) hx hb dL_law_549 (by decide) ?_
    refine W.widen (k := cells + 14) (n := slots + 148) (by omega) (by omega) ?_
    exact K ls _ _ _ hd0 ⟨ρ, ((certO σ a).2.2), (nI (((certO σ a).1, (certO σ a).2.1)).1), u.2, rfl, hP, hM, hO, invT_le (invT_cert hT0 a) (by omega) (by omega), hap, he0, hown9⟩ hS (lv_sub hl [2, 3, 4, 5, 6] rfl)
  · have h0 : (certO σ a).1 = 0 := (nI_eq (a := (certO σ a).1) (b := 0) (by omega) (by omega)).mp c_1
    refine lv_aload_n hx hb dL_law_537 rfl (lv_at hl 5 rfl) ?_
    refine lv_iconst (v := 0) hx hb dL_law_538 (by decide) ?_
    refine va_lald (i := 0) hx hb hK (one_P hO) 0 2 rfl rfl (by unfold vp_in; decide) dL_law_539 ?_
    rw [show u.2 (0 : Int32).toNatClampNeg = ((certO σ a).2.1).toInt64 from hu2 h0]
    refine lv_iload hx hb dL_law_540 (lv_at hl 0 rfl) ?_
    refine lv_i2l (v := r2.toInt64) hx hb dL_law_542 rfl ?_
    rw [show r2 = (certO σ a).2.1 from hr2 h0]
    refine W.lcmp hx hb dL_law_543 ?_
    refine lv_if_eq (tgt := 549) hx hb dL_law_544 (by decide) (fun _ => ?_) (fun c9 => absurd (lg_self _) c9)
    refine lv_goto (tgt := 1554) hx hb dL_law_549 (by decide) ?_
    refine W.widen (k := cells + 14) (n := slots + 148) (by omega) (by omega) ?_
    exact K ls _ _ _ hd0 ⟨ρ, ((certO σ a).2.2), (nI (((certO σ a).1, (certO σ a).2.1)).1), u.2, rfl, hP, hM, hO, invT_le (invT_cert hT0 a) (by omega) (by omega), hap, he0, hown9⟩ hS (lv_sub hl [2, 3, 4, 5, 6] rfl)
set_option maxHeartbeats 400000 in
set_option maxRecDepth 100000 in
theorem q_pass {p : Program} {e : Env} {s : State} {m : MethodId} {below : List Frame} {meth : Method} {c : Code} {l : Launch} {b L : Nat} {xs : Nat → Int32} {D : va_G} {cs : Cs} {M : Nat × (Nat → Nat)} {x o e0 : Nat} (E : LwE p s m c l b L xs D cs M o e0) {Q : State → Prop} {d0 : Drawn} (hd0 : s.drawn.sameBut d0 lw_cs) {n9 : Nat} (hn : n9 < 512) (hn2 : 3 * n9 + 3 ≤ L) (hL : L ≤ 1536) {H : Heap} {locs : List Loc} {ls : Array Slot} {cells slots : Nat} (hJ : LwI D cs x M o e0 s.heap.size n9 H) (hS : va_S (fun q => s.heap.size ≤ q) s.heap H locs) (hl : lv_has ls 9 [(0, .ref b), (1, .ref x), (2, .ref M.1), (3, .ref o), (4, .int (nI (3 * n9)))]) (hc1 : cells + 14 ≤ 601024) (hc2 : slots + 148 ≤ 7293034)
    (K : ∀ (ls : Array Slot) (H : Heap) (locs : List Loc) (d : Drawn), s.drawn.sameBut d lw_cs → LwI D cs x M o e0 s.heap.size (n9 + 1) H → va_S (fun q => s.heap.size ≤ q) s.heap H locs → lv_has ls 9 [(0, .ref b), (1, .ref x), (2, .ref M.1), (3, .ref o), (4, .int (nI (3 * n9)))] → W p l e room_1 (s.setDrawn d) m #[.ref b] below meth c H locs (cells + 14) (slots + 148) Q (F0 m 1554 ls [])) :
    W p l e room_1 (s.setDrawn d0) m #[.ref b] below meth c H locs cells slots Q (F0 m 552 ls []) := by
  obtain ⟨hx, hb, hml, hown, hts, hX, hbl, hK, hN, hT, hNc, hE, hlf, hap2, hMs, hos, hoM⟩ := id E
  obtain ⟨ρ, σ, th, f, rfl, hP, hM, hO, hT0, hap, he0, hown9⟩ := hJ
  have hts := dr_words hts d0
  have hN9 := hN
  have hN := dr_N d0 hN
  have hT := dr_T d0 hT
  have hNc := dr_Nc d0 hNc
  have hE := dr_E d0 hE
  have hX : va_X b L xs (s.setDrawn d0) s.heap := hX
  have hK : va_K D vwCl (tyz cs) (s.setDrawn d0) := va_K.moved (u := s) (U := s.setDrawn d0) (Vm.Alike.refl s.vm) hK
  have hI := hT0.1
  have hoB : ¬ ownB ρ (sK σ) o := fun h => (hown9 o h).2.1 rfl
  have hA9 : ∀ q, mdA M H q → s.heap.size ≤ q := fun q h => h.elim (hMs q) (fun h => Nat.le_trans hS.1 h)
  have hB9 : ∀ q, hlA ρ (sK σ) o H q → s.heap.size ≤ q := fun q h => h.elim (fun h => h.elim (fun h => (hown9 q h).2.2) (fun h => Nat.le_trans hS.1 h)) (fun h => by rw [h]; exact hos)
  refine lv_aload_n hx hb dL_law_552 rfl (lv_at hl 1 rfl) ?_
  refine lv_aload_n hx hb dL_law_553 rfl (lv_at hl 0 rfl) ?_
  refine lv_iload hx hb dL_law_554 (lv_at hl 4 rfl) ?_
  refine lv_iconst (v := 1) hx hb dL_law_556 (by decide) ?_
  refine lv_iadd hx hb dL_law_557 ?_
  refine va_sld hx hb hX hbl (Nat.not_le.mpr hbl) hS (by show vp_in (nI (3 * n9) + nI 1) L; rw [nI_add]; exact vp_in_nI (by omega) (by omega)) dL_law_558 ?_
  refine lv_topi (fun a ea => ?_)
  refine lv_aload_n hx hb dL_law_559 rfl (lv_at hl 3 rfl) ?_
  refine vx_calli (vx_runSX (As := [.ref (r_h ρ), .int a, .ref o]) (rest := []) ⟨hx, hb, hml, hown, hts⟩ (h_pass l hlf D cs ρ hI hap H o f hoB (by omega) a) (vx_cwSW 3 hts gL_law_L_pass rfl rfl rfl (by decide +kernel) ⟨Nat.le_of_ble_eq_true rfl, Nat.le_of_ble_eq_true rfl⟩) (hb_S hK hN ⟨rfl, hP, hO⟩ hT hNc hS.1 (fun q h => hS.2.1 q h (Nat.not_le.mpr h))) rfl rfl hl.1 rfl (lv_room (Nat.le_of_ble_eq_true rfl)) dL_law_560 ⟨(show cells + 1 ≤ 601024 by omega), (show slots + 6 ≤ 7293034 by omega)⟩) hS (fun q _ h => hB9 q h) hB9 (fun q _ h => h.elim) (fun E ce q9 u t H1 locs ht hvm hu _ _ _ _ _ _ _ => hu.elim) (fun r u t H1 locs ht hvm hw hB hz1 hk1 hS => ?_)
  obtain ⟨hr, hu1, hu2⟩ := hw
  rw [ht] at hB
  obtain ⟨hP, hO⟩ := hB
  rw [hu1] at hP
  have hM := mod_hl hM (fun q h => (hown9 q h).1) hoM hk1
  rw [hr]
  have h3 : (passO σ a).1 ≤ 3 := pass_3
  have hkk : sK ((passO σ a).2.2) = sK σ := pass_k
  have hap : AptA ρ (sK ((passO σ a).2.2)) := by rw [hkk]; exact hap
  have he0 : sK ((passO σ a).2.2) = 0 → r_e ρ = e0 := by rw [hkk]; exact he0
  have hown9 : ∀ q, ownB ρ (sK ((passO σ a).2.2)) q → ¬ ownM M q ∧ q ≠ o ∧ s.heap.size ≤ q := by rw [hkk]; exact hown9
  refine lv_istore (lv' := [(5, .int (nI (passO σ a).1)), (0, .ref b), (1, .ref (r_h ρ)), (2, .ref M.1), (3, .ref o), (4, .int (nI (3 * n9)))]) hx hb dL_law_563 hl (by decide) rfl (fun ls hl => ?_)
  refine lv_aload_n hx hb dL_law_565 rfl (lv_at hl 3 rfl) ?_
  refine lv_aload_n hx hb dL_law_566 rfl (lv_at hl 1 rfl) ?_
  refine lv_iload hx hb dL_law_567 (lv_at hl 5 rfl) ?_
  refine lv_iconst (v := 1) hx hb dL_law_569 (by decide) ?_
  refine lv_iadd hx hb dL_law_570 ?_
  refine va_sld hx hb hX hbl (Nat.not_le.mpr hbl) hS (by show vp_in (nI (3 * n9) + nI 1) L; rw [nI_add]; exact vp_in_nI (by omega) (by omega)) dL_law_571 ?_
  rw [← ea]
  refine va_calli (va_runV (As := [.int a]) (rest := []) ⟨hx, hb, hml, hown, hts⟩ (c_X2_pass l D cs M th hT0 hap2 H1 (by omega) a) (cwV 1 hts gL_law_X2_pass rfl rfl rfl (by decide +kernel) ⟨Nat.le_of_ble_eq_true rfl, Nat.le_of_ble_eq_true rfl⟩) (rb_V hK hN ⟨rfl, hM⟩ (va_recv hK hM (ci := 3) (q0 := 0) rfl rfl)) rfl rfl hl.1 rfl (lv_room (Nat.le_of_ble_eq_true rfl)) dL_law_572 ⟨(show cells + 1 + 0 ≤ 601024 by omega), (show slots + 6 + 0 ≤ 7293034 by omega)⟩) hS (fun q _ h => h.elim (hMs q) (fun h => Nat.le_trans hS.1 h)) (fun q h => h.elim (hMs q) (fun h => Nat.le_trans hS.1 h)) (fun r2 u2 t H1 locs ht hvm hp hB hz1 hk1 hS => ?_)
  have hp9 : u2 = ((((passO σ a).1, (passO σ a).2.1)).1, (passO σ a).2.2) ∧ ((((passO σ a).1, (passO σ a).2.1)).1 = 0 → r2 = (((passO σ a).1, (passO σ a).2.1)).2) := hp
  obtain ⟨hu9, hr2⟩ := hp9
  subst hu9
  rw [ht] at hB
  have hM : va_P D vwCl (modW cs M (nI (((passO σ a).1, (passO σ a).2.1)).1) ((passO σ a).2.2)) H1 := hB
  have hP := soc_md hP (fun q h => (hown9 q h).1) hk1
  have hO := out_md hO hoM hk1
  refine lv_istore (lv' := [(6, .int r2), (5, .int (nI (passO σ a).1)), (0, .ref b), (1, .ref (r_h ρ)), (2, .ref M.1), (3, .ref o), (4, .int (nI (3 * n9)))]) hx hb dL_law_575 hl (by decide) rfl (fun ls hl => ?_)
  refine lv_aload_n hx hb dL_law_577 rfl (lv_at hl 4 rfl) ?_
  refine vp_callSi (va_Run.run (va_runV (As := []) (rest := []) ⟨hx, hb, hml, hown, hts⟩ (c_X2_thrown l D cs M (nI (((passO σ a).1, (passO σ a).2.1)).1) (invT_pass hT0 (by omega) a).1) (cwV 0 hts gL_law_X2_thrown rfl rfl rfl (by decide +kernel) ⟨Nat.le_of_ble_eq_true rfl, Nat.le_of_ble_eq_true rfl⟩) (rb_V hK hN hM (va_recv hK hM (ci := 3) (q0 := 0) rfl rfl)) rfl rfl hl.1 rfl (lv_room (Nat.le_of_ble_eq_true rfl)) dL_law_578 ⟨(show cells + 1 + 0 ≤ 601024 by omega), (show slots + 6 + 0 ≤ 7293034 by omega)⟩)) (fun r3 h3 => ?_)
  rw [h3]
  refine lv_iload hx hb dL_law_581 (lv_at hl 1 rfl) ?_
  refine lv_icmp_eq (tgt := 588) hx hb dL_law_583 (by decide) (fun _ => ?_) (fun c9 => absurd rfl c9)
  refine lv_iload hx hb dL_law_588 (lv_at hl 1 rfl) ?_
  refine lv_if_ne (tgt := 605) hx hb dL_law_590 (by decide) (fun c_1 => ?_) (fun c_1 => ?_)
  · refine lv_goto (tgt := 1554) hx hb dL_law_605 (by decide) ?_
    refine W.widen (k := cells + 14) (n := slots + 148) (by omega) (by omega) ?_
    exact K ls _ _ _ hd0 ⟨ρ, ((passO σ a).2.2), (nI (((passO σ a).1, (passO σ a).2.1)).1), u.2, rfl, hP, hM, hO, (by have h9 := invT_pass hT0 (by omega) a; rw [show 72 * n9 + 72 = 72 * (n9 + 1) by omega] at h9; exact h9), hap, he0, hown9⟩ hS (lv_sub hl [2, 3, 4, 5, 6] rfl)
  · have h0 : (passO σ a).1 = 0 := (nI_eq (a := (passO σ a).1) (b := 0) (by omega) (by omega)).mp c_1
    refine lv_aload_n hx hb dL_law_593 rfl (lv_at hl 5 rfl) ?_
    refine lv_iconst (v := 0) hx hb dL_law_594 (by decide) ?_
    refine va_lald (i := 0) hx hb hK (one_P hO) 0 2 rfl rfl (by unfold vp_in; decide) dL_law_595 ?_
    rw [show u.2 (0 : Int32).toNatClampNeg = ((passO σ a).2.1).toInt64 from hu2 h0]
    refine lv_iload hx hb dL_law_596 (lv_at hl 0 rfl) ?_
    refine lv_i2l (v := r2.toInt64) hx hb dL_law_598 rfl ?_
    rw [show r2 = (passO σ a).2.1 from hr2 h0]
    refine W.lcmp hx hb dL_law_599 ?_
    refine lv_if_eq (tgt := 605) hx hb dL_law_600 (by decide) (fun _ => ?_) (fun c9 => absurd (lg_self _) c9)
    refine lv_goto (tgt := 1554) hx hb dL_law_605 (by decide) ?_
    refine W.widen (k := cells + 14) (n := slots + 148) (by omega) (by omega) ?_
    exact K ls _ _ _ hd0 ⟨ρ, ((passO σ a).2.2), (nI (((passO σ a).1, (passO σ a).2.1)).1), u.2, rfl, hP, hM, hO, (by have h9 := invT_pass hT0 (by omega) a; rw [show 72 * n9 + 72 = 72 * (n9 + 1) by omega] at h9; exact h9), hap, he0, hown9⟩ hS (lv_sub hl [2, 3, 4, 5, 6] rfl)
