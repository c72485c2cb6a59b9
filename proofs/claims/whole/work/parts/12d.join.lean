/-! THE LAW'S CASE: join (laid by wip/whole/gen/law.py) -/
theorem ownM_lt {D : va_G} {cs : Cs} {M : Nat × (Nat → Nat)} {th : Int32} {σ : PS} {H : Heap} (hM : va_P D vwCl (modW cs M th σ) H) {q : Nat} (h : ownM M q) : q < H.size := by
  rcases h with h | ⟨j, hj, h⟩
  · rw [h]
    exact (hM 0 _ rfl).lt
  · rw [h]
    rcases (show j = 0 ∨ j = 1 ∨ j = 2 ∨ j = 3 ∨ j = 4 ∨ j = 5 ∨ j = 6 ∨ j = 7 by omega) with rfl | rfl | rfl | rfl | rfl | rfl | rfl | rfl
    · exact (hM 1 _ rfl).lt
    · exact (hM 2 _ rfl).lt
    · exact (hM 3 _ rfl).lt
    · exact (hM 4 _ rfl).lt
    · exact (hM 5 _ rfl).lt
    · exact (hM 6 _ rfl).lt
    · exact (hM 7 _ rfl).lt
    · exact (hM 8 _ rfl).lt
theorem hj_S {s : State} {H : Heap} {As : List Value} {D : va_G} {cs : Cs} {P : Heap → Prop} {A : Nat → Prop} {e0 : Nat} (hK : va_K D vwCl (tyz cs) s) (hN : Nst s) (hP : P H) (hT : ThrP s) (hNc : NcP s) (hE : DefP (fun q => s.heap.size ≤ q) e0 s) (hz : s.heap.size ≤ H.size) (hk : ∀ q : Nat, q < s.heap.size → H[q]? = s.heap[q]?) (hAA : ∀ q, A q → s.heap.size ≤ q) : PreS s H (va_Pc As (fun U => HBp D cs P U ∧ DefP A e0 U)) As :=
  ⟨hj_b, fun U hU hW => ⟨rfl, ⟨⟨⟨by rw [hU]; exact hP, va_K.moved hW.alike hK, Nst.warm hW hN⟩, hT.move hW (by rw [hU]; exact hz) (by rw [hU]; exact hk)⟩, NcP.moved hW.alike hNc⟩, hE.move hW.alike (fun q h _ => by rw [hU]; exact hk q h) hAA⟩⟩
set_option maxHeartbeats 400000 in
set_option maxRecDepth 100000 in
theorem q_join {p : Program} {e : Env} {s : State} {m : MethodId} {below : List Frame} {meth : Method} {c : Code} {l : Launch} {b L : Nat} {xs : Nat → Int32} {D : va_G} {cs : Cs} {M : Nat × (Nat → Nat)} {x o e0 : Nat} (E : LwE p s m c l b L xs D cs M o e0) {Q : State → Prop} {d0 : Drawn} (hd0 : s.drawn.sameBut d0 lw_cs) {n9 : Nat} (hn : n9 < 512) (hn2 : 3 * n9 + 3 ≤ L) (hL : L ≤ 1536) {H : Heap} {locs : List Loc} {ls : Array Slot} {cells slots : Nat} (hJ : LwI D cs x M o e0 s.heap.size n9 H) (hS : va_S (fun q => s.heap.size ≤ q) s.heap H locs) (hl : lv_has ls 9 [(0, .ref b), (1, .ref x), (2, .ref M.1), (3, .ref o), (4, .int (nI (3 * n9)))]) (hc1 : cells + 14 ≤ 601024) (hc2 : slots + 148 ≤ 7293034)
    (K : ∀ (ls : Array Slot) (H : Heap) (locs : List Loc) (d : Drawn), s.drawn.sameBut d lw_cs → LwI D cs x M o e0 s.heap.size (n9 + 1) H → va_S (fun q => s.heap.size ≤ q) s.heap H locs → lv_has ls 9 [(0, .ref b), (1, .ref x), (2, .ref M.1), (3, .ref o), (4, .int (nI (3 * n9)))] → W p l e room_1 (s.setDrawn d) m #[.ref b] below meth c H locs (cells + 14) (slots + 148) Q (F0 m 1554 ls [])) :
    W p l e room_1 (s.setDrawn d0) m #[.ref b] below meth c H locs cells slots Q (F0 m 180 ls []) := by
  obtain ⟨hx, hb, hml, hown, hts, hX, hbl, hK, hN, hT, hNc, hE, hlf, hap2, hMs, hos, hoM⟩ := id E
  obtain ⟨ρ, σ, th, f, rfl, hP, hM, hO, hT0, hap, he0, hown9⟩ := hJ
  have hts := dr_words hts d0
  have hN9 := hN
  have hN := dr_N d0 hN
  have hT := dr_T d0 hT
  have hNc := dr_Nc d0 hNc
  have hE := dr_E d0 hE
  have hX : va_X b L xs (s.setDrawn d0) s.heap := hX
  have hK : va_K D vwCl (tyz cs) (s.setDrawn d0) := va_K.moved (u := s) (U := s.setDrawn d0) (Vm.Alike.refl s.vm) hK
  have hI := hT0.1
  have hoB : ¬ ownB ρ (sK σ) o := fun h => (hown9 o h).2.1 rfl
  have hA9 : ∀ q, mdA M H q → s.heap.size ≤ q := fun q h => h.elim (hMs q) (fun h => Nat.le_trans hS.1 h)
  have hB9 : ∀ q, hlA ρ (sK σ) o H q → s.heap.size ≤ q := fun q h => h.elim (fun h => h.elim (fun h => (hown9 q h).2.2) (fun h => Nat.le_trans hS.1 h)) (fun h => by rw [h]; exact hos)
  refine lv_aload_n hx hb dL_law_180 rfl (lv_at hl 1 rfl) ?_
  refine lv_aload_n hx hb dL_law_181 rfl (lv_at hl 0 rfl) ?_
  refine lv_iload hx hb dL_law_182 (lv_at hl 4 rfl) ?_
  refine lv_iconst (v := 1) hx hb dL_law_184 (by decide) ?_
  refine lv_iadd hx hb dL_law_185 ?_
  refine va_sld hx hb hX hbl (Nat.not_le.mpr hbl) hS (by show vp_in (nI (3 * n9) + nI 1) L; rw [nI_add]; exact vp_in_nI (by omega) (by omega)) dL_law_186 ?_
  refine lv_topi (fun a ea => ?_)
  refine lv_aload_n hx hb dL_law_187 rfl (lv_at hl 0 rfl) ?_
  refine lv_iload hx hb dL_law_188 (lv_at hl 4 rfl) ?_
  refine lv_iconst (v := 2) hx hb dL_law_190 (by decide) ?_
  refine lv_iadd hx hb dL_law_191 ?_
  refine va_sld hx hb hX hbl (Nat.not_le.mpr hbl) hS (by show vp_in (nI (3 * n9) + nI 2) L; rw [nI_add]; exact vp_in_nI (by omega) (by omega)) dL_law_192 ?_
  refine lv_topi (fun b9 eb9 => ?_)
  refine lv_aload_n hx hb dL_law_193 rfl (lv_at hl 3 rfl) ?_
  refine vx_calli (vx_runSX (As := [.ref (r_h ρ), .int a, .int b9, .ref o]) (rest := []) ⟨hx, hb, hml, hown, hts⟩ (h_join l hlf D cs ρ hT0 hap H o f hoB e0 he0 a b9) (vx_cwSW 4 hts gL_law_L_join rfl rfl rfl (by decide +kernel) ⟨Nat.le_of_ble_eq_true rfl, Nat.le_of_ble_eq_true rfl⟩) (hj_S hK hN ⟨rfl, hP, hO⟩ hT hNc hE hS.1 (fun q h => hS.2.1 q h (Nat.not_le.mpr h)) (fun q h => h.elim (fun h => (hown9 q h).2.2) (fun h => Nat.le_trans hS.1 h))) rfl rfl hl.1 rfl (lv_room (Nat.le_of_ble_eq_true rfl)) dL_law_194 ⟨(show cells + 3 ≤ 601024 by omega), (show slots + 30 ≤ 7293034 by omega)⟩) hS (fun q _ h => hB9 q h) hB9 (fun q _ h => h.elim) (fun E ce q9 u t H1 locs ht hvm hu _ _ _ _ _ _ _ => hu.elim) (fun r u t H1 locs ht hvm hw hB hz1 hk1 hS1 => ?_)
  obtain ⟨⟨τ, ρ2⟩, f2⟩ := u
  obtain ⟨hr, hu1, hu2⟩ := hw
  rw [ht] at hB
  obtain ⟨hP2, hO2, hap9, hrh, hor, hown2⟩ := hB
  have hu1 : τ = (joinO σ a b9).2.2 := hu1
  have hP2 : Soc D cs ρ2 τ H1 := hP2
  have hO2 : va_at D vwCl (outE cs o f2) H1 := hO2
  have hap9 : AptA ρ2 (sK τ) := hap9
  have hrh : r_h ρ2 = r_h ρ := hrh
  have hor : 0 < sK τ ∨ τ = σ ∧ ρ2 = ρ := hor
  have hown2 : ∀ q, ownB ρ2 (sK τ) q → ownB ρ (sK σ) q ∨ H.size ≤ q := hown2
  have hown3 : ∀ q, ownB ρ2 (sK τ) q → ¬ ownM M q ∧ q ≠ o ∧ s.heap.size ≤ q := fun q h => (hown2 q h).elim (hown9 q) (fun h => ⟨fun z => absurd (ownM_lt hM z) (Nat.not_lt.mpr h), fun z => absurd hO.lt (Nat.not_lt.mpr (z ▸ h)), Nat.le_trans hS.1 h⟩)
  have he2 : sK τ = 0 → r_e ρ2 = e0 := fun z => hor.elim (fun q => absurd z (by omega)) (fun ⟨q1, q2⟩ => by rw [q2]; exact he0 (by rw [← q1]; exact z))
  have hM := mod_hl hM (fun q h => (hown9 q h).1) hoM hk1
  have hP := hP2
  have hO := hO2
  have hS := hS1
  rw [hr]
  have h3 : (joinO σ a b9).1 ≤ 3 := join_3
  subst hu1
  clear hP2 hO2 hS1
  refine lv_istore (lv' := [(5, .int (nI (joinO σ a b9).1)), (0, .ref b), (1, .ref (r_h ρ)), (2, .ref M.1), (3, .ref o), (4, .int (nI (3 * n9)))]) hx hb dL_law_197 hl (by decide) rfl (fun ls hl => ?_)
  refine lv_aload_n hx hb dL_law_199 rfl (lv_at hl 3 rfl) ?_
  refine lv_aload_n hx hb dL_law_200 rfl (lv_at hl 1 rfl) ?_
  refine lv_iload hx hb dL_law_201 (lv_at hl 5 rfl) ?_
  refine lv_iconst (v := 1) hx hb dL_law_203 (by decide) ?_
  refine lv_iadd hx hb dL_law_204 ?_
  refine va_sld hx hb hX hbl (Nat.not_le.mpr hbl) hS (by show vp_in (nI (3 * n9) + nI 1) L; rw [nI_add]; exact vp_in_nI (by omega) (by omega)) dL_law_205 ?_
  rw [← ea]
  refine lv_aload_n hx hb dL_law_206 rfl (lv_at hl 1 rfl) ?_
  refine lv_iload hx hb dL_law_207 (lv_at hl 5 rfl) ?_
  refine lv_iconst (v := 2) hx hb dL_law_209 (by decide) ?_
  refine lv_iadd hx hb dL_law_210 ?_
  refine va_sld hx hb hX hbl (Nat.not_le.mpr hbl) hS (by show vp_in (nI (3 * n9) + nI 2) L; rw [nI_add]; exact vp_in_nI (by omega) (by omega)) dL_law_211 ?_
  rw [← eb9]
  refine va_calli (va_runV (As := [.int a, .int b9]) (rest := []) ⟨hx, hb, hml, hown, hts⟩ (c_X2_join l D cs M th hI hap2 H1 a b9) (cwV 2 hts gL_law_X2_join rfl rfl rfl (by decide +kernel) ⟨Nat.le_of_ble_eq_true rfl, Nat.le_of_ble_eq_true rfl⟩) (rb_V hK hN ⟨rfl, hM⟩ (va_recv hK hM (ci := 3) (q0 := 0) rfl rfl)) rfl rfl hl.1 rfl (lv_room (Nat.le_of_ble_eq_true rfl)) dL_law_212 ⟨(show cells + 3 + 0 ≤ 601024 by omega), (show slots + 30 + 0 ≤ 7293034 by omega)⟩) hS (fun q _ h => h.elim (hMs q) (fun h => Nat.le_trans hS.1 h)) (fun q h => h.elim (hMs q) (fun h => Nat.le_trans hS.1 h)) (fun r2 u2 t H1 locs ht hvm hp hB hz1 hk1 hS => ?_)
  have hp9 : u2 = ((((joinO σ a b9).1, (joinO σ a b9).2.1)).1, (joinO σ a b9).2.2) ∧ ((((joinO σ a b9).1, (joinO σ a b9).2.1)).1 = 0 → r2 = (((joinO σ a b9).1, (joinO σ a b9).2.1)).2) := hp
  obtain ⟨hu9, hr2⟩ := hp9
  subst hu9
  rw [ht] at hB
  have hM : va_P D vwCl (modW cs M (nI (((joinO σ a b9).1, (joinO σ a b9).2.1)).1) ((joinO σ a b9).2.2)) H1 := hB
  have hP := soc_md hP (fun q h => (hown3 q h).1) hk1
  have hO := out_md hO hoM hk1
  refine lv_istore (lv' := [(6, .int r2), (5, .int (nI (joinO σ a b9).1)), (0, .ref b), (1, .ref (r_h ρ)), (2, .ref M.1), (3, .ref o), (4, .int (nI (3 * n9)))]) hx hb dL_law_215 hl (by decide) rfl (fun ls hl => ?_)
  refine lv_aload_n hx hb dL_law_217 rfl (lv_at hl 4 rfl) ?_
  refine vp_callSi (va_Run.run (va_runV (As := []) (rest := []) ⟨hx, hb, hml, hown, hts⟩ (c_X2_thrown l D cs M (nI (((joinO σ a b9).1, (joinO σ a b9).2.1)).1) (invT_join hT0 a b9).1) (cwV 0 hts gL_law_X2_thrown rfl rfl rfl (by decide +kernel) ⟨Nat.le_of_ble_eq_true rfl, Nat.le_of_ble_eq_true rfl⟩) (rb_V hK hN hM (va_recv hK hM (ci := 3) (q0 := 0) rfl rfl)) rfl rfl hl.1 rfl (lv_room (Nat.le_of_ble_eq_true rfl)) dL_law_218 ⟨(show cells + 3 + 0 ≤ 601024 by omega), (show slots + 30 + 0 ≤ 7293034 by omega)⟩)) (fun r3 h3 => ?_)
  rw [h3]
  refine lv_iload hx hb dL_law_221 (lv_at hl 1 rfl) ?_
  refine lv_icmp_eq (tgt := 228) hx hb dL_law_223 (by decide) (fun _ => ?_) (fun c9 => absurd rfl c9)
  refine lv_iload hx hb dL_law_228 (lv_at hl 1 rfl) ?_
  refine lv_if_ne (tgt := 245) hx hb dL_law_230 (by decide) (fun c_1 => ?_) (fun c_1 => ?_)
  · refine lv_goto (tgt := 1554) hx hb dL_law_245 (by decide) ?_
    refine W.widen (k := cells + 14) (n := slots + 148) (by omega) (by omega) ?_
    exact K ls _ _ _ hd0 ⟨ρ2, ((joinO σ a b9).2.2), (nI (((joinO σ a b9).1, (joinO σ a b9).2.1)).1), f2, hrh, hP, hM, hO, invT_le (invT_join hT0 a b9) (by omega) (by omega), hap9, he2, hown3⟩ hS (lv_sub hl [2, 3, 4, 5, 6] rfl)
  · have h0 : (joinO σ a b9).1 = 0 := (nI_eq (a := (joinO σ a b9).1) (b := 0) (by omega) (by omega)).mp c_1
    refine lv_aload_n hx hb dL_law_233 rfl (lv_at hl 5 rfl) ?_
    refine lv_iconst (v := 0) hx hb dL_law_234 (by decide) ?_
    refine va_lald (i := 0) hx hb hK (one_P hO) 0 2 rfl rfl (by unfold vp_in; decide) dL_law_235 ?_
    rw [show f2 (0 : Int32).toNatClampNeg = ((joinO σ a b9).2.1).toInt64 from hu2 h0]
    refine lv_iload hx hb dL_law_236 (lv_at hl 0 rfl) ?_
    refine lv_i2l (v := r2.toInt64) hx hb dL_law_238 rfl ?_
    rw [show r2 = (joinO σ a b9).2.1 from hr2 h0]
    refine W.lcmp hx hb dL_law_239 ?_
    refine lv_if_eq (tgt := 245) hx hb dL_law_240 (by decide) (fun _ => ?_) (fun c9 => absurd (lg_self _) c9)
    refine lv_goto (tgt := 1554) hx hb dL_law_245 (by decide) ?_
    refine W.widen (k := cells + 14) (n := slots + 148) (by omega) (by omega) ?_
    exact K ls _ _ _ hd0 ⟨ρ2, ((joinO σ a b9).2.2), (nI (((joinO σ a b9).1, (joinO σ a b9).2.1)).1), f2, hrh, hP, hM, hO, invT_le (invT_join hT0 a b9) (by omega) (by omega), hap9, he2, hown3⟩ hS (lv_sub hl [2, 3, 4, 5, 6] rfl)
