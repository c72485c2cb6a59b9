/-! THE LAW'S LOOP (laid by wip/p35/gen/loop13.py) -/
theorem lj_le {D : va_G} {cs : Cs} {h x e0 Z B B2 : Nat} {c : Prop} {X : Heap} (hJ : LJ D cs h x e0 Z B c X) (h1 : B ≤ B2) (h2 : B2 ≤ 40000) : LJ D cs h x e0 Z B2 c X := by
  obtain ⟨σ, ρ, M, hP, hM, hap, hrh, hmx, hQ, he0, hZo, hck⟩ := hJ
  exact ⟨σ, ρ, M, hP, hM, hap, hrh, hmx, invQ_le hQ h1 h2, he0, hZo, hck⟩
set_option maxHeartbeats 4000000 in
set_option maxRecDepth 100000 in
/-- three acts -/
theorem law_acts {p : Program} {e : Env} {s : State} {m : MethodId} {below : List Frame} {meth : Method} {c : Code} {l : Launch} {b L : Nat} {xs : Nat → Int32} {D : va_G} {cs : Cs} {e0 : Nat} (E : LwE p s m c l b L xs D cs e0) {Q : State → Prop} {h x : Nat} {H : Heap} {locs : List Loc} {ls : Array Slot} {cells slots : Nat} {B tm : Nat} {xv : Int32} (hB : B + 216 ≤ 40000) (hJ : LJ D cs h x e0 s.heap.size B True H) (hS : va_S (fun q : Nat => s.heap.size ≤ q) s.heap H locs) (hl : lv_has ls 25 [(5, .int (nI 0)), (4, .int xv), (0, .ref b), (1, .ref h), (2, .ref x), (3, .int (nI tm))]) (hc1 : cells + 18 ≤ 704666) (hc2 : slots + 180 ≤ 6987184)
    (K : ∀ (ls : Array Slot) (H : Heap) (locs : List Loc), LJ D cs h x e0 s.heap.size (B + 216) True H → va_S (fun q : Nat => s.heap.size ≤ q) s.heap H locs → lv_has ls 25 [(0, .ref b), (1, .ref h), (2, .ref x), (3, .int (nI tm)), (4, .int xv)] → W p l e room_1 s m #[.ref b] below meth c H locs (cells + 18) (slots + 180) Q (F0 m 82 ls [])) :
    W p l e room_1 s m #[.ref b] below meth c H locs cells slots Q (F0 m 47 ls []) := by
  obtain ⟨hx, hb, hml, hown, hts, hX, hbl, hL, hK, hN, hO, hT, hE, hlf⟩ := id E
  refine lv_forC (A := fun q : Nat => s.heap.size ≤ q) 6 60 3 (fun ls => F0 m 47 ls []) (fun i => [(5, .int (nI i)), (4, .int xv), (0, .ref b), (1, .ref h), (2, .ref x), (3, .int (nI tm))]) (fun i X => LJ D cs h x e0 s.heap.size (B + 72 * i) True X) hl hJ hS (fun i ls H locs hi hJ hS hl K9 => ?_) (fun ls H locs hJ hS hl => ?_)
  · have hl : lv_has ls 25 [(5, .int (nI i)), (4, .int xv), (0, .ref b), (1, .ref h), (2, .ref x), (3, .int (nI tm))] := hl
    refine lv_iload hx hb dL_law_47 (lv_at hl 0 rfl) ?_
    refine lv_iconst (v := 3) hx hb dL_law_49 (by decide) ?_
    refine lv_icmp_ge (tgt := 82) hx hb dL_law_50 (by decide) (fun c9 => absurd c9 (nI_ge (b := 3) hi (by omega))) (fun _ => ?_)
    refine lv_aload_n hx hb dL_law_53 rfl (lv_at hl 3 rfl) ?_
    refine lv_aload_n hx hb dL_law_54 rfl (lv_at hl 4 rfl) ?_
    refine lv_iload hx hb dL_law_55 (lv_at hl 1 rfl) ?_
    refine lv_iconst (v := 3) hx hb dL_law_57 (by decide) ?_
    refine lv_iload hx hb dL_law_58 (lv_at hl 0 rfl) ?_
    refine lv_imul hx hb dL_law_60 ?_
    refine lv_ishr hx hb dL_law_61 ?_
    refine lv_bipush (v := 29) hx hb dL_law_62 (by decide) ?_
    refine lv_iload hx hb dL_law_64 (lv_at hl 0 rfl) ?_
    refine lv_imul hx hb dL_law_66 ?_
    refine lv_iadd hx hb dL_law_67 ?_
    refine lv_topi (fun v3 _ => ?_)
    obtain ⟨σ, ρ, M, hP, hM, hap, hrh, hmx, hQ, he0, hZo, hck⟩ := hJ
    subst hrh
    subst hmx
    have hSz : s.heap.size ≤ H.size := hS.1
    have hA9 : ∀ q, jA ρ M (sK σ) H q → s.heap.size ≤ q := fun q h => h.elim (hZo q) (fun h => Nat.le_trans hSz h)
    refine vx_calli (vx_runSX (As := [.ref (r_h ρ), .ref M.1, .int v3]) (rest := []) ⟨hx, hb, hml, hown, hts⟩ (c_L_act l hlf D cs ρ M hQ (by omega) hap e0 he0 H v3) (vx_cwSW 3 hts gL_law_L_act rfl rfl rfl (by decide +kernel) ⟨Nat.le_of_ble_eq_true rfl, Nat.le_of_ble_eq_true rfl⟩) (jb_S (A := fun q : Nat => s.heap.size ≤ q) hK hN hP hM hO hT hE hS hA9) rfl rfl hl.1 rfl (lv_room (Nat.le_of_ble_eq_true rfl)) dL_law_68 ⟨(by show _ ≤ 704666; omega), (by show _ ≤ 6987184; omega)⟩) hS (fun q _ h => hA9 q h) hA9 (fun q _ h => h.elim) (fun E ce q9 u t H locs ht hvm hu _ _ _ _ _ _ _ => hu.elim) (fun r u t H locs ht hvm hw hB2 hz1 hk1 hS => ?_)
    obtain ⟨hr1, hQ2, hk2⟩ := hw
    rw [hr1]
    rw [ht] at hB2
    obtain ⟨hP2, hM2, hap2, hrh2, hmx2, hown2⟩ := hB2
    have hJ2 : LJ D cs (r_h ρ) M.1 e0 s.heap.size (B + 72 * (i + 1)) True H := ⟨u.1, u.2.1, u.2.2, hP2, hM2, hap2, hrh2, hmx2, (by rw [show B + 72 * (i + 1) = B + 72 * i + 72 by omega]; exact hQ2), fun z => absurd z (Nat.ne_of_gt hk2), fun q h => (hown2 q h).elim (hZo q) (fun h => Nat.le_trans hSz h), fun _ => hk2⟩
    refine lv_if_ne (tgt := 76) hx hb dL_law_71 (by decide) (fun _ => ?_) (fun c9 => absurd c9 (by decide))
    refine lv_iinc (v := nI (i + 1)) (lv' := [(5, .int (nI (i + 1))), (4, .int xv), (0, .ref b), (1, .ref (r_h ρ)), (2, .ref M.1), (3, .int (nI tm))]) hx hb dL_law_76 hl (k := 0) rfl (nI_add _ 1) (by decide) rfl (fun ls hl => ?_)
    refine lv_goto (tgt := 47) hx hb dL_law_79 (by decide) ?_
    refine W.widen (k := cells + (i + 1) * 6) (n := slots + (i + 1) * 60) (by omega) (by omega) ?_
    exact K9 ls H locs hJ2 hS hl
  · have hl : lv_has ls 25 [(5, .int (nI 3)), (4, .int xv), (0, .ref b), (1, .ref h), (2, .ref x), (3, .int (nI tm))] := hl
    refine lv_iload hx hb dL_law_47 (lv_at hl 0 rfl) ?_
    refine lv_iconst (v := 3) hx hb dL_law_49 (by decide) ?_
    refine lv_icmp_ge (tgt := 82) hx hb dL_law_50 (by decide) (fun _ => ?_) (fun c9 => absurd (nI_le (Nat.le_refl 3) (by omega)) c9)
    exact K ls H locs hJ hS (lv_sub hl [2, 3, 4, 5, 1] rfl)
set_option maxHeartbeats 4000000 in
set_option maxRecDepth 100000 in
/-- what a round asks -/
theorem law_asks {p : Program} {e : Env} {s : State} {m : MethodId} {below : List Frame} {meth : Method} {c : Code} {l : Launch} {b L : Nat} {xs : Nat → Int32} {D : va_G} {cs : Cs} {e0 : Nat} (E : LwE p s m c l b L xs D cs e0) {Q : State → Prop} {h x : Nat} {H : Heap} {locs : List Loc} {ls : Array Slot} {cells slots : Nat} {B tm : Nat} {xv : Int32} (hB : B + 96 ≤ 40000) (hJ : LJ D cs h x e0 s.heap.size B True H) (hS : va_S (fun q : Nat => s.heap.size ≤ q) s.heap H locs) (hl : lv_has ls 25 [(0, .ref b), (1, .ref h), (2, .ref x), (3, .int (nI tm)), (4, .int xv)]) (hc1 : cells + 135 ≤ 704666) (hc2 : slots + 1200 ≤ 6987184)
    (K : ∀ (ls : Array Slot) (H : Heap) (locs : List Loc), LJ D cs h x e0 s.heap.size (B + 24) True H → va_S (fun q : Nat => s.heap.size ≤ q) s.heap H locs → lv_has ls 25 [(0, .ref b), (1, .ref h), (2, .ref x), (3, .int (nI tm)), (4, .int xv)] → W p l e room_1 s m #[.ref b] below meth c H locs (cells + 135) (slots + 1200) Q (F0 m 961 ls [])) :
    W p l e room_1 s m #[.ref b] below meth c H locs cells slots Q (F0 m 82 ls []) := by
  obtain ⟨σ, ρ, M, hP, hM, hap, hrh, hmx, hQ, he0, hZo, hck⟩ := hJ
  subst hrh
  subst hmx
  have hk0 := hck trivial
  refine q_members E hQ hB hap hk0 hZo hP hM hS hl (by omega) (by omega) (fun ls H locs hP hM hS hl => ?_)
  refine q_hats E hQ hB hap hk0 hZo hP hM hS hl (by omega) (by omega) (fun i hi ls H locs hP hM hS hl => ?_)
  refine q_ahead E hQ hB hap hk0 hZo hP hM hS i hi hl (by omega) (by omega) (fun ls H locs hP hM hS hl => ?_)
  refine q_audit E hQ hB hap hk0 hZo hP hM hS hl (by omega) (by omega) (fun ls H locs hJ hS hl => ?_)
  exact K ls H locs hJ hS hl
set_option maxHeartbeats 4000000 in
set_option maxRecDepth 100000 in
/-- ten rounds -/
theorem law_loop {p : Program} {e : Env} {s : State} {m : MethodId} {below : List Frame} {meth : Method} {c : Code} {l : Launch} {b L : Nat} {xs : Nat → Int32} {D : va_G} {cs : Cs} {e0 : Nat} (E : LwE p s m c l b L xs D cs e0) {Q : State → Prop} {h x : Nat} {H : Heap} {locs : List Loc} {ls : Array Slot} {cells slots : Nat} (hJ : LJ D cs h x e0 s.heap.size 1728 True H) (hS : va_S (fun q : Nat => s.heap.size ≤ q) s.heap H locs) (hl : lv_has ls 25 [(0, .ref b), (1, .ref h), (2, .ref x)]) (hc1 : cells + 1530 ≤ 704666) (hc2 : slots + 13800 ≤ 6987184)
    (K : ∀ (ls : Array Slot) (H : Heap) (locs : List Loc), LJ D cs h x e0 s.heap.size 4128 True H → va_S (fun q : Nat => s.heap.size ≤ q) s.heap H locs → lv_has ls 25 [(0, .ref b), (1, .ref h), (2, .ref x)] → W p l e room_1 s m #[.ref b] below meth c H locs (cells + 1530) (slots + 13800) Q (F0 m 967 ls [])) :
    W p l e room_1 s m #[.ref b] below meth c H locs cells slots Q (F0 m 20 ls []) := by
  obtain ⟨hx, hb, hml, hown, hts, hX, hbl, hL, hK, hN, hO, hT, hE, hlf⟩ := id E
  have hXk : ∀ (H : Heap) (locs : List Loc), va_S (fun q : Nat => s.heap.size ≤ q) s.heap H locs → va_X b L xs s H := fun H locs hS => hX.kept (hS.2.1 b hbl (Nat.not_le.mpr hbl))
  refine lv_iconst (v := 0) hx hb dL_law_20 (by decide) ?_
  refine lv_istore_n (lv' := [(3, .int 0), (0, .ref b), (1, .ref h), (2, .ref x)]) hx hb dL_law_21 rfl hl (by decide) rfl (fun ls hl => ?_)
  refine lv_forC (A := fun q : Nat => s.heap.size ≤ q) 153 1380 10 (fun ls => F0 m 22 ls []) (fun n => [(3, .int (nI n)), (0, .ref b), (1, .ref h), (2, .ref x)]) (fun n X => LJ D cs h x e0 s.heap.size (1728 + 240 * n) True X) hl hJ hS (fun n ls H locs hn hJ hS hl K9 => ?_) (fun ls H locs hJ hS hl => ?_)
  · have hl : lv_has ls 25 [(3, .int (nI n)), (0, .ref b), (1, .ref h), (2, .ref x)] := hl
    refine lv_iload_n hx hb dL_law_22 rfl (lv_at hl 0 rfl) ?_
    refine lv_bipush (v := 10) hx hb dL_law_23 (by decide) ?_
    refine lv_icmp_ge (tgt := 967) hx hb dL_law_25 (by decide) (fun c9 => absurd c9 (nI_ge (b := 10) hn (by omega))) (fun _ => ?_)
    refine lv_aload_n hx hb dL_law_28 rfl (lv_at hl 1 rfl) ?_
    refine lv_iload_n hx hb dL_law_29 rfl (lv_at hl 0 rfl) ?_
    refine lv_iconst (v := 1) hx hb dL_law_30 (by decide) ?_
    refine lv_iadd hx hb dL_law_31 ?_
    refine W.eq (g2 := F0 m 32 ls [.int (nI (n + 1)), .ref b]) (by rw [show nI n + 1 = nI (n + 1) from nI_add n 1]) ?_
    refine vp_callSi (va_Run.run (va_runS (As := [.ref b, .int (nI (n + 1))]) (rest := []) ⟨hx, hb, hml, hown, hts⟩ (c_L_cell l b L xs (n + 1) (by omega) hL) (va_cwS 2 hts gL_law_L_cell rfl rfl rfl (by decide +kernel) ⟨Nat.le_of_ble_eq_true rfl, Nat.le_of_ble_eq_true rfl⟩) (xx_S (hXk _ _ hS)) rfl rfl hl.1 rfl (lv_room (Nat.le_of_ble_eq_true rfl)) dL_law_32 ⟨(by show _ ≤ 704666; omega), (by show _ ≤ 6987184; omega)⟩)) (fun v1 _ => ?_)
    refine lv_iconst (v := 2) hx hb dL_law_35 (by decide) ?_
    refine lv_ishr hx hb dL_law_36 ?_
    refine lv_bipush (v := 53) hx hb dL_law_37 (by decide) ?_
    refine lv_iload_n hx hb dL_law_39 rfl (lv_at hl 0 rfl) ?_
    refine lv_imul hx hb dL_law_40 ?_
    refine lv_iadd hx hb dL_law_41 ?_
    refine lv_topi (fun xv _ => ?_)
    refine lv_istore (lv' := [(4, .int xv), (3, .int (nI n)), (0, .ref b), (1, .ref h), (2, .ref x)]) hx hb dL_law_42 hl (by decide) rfl (fun ls hl => ?_)
    refine lv_iconst (v := 0) hx hb dL_law_44 (by decide) ?_
    refine lv_istore (lv' := [(5, .int 0), (4, .int xv), (3, .int (nI n)), (0, .ref b), (1, .ref h), (2, .ref x)]) hx hb dL_law_45 hl (by decide) rfl (fun ls hl => ?_)
    refine law_acts E (by omega) hJ hS (lv_sub hl [0, 1, 3, 4, 5, 2] rfl) (by omega) (by omega) (fun ls H locs hJ hS hl => ?_)
    refine law_asks E (by omega) hJ hS hl (by omega) (by omega) (fun ls H locs hJ hS hl => ?_)
    refine lv_iinc (v := nI (n + 1)) (lv' := [(3, .int (nI (n + 1))), (0, .ref b), (1, .ref h), (2, .ref x), (4, .int xv)]) hx hb dL_law_961 hl (k := 3) rfl (nI_add _ 1) (by decide) rfl (fun ls hl => ?_)
    refine lv_goto (tgt := 22) hx hb dL_law_964 (by decide) ?_
    refine W.widen (k := cells + (n + 1) * 153) (n := slots + (n + 1) * 1380) (by omega) (by omega) ?_
    exact K9 ls H locs (by rw [show 1728 + 240 * (n + 1) = 1728 + 240 * n + 216 + 24 by omega]; exact hJ) hS (lv_sub hl [0, 1, 2, 3] rfl)
  · have hl : lv_has ls 25 [(3, .int (nI 10)), (0, .ref b), (1, .ref h), (2, .ref x)] := hl
    refine lv_iload_n hx hb dL_law_22 rfl (lv_at hl 0 rfl) ?_
    refine lv_bipush (v := 10) hx hb dL_law_23 (by decide) ?_
    refine lv_icmp_ge (tgt := 967) hx hb dL_law_25 (by decide) (fun _ => ?_) (fun c9 => absurd (nI_le (Nat.le_refl 10) (by omega)) c9)
    exact K ls H locs hJ hS (lv_sub hl [1, 2, 3] rfl)
