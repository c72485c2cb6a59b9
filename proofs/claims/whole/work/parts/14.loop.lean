/-! THE LAW'S LOOP: the switch, a round, the loop -/
theorem lt_split {j k : Nat} (h : j < k + 1) : j < k ∨ j = k := by omega
theorem law_tab {p : Program} {l : Launch} {e : Env} {R : Room} {s : State} {m : MethodId} {args : Array Value} {below : List Frame} {meth : Method} {c : Code} {H : Heap} {locs : List Loc} {cells slots : Nat} {Q : State → Prop} {ls : Array Slot} {rest : List Value} (hx : p.tables.exec = Jvm.exec) (hb : c.code = code) {j : Nat} {off : Int} {tgt : Nat} (hj : j < 32) (ho : (#[141, 209, 277, 333, 401, 457, 513, 569, 582, 595, 608, 621, 634, 647, 660, 716, 772, 828, 884, 947, 1010, 1066, 1134, 1190, 1253, 1266, 1279, 1335, 1348, 1404, 1460, 1501] : Array Int)[j]? = some off) (ht : ((39 : Nat) : Int) + off = (tgt : Int)) (k : W p l e R s m args below meth c H locs cells slots Q (F0 m tgt ls rest)) : W p l e R s m args below meth c H locs cells slots Q (F0 m 39 ls (.int (nI j) :: rest)) := by
  have e1 : (nI j).toInt = (j : Int) := nI_toInt (by omega)
  have e2 : ((j : Int) - 0).toNat = j := by omega
  refine lv_tableIn (off := off) (tgt := tgt) hx hb dL_law_39 ?_ ?_ ?_ ht k
  · rw [e1]
    omega
  · rw [e1]
    omega
  · rw [e1, e2]
    exact ho
set_option maxHeartbeats 4000000 in
set_option maxRecDepth 100000 in
theorem law_round {p : Program} {e : Env} {s : State} {m : MethodId} {below : List Frame} {meth : Method} {c : Code} {l : Launch} {b L : Nat} {xs : Nat → Int32} {D : va_G} {cs : Cs} {M : Nat × (Nat → Nat)} {x o e0 : Nat} (E : LwE p s m c l b L xs D cs M o e0) {Q : State → Prop} {d0 : Drawn} (hd0 : s.drawn.sameBut d0 lw_cs) {n9 : Nat} (hn : n9 < 512) (hn2 : 3 * n9 + 3 ≤ L) (hL : L ≤ 1536) {H : Heap} {locs : List Loc} {ls : Array Slot} {cells slots : Nat} (hJ : LwI D cs x M o e0 s.heap.size n9 H) (hS : va_S (fun q => s.heap.size ≤ q) s.heap H locs) (hl : lv_has ls 9 [(0, .ref b), (1, .ref x), (2, .ref M.1), (3, .ref o), (4, .int (nI (3 * n9)))]) (hc1 : cells + 14 ≤ 601024) (hc2 : slots + 148 ≤ 7293034)
    (K : ∀ (ls : Array Slot) (H : Heap) (locs : List Loc) (d : Drawn), s.drawn.sameBut d lw_cs → LwI D cs x M o e0 s.heap.size (n9 + 1) H → va_S (fun q => s.heap.size ≤ q) s.heap H locs → lv_has ls 9 [(0, .ref b), (1, .ref x), (2, .ref M.1), (3, .ref o), (4, .int (nI (3 * n9)))] → W p l e room_1 (s.setDrawn d) m #[.ref b] below meth c H locs (cells + 14) (slots + 148) Q (F0 m 1554 ls [])) :
    W p l e room_1 (s.setDrawn d0) m #[.ref b] below meth c H locs cells slots Q (F0 m 32 ls []) := by
  obtain ⟨hx, hb, hml, hown, hts, hX0, hbl, -⟩ := id E
  have hX : va_X b L xs (s.setDrawn d0) s.heap := hX0
  refine lv_aload_n hx hb dL_law_32 rfl (lv_at hl 0 rfl) ?_
  refine lv_iload hx hb dL_law_33 (lv_at hl 4 rfl) ?_
  refine va_sld hx hb hX hbl (Nat.not_le.mpr hbl) hS (vp_in_nI (by omega) (by omega)) dL_law_35 ?_
  refine lv_bipush (v := 31) hx hb dL_law_36 (by decide) ?_
  refine lv_iand hx hb dL_law_38 ?_
  obtain ⟨j, hj, ej⟩ := pk_andE (xs (nI (3 * n9)).toNatClampNeg) (m := 31) 5 (by decide)
  rw [ej]
  refine (lt_split (k := 31) hj).elim (fun hj => ?_) (fun e9 => by subst e9; exact law_tab (off := 1501) (tgt := 1540) hx hb (by decide) rfl (by decide) (q_digest E hd0 hn hn2 hL hJ hS hl hc1 hc2 K))
  refine (lt_split (k := 30) hj).elim (fun hj => ?_) (fun e9 => by subst e9; exact law_tab (off := 1460) (tgt := 1499) hx hb (by decide) rfl (by decide) (q_meanShadow E hd0 hn hn2 hL hJ hS hl hc1 hc2 K))
  refine (lt_split (k := 29) hj).elim (fun hj => ?_) (fun e9 => by subst e9; exact law_tab (off := 1404) (tgt := 1443) hx hb (by decide) rfl (by decide) (q_longestIn E hd0 hn hn2 hL hJ hS hl hc1 hc2 K))
  refine (lt_split (k := 28) hj).elim (fun hj => ?_) (fun e9 => by subst e9; exact law_tab (off := 1348) (tgt := 1387) hx hb (by decide) rfl (by decide) (q_bestHat E hd0 hn hn2 hL hJ hS hl hc1 hc2 K))
  refine (lt_split (k := 27) hj).elim (fun hj => ?_) (fun e9 => by subst e9; exact law_tab (off := 1335) (tgt := 1374) hx hb (by decide) rfl (by decide) (q_richestThen E hd0 hn hn2 hL hJ hS hl hc1 hc2 K))
  refine (lt_split (k := 26) hj).elim (fun hj => ?_) (fun e9 => by subst e9; exact law_tab (off := 1279) (tgt := 1318) hx hb (by decide) rfl (by decide) (q_auditBrings E hd0 hn hn2 hL hJ hS hl hc1 hc2 K))
  refine (lt_split (k := 25) hj).elim (fun hj => ?_) (fun e9 => by subst e9; exact law_tab (off := 1266) (tgt := 1305) hx hb (by decide) rfl (by decide) (q_hoursUntilAudit E hd0 hn hn2 hL hJ hS hl hc1 hc2 K))
  refine (lt_split (k := 24) hj).elim (fun hj => ?_) (fun e9 => by subst e9; exact law_tab (off := 1253) (tgt := 1292) hx hb (by decide) rfl (by decide) (q_longest E hd0 hn hn2 hL hJ hS hl hc1 hc2 K))
  refine (lt_split (k := 23) hj).elim (fun hj => ?_) (fun e9 => by subst e9; exact law_tab (off := 1190) (tgt := 1229) hx hb (by decide) rfl (by decide) (q_isHonest E hd0 hn hn2 hL hJ hS hl hc1 hc2 K))
  refine (lt_split (k := 22) hj).elim (fun hj => ?_) (fun e9 => by subst e9; exact law_tab (off := 1134) (tgt := 1173) hx hb (by decide) rfl (by decide) (q_certified E hd0 hn hn2 hL hJ hS hl hc1 hc2 K))
  refine (lt_split (k := 21) hj).elim (fun hj => ?_) (fun e9 => by subst e9; exact law_tab (off := 1066) (tgt := 1105) hx hb (by decide) rfl (by decide) (q_honestShadow E hd0 hn hn2 hL hJ hS hl hc1 hc2 K))
  refine (lt_split (k := 20) hj).elim (fun hj => ?_) (fun e9 => by subst e9; exact law_tab (off := 1010) (tgt := 1049) hx hb (by decide) rfl (by decide) (q_shadowOf E hd0 hn hn2 hL hJ hS hl hc1 hc2 K))
  refine (lt_split (k := 19) hj).elim (fun hj => ?_) (fun e9 => by subst e9; exact law_tab (off := 947) (tgt := 986) hx hb (by decide) rfl (by decide) (q_isExpelled E hd0 hn hn2 hL hJ hS hl hc1 hc2 K))
  refine (lt_split (k := 18) hj).elim (fun hj => ?_) (fun e9 => by subst e9; exact law_tab (off := 884) (tgt := 923) hx hb (by decide) rfl (by decide) (q_hasLent E hd0 hn hn2 hL hJ hS hl hc1 hc2 K))
  refine (lt_split (k := 17) hj).elim (fun hj => ?_) (fun e9 => by subst e9; exact law_tab (off := 828) (tgt := 867) hx hb (by decide) rfl (by decide) (q_hatOn E hd0 hn hn2 hL hJ hS hl hc1 hc2 K))
  refine (lt_split (k := 16) hj).elim (fun hj => ?_) (fun e9 => by subst e9; exact law_tab (off := 772) (tgt := 811) hx hb (by decide) rfl (by decide) (q_wears E hd0 hn hn2 hL hJ hS hl hc1 hc2 K))
  refine (lt_split (k := 15) hj).elim (fun hj => ?_) (fun e9 => by subst e9; exact law_tab (off := 716) (tgt := 755) hx hb (by decide) rfl (by decide) (q_purseOf E hd0 hn hn2 hL hJ hS hl hc1 hc2 K))
  refine (lt_split (k := 14) hj).elim (fun hj => ?_) (fun e9 => by subst e9; exact law_tab (off := 660) (tgt := 699) hx hb (by decide) rfl (by decide) (q_lampOf E hd0 hn hn2 hL hJ hS hl hc1 hc2 K))
  refine (lt_split (k := 13) hj).elim (fun hj => ?_) (fun e9 => by subst e9; exact law_tab (off := 647) (tgt := 686) hx hb (by decide) rfl (by decide) (q_honestOnes E hd0 hn hn2 hL hJ hS hl hc1 hc2 K))
  refine (lt_split (k := 12) hj).elim (fun hj => ?_) (fun e9 => by subst e9; exact law_tab (off := 634) (tgt := 673) hx hb (by decide) rfl (by decide) (q_certificates E hd0 hn hn2 hL hJ hS hl hc1 hc2 K))
  refine (lt_split (k := 11) hj).elim (fun hj => ?_) (fun e9 => by subst e9; exact law_tab (off := 621) (tgt := 660) hx hb (by decide) rfl (by decide) (q_revoked E hd0 hn hn2 hL hJ hS hl hc1 hc2 K))
  refine (lt_split (k := 10) hj).elim (fun hj => ?_) (fun e9 => by subst e9; exact law_tab (off := 608) (tgt := 647) hx hb (by decide) rfl (by decide) (q_seized E hd0 hn hn2 hL hJ hS hl hc1 hc2 K))
  refine (lt_split (k := 9) hj).elim (fun hj => ?_) (fun e9 => by subst e9; exact law_tab (off := 595) (tgt := 634) hx hb (by decide) rfl (by decide) (q_hourOfDay E hd0 hn hn2 hL hJ hS hl hc1 hc2 K))
  refine (lt_split (k := 8) hj).elim (fun hj => ?_) (fun e9 => by subst e9; exact law_tab (off := 582) (tgt := 621) hx hb (by decide) rfl (by decide) (q_hour E hd0 hn hn2 hL hJ hS hl hc1 hc2 K))
  refine (lt_split (k := 7) hj).elim (fun hj => ?_) (fun e9 => by subst e9; exact law_tab (off := 569) (tgt := 608) hx hb (by decide) rfl (by decide) (q_members E hd0 hn hn2 hL hJ hS hl hc1 hc2 K))
  refine (lt_split (k := 6) hj).elim (fun hj => ?_) (fun e9 => by subst e9; exact law_tab (off := 513) (tgt := 552) hx hb (by decide) rfl (by decide) (q_pass E hd0 hn hn2 hL hJ hS hl hc1 hc2 K))
  refine (lt_split (k := 5) hj).elim (fun hj => ?_) (fun e9 => by subst e9; exact law_tab (off := 457) (tgt := 496) hx hb (by decide) rfl (by decide) (q_certify E hd0 hn hn2 hL hJ hS hl hc1 hc2 K))
  refine (lt_split (k := 4) hj).elim (fun hj => ?_) (fun e9 => by subst e9; exact law_tab (off := 401) (tgt := 440) hx hb (by decide) rfl (by decide) (q_giveBack E hd0 hn hn2 hL hJ hS hl hc1 hc2 K))
  refine (lt_split (k := 3) hj).elim (fun hj => ?_) (fun e9 => by subst e9; exact law_tab (off := 333) (tgt := 372) hx hb (by decide) rfl (by decide) (q_borrow E hd0 hn hn2 hL hJ hS hl hc1 hc2 K))
  refine (lt_split (k := 2) hj).elim (fun hj => ?_) (fun e9 => by subst e9; exact law_tab (off := 277) (tgt := 316) hx hb (by decide) rfl (by decide) (q_dropLamp E hd0 hn hn2 hL hJ hS hl hc1 hc2 K))
  refine (lt_split (k := 1) hj).elim (fun hj => ?_) (fun e9 => by subst e9; exact law_tab (off := 209) (tgt := 248) hx hb (by decide) rfl (by decide) (q_buyLamp E hd0 hn hn2 hL hJ hS hl hc1 hc2 K))
  refine (lt_split (k := 0) hj).elim (fun hj => ?_) (fun e9 => by subst e9; exact law_tab (off := 141) (tgt := 180) hx hb (by decide) rfl (by decide) (q_join E hd0 hn hn2 hL hJ hS hl hc1 hc2 K))
  exact absurd hj (Nat.not_lt_zero j)
theorem law_in {L i : Nat} (hL : L ≤ 1536) (h : 3 * i + 3 ≤ L) : ¬ Int32.ofNat L - 3 < nI (3 * i) := by
  show ¬ nI L - nI 3 < nI (3 * i)
  rw [pk_sub (by omega)]
  exact nI_nlt (by omega) (by omega)
theorem law_out {L : Nat} (hL : L ≤ 1536) : Int32.ofNat L - 3 < nI (3 * (L / 3)) := by
  by_cases h : 3 ≤ L
  · show nI L - nI 3 < nI (3 * (L / 3))
    rw [pk_sub h]
    exact nI_lt (by omega) (by omega)
  · rcases (show L = 0 ∨ L = 1 ∨ L = 2 by omega) with rfl | rfl | rfl <;> decide +kernel
theorem law_step (i : Nat) : nI (3 * i) + Int32.ofInt 3 = nI (3 * (i + 1)) := by
  rw [show Int32.ofInt 3 = nI 3 by decide +kernel, nI_add, show 3 * i + 3 = 3 * (i + 1) by omega]
set_option maxHeartbeats 4000000 in
set_option maxRecDepth 100000 in
theorem law_loop {p : Program} {e : Env} {s : State} {m : MethodId} {below : List Frame} {meth : Method} {c : Code} {l : Launch} {b L : Nat} {xs : Nat → Int32} {D : va_G} {cs : Cs} {M : Nat × (Nat → Nat)} {x o e0 : Nat} (E : LwE p s m c l b L xs D cs M o e0) (hr : meth.sig.returnType = ret) (hlocks : meth.locks = false) {d0 : Drawn} (hd0 : s.drawn.sameBut d0 lw_cs) (hL : L ≤ 1536) {H : Heap} {locs : List Loc} {ls : Array Slot} {cells slots : Nat} (hJ : LwI D cs x M o e0 s.heap.size 0 H) (hS : va_S (fun q => s.heap.size ≤ q) s.heap H locs) (hl : lv_has ls 9 [(0, .ref b), (1, .ref x), (2, .ref M.1), (3, .ref o), (4, .int (nI (3 * 0)))]) (hc1 : cells ≤ 1000) (hc2 : slots ≤ 1000) :
    W p l e room_1 (s.setDrawn d0) m #[.ref b] below meth c H locs cells slots (lw_Z below #[Value.ref b] s) (F0 m 23 ls []) := by
  obtain ⟨hx, hb, hml, hown, hts, hX0, hbl, -⟩ := id E
  refine lv_forD (A := fun q => s.heap.size ≤ q) (H0 := s.heap) (nL := 9) hd0 14 148 (L / 3) (fun ls => F0 m 23 ls []) (fun i => [(0, .ref b), (1, .ref x), (2, .ref M.1), (3, .ref o), (4, .int (nI (3 * i)))]) (fun i H => LwI D cs x M o e0 s.heap.size i H) hl hJ hS (fun i ls H locs d hd hi hJ hS hl ih => ?_) (fun ls H locs d hd hJ hS hl => ?_)
  · have hl : lv_has ls 9 [(0, .ref b), (1, .ref x), (2, .ref M.1), (3, .ref o), (4, .int (nI (3 * i)))] := hl
    have hX : va_X b L xs (s.setDrawn d) s.heap := hX0
    refine lv_iload hx hb dL_law_23 (lv_at hl 4 rfl) ?_
    refine lv_aload_n hx hb dL_law_25 rfl (lv_at hl 0 rfl) ?_
    refine va_slen hx hb hX hbl (Nat.not_le.mpr hbl) hS dL_law_26 ?_
    refine lv_iconst (v := 3) hx hb dL_law_27 (by decide) ?_
    refine lv_isub hx hb dL_law_28 ?_
    refine lv_icmp_gt (tgt := 1560) hx hb dL_law_29 (by decide) (fun c9 => absurd c9 (law_in hL (by omega))) (fun _ => ?_)
    refine law_round E hd (by omega) (by omega) hL hJ hS hl (by omega) (by omega) (fun ls H locs d hd hJ hS hl => ?_)
    refine lv_iinc (v := nI (3 * (i + 1))) (lv' := [(4, .int (nI (3 * (i + 1)))), (0, .ref b), (1, .ref x), (2, .ref M.1), (3, .ref o)]) hx hb dL_law_1554 hl (k := 4) rfl (law_step i) (by decide) rfl (fun ls hl => ?_)
    refine lv_goto (tgt := 23) hx hb dL_law_1557 (by decide) ?_
    refine W.widen (k := cells + (i + 1) * 14) (n := slots + (i + 1) * 148) (by omega) (by omega) ?_
    exact ih ls H locs d hd hJ hS (lv_sub hl [1, 2, 3, 4, 0] rfl)
  · have hl : lv_has ls 9 [(0, .ref b), (1, .ref x), (2, .ref M.1), (3, .ref o), (4, .int (nI (3 * (L / 3))))] := hl
    have hX : va_X b L xs (s.setDrawn d) s.heap := hX0
    refine lv_iload hx hb dL_law_23 (lv_at hl 4 rfl) ?_
    refine lv_aload_n hx hb dL_law_25 rfl (lv_at hl 0 rfl) ?_
    refine va_slen hx hb hX hbl (Nat.not_le.mpr hbl) hS dL_law_26 ?_
    refine lv_iconst (v := 3) hx hb dL_law_27 (by decide) ?_
    refine lv_isub hx hb dL_law_28 ?_
    refine lv_icmp_gt (tgt := 1560) hx hb dL_law_29 (by decide) (fun _ => ?_) (fun c9 => absurd (law_out hL) c9)
    refine lv_iconst (v := 1) hx hb dL_law_1560 (by decide) ?_
    refine va_forget (fun q hq => hS.2.2 q hq) ?_
    refine W.widen (k := 601024) (n := 7293034) (by omega) (by omega) ?_
    exact lw_ret hd hx hb hr hlocks dL_law_1561
