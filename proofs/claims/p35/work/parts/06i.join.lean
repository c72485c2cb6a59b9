/-! JOIN (laid by wip/p35/gen/join.py) -/
theorem in_X1_join_X0 : ∀ w ∈ wsX00, w ∈ wsX1_join := by decide +kernel
theorem in_X1_join_X1 : ∀ w ∈ wsX10, w ∈ wsX1_join := by decide +kernel
set_option maxHeartbeats 4000000 in
set_option maxRecDepth 100000 in
/-- join -/
theorem x_X1_join (l : Launch) (hlf : l.stackTraces = false) (D : va_G) (cs : Cs) (ρ : Rf) {B : Nat} {σ : PS} (hT0 : InvT B σ) (hap : AptA ρ (sK σ)) (e0 : Nat) (he0 : sK σ = 0 → r_e ρ = e0) (H0 : Heap) (a b : Int32) : vx_Met l yX1_join wsX1_join ({ frames := 6, cells := 3, slots := 30, locals := 101 }) (va_Pc [.ref (r_h ρ), .int a, .int b] (fun U => TBp D cs (fun X => X = H0 ∧ Soc D cs ρ σ X) U ∧ DefP (ownA ρ (sK σ) H0) e0 U)) (va_Qi (fun (r : Int32) (u : PS × Rf) => joinO σ a b = (0, r, u.1)) (fun u t => Soc D cs u.2 u.1 t.heap ∧ AptA u.2 (sK u.1) ∧ r_h u.2 = r_h ρ ∧ 0 < sK u.1 ∧ (∀ q, ownB u.2 (sK u.1) q → ownB ρ (sK σ) q ∨ H0.size ≤ q)) (ownA ρ (sK σ) H0)) (vx_X (fun _ : Unit => True) (fun E _ _ => xE3 E (joinO σ a b).1) (fun q => H0.size ≤ q)) 3 30 (ownA ρ (sK σ) H0) := by
  refine vx_ofW (cc := cX1_join) (maxL := 4) (ret := (some .int)) (by decide) rfl ?_
  intro p e s m args below meth c s₁ B0 hml hte hv
  obtain ⟨rfl, ⟨⟨⟨hH, hP⟩, hK, hN⟩, hT⟩, hE⟩ := hv
  have hI := hT0.1
  subst hH
  have hx := B0.exec
  have hb := B0.bytes
  have hr := B0.returns
  have hts := atoms_spec (ws := wsX1_join) B0.pre
  have hown : s.vm.findClass RX1 = some m.cls := findClass_of_methodNamed B0.named
  have hlocks := B0.notSynchronized
  have hJ := hap.1
  have hS : va_S (fun q => s.heap.size ≤ q) s.heap s.heap [] := va_S.rf
  have hl := lv_entry ([.ref (r_h ρ), .int a, .int b]) (n := 4) (Nat.le_of_ble_eq_true rfl)
  rw [lg_entry_eq]
  generalize (lg_sl ([.ref (r_h ρ), .int a, .int b]) ++ List.replicate (4 - (lg_sl ([.ref (r_h ρ), .int a, .int b])).length) Slot.unset).toArray = ls at hl ⊢
  have hl : lv_has ls 4 [(0, .ref (r_h ρ)), (1, .int a), (2, .int b)] := hl
  refine lv_iload_n hx hb dX1_join_0 rfl (lv_at hl 1 rfl) ?_
  refine lv_iconst (v := 1) hx hb dX1_join_1 (by decide) ?_
  refine lv_icmp_lt (tgt := 11) hx hb dX1_join_2 (by decide) (fun c_1 => ?_) (fun c_1 => ?_)
  · obtain ⟨sa_2, hsa_2⟩ := hT.1 (28, "height is not 1 to 99") (by decide +kernel)
    exact vx_throwS (names := nms2) (A := fun q => s.heap.size ≤ q) hx hb hlf hown (by decide +kernel) (by decide +kernel) (hts (.classLink RX1 26 "java/lang/IllegalArgumentException") (List.mem_of_getElem? (i := 1) (by decide +kernel))) (hts (.initialized "java/lang/IllegalArgumentException") (List.mem_of_getElem? (i := 2) (by decide +kernel))) hsa_2 (hat_eIae (fun w h9 => hts w (List.mem_cons_of_mem _ (List.mem_append_left _ (List.mem_append_right _ h9)))) hN) hgd_eIae hT.2.1 hT.2.2 hS (by rw [hml]; exact hl.1) dX1_join_11 dX1_join_14 dX1_join_15 dX1_join_17 dX1_join_20 (fun x h9 => (hte x h9).elim) (Nat.le_of_ble_eq_true rfl) (Nat.le_of_ble_eq_true rfl) (Nat.le_of_ble_eq_true rfl) (Nat.le_of_ble_eq_true rfl) hlocks (fun t hA hz hk => ⟨(), trivial, (Or.inl ⟨rfl, (by unfold joinO; (try dsimp only); rw [if_pos c_1]; first | done | rfl)⟩), hz, fun q h9 _ => hk q h9⟩) (fun z h9 => Or.inr (hS.2.2 z h9)) (Nat.le_of_ble_eq_true rfl) (Nat.le_of_ble_eq_true rfl)
  · refine lv_iload_n hx hb dX1_join_5 rfl (lv_at hl 1 rfl) ?_
    refine lv_bipush (v := 99) hx hb dX1_join_6 (by decide) ?_
    refine lv_icmp_le (tgt := 21) hx hb dX1_join_8 (by decide) (fun c_3 => ?_) (fun c_3 => ?_)
    · refine lv_iload_n hx hb dX1_join_21 rfl (lv_at hl 2 rfl) ?_
      refine lv_if_lt (tgt := 31) hx hb dX1_join_22 (by decide) (fun c_4 => ?_) (fun c_4 => ?_)
      · obtain ⟨sa_5, hsa_5⟩ := hT.1 (33, "hat is not 0 to 20") (by decide +kernel)
        exact vx_throwS (names := nms2) (A := fun q => s.heap.size ≤ q) hx hb hlf hown (by decide +kernel) (by decide +kernel) (hts (.classLink RX1 26 "java/lang/IllegalArgumentException") (List.mem_of_getElem? (i := 1) (by decide +kernel))) (hts (.initialized "java/lang/IllegalArgumentException") (List.mem_of_getElem? (i := 2) (by decide +kernel))) hsa_5 (hat_eIae (fun w h9 => hts w (List.mem_cons_of_mem _ (List.mem_append_left _ (List.mem_append_right _ h9)))) hN) hgd_eIae hT.2.1 hT.2.2 hS (by rw [hml]; exact hl.1) dX1_join_31 dX1_join_34 dX1_join_35 dX1_join_37 dX1_join_40 (fun x h9 => (hte x h9).elim) (Nat.le_of_ble_eq_true rfl) (Nat.le_of_ble_eq_true rfl) (Nat.le_of_ble_eq_true rfl) (Nat.le_of_ble_eq_true rfl) hlocks (fun t hA hz hk => ⟨(), trivial, (Or.inl ⟨rfl, (by unfold joinO; (try dsimp only); rw [if_neg c_1]; rw [if_pos c_3]; rw [if_pos c_4]; first | done | rfl)⟩), hz, fun q h9 _ => hk q h9⟩) (fun z h9 => Or.inr (hS.2.2 z h9)) (Nat.le_of_ble_eq_true rfl) (Nat.le_of_ble_eq_true rfl)
      · refine lv_iload_n hx hb dX1_join_25 rfl (lv_at hl 2 rfl) ?_
        refine lv_bipush (v := 20) hx hb dX1_join_26 (by decide) ?_
        refine lv_icmp_le (tgt := 41) hx hb dX1_join_28 (by decide) (fun c_6 => ?_) (fun c_6 => ?_)
        · refine lv_aload_n hx hb dX1_join_41 rfl (lv_at hl 0 rfl) ?_
          refine va_get (D := D) (ci := 2) (v := .ref (r_q ρ)) (C := RX1) (T := TX1) (N := 4) hx hb hts in_X1_join_X1 hown hK (one_P hP.1) 0 rfl rfl 0 (by decide) (hts (.fieldLink RX1 10 "ShadowSociety" "roll" "Ljava/util/ArrayList;") (List.mem_of_getElem? (i := 5) (by decide +kernel))) (fun _ h9 => h9) rfl dX1_join_42 ?_
          refine vp_callSi (va_Run.run (va_runV (As := []) (rest := []) ⟨hx, hb, hml, hown, hts⟩ (c_Jx4a65c_size_8abf5 l D cs ρ hI hap.1) (cwV 0 hts gX1_join_Jx4a65c_size_8abf5 rfl rfl rfl (by decide +kernel) ⟨Nat.le_of_ble_eq_true rfl, Nat.le_of_ble_eq_true rfl⟩) (rb_V hK hN hP.2.1 (va_recv hK (one_P hP.2.1.1) (ci := 0) (q0 := 0) rfl rfl)) rfl rfl hl.1 rfl (lv_room (Nat.le_of_ble_eq_true rfl)) dX1_join_45 ⟨Nat.le_of_ble_eq_true rfl, Nat.le_of_ble_eq_true rfl⟩)) (fun r_7 hr_7 => ?_)
          rw [hr_7]
          refine lv_bipush (v := 10) hx hb dX1_join_48 (by decide) ?_
          refine lv_icmp_lt (tgt := 63) hx hb dX1_join_50 (by decide) (fun c_8 => ?_) (fun c_8 => ?_)
          · have hk10 : sK σ < 10 := lt10_of hI c_8
            have hS := vs_up (B := ownA ρ (sK σ) s.heap) hS (fun q h => Or.inr h)
            have hA : ∀ q : Nat, s.heap.size ≤ q → ownA ρ (sK σ) s.heap q := fun q h => Or.inr h
            refine va_new (ci := 1) (fs := [.int 0, .int 0, .int 0, .int 0, .int 0, .null, .int 0, .int 0, .int 0]) (C := RX0) (T := TX0) (N := 9) hx hb hts in_X1_join_X0 tyX0 tyX0_ok hown (hts (.classLink RX1 44 RX0) (List.mem_of_getElem? (i := 6) (by decide +kernel))) (hts (.instantiable RX0 9) (List.mem_of_getElem? (i := 7) (by decide +kernel))) (hts (.initialized RX0) (List.mem_of_getElem? (i := 8) (by decide +kernel))) hK (soc_P hP) (soc_D hap (fun q h => Or.inl h)) hS hA rfl (fun j hj => by rcases (show j = 0 ∨ j = 1 ∨ j = 2 ∨ j = 3 ∨ j = 4 ∨ j = 5 ∨ j = 6 ∨ j = 7 ∨ j = 8 by omega) with rfl | rfl | rfl | rfl | rfl | rfl | rfl | rfl | rfl <;> rfl) (Nat.le_of_ble_eq_true rfl) (Nat.le_of_ble_eq_true rfl) dX1_join_63 (fun mq H hP hD hS => ?_)
            obtain ⟨hP, hM, hfr, hge⟩ := join_new hP hD
            refine lv_dup hx hb dX1_join_66 rfl ?_
            refine lv_aload_n hx hb dX1_join_67 rfl (lv_at hl 0 rfl) ?_
            refine va_get (D := D) (ci := 2) (v := .ref (r_q ρ)) (C := RX1) (T := TX1) (N := 4) hx hb hts in_X1_join_X1 hown hK (one_P hP.1) 0 rfl rfl 0 (by decide) (hts (.fieldLink RX1 10 "ShadowSociety" "roll" "Ljava/util/ArrayList;") (List.mem_of_getElem? (i := 5) (by decide +kernel))) (fun _ h9 => h9) rfl dX1_join_68 ?_
            refine vp_callSi (va_Run.run (va_runV (As := []) (rest := [.ref mq, .ref mq]) ⟨hx, hb, hml, hown, hts⟩ (c_Jx4a65c_size_8abf5 l D cs ρ hI hap.1) (cwV 0 hts gX1_join_Jx4a65c_size_8abf5 rfl rfl rfl (by decide +kernel) ⟨Nat.le_of_ble_eq_true rfl, Nat.le_of_ble_eq_true rfl⟩) (rb_V hK hN hP.2.1 (va_recv hK (one_P hP.2.1.1) (ci := 0) (q0 := 0) rfl rfl)) rfl rfl hl.1 rfl (lv_room (Nat.le_of_ble_eq_true rfl)) dX1_join_71 ⟨Nat.le_of_ble_eq_true rfl, Nat.le_of_ble_eq_true rfl⟩)) (fun r_9 hr_9 => ?_)
            rw [hr_9]
            refine lv_iload_n hx hb dX1_join_74 rfl (lv_at hl 1 rfl) ?_
            refine lv_iload_n hx hb dX1_join_75 rfl (lv_at hl 2 rfl) ?_
            refine va_callv (va_runIN (As := [.int (nI (sK σ)), .int a, .int b]) (rest := [.ref mq]) ⟨hx, hb, hml, hown, hts⟩ (c_X0_init l D cs H mq (nI (sK σ)) a b) ⟨va_cnB 3 hts gX1_join_X0_init_n46 rfl rfl rfl (hN (.methodLinkNest "ShadowSociety" 46 ⟨"ShadowSociety$Member", "<init>", "(III)V"⟩ "ShadowSociety") (by decide +kernel)) (hts (.initialized RX0) (List.mem_of_getElem? (i := 8) (by decide +kernel))) (by decide +kernel) ⟨Nat.le_of_ble_eq_true rfl, Nat.le_of_ble_eq_true rfl⟩, rfl, hts (.instanceMethod yX0_init) (List.mem_of_getElem? (i := 15) (by decide +kernel))⟩ (lb_I hK hN (one_P hM) (one_D (A := fun _ => True) trivial) E0_b (fun _ _ _ => trivial)) rfl rfl hl.1 rfl (lv_room (Nat.le_of_ble_eq_true rfl)) dX1_join_76 ⟨Nat.le_of_ble_eq_true rfl, Nat.le_of_ble_eq_true rfl⟩) hS (fun q _ h => (one_A h).elim (fun e => Or.inr (e ▸ hge)) (fun e => Or.inr (Nat.le_trans hS.1 e))) (fun q h => (one_A h).elim (fun e => Or.inr (e ▸ hge)) (fun e => Or.inr (Nat.le_trans hS.1 e))) (fun u t H locs ht hvm hw hB hz1 hk1 hS => ?_)
            have hP : Soc D cs ρ σ H := soc_kept hP (fun q h1 h2 => hk1 q h2 (fun z => (one_A z).elim (fun e => hfr (e ▸ h1)) (fun e => absurd h2 (Nat.not_lt.mpr e))))
            have hM := P_one (ht ▸ hB.1)
            refine lv_astore_n (lv' := [(3, .ref mq), (0, .ref (r_h ρ)), (1, .int a), (2, .int b)]) hx hb dX1_join_79 rfl hl (by decide) rfl (fun ls hl => ?_)
            refine lv_aload_n hx hb dX1_join_80 rfl (lv_at hl 0 rfl) ?_
            refine va_callv (va_runVN (As := []) (rest := []) ⟨hx, hb, hml, hown, hts⟩ (c_X0_putOnOwnHat l D cs mq H (nI (sK σ)) a b 50 0 none (-1) 0 0) ⟨va_cnB 0 hts gX1_join_X0_putOnOwnHat_n49 rfl rfl rfl (hN (.methodLinkNest "ShadowSociety" 49 ⟨"ShadowSociety$Member", "putOnOwnHat", "()V"⟩ "ShadowSociety") (by decide +kernel)) (hts (.initialized RX0) (List.mem_of_getElem? (i := 8) (by decide +kernel))) (by decide +kernel) ⟨Nat.le_of_ble_eq_true rfl, Nat.le_of_ble_eq_true rfl⟩, hts (.instanceMethod yX0_putOnOwnHat) (List.mem_of_getElem? (i := 29) (by decide +kernel)), hts (.selects RX0 yX0_putOnOwnHat yX0_putOnOwnHat) (List.mem_of_getElem? (i := 30) (by decide +kernel))⟩ (rb_V hK hN ⟨rfl, hM⟩ (va_recv hK (one_P hM) (ci := 1) (q0 := 0) rfl rfl)) rfl rfl hl.1 rfl (lv_room (Nat.le_of_ble_eq_true rfl)) dX1_join_81 ⟨Nat.le_of_ble_eq_true rfl, Nat.le_of_ble_eq_true rfl⟩) hS (fun q _ h => h.elim (fun e => Or.inr (e ▸ hge)) (fun e => Or.inr (Nat.le_trans hS.1 e))) (fun q h => h.elim (fun e => Or.inr (e ▸ hge)) (fun e => Or.inr (Nat.le_trans hS.1 e))) (fun u t H locs ht hvm hw hB hz1 hk1 hS => ?_)
            have hP : Soc D cs ρ σ H := soc_kept hP (fun q h1 h2 => hk1 q h2 (fun z => z.elim (fun e => hfr (e ▸ h1)) (fun e => absurd h2 (Nat.not_lt.mpr e))))
            have hM : va_at D vwCl (mq, .inr (1, [.int (nI (sK σ)), .int a, .int b, .int 50, .int 0, va_rf (if 0 < b then some mq else none), .int (-1), .int 0, .int 0])) H := ht ▸ hB
            refine lv_aload_n hx hb dX1_join_84 rfl (lv_at hl 1 rfl) ?_
            refine va_get (D := D) (ci := 2) (v := .ref (r_q ρ)) (C := RX1) (T := TX1) (N := 4) hx hb hts in_X1_join_X1 hown hK (one_P hP.1) 0 rfl rfl 0 (by decide) (hts (.fieldLink RX1 10 "ShadowSociety" "roll" "Ljava/util/ArrayList;") (List.mem_of_getElem? (i := 5) (by decide +kernel))) (fun _ h9 => h9) rfl dX1_join_85 ?_
            refine lv_aload_n hx hb dX1_join_88 rfl (lv_at hl 0 rfl) ?_
            have hqm : r_q ρ ≠ mq := fun e => hfr (Or.inr (Or.inl e.symm))
            rcases Nat.eq_zero_or_pos (sK σ) with h0 | h0
            · have hL : va_at D vwCl (r_q ρ, .inr (0, [.int (r_m ρ), .ref e0, .int 0])) H := by
                have h := hP.2.1.1
                rw [he0 h0, h0] at h
                exact h
              have hAB : ∀ q, va_A [(r_q ρ, .inr (0, [.int (r_m ρ), .ref e0, .int 0])), (mq, .inr (1, [.int (nI (sK σ)), .int a, .int b, .int 50, .int 0, va_rf (if 0 < b then some mq else none), .int (-1), .int 0, .int 0]))] H.size q → ownA ρ (sK σ) s.heap q := fun q h => (two_A h).elim (fun e => Or.inl (Or.inr (Or.inl e))) (fun h => h.elim (fun e => Or.inr (e ▸ hge)) (fun e => Or.inr (Nat.le_trans hS.1 e)))
              have hz0 := hS.1
              refine va_calli (va_runV (As := [.ref mq]) (rest := []) ⟨hx, hb, hml, hown, hts⟩ (c_Jx4a65c_addB l D cs H (r_q ρ) mq e0 (r_m ρ) [.int (nI (sK σ)), .int a, .int b, .int 50, .int 0, va_rf (if 0 < b then some mq else none), .int (-1), .int 0, .int 0]) (cwV 1 hts gX1_join_Jx4a65c_add_9ea2d rfl rfl rfl (by decide +kernel) ⟨Nat.le_of_ble_eq_true rfl, Nat.le_of_ble_eq_true rfl⟩) (lb_V hK hN (two_P hL hM) (two_D hqm) DefP_b (fun U hU hW => hE.move hW.alike (fun q h1 h2 => by rw [hU]; exact hS.2.1 q h1 h2) (fun q h => hAB q h)) (va_recv hK (two_P hL hM) (ci := 0) (q0 := 0) rfl rfl)) rfl rfl hl.1 rfl (lv_room (Nat.le_of_ble_eq_true rfl)) dX1_join_89 ⟨Nat.le_of_ble_eq_true rfl, Nat.le_of_ble_eq_true rfl⟩) hS (fun q _ h => hAB q h) (fun q h => hAB q h) (fun r ea t H locs ht hvm hw hB hz1 hk1 hS => ?_)
              rw [ht] at hB
              obtain ⟨hPB, hDB⟩ := hB
              have hne := join_ea hDB (hDB.2 2 _ rfl) rfl rfl
              have hs := hP.1.kept (hk1 _ hP.1.lt (fun z => (two_A z).elim (fun e => hap.2.1 e) (fun z => z.elim (fun e => hfr (Or.inl e.symm)) (fun e => absurd hP.1.lt (Nat.not_lt.mpr e)))))
              obtain ⟨hSoc, hAp⟩ := join_end (ea := ea) (mc := r_m ρ + 1) (a := a) (b := b) hT0 hk10 hap hfr (fun e => by have := hDB.1 2 0 _ _ rfl rfl e; omega) (hne _ hP.1.lt) (fun e => by have := hDB.1 1 2 _ _ rfl rfl e; omega) (fun i hi => absurd hi (by omega)) hs (by rw [h0]; exact hPB 1 _ rfl) (by rw [h0, show elm (r_a ρ) 0 = fun _ => none from funext fun i => if_neg (Nat.not_lt_zero i)]; exact hPB 2 _ rfl) (fun i hi => absurd hi (by omega)) (hPB 0 _ rfl)
              have hM := hPB 0 _ rfl
              have hge2 : s.heap.size ≤ ea := Nat.le_trans hz0 (Nat.not_lt.mp (fun h => hne ea h rfl))
              refine lv_pop hx hb dX1_join_92 rfl ?_
              refine lv_aload_n hx hb dX1_join_93 rfl (lv_at hl 0 rfl) ?_
              refine va_getN (D := D) (ci := 1) (v := .int (nI (sK σ))) (C := RX0) (T := TX0) (N := 9) hx hb hts in_X1_join_X0 hown hK (one_P hM) 0 rfl rfl 0 (by decide) (Nst.use hN (w := .fieldLinkNest "ShadowSociety" 56 "ShadowSociety$Member" "number" "I" "ShadowSociety") (by decide +kernel)) (fun _ h9 => h9) rfl dX1_join_94 ?_
              refine vx_ret ?_
              refine W.widen (k := 3) (n := 30) (Nat.le_of_ble_eq_true rfl) (Nat.le_of_ble_eq_true rfl) ?_
              exact W.iret (v := nI (sK σ)) hx hb hr (fun t ht hW => ⟨⟨_, (joinS σ a b, (r_h ρ, r_q ρ, ea, va_up (r_a ρ) (sK σ) mq, r_m ρ + 1)), rfl, (by unfold joinO; (try dsimp only); rw [if_neg c_1]; rw [if_pos c_3]; rw [if_neg c_4]; rw [if_pos c_6]; rw [if_pos c_8]; first | done | rfl), by show Soc D cs _ _ t.heap ∧ _; rw [ht]; exact ⟨hSoc, hAp, rfl, Nat.succ_pos _, join_own hge (Or.inr hge2)⟩⟩, hS.F ht⟩) hS.2.2 dX1_join_97
            · have hAB : ∀ q, va_A [(r_q ρ, .inr (0, [.int (r_m ρ), .ref (r_e ρ), .int (nI (sK σ))])), (r_e ρ, .inl (cs.2.1, 10, .inr (.inr (.inr (.inr (elm (r_a ρ) (sK σ))))))), (mq, .inr (1, [.int (nI (sK σ)), .int a, .int b, .int 50, .int 0, va_rf (if 0 < b then some mq else none), .int (-1), .int 0, .int 0]))] H.size q → ownA ρ (sK σ) s.heap q := fun q h => (tri_A h).elim (fun e => Or.inl (Or.inr (Or.inl e))) (fun h => h.elim (fun e => Or.inl (Or.inr (Or.inr (Or.inl ⟨h0, e⟩)))) (fun h => h.elim (fun e => Or.inr (e ▸ hge)) (fun e => Or.inr (Nat.le_trans hS.1 e))))
              have hem : r_e ρ ≠ mq := fun e => hfr (Or.inr (Or.inr (Or.inl ⟨h0, e.symm⟩)))
              have hP3 := tri_P hP.2.1.1 (hP.2.1.2 h0) hM
              refine va_calli (va_runV (As := [.ref mq]) (rest := []) ⟨hx, hb, hml, hown, hts⟩ (c_Jx4a65c_addA l D cs H (r_q ρ) mq (r_e ρ) (r_m ρ) [.int (nI (sK σ)), .int a, .int b, .int 50, .int 0, va_rf (if 0 < b then some mq else none), .int (-1), .int 0, .int 0] (sK σ) (elm (r_a ρ) (sK σ)) hk10) (cwV 1 hts gX1_join_Jx4a65c_add_9ea2d rfl rfl rfl (by decide +kernel) ⟨Nat.le_of_ble_eq_true rfl, Nat.le_of_ble_eq_true rfl⟩) (lb_V hK hN hP3 (tri_D (hap.2.2.2 h0).2 hqm hem) E0_b (fun _ _ _ => trivial) (va_recv hK hP3 (ci := 0) (q0 := 0) rfl rfl)) rfl rfl hl.1 rfl (lv_room (Nat.le_of_ble_eq_true rfl)) dX1_join_89 ⟨Nat.le_of_ble_eq_true rfl, Nat.le_of_ble_eq_true rfl⟩) hS (fun q _ h => hAB q h) (fun q h => hAB q h) (fun r _ t H locs ht hvm hw hB hz1 hk1 hS => ?_)
              rw [ht] at hB
              obtain ⟨hPB, hDB⟩ := hB
              have hs := hP.1.kept (hk1 _ hP.1.lt (fun z => (tri_A z).elim (fun e => hap.2.1 e) (fun z => z.elim (fun e => (hap.2.2.2 h0).1 e) (fun z => z.elim (fun e => hfr (Or.inl e.symm)) (fun e => absurd hP.1.lt (Nat.not_lt.mpr e))))))
              have hm : MemP D ρ σ H := fun i hi => (hP.2.2 i hi).kept (hk1 _ (hP.2.2 i hi).lt (fun z => (tri_A z).elim (fun e => (hap.2.2.1 i hi).2.1 e) (fun z => z.elim (fun e => (hap.2.2.1 i hi).2.2 e) (fun z => z.elim (fun e => hfr (Or.inr (Or.inr (Or.inr ⟨i, hi, e.symm⟩)))) (fun e => absurd (hP.2.2 i hi).lt (Nat.not_lt.mpr e))))))
              obtain ⟨hSoc, hAp⟩ := join_end (ea := r_e ρ) (mc := r_m ρ + 1) (a := a) (b := b) hT0 hk10 hap hfr hem (hap.2.2.2 h0).1 (hap.2.2.2 h0).2 (fun i hi => (hap.2.2.1 i hi).2.2) hs (hPB 0 _ rfl) (hPB 1 _ rfl) hm (hPB 2 _ rfl)
              have hM := hPB 2 _ rfl
              refine lv_pop hx hb dX1_join_92 rfl ?_
              refine lv_aload_n hx hb dX1_join_93 rfl (lv_at hl 0 rfl) ?_
              refine va_getN (D := D) (ci := 1) (v := .int (nI (sK σ))) (C := RX0) (T := TX0) (N := 9) hx hb hts in_X1_join_X0 hown hK (one_P hM) 0 rfl rfl 0 (by decide) (Nst.use hN (w := .fieldLinkNest "ShadowSociety" 56 "ShadowSociety$Member" "number" "I" "ShadowSociety") (by decide +kernel)) (fun _ h9 => h9) rfl dX1_join_94 ?_
              refine vx_ret ?_
              refine W.widen (k := 3) (n := 30) (Nat.le_of_ble_eq_true rfl) (Nat.le_of_ble_eq_true rfl) ?_
              exact W.iret (v := nI (sK σ)) hx hb hr (fun t ht hW => ⟨⟨_, (joinS σ a b, (r_h ρ, r_q ρ, r_e ρ, va_up (r_a ρ) (sK σ) mq, r_m ρ + 1)), rfl, (by unfold joinO; (try dsimp only); rw [if_neg c_1]; rw [if_pos c_3]; rw [if_neg c_4]; rw [if_pos c_6]; rw [if_pos c_8]; first | done | rfl), by show Soc D cs _ _ t.heap ∧ _; rw [ht]; exact ⟨hSoc, hAp, rfl, Nat.succ_pos _, join_own hge (Or.inl ⟨h0, rfl⟩)⟩⟩, hS.F ht⟩) hS.2.2 dX1_join_97
          · obtain ⟨sa_10, hsa_10⟩ := hT.1 (41, "there are 10 members") (by decide +kernel)
            exact vx_throwS (names := nms2) (A := fun q => s.heap.size ≤ q) hx hb hlf hown (by decide +kernel) (by decide +kernel) (hts (.classLink RX1 39 "java/lang/IllegalStateException") (List.mem_of_getElem? (i := 3) (by decide +kernel))) (hts (.initialized "java/lang/IllegalStateException") (List.mem_of_getElem? (i := 4) (by decide +kernel))) hsa_10 (hat_eIse (fun w h9 => hts w (List.mem_cons_of_mem _ (List.mem_append_right _ h9))) hN) hgd_eIse hT.2.1 hT.2.2 hS (by rw [hml]; exact hl.1) dX1_join_53 dX1_join_56 dX1_join_57 dX1_join_59 dX1_join_62 (fun x h9 => (hte x h9).elim) (Nat.le_of_ble_eq_true rfl) (Nat.le_of_ble_eq_true rfl) (Nat.le_of_ble_eq_true rfl) (Nat.le_of_ble_eq_true rfl) hlocks (fun t hA hz hk => ⟨(), trivial, (Or.inr (⟨rfl, (by unfold joinO; (try dsimp only); rw [if_neg c_1]; rw [if_pos c_3]; rw [if_neg c_4]; rw [if_pos c_6]; rw [if_neg c_8]; first | done | rfl)⟩)), hz, fun q h9 _ => hk q h9⟩) (fun z h9 => Or.inr (hS.2.2 z h9)) (Nat.le_of_ble_eq_true rfl) (Nat.le_of_ble_eq_true rfl)
        · obtain ⟨sa_11, hsa_11⟩ := hT.1 (33, "hat is not 0 to 20") (by decide +kernel)
          exact vx_throwS (names := nms2) (A := fun q => s.heap.size ≤ q) hx hb hlf hown (by decide +kernel) (by decide +kernel) (hts (.classLink RX1 26 "java/lang/IllegalArgumentException") (List.mem_of_getElem? (i := 1) (by decide +kernel))) (hts (.initialized "java/lang/IllegalArgumentException") (List.mem_of_getElem? (i := 2) (by decide +kernel))) hsa_11 (hat_eIae (fun w h9 => hts w (List.mem_cons_of_mem _ (List.mem_append_left _ (List.mem_append_right _ h9)))) hN) hgd_eIae hT.2.1 hT.2.2 hS (by rw [hml]; exact hl.1) dX1_join_31 dX1_join_34 dX1_join_35 dX1_join_37 dX1_join_40 (fun x h9 => (hte x h9).elim) (Nat.le_of_ble_eq_true rfl) (Nat.le_of_ble_eq_true rfl) (Nat.le_of_ble_eq_true rfl) (Nat.le_of_ble_eq_true rfl) hlocks (fun t hA hz hk => ⟨(), trivial, (Or.inl ⟨rfl, (by unfold joinO; (try dsimp only); rw [if_neg c_1]; rw [if_pos c_3]; rw [if_neg c_4]; rw [if_neg c_6]; first | done | rfl)⟩), hz, fun q h9 _ => hk q h9⟩) (fun z h9 => Or.inr (hS.2.2 z h9)) (Nat.le_of_ble_eq_true rfl) (Nat.le_of_ble_eq_true rfl)
    · obtain ⟨sa_12, hsa_12⟩ := hT.1 (28, "height is not 1 to 99") (by decide +kernel)
      exact vx_throwS (names := nms2) (A := fun q => s.heap.size ≤ q) hx hb hlf hown (by decide +kernel) (by decide +kernel) (hts (.classLink RX1 26 "java/lang/IllegalArgumentException") (List.mem_of_getElem? (i := 1) (by decide +kernel))) (hts (.initialized "java/lang/IllegalArgumentException") (List.mem_of_getElem? (i := 2) (by decide +kernel))) hsa_12 (hat_eIae (fun w h9 => hts w (List.mem_cons_of_mem _ (List.mem_append_left _ (List.mem_append_right _ h9)))) hN) hgd_eIae hT.2.1 hT.2.2 hS (by rw [hml]; exact hl.1) dX1_join_11 dX1_join_14 dX1_join_15 dX1_join_17 dX1_join_20 (fun x h9 => (hte x h9).elim) (Nat.le_of_ble_eq_true rfl) (Nat.le_of_ble_eq_true rfl) (Nat.le_of_ble_eq_true rfl) (Nat.le_of_ble_eq_true rfl) hlocks (fun t hA hz hk => ⟨(), trivial, (Or.inl ⟨rfl, (by unfold joinO; (try dsimp only); rw [if_neg c_1]; rw [if_neg c_3]; first | done | rfl)⟩), hz, fun q h9 _ => hk q h9⟩) (fun z h9 => Or.inr (hS.2.2 z h9)) (Nat.le_of_ble_eq_true rfl) (Nat.le_of_ble_eq_true rfl)
