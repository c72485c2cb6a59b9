/-! THE REFERENCE'S CHECKSUM (laid by wip/whole/gen/dig.py) -/
theorem in_X2_digest_X2 : ∀ w ∈ wsX20, w ∈ wsX2_digest := by decide +kernel
set_option maxHeartbeats 4000000 in
set_option maxRecDepth 100000 in
/-- digest -/
theorem c_X2_digest (l : Launch) (D : va_G) (cs : Cs) (M : Nat × (Nat → Nat)) (th : Int32) {B : Nat} {σ : PS} (hT : InvT B σ) (hap : AptM M) (H0 : Heap) : Met l yX2_digest wsX2_digest ({ frames := 7, cells := 11, slots := 118, locals := 151 }) (va_Pc [.ref M.1] (RBp D cs (fun X => X = H0 ∧ va_P D vwCl (modW cs M th σ) X))) (va_Ql (fun (r : Int64) (u : Nat × PS) => u = (0, σ) ∧ r = digS σ) (fun u t => va_P D vwCl (modW cs M (nI u.1) u.2) t.heap) (mdA M H0)) 11 118 (mdA M H0) := by
  refine Met.ofW (cc := cX2_digest) (maxL := 10) (ret := (some .long)) (by decide) rfl ?_
  intro p e s m args below meth c s₁ B0 hml hv
  obtain ⟨rfl, ⟨hH, hP⟩, hK, hN⟩ := hv
  subst hH
  have hx := B0.exec
  have hb := B0.bytes
  have hr := B0.returns
  have hts := atoms_spec (ws := wsX2_digest) B0.pre
  have hown : s.vm.findClass RX2 = some m.cls := findClass_of_methodNamed B0.named
  have hlocks := B0.notSynchronized
  have hS : va_S (mdA M s.heap) s.heap s.heap [] := va_S.rf
  have hI := hT.1
  have hl := lv_entry ([.ref M.1]) (n := 10) (Nat.le_of_ble_eq_true rfl)
  rw [lg_entry_eq]
  generalize (lg_sl ([.ref M.1]) ++ List.replicate (10 - (lg_sl ([.ref M.1])).length) Slot.unset).toArray = ls at hl ⊢
  have hl : lv_has ls 10 [(0, .ref M.1)] := hl
  refine lv_aload_n hx hb dX2_digest_0 rfl (lv_at hl 0 rfl) ?_
  refine lv_iconst (v := 0) hx hb dX2_digest_1 (by decide) ?_
  refine va_put (D := D) (ci := 3) (v := .int 0) (ty := .int) (C := RX2) (T := TX2) (N := 13) hx hb hts in_X2_digest_X2 tyX2 tyX2_ok nmX2 hown hK hP (mod_D hap (fun q h => Or.inl h)) hS 0 rfl rfl 0 (by decide) (hts (.fieldLink RX2 34 "ShadowSocietyModel" "thrown" "I") (List.mem_of_getElem? (i := 1) (by decide +kernel))) (fun _ h9 => h9) rfl (by decide +kernel) rfl rfl (Nat.le_of_ble_eq_true rfl) dX2_digest_2 (fun H locs hP hD hS => ?_)
  have hP : va_P D vwCl (modW cs M 0 (σ)) H := hP
  refine lv_bipush (v := 8) hx hb dX2_digest_5 (by decide) ?_
  refine va_newa (A := mdA M s.heap) (atype := .int) (ty := .int) (N' := 8) (a0 := (8, .inl (fun _ => 0))) hx hb (hts (.arrayClass .int) (List.mem_of_getElem? (i := 2) (by decide +kernel))) rfl hK hP (mod_D hap (fun q h => Or.inl h)) hS (fun q h => Or.inr h) (fun cA => rfl) (by decide) (by decide) (by show 8 * 4 ≤ 536870912; decide) ((Nat.le_of_ble_eq_true rfl)) ((Nat.le_of_ble_eq_true rfl)) dX2_digest_7 (fun qa cA H hK hW hDW hS => ?_)
  obtain rfl := RAi_eq (hK.2 3 _ rfl).2 (hK.2 0 _ rfl).2
  have hK := hK.sub (tys' := tyz cs) [0, 1, 2] rfl
  have hW : va_P D vwCl (modW cs M 0 σ ++ [(qa, .inl (cs.1, 8, .inl (fun _ => 0)))]) H := hW
  have hDW : va_D (mdA M s.heap) (modW cs M 0 σ ++ [(qa, .inl (cs.1, 8, .inl (fun _ => 0)))]) := hDW
  obtain ⟨f0, hW, hDW⟩ : ∃ f0 : Nat → Int32, va_P D vwCl (modW cs M 0 σ ++ [(qa, .inl (cs.1, 8, .inl f0))]) H ∧ va_D (mdA M s.heap) (modW cs M 0 σ ++ [(qa, .inl (cs.1, 8, .inl f0))]) := ⟨_, hW, hDW⟩
  have hP : va_P D vwCl (modW cs M 0 σ) H := hW.sub (ws' := modW cs M 0 σ) [0, 1, 2, 3, 4, 5, 6, 7, 8] rfl
  refine lv_dup hx hb dX2_digest_9 rfl ?_
  refine lv_iconst (v := 0) hx hb dX2_digest_10 (by decide) ?_
  refine lv_aload_n hx hb dX2_digest_11 rfl (lv_at hl 0 rfl) ?_
  refine va_get (D := D) (ci := 3) (v := .int (nI (sK σ))) (C := RX2) (T := TX2) (N := 13) hx hb hts in_X2_digest_X2 hown hK hP 0 rfl rfl 1 (by decide) (hts (.fieldLink RX2 38 "ShadowSocietyModel" "members" "I") (List.mem_of_getElem? (i := 3) (by decide +kernel))) (fun _ h9 => h9) rfl dX2_digest_12 ?_
  refine va_iast hx hb hK hW hDW hS 9 0 rfl rfl (by unfold vp_in; decide) dX2_digest_15 (fun H locs hW hDW hS => ?_)
  have hW : va_P D vwCl (modW cs M 0 σ ++ [(qa, .inl (cs.1, 8, .inl (upd f0 0 (nI (sK σ)))))]) H := hW
  have hDW : va_D (mdA M s.heap) (modW cs M 0 σ ++ [(qa, .inl (cs.1, 8, .inl (upd f0 0 (nI (sK σ)))))]) := hDW
  obtain ⟨f1, hW, hDW, hf1⟩ : ∃ f1 : Nat → Int32, va_P D vwCl (modW cs M 0 σ ++ [(qa, .inl (cs.1, 8, .inl f1))]) H ∧ va_D (mdA M s.heap) (modW cs M 0 σ ++ [(qa, .inl (cs.1, 8, .inl f1))]) ∧ f1 = upd f0 0 (nI (sK σ)) := ⟨_, hW, hDW, rfl⟩
  have hP : va_P D vwCl (modW cs M 0 σ) H := hW.sub (ws' := modW cs M 0 σ) [0, 1, 2, 3, 4, 5, 6, 7, 8] rfl
  refine lv_dup hx hb dX2_digest_16 rfl ?_
  refine lv_iconst (v := 1) hx hb dX2_digest_17 (by decide) ?_
  refine lv_aload_n hx hb dX2_digest_18 rfl (lv_at hl 0 rfl) ?_
  refine va_get (D := D) (ci := 3) (v := .int (sHr σ)) (C := RX2) (T := TX2) (N := 13) hx hb hts in_X2_digest_X2 hown hK hP 0 rfl rfl 2 (by decide) (hts (.fieldLink RX2 45 "ShadowSocietyModel" "hour" "I") (List.mem_of_getElem? (i := 4) (by decide +kernel))) (fun _ h9 => h9) rfl dX2_digest_19 ?_
  refine va_iast hx hb hK hW hDW hS 9 0 rfl rfl (by unfold vp_in; decide) dX2_digest_22 (fun H locs hW hDW hS => ?_)
  have hW : va_P D vwCl (modW cs M 0 σ ++ [(qa, .inl (cs.1, 8, .inl (upd f1 1 (sHr σ))))]) H := hW
  have hDW : va_D (mdA M s.heap) (modW cs M 0 σ ++ [(qa, .inl (cs.1, 8, .inl (upd f1 1 (sHr σ))))]) := hDW
  obtain ⟨f2, hW, hDW, hf2⟩ : ∃ f2 : Nat → Int32, va_P D vwCl (modW cs M 0 σ ++ [(qa, .inl (cs.1, 8, .inl f2))]) H ∧ va_D (mdA M s.heap) (modW cs M 0 σ ++ [(qa, .inl (cs.1, 8, .inl f2))]) ∧ f2 = upd f1 1 (sHr σ) := ⟨_, hW, hDW, rfl⟩
  have hP : va_P D vwCl (modW cs M 0 σ) H := hW.sub (ws' := modW cs M 0 σ) [0, 1, 2, 3, 4, 5, 6, 7, 8] rfl
  refine lv_dup hx hb dX2_digest_23 rfl ?_
  refine lv_iconst (v := 2) hx hb dX2_digest_24 (by decide) ?_
  refine lv_aload_n hx hb dX2_digest_25 rfl (lv_at hl 0 rfl) ?_
  refine va_get (D := D) (ci := 3) (v := .int (sSz σ)) (C := RX2) (T := TX2) (N := 13) hx hb hts in_X2_digest_X2 hown hK hP 0 rfl rfl 3 (by decide) (hts (.fieldLink RX2 79 "ShadowSocietyModel" "seized" "I") (List.mem_of_getElem? (i := 5) (by decide +kernel))) (fun _ h9 => h9) rfl dX2_digest_26 ?_
  refine va_iast hx hb hK hW hDW hS 9 0 rfl rfl (by unfold vp_in; decide) dX2_digest_29 (fun H locs hW hDW hS => ?_)
  have hW : va_P D vwCl (modW cs M 0 σ ++ [(qa, .inl (cs.1, 8, .inl (upd f2 2 (sSz σ))))]) H := hW
  have hDW : va_D (mdA M s.heap) (modW cs M 0 σ ++ [(qa, .inl (cs.1, 8, .inl (upd f2 2 (sSz σ))))]) := hDW
  obtain ⟨f3, hW, hDW, hf3⟩ : ∃ f3 : Nat → Int32, va_P D vwCl (modW cs M 0 σ ++ [(qa, .inl (cs.1, 8, .inl f3))]) H ∧ va_D (mdA M s.heap) (modW cs M 0 σ ++ [(qa, .inl (cs.1, 8, .inl f3))]) ∧ f3 = upd f2 2 (sSz σ) := ⟨_, hW, hDW, rfl⟩
  have hP : va_P D vwCl (modW cs M 0 σ) H := hW.sub (ws' := modW cs M 0 σ) [0, 1, 2, 3, 4, 5, 6, 7, 8] rfl
  refine lv_dup hx hb dX2_digest_30 rfl ?_
  refine lv_iconst (v := 3) hx hb dX2_digest_31 (by decide) ?_
  refine lv_aload_n hx hb dX2_digest_32 rfl (lv_at hl 0 rfl) ?_
  refine va_get (D := D) (ci := 3) (v := .int (sRv σ)) (C := RX2) (T := TX2) (N := 13) hx hb hts in_X2_digest_X2 hown hK hP 0 rfl rfl 4 (by decide) (hts (.fieldLink RX2 85 "ShadowSocietyModel" "revoked" "I") (List.mem_of_getElem? (i := 6) (by decide +kernel))) (fun _ h9 => h9) rfl dX2_digest_33 ?_
  refine va_iast hx hb hK hW hDW hS 9 0 rfl rfl (by unfold vp_in; decide) dX2_digest_36 (fun H locs hW hDW hS => ?_)
  have hW : va_P D vwCl (modW cs M 0 σ ++ [(qa, .inl (cs.1, 8, .inl (upd f3 3 (sRv σ))))]) H := hW
  have hDW : va_D (mdA M s.heap) (modW cs M 0 σ ++ [(qa, .inl (cs.1, 8, .inl (upd f3 3 (sRv σ))))]) := hDW
  obtain ⟨f4, hW, hDW, hf4⟩ : ∃ f4 : Nat → Int32, va_P D vwCl (modW cs M 0 σ ++ [(qa, .inl (cs.1, 8, .inl f4))]) H ∧ va_D (mdA M s.heap) (modW cs M 0 σ ++ [(qa, .inl (cs.1, 8, .inl f4))]) ∧ f4 = upd f3 3 (sRv σ) := ⟨_, hW, hDW, rfl⟩
  have hP : va_P D vwCl (modW cs M 0 σ) H := hW.sub (ws' := modW cs M 0 σ) [0, 1, 2, 3, 4, 5, 6, 7, 8] rfl
  refine lv_dup hx hb dX2_digest_37 rfl ?_
  refine lv_iconst (v := 4) hx hb dX2_digest_38 (by decide) ?_
  refine lv_aload_n hx hb dX2_digest_39 rfl (lv_at hl 0 rfl) ?_
  refine lv_iconst (v := 0) hx hb dX2_digest_40 (by decide) ?_
  refine vp_callSi (va_Run.run (va_runV (As := [.int 0]) (rest := [.int 4, .ref qa, .ref qa]) ⟨hx, hb, hml, hown, hts⟩ (c_X2_certificates l D cs M 0 hI 0) (cwV 1 hts gX2_digest_X2_certificates rfl rfl rfl (by decide +kernel) ⟨Nat.le_of_ble_eq_true rfl, Nat.le_of_ble_eq_true rfl⟩) (rb_V hK hN hP (va_recv hK hP (ci := 3) (q0 := 0) rfl rfl)) rfl rfl hl.1 rfl (lv_room (Nat.le_of_ble_eq_true rfl)) dX2_digest_41 ⟨Nat.le_of_ble_eq_true rfl, Nat.le_of_ble_eq_true rfl⟩)) (fun r_1 hr_1 => ?_)
  rw [hr_1]
  refine W.eq (g2 := F0 m 44 ls [.int (certsS σ), .int 4, .ref qa, .ref qa]) (by rw [show certsS σ = cntS (fun j => hasC σ j ∧ ((0 : Int32) = 0 ∨ truC σ j)) (sK σ) from cnt_congr (fun n => ⟨fun h => ⟨h, Or.inl rfl⟩, fun h => h.1⟩) _]) ?_
  refine va_iast hx hb hK hW hDW hS 9 0 rfl rfl (by unfold vp_in; decide) dX2_digest_44 (fun H locs hW hDW hS => ?_)
  have hW : va_P D vwCl (modW cs M 0 σ ++ [(qa, .inl (cs.1, 8, .inl (upd f4 4 (certsS σ))))]) H := hW
  have hDW : va_D (mdA M s.heap) (modW cs M 0 σ ++ [(qa, .inl (cs.1, 8, .inl (upd f4 4 (certsS σ))))]) := hDW
  obtain ⟨f5, hW, hDW, hf5⟩ : ∃ f5 : Nat → Int32, va_P D vwCl (modW cs M 0 σ ++ [(qa, .inl (cs.1, 8, .inl f5))]) H ∧ va_D (mdA M s.heap) (modW cs M 0 σ ++ [(qa, .inl (cs.1, 8, .inl f5))]) ∧ f5 = upd f4 4 (certsS σ) := ⟨_, hW, hDW, rfl⟩
  have hP : va_P D vwCl (modW cs M 0 σ) H := hW.sub (ws' := modW cs M 0 σ) [0, 1, 2, 3, 4, 5, 6, 7, 8] rfl
  refine lv_dup hx hb dX2_digest_45 rfl ?_
  refine lv_iconst (v := 5) hx hb dX2_digest_46 (by decide) ?_
  refine lv_aload_n hx hb dX2_digest_47 rfl (lv_at hl 0 rfl) ?_
  refine lv_iconst (v := 1) hx hb dX2_digest_48 (by decide) ?_
  refine vp_callSi (va_Run.run (va_runV (As := [.int 1]) (rest := [.int 5, .ref qa, .ref qa]) ⟨hx, hb, hml, hown, hts⟩ (c_X2_certificates l D cs M 0 hI 1) (cwV 1 hts gX2_digest_X2_certificates rfl rfl rfl (by decide +kernel) ⟨Nat.le_of_ble_eq_true rfl, Nat.le_of_ble_eq_true rfl⟩) (rb_V hK hN hP (va_recv hK hP (ci := 3) (q0 := 0) rfl rfl)) rfl rfl hl.1 rfl (lv_room (Nat.le_of_ble_eq_true rfl)) dX2_digest_49 ⟨Nat.le_of_ble_eq_true rfl, Nat.le_of_ble_eq_true rfl⟩)) (fun r_2 hr_2 => ?_)
  rw [hr_2]
  refine W.eq (g2 := F0 m 52 ls [.int (honOS σ), .int 5, .ref qa, .ref qa]) (by rw [show honOS σ = cntS (fun j => hasC σ j ∧ ((1 : Int32) = 0 ∨ truC σ j)) (sK σ) from cnt_congr (fun n => ⟨fun h => ⟨h.1, Or.inr h.2⟩, fun h => ⟨h.1, h.2.elim (fun q => absurd q (by decide)) id⟩⟩) _]) ?_
  refine va_iast hx hb hK hW hDW hS 9 0 rfl rfl (by unfold vp_in; decide) dX2_digest_52 (fun H locs hW hDW hS => ?_)
  have hW : va_P D vwCl (modW cs M 0 σ ++ [(qa, .inl (cs.1, 8, .inl (upd f5 5 (honOS σ))))]) H := hW
  have hDW : va_D (mdA M s.heap) (modW cs M 0 σ ++ [(qa, .inl (cs.1, 8, .inl (upd f5 5 (honOS σ))))]) := hDW
  obtain ⟨f6, hW, hDW, hf6⟩ : ∃ f6 : Nat → Int32, va_P D vwCl (modW cs M 0 σ ++ [(qa, .inl (cs.1, 8, .inl f6))]) H ∧ va_D (mdA M s.heap) (modW cs M 0 σ ++ [(qa, .inl (cs.1, 8, .inl f6))]) ∧ f6 = upd f5 5 (honOS σ) := ⟨_, hW, hDW, rfl⟩
  have hP : va_P D vwCl (modW cs M 0 σ) H := hW.sub (ws' := modW cs M 0 σ) [0, 1, 2, 3, 4, 5, 6, 7, 8] rfl
  refine lv_dup hx hb dX2_digest_53 rfl ?_
  refine lv_bipush (v := 6) hx hb dX2_digest_54 (by decide) ?_
  refine lv_aload_n hx hb dX2_digest_56 rfl (lv_at hl 0 rfl) ?_
  refine vp_callSi (va_Run.run (va_runV (As := []) (rest := [.int 6, .ref qa, .ref qa]) ⟨hx, hb, hml, hown, hts⟩ (c_X2_longestNow l D cs M 0 hI) (cwV 0 hts gX2_digest_X2_longestNow rfl rfl rfl (by decide +kernel) ⟨Nat.le_of_ble_eq_true rfl, Nat.le_of_ble_eq_true rfl⟩) (rb_V hK hN hP (va_recv hK hP (ci := 3) (q0 := 0) rfl rfl)) rfl rfl hl.1 rfl (lv_room (Nat.le_of_ble_eq_true rfl)) dX2_digest_57 ⟨Nat.le_of_ble_eq_true rfl, Nat.le_of_ble_eq_true rfl⟩)) (fun r_3 hr_3 => ?_)
  rw [hr_3]
  refine va_iast hx hb hK hW hDW hS 9 0 rfl rfl (by unfold vp_in; decide) dX2_digest_60 (fun H locs hW hDW hS => ?_)
  have hW : va_P D vwCl (modW cs M 0 σ ++ [(qa, .inl (cs.1, 8, .inl (upd f6 6 (longS σ))))]) H := hW
  have hDW : va_D (mdA M s.heap) (modW cs M 0 σ ++ [(qa, .inl (cs.1, 8, .inl (upd f6 6 (longS σ))))]) := hDW
  obtain ⟨f7, hW, hDW, hf7⟩ : ∃ f7 : Nat → Int32, va_P D vwCl (modW cs M 0 σ ++ [(qa, .inl (cs.1, 8, .inl f7))]) H ∧ va_D (mdA M s.heap) (modW cs M 0 σ ++ [(qa, .inl (cs.1, 8, .inl f7))]) ∧ f7 = upd f6 6 (longS σ) := ⟨_, hW, hDW, rfl⟩
  have hP : va_P D vwCl (modW cs M 0 σ) H := hW.sub (ws' := modW cs M 0 σ) [0, 1, 2, 3, 4, 5, 6, 7, 8] rfl
  refine lv_dup hx hb dX2_digest_61 rfl ?_
  refine lv_bipush (v := 7) hx hb dX2_digest_62 (by decide) ?_
  refine lv_aload_n hx hb dX2_digest_64 rfl (lv_at hl 0 rfl) ?_
  refine vp_callSi (va_Run.run (va_runV (As := []) (rest := [.int 7, .ref qa, .ref qa]) ⟨hx, hb, hml, hown, hts⟩ (c_X2_richest l D cs M 0 hI) (cwV 0 hts gX2_digest_X2_richest rfl rfl rfl (by decide +kernel) ⟨Nat.le_of_ble_eq_true rfl, Nat.le_of_ble_eq_true rfl⟩) (rb_V hK hN hP (va_recv hK hP (ci := 3) (q0 := 0) rfl rfl)) rfl rfl hl.1 rfl (lv_room (Nat.le_of_ble_eq_true rfl)) dX2_digest_65 ⟨Nat.le_of_ble_eq_true rfl, Nat.le_of_ble_eq_true rfl⟩)) (fun r_4 hr_4 => ?_)
  rw [hr_4]
  refine va_iast hx hb hK hW hDW hS 9 0 rfl rfl (by unfold vp_in; decide) dX2_digest_68 (fun H locs hW hDW hS => ?_)
  have hW : va_P D vwCl (modW cs M 0 σ ++ [(qa, .inl (cs.1, 8, .inl (upd f7 7 (richS σ))))]) H := hW
  have hDW : va_D (mdA M s.heap) (modW cs M 0 σ ++ [(qa, .inl (cs.1, 8, .inl (upd f7 7 (richS σ))))]) := hDW
  obtain ⟨f8, hW, hDW, hf8⟩ : ∃ f8 : Nat → Int32, va_P D vwCl (modW cs M 0 σ ++ [(qa, .inl (cs.1, 8, .inl f8))]) H ∧ va_D (mdA M s.heap) (modW cs M 0 σ ++ [(qa, .inl (cs.1, 8, .inl f8))]) ∧ f8 = upd f7 7 (richS σ) := ⟨_, hW, hDW, rfl⟩
  have hP : va_P D vwCl (modW cs M 0 σ) H := hW.sub (ws' := modW cs M 0 σ) [0, 1, 2, 3, 4, 5, 6, 7, 8] rfl
  refine lv_astore_n (lv' := [(1, .ref qa), (0, .ref M.1)]) hx hb dX2_digest_69 rfl hl (by decide) rfl (fun ls hl => ?_)
  refine lv_ldc2 (v := 1049) hx hb hown (hts (.constantLong RX2 144 (1049)) (List.mem_of_getElem? (i := 7) (by decide +kernel))) dX2_digest_70 ?_
  refine lv_lstore_n (lv' := [(2, .long 1049), (1, .ref qa), (0, .ref M.1)]) hx hb dX2_digest_73 rfl hl (by decide) rfl (fun ls hl => ?_)
  refine lv_aload_n hx hb dX2_digest_74 rfl (lv_at hl 1 rfl) ?_
  refine lv_astore (lv' := [(4, .ref qa), (2, .long 1049), (1, .ref qa), (0, .ref M.1)]) hx hb dX2_digest_75 hl (by decide) rfl (fun ls hl => ?_)
  refine lv_aload hx hb dX2_digest_77 (lv_at hl 0 rfl) ?_
  refine va_alen (v := nI 8) hx hb hK hW 9 0 rfl rfl rfl dX2_digest_79 ?_
  refine lv_istore (lv' := [(5, .int (nI 8)), (4, .ref qa), (2, .long 1049), (1, .ref qa), (0, .ref M.1)]) hx hb dX2_digest_80 hl (by decide) rfl (fun ls hl => ?_)
  refine lv_iconst (v := 0) hx hb dX2_digest_82 (by decide) ?_
  refine lv_istore (lv' := [(6, .int 0), (5, .int (nI 8)), (4, .ref qa), (2, .long 1049), (1, .ref qa), (0, .ref M.1)]) hx hb dX2_digest_83 hl (by decide) rfl (fun ls hl => ?_)
  refine lv_for (8) (fun ls => F0 m 85 ls []) (fun i9 => [(0, .ref M.1), (1, .ref qa), (2, .long (dgF f8 1049 i9)), (4, .ref qa), (5, .int (nI 8)), (6, .int (nI i9))]) (fun _ => True) (show lv_has ls 10 [(0, .ref M.1), (1, .ref qa), (2, .long (dgF f8 1049 0)), (4, .ref qa), (5, .int (nI 8)), (6, .int (nI 0))] from lv_sub hl [5, 4, 3, 2, 1, 0] rfl) (trivial) (fun i9 ls hi9 hz9 hl K7 => ?_) (fun ls hz9 hl => ?_)
  · have hl : lv_has ls 10 [(0, .ref M.1), (1, .ref qa), (2, .long (dgF f8 1049 i9)), (4, .ref qa), (5, .int (nI 8)), (6, .int (nI i9))] := hl
    refine lv_iload hx hb dX2_digest_85 (lv_at hl 5 rfl) ?_
    refine lv_iload hx hb dX2_digest_87 (lv_at hl 4 rfl) ?_
    refine lv_icmp_ge (tgt := 115) hx hb dX2_digest_89 (by decide) (fun c9 => absurd c9 (nI_ge hi9 (by decide))) (fun _ => ?_)
    refine lv_aload hx hb dX2_digest_92 (lv_at hl 3 rfl) ?_
    refine lv_iload hx hb dX2_digest_94 (lv_at hl 5 rfl) ?_
    refine va_iald hx hb hK hW 9 0 rfl rfl (vp_in_nI hi9 (by decide)) dX2_digest_96 ?_
    rw [show (nI i9).toNatClampNeg = i9 from nI_clamp (by omega)]
    refine lv_istore (lv' := [(7, .int (f8 i9)), (0, .ref M.1), (1, .ref qa), (2, .long (dgF f8 1049 i9)), (4, .ref qa), (5, .int (nI 8)), (6, .int (nI i9))]) hx hb dX2_digest_97 hl (by decide) rfl (fun ls hl => ?_)
    refine lv_lload_n hx hb dX2_digest_99 rfl (lv_at hl 3 rfl) ?_
    refine lv_ldc2 (v := 31) hx hb hown (hts (.constantLong RX2 146 (31)) (List.mem_of_getElem? (i := 8) (by decide +kernel))) dX2_digest_100 ?_
    refine lv_lmul hx hb dX2_digest_103 ?_
    refine lv_iload hx hb dX2_digest_104 (lv_at hl 0 rfl) ?_
    refine lv_i2l (v := (f8 i9).toInt64) hx hb dX2_digest_106 rfl ?_
    refine lv_ladd hx hb dX2_digest_107 ?_
    refine lv_lstore_n (lv' := [(2, .long (((dgF f8 1049 i9) * 31) + ((f8 i9).toInt64))), (7, .int (f8 i9)), (0, .ref M.1), (1, .ref qa), (4, .ref qa), (5, .int (nI 8)), (6, .int (nI i9))]) hx hb dX2_digest_108 rfl hl (by decide) rfl (fun ls hl => ?_)
    refine lv_iinc (v := nI (i9 + 1)) (lv' := [(6, .int (nI (i9 + 1))), (2, .long (((dgF f8 1049 i9) * 31) + ((f8 i9).toInt64))), (7, .int (f8 i9)), (0, .ref M.1), (1, .ref qa), (4, .ref qa), (5, .int (nI 8))]) hx hb dX2_digest_109 hl (k := 6) rfl (nI_add _ 1) (by decide) rfl (fun ls hl => ?_)
    refine lv_goto (tgt := 85) hx hb dX2_digest_112 (by decide) ?_
    refine K7 ls (trivial) ?_
    show lv_has ls 10 [(0, .ref M.1), (1, .ref qa), (2, .long (dgF f8 1049 (i9 + 1))), (4, .ref qa), (5, .int (nI 8)), (6, .int (nI (i9 + 1)))]
    rw [show dgF f8 1049 (i9 + 1) = ((dgF f8 1049 i9) * 31) + ((f8 i9).toInt64) from rfl]
    exact lv_sub hl [3, 4, 1, 5, 6, 0] rfl
  · have hl : lv_has ls 10 [(0, .ref M.1), (1, .ref qa), (2, .long (dgF f8 1049 8)), (4, .ref qa), (5, .int (nI 8)), (6, .int (nI 8))] := hl
    refine lv_iload hx hb dX2_digest_85 (lv_at hl 5 rfl) ?_
    refine lv_iload hx hb dX2_digest_87 (lv_at hl 4 rfl) ?_
    refine lv_icmp_ge (tgt := 115) hx hb dX2_digest_89 (by decide) (fun _ => ?_) (fun c9 => absurd (nI_le (Nat.le_refl 8) (by decide)) c9)
    refine lv_iconst (v := 0) hx hb dX2_digest_115 (by decide) ?_
    refine lv_istore (lv' := [(4, .int 0), (0, .ref M.1), (1, .ref qa), (2, .long (dgF f8 1049 8)), (5, .int (nI 8)), (6, .int (nI 8))]) hx hb dX2_digest_116 hl (by decide) rfl (fun ls hl => ?_)
    have e0 : f8 0 = nI (sK σ) := by
      rw [hf8, pk_un (show (0 : Nat) ≠ 7 by decide), hf7, pk_un (show (0 : Nat) ≠ 6 by decide), hf6, pk_un (show (0 : Nat) ≠ 5 by decide), hf5, pk_un (show (0 : Nat) ≠ 4 by decide), hf4, pk_un (show (0 : Nat) ≠ 3 by decide), hf3, pk_un (show (0 : Nat) ≠ 2 by decide), hf2, pk_un (show (0 : Nat) ≠ 1 by decide), hf1, pk_us]
    have e1 : f8 1 = sHr σ := by
      rw [hf8, pk_un (show (1 : Nat) ≠ 7 by decide), hf7, pk_un (show (1 : Nat) ≠ 6 by decide), hf6, pk_un (show (1 : Nat) ≠ 5 by decide), hf5, pk_un (show (1 : Nat) ≠ 4 by decide), hf4, pk_un (show (1 : Nat) ≠ 3 by decide), hf3, pk_un (show (1 : Nat) ≠ 2 by decide), hf2, pk_us]
    have e2 : f8 2 = sSz σ := by
      rw [hf8, pk_un (show (2 : Nat) ≠ 7 by decide), hf7, pk_un (show (2 : Nat) ≠ 6 by decide), hf6, pk_un (show (2 : Nat) ≠ 5 by decide), hf5, pk_un (show (2 : Nat) ≠ 4 by decide), hf4, pk_un (show (2 : Nat) ≠ 3 by decide), hf3, pk_us]
    have e3 : f8 3 = sRv σ := by
      rw [hf8, pk_un (show (3 : Nat) ≠ 7 by decide), hf7, pk_un (show (3 : Nat) ≠ 6 by decide), hf6, pk_un (show (3 : Nat) ≠ 5 by decide), hf5, pk_un (show (3 : Nat) ≠ 4 by decide), hf4, pk_us]
    have e4 : f8 4 = certsS σ := by
      rw [hf8, pk_un (show (4 : Nat) ≠ 7 by decide), hf7, pk_un (show (4 : Nat) ≠ 6 by decide), hf6, pk_un (show (4 : Nat) ≠ 5 by decide), hf5, pk_us]
    have e5 : f8 5 = honOS σ := by
      rw [hf8, pk_un (show (5 : Nat) ≠ 7 by decide), hf7, pk_un (show (5 : Nat) ≠ 6 by decide), hf6, pk_us]
    have e6 : f8 6 = longS σ := by
      rw [hf8, pk_un (show (6 : Nat) ≠ 7 by decide), hf7, pk_us]
    have e7 : f8 7 = richS σ := by
      rw [hf8, pk_us]
    have hd : dgF f8 1049 8 = mixS (mixS (mixS (mixS (mixS (mixS (mixS (mixS 1049 (nI (sK σ))) (sHr σ)) (sSz σ)) (sRv σ)) (certsS σ)) (honOS σ)) (longS σ)) (richS σ) := by
      show mixS (mixS (mixS (mixS (mixS (mixS (mixS (mixS ((1049 : Int64)) (f8 0)) (f8 1)) (f8 2)) (f8 3)) (f8 4)) (f8 5)) (f8 6)) (f8 7) = _
      rw [e0, e1, e2, e3, e4, e5, e6, e7]
    have h10 := hI.1
    refine lv_forC 1 11 (sK σ) (fun ls => F0 m 118 ls []) (fun n9 => [(0, .ref M.1), (2, .long (digL σ (mixS (mixS (mixS (mixS (mixS (mixS (mixS (mixS 1049 (nI (sK σ))) (sHr σ)) (sSz σ)) (sRv σ)) (certsS σ)) (honOS σ)) (longS σ)) (richS σ)) n9)), (4, .int (nI n9))]) (fun n X => va_P D vwCl (modW cs M 0 σ) X) (show lv_has ls 10 [(0, .ref M.1), (2, .long (digL σ (mixS (mixS (mixS (mixS (mixS (mixS (mixS (mixS 1049 (nI (sK σ))) (sHr σ)) (sSz σ)) (sRv σ)) (certsS σ)) (honOS σ)) (longS σ)) (richS σ)) 0)), (4, .int (nI 0))] from (by rw [show digL σ (mixS (mixS (mixS (mixS (mixS (mixS (mixS (mixS 1049 (nI (sK σ))) (sHr σ)) (sSz σ)) (sRv σ)) (certsS σ)) (honOS σ)) (longS σ)) (richS σ)) 0 = dgF f8 1049 8 from hd.symm]; exact lv_sub hl [1, 3, 0] rfl)) hP hS (fun n9 ls H locs hn9 hP hS hl K9 => ?_) (fun ls H locs hP hS hl => ?_)
    · have hl : lv_has ls 10 [(0, .ref M.1), (2, .long (digL σ (mixS (mixS (mixS (mixS (mixS (mixS (mixS (mixS 1049 (nI (sK σ))) (sHr σ)) (sSz σ)) (sRv σ)) (certsS σ)) (honOS σ)) (longS σ)) (richS σ)) n9)), (4, .int (nI n9))] := hl
      refine lv_iload hx hb dX2_digest_118 (lv_at hl 2 rfl) ?_
      refine lv_aload_n hx hb dX2_digest_120 rfl (lv_at hl 0 rfl) ?_
      refine va_get (D := D) (ci := 3) (v := .int (nI (sK σ))) (C := RX2) (T := TX2) (N := 13) hx hb hts in_X2_digest_X2 hown hK hP 0 rfl rfl 1 (by decide) (hts (.fieldLink RX2 38 "ShadowSocietyModel" "members" "I") (List.mem_of_getElem? (i := 3) (by decide +kernel))) (fun _ h9 => h9) rfl dX2_digest_121 ?_
      refine lv_icmp_ge (tgt := 305) hx hb dX2_digest_124 (by decide) (fun c9 => absurd c9 (nI_ge hn9 (by omega))) (fun _ => ?_)
      refine lv_bipush (v := 11) hx hb dX2_digest_127 (by decide) ?_
      refine va_newa (A := mdA M s.heap) (atype := .int) (ty := .int) (N' := 11) (a0 := (11, .inl (fun _ => 0))) hx hb (hts (.arrayClass .int) (List.mem_of_getElem? (i := 2) (by decide +kernel))) rfl hK hP (mod_D hap (fun q h => Or.inl h)) hS (fun q h => Or.inr h) (fun cA => rfl) (by decide) (by decide) (by show 11 * 4 ≤ 536870912; decide) (Nat.le_trans (m := 11) (by omega) (Nat.le_of_ble_eq_true rfl)) (Nat.le_trans (m := 118) (by omega) (Nat.le_of_ble_eq_true rfl)) dX2_digest_129 (fun qb cA H hK hW hDW hS => ?_)
      obtain rfl := RAi_eq (hK.2 3 _ rfl).2 (hK.2 0 _ rfl).2
      have hK := hK.sub (tys' := tyz cs) [0, 1, 2] rfl
      have hW : va_P D vwCl (modW cs M 0 σ ++ [(qb, .inl (cs.1, 11, .inl (fun _ => 0)))]) H := hW
      have hDW : va_D (mdA M s.heap) (modW cs M 0 σ ++ [(qb, .inl (cs.1, 11, .inl (fun _ => 0)))]) := hDW
      obtain ⟨g0, hW, hDW⟩ : ∃ g0 : Nat → Int32, va_P D vwCl (modW cs M 0 σ ++ [(qb, .inl (cs.1, 11, .inl g0))]) H ∧ va_D (mdA M s.heap) (modW cs M 0 σ ++ [(qb, .inl (cs.1, 11, .inl g0))]) := ⟨_, hW, hDW⟩
      have hP : va_P D vwCl (modW cs M 0 σ) H := hW.sub (ws' := modW cs M 0 σ) [0, 1, 2, 3, 4, 5, 6, 7, 8] rfl
      refine lv_dup hx hb dX2_digest_131 rfl ?_
      refine lv_iconst (v := 0) hx hb dX2_digest_132 (by decide) ?_
      refine lv_aload_n hx hb dX2_digest_133 rfl (lv_at hl 0 rfl) ?_
      refine va_get (D := D) (ci := 3) (v := .ref (M.2 3)) (C := RX2) (T := TX2) (N := 13) hx hb hts in_X2_digest_X2 hown hK hP 0 rfl rfl 8 (by decide) (hts (.fieldLink RX2 19 "ShadowSocietyModel" "lamp" "[I") (List.mem_of_getElem? (i := 9) (by decide +kernel))) (fun _ h9 => h9) rfl dX2_digest_134 ?_
      refine lv_iload hx hb dX2_digest_137 (lv_at hl 2 rfl) ?_
      refine va_iald hx hb hK hP 4 0 rfl rfl (vp_in_nI (by have := hI.1; omega) (by decide)) dX2_digest_139 ?_
      rw [show (nI n9).toNatClampNeg = n9 from nI_clamp (by have := hI.1; omega)]
      refine va_iast hx hb hK hW hDW hS 9 0 rfl rfl (by unfold vp_in; decide) dX2_digest_140 (fun H locs hW hDW hS => ?_)
      have hW : va_P D vwCl (modW cs M 0 σ ++ [(qb, .inl (cs.1, 11, .inl (upd g0 0 (sLa σ n9))))]) H := hW
      have hDW : va_D (mdA M s.heap) (modW cs M 0 σ ++ [(qb, .inl (cs.1, 11, .inl (upd g0 0 (sLa σ n9))))]) := hDW
      obtain ⟨g1, hW, hDW, hg1⟩ : ∃ g1 : Nat → Int32, va_P D vwCl (modW cs M 0 σ ++ [(qb, .inl (cs.1, 11, .inl g1))]) H ∧ va_D (mdA M s.heap) (modW cs M 0 σ ++ [(qb, .inl (cs.1, 11, .inl g1))]) ∧ g1 = upd g0 0 (sLa σ n9) := ⟨_, hW, hDW, rfl⟩
      have hP : va_P D vwCl (modW cs M 0 σ) H := hW.sub (ws' := modW cs M 0 σ) [0, 1, 2, 3, 4, 5, 6, 7, 8] rfl
      refine lv_dup hx hb dX2_digest_141 rfl ?_
      refine lv_iconst (v := 1) hx hb dX2_digest_142 (by decide) ?_
      refine lv_aload_n hx hb dX2_digest_143 rfl (lv_at hl 0 rfl) ?_
      refine va_get (D := D) (ci := 3) (v := .ref (M.2 2)) (C := RX2) (T := TX2) (N := 13) hx hb hts in_X2_digest_X2 hown hK hP 0 rfl rfl 7 (by decide) (hts (.fieldLink RX2 16 "ShadowSocietyModel" "purse" "[I") (List.mem_of_getElem? (i := 10) (by decide +kernel))) (fun _ h9 => h9) rfl dX2_digest_144 ?_
      refine lv_iload hx hb dX2_digest_147 (lv_at hl 2 rfl) ?_
      refine va_iald hx hb hK hP 3 0 rfl rfl (vp_in_nI (by have := hI.1; omega) (by decide)) dX2_digest_149 ?_
      rw [show (nI n9).toNatClampNeg = n9 from nI_clamp (by have := hI.1; omega)]
      refine va_iast hx hb hK hW hDW hS 9 0 rfl rfl (by unfold vp_in; decide) dX2_digest_150 (fun H locs hW hDW hS => ?_)
      have hW : va_P D vwCl (modW cs M 0 σ ++ [(qb, .inl (cs.1, 11, .inl (upd g1 1 (sPu σ n9))))]) H := hW
      have hDW : va_D (mdA M s.heap) (modW cs M 0 σ ++ [(qb, .inl (cs.1, 11, .inl (upd g1 1 (sPu σ n9))))]) := hDW
      obtain ⟨g2, hW, hDW, hg2⟩ : ∃ g2 : Nat → Int32, va_P D vwCl (modW cs M 0 σ ++ [(qb, .inl (cs.1, 11, .inl g2))]) H ∧ va_D (mdA M s.heap) (modW cs M 0 σ ++ [(qb, .inl (cs.1, 11, .inl g2))]) ∧ g2 = upd g1 1 (sPu σ n9) := ⟨_, hW, hDW, rfl⟩
      have hP : va_P D vwCl (modW cs M 0 σ) H := hW.sub (ws' := modW cs M 0 σ) [0, 1, 2, 3, 4, 5, 6, 7, 8] rfl
      refine lv_dup hx hb dX2_digest_151 rfl ?_
      refine lv_iconst (v := 2) hx hb dX2_digest_152 (by decide) ?_
      refine lv_aload_n hx hb dX2_digest_153 rfl (lv_at hl 0 rfl) ?_
      refine va_get (D := D) (ci := 3) (v := .ref (M.2 4)) (C := RX2) (T := TX2) (N := 13) hx hb hts in_X2_digest_X2 hown hK hP 0 rfl rfl 9 (by decide) (hts (.fieldLink RX2 22 "ShadowSocietyModel" "wears" "[I") (List.mem_of_getElem? (i := 11) (by decide +kernel))) (fun _ h9 => h9) rfl dX2_digest_154 ?_
      refine lv_iload hx hb dX2_digest_157 (lv_at hl 2 rfl) ?_
      refine va_iald hx hb hK hP 5 0 rfl rfl (vp_in_nI (by have := hI.1; omega) (by decide)) dX2_digest_159 ?_
      rw [show (nI n9).toNatClampNeg = n9 from nI_clamp (by have := hI.1; omega)]
      refine va_iast hx hb hK hW hDW hS 9 0 rfl rfl (by unfold vp_in; decide) dX2_digest_160 (fun H locs hW hDW hS => ?_)
      have hW : va_P D vwCl (modW cs M 0 σ ++ [(qb, .inl (cs.1, 11, .inl (upd g2 2 (sWe σ n9))))]) H := hW
      have hDW : va_D (mdA M s.heap) (modW cs M 0 σ ++ [(qb, .inl (cs.1, 11, .inl (upd g2 2 (sWe σ n9))))]) := hDW
      obtain ⟨g3, hW, hDW, hg3⟩ : ∃ g3 : Nat → Int32, va_P D vwCl (modW cs M 0 σ ++ [(qb, .inl (cs.1, 11, .inl g3))]) H ∧ va_D (mdA M s.heap) (modW cs M 0 σ ++ [(qb, .inl (cs.1, 11, .inl g3))]) ∧ g3 = upd g2 2 (sWe σ n9) := ⟨_, hW, hDW, rfl⟩
      have hP : va_P D vwCl (modW cs M 0 σ) H := hW.sub (ws' := modW cs M 0 σ) [0, 1, 2, 3, 4, 5, 6, 7, 8] rfl
      refine lv_dup hx hb dX2_digest_161 rfl ?_
      refine lv_iconst (v := 3) hx hb dX2_digest_162 (by decide) ?_
      refine lv_aload_n hx hb dX2_digest_163 rfl (lv_at hl 0 rfl) ?_
      refine lv_iload hx hb dX2_digest_164 (lv_at hl 2 rfl) ?_
      refine vp_callSi (va_Run.run (va_runV (As := [.int (nI n9)]) (rest := [.int 3, .ref qb, .ref qb]) ⟨hx, hb, hml, hown, hts⟩ (c_X2_worn l D cs M 0 hI n9 hn9) (cwV 1 hts gX2_digest_X2_worn rfl rfl rfl (by decide +kernel) ⟨Nat.le_of_ble_eq_true rfl, Nat.le_of_ble_eq_true rfl⟩) (rb_V hK hN hP (va_recv hK hP (ci := 3) (q0 := 0) rfl rfl)) rfl rfl hl.1 rfl (lv_room (Nat.le_of_ble_eq_true rfl)) dX2_digest_166 ⟨Nat.le_trans (m := 11) (by omega) (Nat.le_of_ble_eq_true rfl), Nat.le_trans (m := 118) (by omega) (Nat.le_of_ble_eq_true rfl)⟩)) (fun r_5 hr_5 => ?_)
      rw [hr_5]
      refine va_iast hx hb hK hW hDW hS 9 0 rfl rfl (by unfold vp_in; decide) dX2_digest_169 (fun H locs hW hDW hS => ?_)
      have hW : va_P D vwCl (modW cs M 0 σ ++ [(qb, .inl (cs.1, 11, .inl (upd g3 3 (wornH σ n9))))]) H := hW
      have hDW : va_D (mdA M s.heap) (modW cs M 0 σ ++ [(qb, .inl (cs.1, 11, .inl (upd g3 3 (wornH σ n9))))]) := hDW
      obtain ⟨g4, hW, hDW, hg4⟩ : ∃ g4 : Nat → Int32, va_P D vwCl (modW cs M 0 σ ++ [(qb, .inl (cs.1, 11, .inl g4))]) H ∧ va_D (mdA M s.heap) (modW cs M 0 σ ++ [(qb, .inl (cs.1, 11, .inl g4))]) ∧ g4 = upd g3 3 (wornH σ n9) := ⟨_, hW, hDW, rfl⟩
      have hP : va_P D vwCl (modW cs M 0 σ) H := hW.sub (ws' := modW cs M 0 σ) [0, 1, 2, 3, 4, 5, 6, 7, 8] rfl
      refine lv_dup hx hb dX2_digest_170 rfl ?_
      refine lv_iconst (v := 4) hx hb dX2_digest_171 (by decide) ?_
      refine lv_aload_n hx hb dX2_digest_172 rfl (lv_at hl 0 rfl) ?_
      refine lv_iload hx hb dX2_digest_173 (lv_at hl 2 rfl) ?_
      refine vp_callSi (va_Run.run (va_runV (As := [.int (nI n9)]) (rest := [.int 4, .ref qb, .ref qb]) ⟨hx, hb, hml, hown, hts⟩ (c_X2_hasLentOut l D cs M 0 hI n9 hn9) (cwV 1 hts gX2_digest_X2_hasLentOut rfl rfl rfl (by decide +kernel) ⟨Nat.le_of_ble_eq_true rfl, Nat.le_of_ble_eq_true rfl⟩) (rb_V hK hN hP (va_recv hK hP (ci := 3) (q0 := 0) rfl rfl)) rfl rfl hl.1 rfl (lv_room (Nat.le_of_ble_eq_true rfl)) dX2_digest_175 ⟨Nat.le_trans (m := 11) (by omega) (Nat.le_of_ble_eq_true rfl), Nat.le_trans (m := 118) (by omega) (Nat.le_of_ble_eq_true rfl)⟩)) (fun r_6 hr_6 => ?_)
      rw [hr_6]
      refine lv_cut (F0 m 186 ls [.int (b01 (lentS σ n9)), .int 4, .ref qb, .ref qb]) ?_ (fun K_7 => ?_)
      · refine va_iast hx hb hK hW hDW hS 9 0 rfl rfl (by unfold vp_in; decide) dX2_digest_186 (fun H locs hW hDW hS => ?_)
        have hW : va_P D vwCl (modW cs M 0 σ ++ [(qb, .inl (cs.1, 11, .inl (upd g4 4 (b01 (lentS σ n9)))))]) H := hW
        have hDW : va_D (mdA M s.heap) (modW cs M 0 σ ++ [(qb, .inl (cs.1, 11, .inl (upd g4 4 (b01 (lentS σ n9)))))]) := hDW
        obtain ⟨g5, hW, hDW, hg5⟩ : ∃ g5 : Nat → Int32, va_P D vwCl (modW cs M 0 σ ++ [(qb, .inl (cs.1, 11, .inl g5))]) H ∧ va_D (mdA M s.heap) (modW cs M 0 σ ++ [(qb, .inl (cs.1, 11, .inl g5))]) ∧ g5 = upd g4 4 (b01 (lentS σ n9)) := ⟨_, hW, hDW, rfl⟩
        have hP : va_P D vwCl (modW cs M 0 σ) H := hW.sub (ws' := modW cs M 0 σ) [0, 1, 2, 3, 4, 5, 6, 7, 8] rfl
        refine lv_dup hx hb dX2_digest_187 rfl ?_
        refine lv_iconst (v := 5) hx hb dX2_digest_188 (by decide) ?_
        refine lv_aload_n hx hb dX2_digest_189 rfl (lv_at hl 0 rfl) ?_
        refine lv_iload hx hb dX2_digest_190 (lv_at hl 2 rfl) ?_
        refine vp_callSi (va_Run.run (va_runV (As := [.int (nI n9)]) (rest := [.int 5, .ref qb, .ref qb]) ⟨hx, hb, hml, hown, hts⟩ (c_X2_isOut l D cs M 0 hI n9 hn9) (cwV 1 hts gX2_digest_X2_isOut rfl rfl rfl (by decide +kernel) ⟨Nat.le_of_ble_eq_true rfl, Nat.le_of_ble_eq_true rfl⟩) (rb_V hK hN hP (va_recv hK hP (ci := 3) (q0 := 0) rfl rfl)) rfl rfl hl.1 rfl (lv_room (Nat.le_of_ble_eq_true rfl)) dX2_digest_192 ⟨Nat.le_trans (m := 11) (by omega) (Nat.le_of_ble_eq_true rfl), Nat.le_trans (m := 118) (by omega) (Nat.le_of_ble_eq_true rfl)⟩)) (fun r_8 hr_8 => ?_)
        rw [hr_8]
        refine lv_cut (F0 m 203 ls [.int (b01 (outS σ n9)), .int 5, .ref qb, .ref qb]) ?_ (fun K_9 => ?_)
        · refine va_iast hx hb hK hW hDW hS 9 0 rfl rfl (by unfold vp_in; decide) dX2_digest_203 (fun H locs hW hDW hS => ?_)
          have hW : va_P D vwCl (modW cs M 0 σ ++ [(qb, .inl (cs.1, 11, .inl (upd g5 5 (b01 (outS σ n9)))))]) H := hW
          have hDW : va_D (mdA M s.heap) (modW cs M 0 σ ++ [(qb, .inl (cs.1, 11, .inl (upd g5 5 (b01 (outS σ n9)))))]) := hDW
          obtain ⟨g6, hW, hDW, hg6⟩ : ∃ g6 : Nat → Int32, va_P D vwCl (modW cs M 0 σ ++ [(qb, .inl (cs.1, 11, .inl g6))]) H ∧ va_D (mdA M s.heap) (modW cs M 0 σ ++ [(qb, .inl (cs.1, 11, .inl g6))]) ∧ g6 = upd g5 5 (b01 (outS σ n9)) := ⟨_, hW, hDW, rfl⟩
          have hP : va_P D vwCl (modW cs M 0 σ) H := hW.sub (ws' := modW cs M 0 σ) [0, 1, 2, 3, 4, 5, 6, 7, 8] rfl
          refine lv_dup hx hb dX2_digest_204 rfl ?_
          refine lv_bipush (v := 6) hx hb dX2_digest_205 (by decide) ?_
          refine lv_aload_n hx hb dX2_digest_207 rfl (lv_at hl 0 rfl) ?_
          refine lv_iload hx hb dX2_digest_208 (lv_at hl 2 rfl) ?_
          refine vp_callSi (va_Run.run (va_runV (As := [.int (nI n9)]) (rest := [.int 6, .ref qb, .ref qb]) ⟨hx, hb, hml, hown, hts⟩ (c_X2_shadow l D cs M 0 hI n9 hn9) (cwV 1 hts gX2_digest_X2_shadow rfl rfl rfl (by decide +kernel) ⟨Nat.le_of_ble_eq_true rfl, Nat.le_of_ble_eq_true rfl⟩) (rb_V hK hN hP (va_recv hK hP (ci := 3) (q0 := 0) rfl rfl)) rfl rfl hl.1 rfl (lv_room (Nat.le_of_ble_eq_true rfl)) dX2_digest_210 ⟨Nat.le_trans (m := 11) (by omega) (Nat.le_of_ble_eq_true rfl), Nat.le_trans (m := 118) (by omega) (Nat.le_of_ble_eq_true rfl)⟩)) (fun r_10 hr_10 => ?_)
          rw [hr_10]
          refine va_iast hx hb hK hW hDW hS 9 0 rfl rfl (by unfold vp_in; decide) dX2_digest_213 (fun H locs hW hDW hS => ?_)
          have hW : va_P D vwCl (modW cs M 0 σ ++ [(qb, .inl (cs.1, 11, .inl (upd g6 6 (shadS σ n9 (dayOf σ)))))]) H := hW
          have hDW : va_D (mdA M s.heap) (modW cs M 0 σ ++ [(qb, .inl (cs.1, 11, .inl (upd g6 6 (shadS σ n9 (dayOf σ)))))]) := hDW
          obtain ⟨g7, hW, hDW, hg7⟩ : ∃ g7 : Nat → Int32, va_P D vwCl (modW cs M 0 σ ++ [(qb, .inl (cs.1, 11, .inl g7))]) H ∧ va_D (mdA M s.heap) (modW cs M 0 σ ++ [(qb, .inl (cs.1, 11, .inl g7))]) ∧ g7 = upd g6 6 (shadS σ n9 (dayOf σ)) := ⟨_, hW, hDW, rfl⟩
          have hP : va_P D vwCl (modW cs M 0 σ) H := hW.sub (ws' := modW cs M 0 σ) [0, 1, 2, 3, 4, 5, 6, 7, 8] rfl
          refine lv_dup hx hb dX2_digest_214 rfl ?_
          refine lv_bipush (v := 7) hx hb dX2_digest_215 (by decide) ?_
          refine lv_aload_n hx hb dX2_digest_217 rfl (lv_at hl 0 rfl) ?_
          refine va_get (D := D) (ci := 3) (v := .ref (M.2 5)) (C := RX2) (T := TX2) (N := 13) hx hb hts in_X2_digest_X2 hown hK hP 0 rfl rfl 10 (by decide) (hts (.fieldLink RX2 25 "ShadowSocietyModel" "length" "[I") (List.mem_of_getElem? (i := 12) (by decide +kernel))) (fun _ h9 => h9) rfl dX2_digest_218 ?_
          refine lv_iload hx hb dX2_digest_221 (lv_at hl 2 rfl) ?_
          refine va_iald hx hb hK hP 6 0 rfl rfl (vp_in_nI (by have := hI.1; omega) (by decide)) dX2_digest_223 ?_
          rw [show (nI n9).toNatClampNeg = n9 from nI_clamp (by have := hI.1; omega)]
          refine va_iast hx hb hK hW hDW hS 9 0 rfl rfl (by unfold vp_in; decide) dX2_digest_224 (fun H locs hW hDW hS => ?_)
          have hW : va_P D vwCl (modW cs M 0 σ ++ [(qb, .inl (cs.1, 11, .inl (upd g7 7 (sCe σ n9))))]) H := hW
          have hDW : va_D (mdA M s.heap) (modW cs M 0 σ ++ [(qb, .inl (cs.1, 11, .inl (upd g7 7 (sCe σ n9))))]) := hDW
          obtain ⟨g8, hW, hDW, hg8⟩ : ∃ g8 : Nat → Int32, va_P D vwCl (modW cs M 0 σ ++ [(qb, .inl (cs.1, 11, .inl g8))]) H ∧ va_D (mdA M s.heap) (modW cs M 0 σ ++ [(qb, .inl (cs.1, 11, .inl g8))]) ∧ g8 = upd g7 7 (sCe σ n9) := ⟨_, hW, hDW, rfl⟩
          have hP : va_P D vwCl (modW cs M 0 σ) H := hW.sub (ws' := modW cs M 0 σ) [0, 1, 2, 3, 4, 5, 6, 7, 8] rfl
          refine lv_dup hx hb dX2_digest_225 rfl ?_
          refine lv_bipush (v := 8) hx hb dX2_digest_226 (by decide) ?_
          refine lv_aload_n hx hb dX2_digest_228 rfl (lv_at hl 0 rfl) ?_
          refine lv_iload hx hb dX2_digest_229 (lv_at hl 2 rfl) ?_
          refine vp_callSi (va_Run.run (va_runV (As := [.int (nI n9)]) (rest := [.int 8, .ref qb, .ref qb]) ⟨hx, hb, hml, hown, hts⟩ (c_X2_brings l D cs M 0 hI n9 hn9) (cwV 1 hts gX2_digest_X2_brings rfl rfl rfl (by decide +kernel) ⟨Nat.le_of_ble_eq_true rfl, Nat.le_of_ble_eq_true rfl⟩) (rb_V hK hN hP (va_recv hK hP (ci := 3) (q0 := 0) rfl rfl)) rfl rfl hl.1 rfl (lv_room (Nat.le_of_ble_eq_true rfl)) dX2_digest_231 ⟨Nat.le_trans (m := 11) (by omega) (Nat.le_of_ble_eq_true rfl), Nat.le_trans (m := 118) (by omega) (Nat.le_of_ble_eq_true rfl)⟩)) (fun r_11 hr_11 => ?_)
          rw [hr_11]
          refine va_iast hx hb hK hW hDW hS 9 0 rfl rfl (by unfold vp_in; decide) dX2_digest_234 (fun H locs hW hDW hS => ?_)
          have hW : va_P D vwCl (modW cs M 0 σ ++ [(qb, .inl (cs.1, 11, .inl (upd g8 8 (gainS σ n9))))]) H := hW
          have hDW : va_D (mdA M s.heap) (modW cs M 0 σ ++ [(qb, .inl (cs.1, 11, .inl (upd g8 8 (gainS σ n9))))]) := hDW
          obtain ⟨g9, hW, hDW, hg9⟩ : ∃ g9 : Nat → Int32, va_P D vwCl (modW cs M 0 σ ++ [(qb, .inl (cs.1, 11, .inl g9))]) H ∧ va_D (mdA M s.heap) (modW cs M 0 σ ++ [(qb, .inl (cs.1, 11, .inl g9))]) ∧ g9 = upd g8 8 (gainS σ n9) := ⟨_, hW, hDW, rfl⟩
          have hP : va_P D vwCl (modW cs M 0 σ) H := hW.sub (ws' := modW cs M 0 σ) [0, 1, 2, 3, 4, 5, 6, 7, 8] rfl
          refine lv_dup hx hb dX2_digest_235 rfl ?_
          refine lv_bipush (v := 9) hx hb dX2_digest_236 (by decide) ?_
          refine lv_aload_n hx hb dX2_digest_238 rfl (lv_at hl 0 rfl) ?_
          refine lv_iload hx hb dX2_digest_239 (lv_at hl 2 rfl) ?_
          refine vp_callSi (va_Run.run (va_runV (As := [.int (nI n9)]) (rest := [.int 9, .ref qb, .ref qb]) ⟨hx, hb, hml, hown, hts⟩ (c_X2_hatFor l D cs M 0 hT n9 hn9) (cwV 1 hts gX2_digest_X2_hatFor rfl rfl rfl (by decide +kernel) ⟨Nat.le_of_ble_eq_true rfl, Nat.le_of_ble_eq_true rfl⟩) (rb_V hK hN hP (va_recv hK hP (ci := 3) (q0 := 0) rfl rfl)) rfl rfl hl.1 rfl (lv_room (Nat.le_of_ble_eq_true rfl)) dX2_digest_241 ⟨Nat.le_trans (m := 11) (by omega) (Nat.le_of_ble_eq_true rfl), Nat.le_trans (m := 118) (by omega) (Nat.le_of_ble_eq_true rfl)⟩)) (fun r_12 hr_12 => ?_)
          rw [hr_12]
          refine va_iast hx hb hK hW hDW hS 9 0 rfl rfl (by unfold vp_in; decide) dX2_digest_244 (fun H locs hW hDW hS => ?_)
          have hW : va_P D vwCl (modW cs M 0 σ ++ [(qb, .inl (cs.1, 11, .inl (upd g9 9 (bestS σ n9))))]) H := hW
          have hDW : va_D (mdA M s.heap) (modW cs M 0 σ ++ [(qb, .inl (cs.1, 11, .inl (upd g9 9 (bestS σ n9))))]) := hDW
          obtain ⟨g10, hW, hDW, hg10⟩ : ∃ g10 : Nat → Int32, va_P D vwCl (modW cs M 0 σ ++ [(qb, .inl (cs.1, 11, .inl g10))]) H ∧ va_D (mdA M s.heap) (modW cs M 0 σ ++ [(qb, .inl (cs.1, 11, .inl g10))]) ∧ g10 = upd g9 9 (bestS σ n9) := ⟨_, hW, hDW, rfl⟩
          have hP : va_P D vwCl (modW cs M 0 σ) H := hW.sub (ws' := modW cs M 0 σ) [0, 1, 2, 3, 4, 5, 6, 7, 8] rfl
          refine lv_dup hx hb dX2_digest_245 rfl ?_
          refine lv_bipush (v := 10) hx hb dX2_digest_246 (by decide) ?_
          refine lv_aload_n hx hb dX2_digest_248 rfl (lv_at hl 0 rfl) ?_
          refine lv_iload hx hb dX2_digest_249 (lv_at hl 2 rfl) ?_
          refine vp_callSi (va_Run.run (va_runV (As := [.int (nI n9)]) (rest := [.int 10, .ref qb, .ref qb]) ⟨hx, hb, hml, hown, hts⟩ (c_X2_soonestLongest l D cs M 0 hT n9 hn9) (cwV 1 hts gX2_digest_X2_soonestLongest rfl rfl rfl (by decide +kernel) ⟨Nat.le_of_ble_eq_true rfl, Nat.le_of_ble_eq_true rfl⟩) (rb_V hK hN hP (va_recv hK hP (ci := 3) (q0 := 0) rfl rfl)) rfl rfl hl.1 rfl (lv_room (Nat.le_of_ble_eq_true rfl)) dX2_digest_251 ⟨Nat.le_trans (m := 11) (by omega) (Nat.le_of_ble_eq_true rfl), Nat.le_trans (m := 118) (by omega) (Nat.le_of_ble_eq_true rfl)⟩)) (fun r_13 hr_13 => ?_)
          rw [hr_13]
          refine va_iast hx hb hK hW hDW hS 9 0 rfl rfl (by unfold vp_in; decide) dX2_digest_254 (fun H locs hW hDW hS => ?_)
          have hW : va_P D vwCl (modW cs M 0 σ ++ [(qb, .inl (cs.1, 11, .inl (upd g10 10 (longInS σ n9))))]) H := hW
          have hDW : va_D (mdA M s.heap) (modW cs M 0 σ ++ [(qb, .inl (cs.1, 11, .inl (upd g10 10 (longInS σ n9))))]) := hDW
          obtain ⟨g11, hW, hDW, hg11⟩ : ∃ g11 : Nat → Int32, va_P D vwCl (modW cs M 0 σ ++ [(qb, .inl (cs.1, 11, .inl g11))]) H ∧ va_D (mdA M s.heap) (modW cs M 0 σ ++ [(qb, .inl (cs.1, 11, .inl g11))]) ∧ g11 = upd g10 10 (longInS σ n9) := ⟨_, hW, hDW, rfl⟩
          have hP : va_P D vwCl (modW cs M 0 σ) H := hW.sub (ws' := modW cs M 0 σ) [0, 1, 2, 3, 4, 5, 6, 7, 8] rfl
          refine lv_astore (lv' := [(5, .ref qb), (0, .ref M.1), (2, .long (digL σ (mixS (mixS (mixS (mixS (mixS (mixS (mixS (mixS 1049 (nI (sK σ))) (sHr σ)) (sSz σ)) (sRv σ)) (certsS σ)) (honOS σ)) (longS σ)) (richS σ)) n9)), (4, .int (nI n9))]) hx hb dX2_digest_255 hl (by decide) rfl (fun ls hl => ?_)
          refine lv_aload hx hb dX2_digest_257 (lv_at hl 0 rfl) ?_
          refine lv_astore (lv' := [(6, .ref qb), (5, .ref qb), (0, .ref M.1), (2, .long (digL σ (mixS (mixS (mixS (mixS (mixS (mixS (mixS (mixS 1049 (nI (sK σ))) (sHr σ)) (sSz σ)) (sRv σ)) (certsS σ)) (honOS σ)) (longS σ)) (richS σ)) n9)), (4, .int (nI n9))]) hx hb dX2_digest_259 hl (by decide) rfl (fun ls hl => ?_)
          refine lv_aload hx hb dX2_digest_261 (lv_at hl 0 rfl) ?_
          refine va_alen (v := nI 11) hx hb hK hW 9 0 rfl rfl rfl dX2_digest_263 ?_
          refine lv_istore (lv' := [(7, .int (nI 11)), (6, .ref qb), (5, .ref qb), (0, .ref M.1), (2, .long (digL σ (mixS (mixS (mixS (mixS (mixS (mixS (mixS (mixS 1049 (nI (sK σ))) (sHr σ)) (sSz σ)) (sRv σ)) (certsS σ)) (honOS σ)) (longS σ)) (richS σ)) n9)), (4, .int (nI n9))]) hx hb dX2_digest_264 hl (by decide) rfl (fun ls hl => ?_)
          refine lv_iconst (v := 0) hx hb dX2_digest_266 (by decide) ?_
          refine lv_istore (lv' := [(8, .int 0), (7, .int (nI 11)), (6, .ref qb), (5, .ref qb), (0, .ref M.1), (2, .long (digL σ (mixS (mixS (mixS (mixS (mixS (mixS (mixS (mixS 1049 (nI (sK σ))) (sHr σ)) (sSz σ)) (sRv σ)) (certsS σ)) (honOS σ)) (longS σ)) (richS σ)) n9)), (4, .int (nI n9))]) hx hb dX2_digest_267 hl (by decide) rfl (fun ls hl => ?_)
          refine lv_for (11) (fun ls => F0 m 269 ls []) (fun j9 => [(0, .ref M.1), (2, .long (dgF g11 (digL σ (mixS (mixS (mixS (mixS (mixS (mixS (mixS (mixS 1049 (nI (sK σ))) (sHr σ)) (sSz σ)) (sRv σ)) (certsS σ)) (honOS σ)) (longS σ)) (richS σ)) n9) j9)), (4, .int (nI n9)), (6, .ref qb), (7, .int (nI 11)), (8, .int (nI j9))]) (fun _ => True) (show lv_has ls 10 [(0, .ref M.1), (2, .long (dgF g11 (digL σ (mixS (mixS (mixS (mixS (mixS (mixS (mixS (mixS 1049 (nI (sK σ))) (sHr σ)) (sSz σ)) (sRv σ)) (certsS σ)) (honOS σ)) (longS σ)) (richS σ)) n9) 0)), (4, .int (nI n9)), (6, .ref qb), (7, .int (nI 11)), (8, .int (nI 0))] from lv_sub hl [4, 5, 6, 2, 1, 0] rfl) (trivial) (fun j9 ls hj9 hz8 hl K8 => ?_) (fun ls hz8 hl => ?_)
          · have hl : lv_has ls 10 [(0, .ref M.1), (2, .long (dgF g11 (digL σ (mixS (mixS (mixS (mixS (mixS (mixS (mixS (mixS 1049 (nI (sK σ))) (sHr σ)) (sSz σ)) (sRv σ)) (certsS σ)) (honOS σ)) (longS σ)) (richS σ)) n9) j9)), (4, .int (nI n9)), (6, .ref qb), (7, .int (nI 11)), (8, .int (nI j9))] := hl
            refine lv_iload hx hb dX2_digest_269 (lv_at hl 5 rfl) ?_
            refine lv_iload hx hb dX2_digest_271 (lv_at hl 4 rfl) ?_
            refine lv_icmp_ge (tgt := 299) hx hb dX2_digest_273 (by decide) (fun c9 => absurd c9 (nI_ge hj9 (by decide))) (fun _ => ?_)
            refine lv_aload hx hb dX2_digest_276 (lv_at hl 3 rfl) ?_
            refine lv_iload hx hb dX2_digest_278 (lv_at hl 5 rfl) ?_
            refine va_iald hx hb hK hW 9 0 rfl rfl (vp_in_nI hj9 (by decide)) dX2_digest_280 ?_
            rw [show (nI j9).toNatClampNeg = j9 from nI_clamp (by omega)]
            refine lv_istore (lv' := [(9, .int (g11 j9)), (0, .ref M.1), (2, .long (dgF g11 (digL σ (mixS (mixS (mixS (mixS (mixS (mixS (mixS (mixS 1049 (nI (sK σ))) (sHr σ)) (sSz σ)) (sRv σ)) (certsS σ)) (honOS σ)) (longS σ)) (richS σ)) n9) j9)), (4, .int (nI n9)), (6, .ref qb), (7, .int (nI 11)), (8, .int (nI j9))]) hx hb dX2_digest_281 hl (by decide) rfl (fun ls hl => ?_)
            refine lv_lload_n hx hb dX2_digest_283 rfl (lv_at hl 2 rfl) ?_
            refine lv_ldc2 (v := 31) hx hb hown (hts (.constantLong RX2 146 (31)) (List.mem_of_getElem? (i := 8) (by decide +kernel))) dX2_digest_284 ?_
            refine lv_lmul hx hb dX2_digest_287 ?_
            refine lv_iload hx hb dX2_digest_288 (lv_at hl 0 rfl) ?_
            refine lv_i2l (v := (g11 j9).toInt64) hx hb dX2_digest_290 rfl ?_
            refine lv_ladd hx hb dX2_digest_291 ?_
            refine lv_lstore_n (lv' := [(2, .long (((dgF g11 (digL σ (mixS (mixS (mixS (mixS (mixS (mixS (mixS (mixS 1049 (nI (sK σ))) (sHr σ)) (sSz σ)) (sRv σ)) (certsS σ)) (honOS σ)) (longS σ)) (richS σ)) n9) j9) * 31) + ((g11 j9).toInt64))), (9, .int (g11 j9)), (0, .ref M.1), (4, .int (nI n9)), (6, .ref qb), (7, .int (nI 11)), (8, .int (nI j9))]) hx hb dX2_digest_292 rfl hl (by decide) rfl (fun ls hl => ?_)
            refine lv_iinc (v := nI (j9 + 1)) (lv' := [(8, .int (nI (j9 + 1))), (2, .long (((dgF g11 (digL σ (mixS (mixS (mixS (mixS (mixS (mixS (mixS (mixS 1049 (nI (sK σ))) (sHr σ)) (sSz σ)) (sRv σ)) (certsS σ)) (honOS σ)) (longS σ)) (richS σ)) n9) j9) * 31) + ((g11 j9).toInt64))), (9, .int (g11 j9)), (0, .ref M.1), (4, .int (nI n9)), (6, .ref qb), (7, .int (nI 11))]) hx hb dX2_digest_293 hl (k := 6) rfl (nI_add _ 1) (by decide) rfl (fun ls hl => ?_)
            refine lv_goto (tgt := 269) hx hb dX2_digest_296 (by decide) ?_
            refine K8 ls (trivial) ?_
            show lv_has ls 10 [(0, .ref M.1), (2, .long (dgF g11 (digL σ (mixS (mixS (mixS (mixS (mixS (mixS (mixS (mixS 1049 (nI (sK σ))) (sHr σ)) (sSz σ)) (sRv σ)) (certsS σ)) (honOS σ)) (longS σ)) (richS σ)) n9) (j9 + 1))), (4, .int (nI n9)), (6, .ref qb), (7, .int (nI 11)), (8, .int (nI (j9 + 1)))]
            rw [show dgF g11 (digL σ (mixS (mixS (mixS (mixS (mixS (mixS (mixS (mixS 1049 (nI (sK σ))) (sHr σ)) (sSz σ)) (sRv σ)) (certsS σ)) (honOS σ)) (longS σ)) (richS σ)) n9) (j9 + 1) = ((dgF g11 (digL σ (mixS (mixS (mixS (mixS (mixS (mixS (mixS (mixS 1049 (nI (sK σ))) (sHr σ)) (sSz σ)) (sRv σ)) (certsS σ)) (honOS σ)) (longS σ)) (richS σ)) n9) j9) * 31) + ((g11 j9).toInt64) from rfl]
            exact lv_sub hl [3, 1, 4, 5, 6, 0] rfl
          · have hl : lv_has ls 10 [(0, .ref M.1), (2, .long (dgF g11 (digL σ (mixS (mixS (mixS (mixS (mixS (mixS (mixS (mixS 1049 (nI (sK σ))) (sHr σ)) (sSz σ)) (sRv σ)) (certsS σ)) (honOS σ)) (longS σ)) (richS σ)) n9) 11)), (4, .int (nI n9)), (6, .ref qb), (7, .int (nI 11)), (8, .int (nI 11))] := hl
            refine lv_iload hx hb dX2_digest_269 (lv_at hl 5 rfl) ?_
            refine lv_iload hx hb dX2_digest_271 (lv_at hl 4 rfl) ?_
            refine lv_icmp_ge (tgt := 299) hx hb dX2_digest_273 (by decide) (fun _ => ?_) (fun c9 => absurd (nI_le (Nat.le_refl 11) (by decide)) c9)
            refine lv_iinc (v := nI (n9 + 1)) (lv' := [(4, .int (nI (n9 + 1))), (0, .ref M.1), (2, .long (dgF g11 (digL σ (mixS (mixS (mixS (mixS (mixS (mixS (mixS (mixS 1049 (nI (sK σ))) (sHr σ)) (sSz σ)) (sRv σ)) (certsS σ)) (honOS σ)) (longS σ)) (richS σ)) n9) 11)), (6, .ref qb), (7, .int (nI 11)), (8, .int (nI 11))]) hx hb dX2_digest_299 hl (k := 2) rfl (nI_add _ 1) (by decide) rfl (fun ls hl => ?_)
            refine lv_goto (tgt := 118) hx hb dX2_digest_302 (by decide) ?_
            have v0 : g11 0 = sLa σ n9 := by
              rw [hg11, pk_un (show (0 : Nat) ≠ 10 by decide), hg10, pk_un (show (0 : Nat) ≠ 9 by decide), hg9, pk_un (show (0 : Nat) ≠ 8 by decide), hg8, pk_un (show (0 : Nat) ≠ 7 by decide), hg7, pk_un (show (0 : Nat) ≠ 6 by decide), hg6, pk_un (show (0 : Nat) ≠ 5 by decide), hg5, pk_un (show (0 : Nat) ≠ 4 by decide), hg4, pk_un (show (0 : Nat) ≠ 3 by decide), hg3, pk_un (show (0 : Nat) ≠ 2 by decide), hg2, pk_un (show (0 : Nat) ≠ 1 by decide), hg1, pk_us]
            have v1 : g11 1 = sPu σ n9 := by
              rw [hg11, pk_un (show (1 : Nat) ≠ 10 by decide), hg10, pk_un (show (1 : Nat) ≠ 9 by decide), hg9, pk_un (show (1 : Nat) ≠ 8 by decide), hg8, pk_un (show (1 : Nat) ≠ 7 by decide), hg7, pk_un (show (1 : Nat) ≠ 6 by decide), hg6, pk_un (show (1 : Nat) ≠ 5 by decide), hg5, pk_un (show (1 : Nat) ≠ 4 by decide), hg4, pk_un (show (1 : Nat) ≠ 3 by decide), hg3, pk_un (show (1 : Nat) ≠ 2 by decide), hg2, pk_us]
            have v2 : g11 2 = sWe σ n9 := by
              rw [hg11, pk_un (show (2 : Nat) ≠ 10 by decide), hg10, pk_un (show (2 : Nat) ≠ 9 by decide), hg9, pk_un (show (2 : Nat) ≠ 8 by decide), hg8, pk_un (show (2 : Nat) ≠ 7 by decide), hg7, pk_un (show (2 : Nat) ≠ 6 by decide), hg6, pk_un (show (2 : Nat) ≠ 5 by decide), hg5, pk_un (show (2 : Nat) ≠ 4 by decide), hg4, pk_un (show (2 : Nat) ≠ 3 by decide), hg3, pk_us]
            have v3 : g11 3 = wornH σ n9 := by
              rw [hg11, pk_un (show (3 : Nat) ≠ 10 by decide), hg10, pk_un (show (3 : Nat) ≠ 9 by decide), hg9, pk_un (show (3 : Nat) ≠ 8 by decide), hg8, pk_un (show (3 : Nat) ≠ 7 by decide), hg7, pk_un (show (3 : Nat) ≠ 6 by decide), hg6, pk_un (show (3 : Nat) ≠ 5 by decide), hg5, pk_un (show (3 : Nat) ≠ 4 by decide), hg4, pk_us]
            have v4 : g11 4 = b01 (lentS σ n9) := by
              rw [hg11, pk_un (show (4 : Nat) ≠ 10 by decide), hg10, pk_un (show (4 : Nat) ≠ 9 by decide), hg9, pk_un (show (4 : Nat) ≠ 8 by decide), hg8, pk_un (show (4 : Nat) ≠ 7 by decide), hg7, pk_un (show (4 : Nat) ≠ 6 by decide), hg6, pk_un (show (4 : Nat) ≠ 5 by decide), hg5, pk_us]
            have v5 : g11 5 = b01 (outS σ n9) := by
              rw [hg11, pk_un (show (5 : Nat) ≠ 10 by decide), hg10, pk_un (show (5 : Nat) ≠ 9 by decide), hg9, pk_un (show (5 : Nat) ≠ 8 by decide), hg8, pk_un (show (5 : Nat) ≠ 7 by decide), hg7, pk_un (show (5 : Nat) ≠ 6 by decide), hg6, pk_us]
            have v6 : g11 6 = shadS σ n9 (dayOf σ) := by
              rw [hg11, pk_un (show (6 : Nat) ≠ 10 by decide), hg10, pk_un (show (6 : Nat) ≠ 9 by decide), hg9, pk_un (show (6 : Nat) ≠ 8 by decide), hg8, pk_un (show (6 : Nat) ≠ 7 by decide), hg7, pk_us]
            have v7 : g11 7 = sCe σ n9 := by
              rw [hg11, pk_un (show (7 : Nat) ≠ 10 by decide), hg10, pk_un (show (7 : Nat) ≠ 9 by decide), hg9, pk_un (show (7 : Nat) ≠ 8 by decide), hg8, pk_us]
            have v8 : g11 8 = gainS σ n9 := by
              rw [hg11, pk_un (show (8 : Nat) ≠ 10 by decide), hg10, pk_un (show (8 : Nat) ≠ 9 by decide), hg9, pk_us]
            have v9 : g11 9 = bestS σ n9 := by
              rw [hg11, pk_un (show (9 : Nat) ≠ 10 by decide), hg10, pk_us]
            have v10 : g11 10 = longInS σ n9 := by
              rw [hg11, pk_us]
            have hd9 : dgF g11 (digL σ (mixS (mixS (mixS (mixS (mixS (mixS (mixS (mixS 1049 (nI (sK σ))) (sHr σ)) (sSz σ)) (sRv σ)) (certsS σ)) (honOS σ)) (longS σ)) (richS σ)) n9) 11 = digL σ (mixS (mixS (mixS (mixS (mixS (mixS (mixS (mixS 1049 (nI (sK σ))) (sHr σ)) (sSz σ)) (sRv σ)) (certsS σ)) (honOS σ)) (longS σ)) (richS σ)) (n9 + 1) := by
              show mixS (mixS (mixS (mixS (mixS (mixS (mixS (mixS (mixS (mixS (mixS (digL σ (mixS (mixS (mixS (mixS (mixS (mixS (mixS (mixS 1049 (nI (sK σ))) (sHr σ)) (sSz σ)) (sRv σ)) (certsS σ)) (honOS σ)) (longS σ)) (richS σ)) n9) (g11 0)) (g11 1)) (g11 2)) (g11 3)) (g11 4)) (g11 5)) (g11 6)) (g11 7)) (g11 8)) (g11 9)) (g11 10) = digM σ (digL σ (mixS (mixS (mixS (mixS (mixS (mixS (mixS (mixS 1049 (nI (sK σ))) (sHr σ)) (sSz σ)) (sRv σ)) (certsS σ)) (honOS σ)) (longS σ)) (richS σ)) n9) n9
              rw [v0, v1, v2, v3, v4, v5, v6, v7, v8, v9, v10, digM_def]
            refine W.widen (k := 0 + 1 + (n9 + 1) * 1) (n := 0 + 8 + (n9 + 1) * 11) (by omega) (by omega) ?_
            refine K9 ls _ _ hP hS ?_
            show lv_has ls 10 [(0, .ref M.1), (2, .long (digL σ (mixS (mixS (mixS (mixS (mixS (mixS (mixS (mixS 1049 (nI (sK σ))) (sHr σ)) (sSz σ)) (sRv σ)) (certsS σ)) (honOS σ)) (longS σ)) (richS σ)) (n9 + 1))), (4, .int (nI (n9 + 1)))]
            rw [← hd9]
            exact lv_sub hl [1, 2, 0] rfl
        · refine lv_if_eq (tgt := 202) hx hb dX2_digest_195 (by decide) (fun c_14 => ?_) (fun c_14 => ?_)
          · refine lv_iconst (v := 0) hx hb dX2_digest_202 (by decide) ?_
            rw [c_14] at K_9
            exact K_9
          · refine lv_iconst (v := 1) hx hb dX2_digest_198 (by decide) ?_
            refine lv_goto (tgt := 203) hx hb dX2_digest_199 (by decide) ?_
            rw [b01_t (b01_n.mp c_14)] at K_9
            exact K_9
      · refine lv_if_eq (tgt := 185) hx hb dX2_digest_178 (by decide) (fun c_15 => ?_) (fun c_15 => ?_)
        · refine lv_iconst (v := 0) hx hb dX2_digest_185 (by decide) ?_
          rw [c_15] at K_7
          exact K_7
        · refine lv_iconst (v := 1) hx hb dX2_digest_181 (by decide) ?_
          refine lv_goto (tgt := 186) hx hb dX2_digest_182 (by decide) ?_
          rw [b01_t (b01_n.mp c_15)] at K_7
          exact K_7
    · have hl : lv_has ls 10 [(0, .ref M.1), (2, .long (digL σ (mixS (mixS (mixS (mixS (mixS (mixS (mixS (mixS 1049 (nI (sK σ))) (sHr σ)) (sSz σ)) (sRv σ)) (certsS σ)) (honOS σ)) (longS σ)) (richS σ)) (sK σ))), (4, .int (nI (sK σ)))] := hl
      refine lv_iload hx hb dX2_digest_118 (lv_at hl 2 rfl) ?_
      refine lv_aload_n hx hb dX2_digest_120 rfl (lv_at hl 0 rfl) ?_
      refine va_get (D := D) (ci := 3) (v := .int (nI (sK σ))) (C := RX2) (T := TX2) (N := 13) hx hb hts in_X2_digest_X2 hown hK hP 0 rfl rfl 1 (by decide) (hts (.fieldLink RX2 38 "ShadowSocietyModel" "members" "I") (List.mem_of_getElem? (i := 3) (by decide +kernel))) (fun _ h9 => h9) rfl dX2_digest_121 ?_
      refine lv_icmp_ge (tgt := 305) hx hb dX2_digest_124 (by decide) (fun _ => ?_) (fun c9 => absurd (nI_le (Nat.le_refl _) (by omega)) c9)
      refine lv_lload_n hx hb dX2_digest_305 rfl (lv_at hl 1 rfl) ?_
      refine W.widen (k := 11) (n := 118) (by omega) (by omega) ?_
      exact W.lret (v := digL σ (mixS (mixS (mixS (mixS (mixS (mixS (mixS (mixS 1049 (nI (sK σ))) (sHr σ)) (sSz σ)) (sRv σ)) (certsS σ)) (honOS σ)) (longS σ)) (richS σ)) (sK σ)) hx hb hr (fun t ht hW => ⟨⟨_, (0, σ), rfl, ⟨rfl, rfl⟩, by show va_P D vwCl (modW cs M (nI 0) σ) t.heap; rw [ht]; exact hP⟩, hS.F ht⟩) hS.2.2 dX2_digest_306
