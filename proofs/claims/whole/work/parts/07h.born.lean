/-! THE REFERENCE'S CONSTRUCTOR (laid by wip/whole/gen/minit.py) -/
theorem RAi_eq {s : State} {a b : ClassId} (h1 : va_RA s a .int) (h2 : va_RA s b .int) : a = b := Option.some.inj (h1.symm.trans h2)
def ps0 : PS := (0, (0, 0, 0), fun _ => 0, fun _ => 0, fun _ => 0, fun _ => 0, fun _ => 0, fun _ => 0, fun _ => 0, fun _ => 0)
theorem in_X2_init_X2 : ∀ w ∈ wsX20, w ∈ wsX2_init := by decide +kernel
set_option maxHeartbeats 4000000 in
set_option maxRecDepth 100000 in
/-- ShadowSocietyModel() -/
theorem c_X2_init (l : Launch) (D : va_G) (cs : Cs) (H0 : Heap) (x : Nat) : Met l yX2_init wsX2_init ({ frames := 1, cells := 8, slots := 80, locals := 12 }) (va_Pc [.ref x] (LBp D cs [(x, .inr (3, [.int 0, .int 0, .int 0, .int 0, .int 0, .null, .null, .null, .null, .null, .null, .null, .null]))] H0 E0)) (va_Qv (fun _ : Nat → Nat => True) (fun (f : Nat → Nat) t => va_P D vwCl (modW cs (x, f) 0 ps0) t.heap ∧ va_D (va_A [(x, .inr (3, [.int 0, .int 0, .int 0, .int 0, .int 0, .null, .null, .null, .null, .null, .null, .null, .null]))] H0.size) (modW cs (x, f) 0 ps0)) (va_A [(x, .inr (3, [.int 0, .int 0, .int 0, .int 0, .int 0, .null, .null, .null, .null, .null, .null, .null, .null]))] H0.size)) 8 80 (va_A [(x, .inr (3, [.int 0, .int 0, .int 0, .int 0, .int 0, .null, .null, .null, .null, .null, .null, .null, .null]))] H0.size) := by
  refine Met.ofW (cc := cX2_init) (maxL := 1) (ret := none) (by decide) rfl ?_
  intro p e s m args below meth c s₁ B0 hml hv
  obtain ⟨rfl, ⟨⟨hH, hP, hD0⟩, hK, hN⟩, hE⟩ := hv
  subst hH
  have hx := B0.exec
  have hb := B0.bytes
  have hr := B0.returns
  have hts := atoms_spec (ws := wsX2_init) B0.pre
  have hown : s.vm.findClass RX2 = some m.cls := findClass_of_methodNamed B0.named
  have hlocks := B0.notSynchronized
  have hin : meth.name = "<init>" := (name_of_methodNamed B0.named B0.method).1
  have hD := hD0.self (sz := s.heap.size)
  generalize hAe : va_A [(x, .inr (3, [.int 0, .int 0, .int 0, .int 0, .int 0, .null, .null, .null, .null, .null, .null, .null, .null]))] s.heap.size = A at hD ⊢
  have hA : ∀ q : Nat, s.heap.size ≤ q → A q := fun q h => by rw [← hAe]; exact Or.inr h
  have hS : va_S A s.heap s.heap [] := va_S.rf
  have hl := lv_entry ([.ref x]) (n := 1) (Nat.le_of_ble_eq_true rfl)
  rw [lg_entry_eq]
  generalize (lg_sl ([.ref x]) ++ List.replicate (1 - (lg_sl ([.ref x])).length) Slot.unset).toArray = ls at hl ⊢
  have hl : lv_has ls 1 [(0, .ref x)] := hl
  refine lv_aload_n hx hb dX2_init_0 rfl (lv_at hl 0 rfl) ?_
  refine W.objInit hx hb hown (hts (.methodLink RX2 1 objectInit) (List.mem_of_getElem? (i := 1) (by decide +kernel))) (hts (.instanceMethod objectInit) (List.mem_of_getElem? (i := 2) (by decide +kernel))) (hts (.code objectInit ⟨#[0xb1]⟩ 1 none) (List.mem_of_getElem? (i := 3) (by decide +kernel))) rfl (by rw [hml]; exact hl.1) rfl dX2_init_1 (Nat.le_of_ble_eq_true rfl) (Nat.le_of_ble_eq_true rfl) ?_
  refine W.eq (g2 := F0 m 4 ls []) rfl ?_
  refine lv_aload_n hx hb dX2_init_4 rfl (lv_at hl 0 rfl) ?_
  refine lv_bipush (v := 10) hx hb dX2_init_5 (by decide) ?_
  refine va_newa (atype := .int) (ty := .int) (N' := 10) (a0 := (10, .inl (fun _ => 0))) hx hb (hts (.arrayClass .int) (List.mem_of_getElem? (i := 4) (by decide +kernel))) rfl hK hP hD hS hA (fun cA => rfl) (by decide) (by decide) (by show 10 * 4 ≤ 536870912; decide) (Nat.le_of_ble_eq_true rfl) (Nat.le_of_ble_eq_true rfl) dX2_init_7 (fun q0 cA H hK hP hD hS => ?_)
  obtain rfl := RAi_eq (hK.2 3 _ rfl).2 (hK.2 0 _ rfl).2
  have hK := hK.sub (tys' := tyz cs) [0, 1, 2] rfl
  have hP : va_P D vwCl [(x, .inr (3, [.int 0, .int 0, .int 0, .int 0, .int 0, .null, .null, .null, .null, .null, .null, .null, .null])), (q0, .inl (cs.1, 10, .inl (fun _ => 0)))] H := hP
  have hD : va_D A [(x, .inr (3, [.int 0, .int 0, .int 0, .int 0, .int 0, .null, .null, .null, .null, .null, .null, .null, .null])), (q0, .inl (cs.1, 10, .inl (fun _ => 0)))] := hD
  refine va_putF (D := D) (ci := 3) (v := .ref q0) (ty := (.array .int)) (C := RX2) (T := TX2) (N := 13) hx hb hts in_X2_init_X2 tyX2 tyX2_ok nmX2 hown hK hP hD hS 0 rfl rfl 5 (by decide) (hts (.fieldLink RX2 9 "ShadowSocietyModel" "height" "[I") (List.mem_of_getElem? (i := 5) (by decide +kernel))) (fun _ h9 => h9) rfl hin rfl (by decide +kernel) rfl rfl (Nat.le_of_ble_eq_true rfl) dX2_init_9 (fun H locs hP hD hS => ?_)
  have hP : va_P D vwCl [(x, .inr (3, [.int 0, .int 0, .int 0, .int 0, .int 0, .ref q0, .null, .null, .null, .null, .null, .null, .null])), (q0, .inl (cs.1, 10, .inl (fun _ => 0)))] H := hP
  have hD : va_D A [(x, .inr (3, [.int 0, .int 0, .int 0, .int 0, .int 0, .ref q0, .null, .null, .null, .null, .null, .null, .null])), (q0, .inl (cs.1, 10, .inl (fun _ => 0)))] := hD
  refine lv_aload_n hx hb dX2_init_12 rfl (lv_at hl 0 rfl) ?_
  refine lv_bipush (v := 10) hx hb dX2_init_13 (by decide) ?_
  refine va_newa (atype := .int) (ty := .int) (N' := 10) (a0 := (10, .inl (fun _ => 0))) hx hb (hts (.arrayClass .int) (List.mem_of_getElem? (i := 4) (by decide +kernel))) rfl hK hP hD hS hA (fun cA => rfl) (by decide) (by decide) (by show 10 * 4 ≤ 536870912; decide) (Nat.le_of_ble_eq_true rfl) (Nat.le_of_ble_eq_true rfl) dX2_init_15 (fun q1 cA H hK hP hD hS => ?_)
  obtain rfl := RAi_eq (hK.2 3 _ rfl).2 (hK.2 0 _ rfl).2
  have hK := hK.sub (tys' := tyz cs) [0, 1, 2] rfl
  have hP : va_P D vwCl [(x, .inr (3, [.int 0, .int 0, .int 0, .int 0, .int 0, .ref q0, .null, .null, .null, .null, .null, .null, .null])), (q0, .inl (cs.1, 10, .inl (fun _ => 0))), (q1, .inl (cs.1, 10, .inl (fun _ => 0)))] H := hP
  have hD : va_D A [(x, .inr (3, [.int 0, .int 0, .int 0, .int 0, .int 0, .ref q0, .null, .null, .null, .null, .null, .null, .null])), (q0, .inl (cs.1, 10, .inl (fun _ => 0))), (q1, .inl (cs.1, 10, .inl (fun _ => 0)))] := hD
  refine va_putF (D := D) (ci := 3) (v := .ref q1) (ty := (.array .int)) (C := RX2) (T := TX2) (N := 13) hx hb hts in_X2_init_X2 tyX2 tyX2_ok nmX2 hown hK hP hD hS 0 rfl rfl 6 (by decide) (hts (.fieldLink RX2 13 "ShadowSocietyModel" "hat" "[I") (List.mem_of_getElem? (i := 6) (by decide +kernel))) (fun _ h9 => h9) rfl hin rfl (by decide +kernel) rfl rfl (Nat.le_of_ble_eq_true rfl) dX2_init_17 (fun H locs hP hD hS => ?_)
  have hP : va_P D vwCl [(x, .inr (3, [.int 0, .int 0, .int 0, .int 0, .int 0, .ref q0, .ref q1, .null, .null, .null, .null, .null, .null])), (q0, .inl (cs.1, 10, .inl (fun _ => 0))), (q1, .inl (cs.1, 10, .inl (fun _ => 0)))] H := hP
  have hD : va_D A [(x, .inr (3, [.int 0, .int 0, .int 0, .int 0, .int 0, .ref q0, .ref q1, .null, .null, .null, .null, .null, .null])), (q0, .inl (cs.1, 10, .inl (fun _ => 0))), (q1, .inl (cs.1, 10, .inl (fun _ => 0)))] := hD
  refine lv_aload_n hx hb dX2_init_20 rfl (lv_at hl 0 rfl) ?_
  refine lv_bipush (v := 10) hx hb dX2_init_21 (by decide) ?_
  refine va_newa (atype := .int) (ty := .int) (N' := 10) (a0 := (10, .inl (fun _ => 0))) hx hb (hts (.arrayClass .int) (List.mem_of_getElem? (i := 4) (by decide +kernel))) rfl hK hP hD hS hA (fun cA => rfl) (by decide) (by decide) (by show 10 * 4 ≤ 536870912; decide) (Nat.le_of_ble_eq_true rfl) (Nat.le_of_ble_eq_true rfl) dX2_init_23 (fun q2 cA H hK hP hD hS => ?_)
  obtain rfl := RAi_eq (hK.2 3 _ rfl).2 (hK.2 0 _ rfl).2
  have hK := hK.sub (tys' := tyz cs) [0, 1, 2] rfl
  have hP : va_P D vwCl [(x, .inr (3, [.int 0, .int 0, .int 0, .int 0, .int 0, .ref q0, .ref q1, .null, .null, .null, .null, .null, .null])), (q0, .inl (cs.1, 10, .inl (fun _ => 0))), (q1, .inl (cs.1, 10, .inl (fun _ => 0))), (q2, .inl (cs.1, 10, .inl (fun _ => 0)))] H := hP
  have hD : va_D A [(x, .inr (3, [.int 0, .int 0, .int 0, .int 0, .int 0, .ref q0, .ref q1, .null, .null, .null, .null, .null, .null])), (q0, .inl (cs.1, 10, .inl (fun _ => 0))), (q1, .inl (cs.1, 10, .inl (fun _ => 0))), (q2, .inl (cs.1, 10, .inl (fun _ => 0)))] := hD
  refine va_putF (D := D) (ci := 3) (v := .ref q2) (ty := (.array .int)) (C := RX2) (T := TX2) (N := 13) hx hb hts in_X2_init_X2 tyX2 tyX2_ok nmX2 hown hK hP hD hS 0 rfl rfl 7 (by decide) (hts (.fieldLink RX2 16 "ShadowSocietyModel" "purse" "[I") (List.mem_of_getElem? (i := 7) (by decide +kernel))) (fun _ h9 => h9) rfl hin rfl (by decide +kernel) rfl rfl (Nat.le_of_ble_eq_true rfl) dX2_init_25 (fun H locs hP hD hS => ?_)
  have hP : va_P D vwCl [(x, .inr (3, [.int 0, .int 0, .int 0, .int 0, .int 0, .ref q0, .ref q1, .ref q2, .null, .null, .null, .null, .null])), (q0, .inl (cs.1, 10, .inl (fun _ => 0))), (q1, .inl (cs.1, 10, .inl (fun _ => 0))), (q2, .inl (cs.1, 10, .inl (fun _ => 0)))] H := hP
  have hD : va_D A [(x, .inr (3, [.int 0, .int 0, .int 0, .int 0, .int 0, .ref q0, .ref q1, .ref q2, .null, .null, .null, .null, .null])), (q0, .inl (cs.1, 10, .inl (fun _ => 0))), (q1, .inl (cs.1, 10, .inl (fun _ => 0))), (q2, .inl (cs.1, 10, .inl (fun _ => 0)))] := hD
  refine lv_aload_n hx hb dX2_init_28 rfl (lv_at hl 0 rfl) ?_
  refine lv_bipush (v := 10) hx hb dX2_init_29 (by decide) ?_
  refine va_newa (atype := .int) (ty := .int) (N' := 10) (a0 := (10, .inl (fun _ => 0))) hx hb (hts (.arrayClass .int) (List.mem_of_getElem? (i := 4) (by decide +kernel))) rfl hK hP hD hS hA (fun cA => rfl) (by decide) (by decide) (by show 10 * 4 ≤ 536870912; decide) (Nat.le_of_ble_eq_true rfl) (Nat.le_of_ble_eq_true rfl) dX2_init_31 (fun q3 cA H hK hP hD hS => ?_)
  obtain rfl := RAi_eq (hK.2 3 _ rfl).2 (hK.2 0 _ rfl).2
  have hK := hK.sub (tys' := tyz cs) [0, 1, 2] rfl
  have hP : va_P D vwCl [(x, .inr (3, [.int 0, .int 0, .int 0, .int 0, .int 0, .ref q0, .ref q1, .ref q2, .null, .null, .null, .null, .null])), (q0, .inl (cs.1, 10, .inl (fun _ => 0))), (q1, .inl (cs.1, 10, .inl (fun _ => 0))), (q2, .inl (cs.1, 10, .inl (fun _ => 0))), (q3, .inl (cs.1, 10, .inl (fun _ => 0)))] H := hP
  have hD : va_D A [(x, .inr (3, [.int 0, .int 0, .int 0, .int 0, .int 0, .ref q0, .ref q1, .ref q2, .null, .null, .null, .null, .null])), (q0, .inl (cs.1, 10, .inl (fun _ => 0))), (q1, .inl (cs.1, 10, .inl (fun _ => 0))), (q2, .inl (cs.1, 10, .inl (fun _ => 0))), (q3, .inl (cs.1, 10, .inl (fun _ => 0)))] := hD
  refine va_putF (D := D) (ci := 3) (v := .ref q3) (ty := (.array .int)) (C := RX2) (T := TX2) (N := 13) hx hb hts in_X2_init_X2 tyX2 tyX2_ok nmX2 hown hK hP hD hS 0 rfl rfl 8 (by decide) (hts (.fieldLink RX2 19 "ShadowSocietyModel" "lamp" "[I") (List.mem_of_getElem? (i := 8) (by decide +kernel))) (fun _ h9 => h9) rfl hin rfl (by decide +kernel) rfl rfl (Nat.le_of_ble_eq_true rfl) dX2_init_33 (fun H locs hP hD hS => ?_)
  have hP : va_P D vwCl [(x, .inr (3, [.int 0, .int 0, .int 0, .int 0, .int 0, .ref q0, .ref q1, .ref q2, .ref q3, .null, .null, .null, .null])), (q0, .inl (cs.1, 10, .inl (fun _ => 0))), (q1, .inl (cs.1, 10, .inl (fun _ => 0))), (q2, .inl (cs.1, 10, .inl (fun _ => 0))), (q3, .inl (cs.1, 10, .inl (fun _ => 0)))] H := hP
  have hD : va_D A [(x, .inr (3, [.int 0, .int 0, .int 0, .int 0, .int 0, .ref q0, .ref q1, .ref q2, .ref q3, .null, .null, .null, .null])), (q0, .inl (cs.1, 10, .inl (fun _ => 0))), (q1, .inl (cs.1, 10, .inl (fun _ => 0))), (q2, .inl (cs.1, 10, .inl (fun _ => 0))), (q3, .inl (cs.1, 10, .inl (fun _ => 0)))] := hD
  refine lv_aload_n hx hb dX2_init_36 rfl (lv_at hl 0 rfl) ?_
  refine lv_bipush (v := 10) hx hb dX2_init_37 (by decide) ?_
  refine va_newa (atype := .int) (ty := .int) (N' := 10) (a0 := (10, .inl (fun _ => 0))) hx hb (hts (.arrayClass .int) (List.mem_of_getElem? (i := 4) (by decide +kernel))) rfl hK hP hD hS hA (fun cA => rfl) (by decide) (by decide) (by show 10 * 4 ≤ 536870912; decide) (Nat.le_of_ble_eq_true rfl) (Nat.le_of_ble_eq_true rfl) dX2_init_39 (fun q4 cA H hK hP hD hS => ?_)
  obtain rfl := RAi_eq (hK.2 3 _ rfl).2 (hK.2 0 _ rfl).2
  have hK := hK.sub (tys' := tyz cs) [0, 1, 2] rfl
  have hP : va_P D vwCl [(x, .inr (3, [.int 0, .int 0, .int 0, .int 0, .int 0, .ref q0, .ref q1, .ref q2, .ref q3, .null, .null, .null, .null])), (q0, .inl (cs.1, 10, .inl (fun _ => 0))), (q1, .inl (cs.1, 10, .inl (fun _ => 0))), (q2, .inl (cs.1, 10, .inl (fun _ => 0))), (q3, .inl (cs.1, 10, .inl (fun _ => 0))), (q4, .inl (cs.1, 10, .inl (fun _ => 0)))] H := hP
  have hD : va_D A [(x, .inr (3, [.int 0, .int 0, .int 0, .int 0, .int 0, .ref q0, .ref q1, .ref q2, .ref q3, .null, .null, .null, .null])), (q0, .inl (cs.1, 10, .inl (fun _ => 0))), (q1, .inl (cs.1, 10, .inl (fun _ => 0))), (q2, .inl (cs.1, 10, .inl (fun _ => 0))), (q3, .inl (cs.1, 10, .inl (fun _ => 0))), (q4, .inl (cs.1, 10, .inl (fun _ => 0)))] := hD
  refine va_putF (D := D) (ci := 3) (v := .ref q4) (ty := (.array .int)) (C := RX2) (T := TX2) (N := 13) hx hb hts in_X2_init_X2 tyX2 tyX2_ok nmX2 hown hK hP hD hS 0 rfl rfl 9 (by decide) (hts (.fieldLink RX2 22 "ShadowSocietyModel" "wears" "[I") (List.mem_of_getElem? (i := 9) (by decide +kernel))) (fun _ h9 => h9) rfl hin rfl (by decide +kernel) rfl rfl (Nat.le_of_ble_eq_true rfl) dX2_init_41 (fun H locs hP hD hS => ?_)
  have hP : va_P D vwCl [(x, .inr (3, [.int 0, .int 0, .int 0, .int 0, .int 0, .ref q0, .ref q1, .ref q2, .ref q3, .ref q4, .null, .null, .null])), (q0, .inl (cs.1, 10, .inl (fun _ => 0))), (q1, .inl (cs.1, 10, .inl (fun _ => 0))), (q2, .inl (cs.1, 10, .inl (fun _ => 0))), (q3, .inl (cs.1, 10, .inl (fun _ => 0))), (q4, .inl (cs.1, 10, .inl (fun _ => 0)))] H := hP
  have hD : va_D A [(x, .inr (3, [.int 0, .int 0, .int 0, .int 0, .int 0, .ref q0, .ref q1, .ref q2, .ref q3, .ref q4, .null, .null, .null])), (q0, .inl (cs.1, 10, .inl (fun _ => 0))), (q1, .inl (cs.1, 10, .inl (fun _ => 0))), (q2, .inl (cs.1, 10, .inl (fun _ => 0))), (q3, .inl (cs.1, 10, .inl (fun _ => 0))), (q4, .inl (cs.1, 10, .inl (fun _ => 0)))] := hD
  refine lv_aload_n hx hb dX2_init_44 rfl (lv_at hl 0 rfl) ?_
  refine lv_bipush (v := 10) hx hb dX2_init_45 (by decide) ?_
  refine va_newa (atype := .int) (ty := .int) (N' := 10) (a0 := (10, .inl (fun _ => 0))) hx hb (hts (.arrayClass .int) (List.mem_of_getElem? (i := 4) (by decide +kernel))) rfl hK hP hD hS hA (fun cA => rfl) (by decide) (by decide) (by show 10 * 4 ≤ 536870912; decide) (Nat.le_of_ble_eq_true rfl) (Nat.le_of_ble_eq_true rfl) dX2_init_47 (fun q5 cA H hK hP hD hS => ?_)
  obtain rfl := RAi_eq (hK.2 3 _ rfl).2 (hK.2 0 _ rfl).2
  have hK := hK.sub (tys' := tyz cs) [0, 1, 2] rfl
  have hP : va_P D vwCl [(x, .inr (3, [.int 0, .int 0, .int 0, .int 0, .int 0, .ref q0, .ref q1, .ref q2, .ref q3, .ref q4, .null, .null, .null])), (q0, .inl (cs.1, 10, .inl (fun _ => 0))), (q1, .inl (cs.1, 10, .inl (fun _ => 0))), (q2, .inl (cs.1, 10, .inl (fun _ => 0))), (q3, .inl (cs.1, 10, .inl (fun _ => 0))), (q4, .inl (cs.1, 10, .inl (fun _ => 0))), (q5, .inl (cs.1, 10, .inl (fun _ => 0)))] H := hP
  have hD : va_D A [(x, .inr (3, [.int 0, .int 0, .int 0, .int 0, .int 0, .ref q0, .ref q1, .ref q2, .ref q3, .ref q4, .null, .null, .null])), (q0, .inl (cs.1, 10, .inl (fun _ => 0))), (q1, .inl (cs.1, 10, .inl (fun _ => 0))), (q2, .inl (cs.1, 10, .inl (fun _ => 0))), (q3, .inl (cs.1, 10, .inl (fun _ => 0))), (q4, .inl (cs.1, 10, .inl (fun _ => 0))), (q5, .inl (cs.1, 10, .inl (fun _ => 0)))] := hD
  refine va_putF (D := D) (ci := 3) (v := .ref q5) (ty := (.array .int)) (C := RX2) (T := TX2) (N := 13) hx hb hts in_X2_init_X2 tyX2 tyX2_ok nmX2 hown hK hP hD hS 0 rfl rfl 10 (by decide) (hts (.fieldLink RX2 25 "ShadowSocietyModel" "length" "[I") (List.mem_of_getElem? (i := 10) (by decide +kernel))) (fun _ h9 => h9) rfl hin rfl (by decide +kernel) rfl rfl (Nat.le_of_ble_eq_true rfl) dX2_init_49 (fun H locs hP hD hS => ?_)
  have hP : va_P D vwCl [(x, .inr (3, [.int 0, .int 0, .int 0, .int 0, .int 0, .ref q0, .ref q1, .ref q2, .ref q3, .ref q4, .ref q5, .null, .null])), (q0, .inl (cs.1, 10, .inl (fun _ => 0))), (q1, .inl (cs.1, 10, .inl (fun _ => 0))), (q2, .inl (cs.1, 10, .inl (fun _ => 0))), (q3, .inl (cs.1, 10, .inl (fun _ => 0))), (q4, .inl (cs.1, 10, .inl (fun _ => 0))), (q5, .inl (cs.1, 10, .inl (fun _ => 0)))] H := hP
  have hD : va_D A [(x, .inr (3, [.int 0, .int 0, .int 0, .int 0, .int 0, .ref q0, .ref q1, .ref q2, .ref q3, .ref q4, .ref q5, .null, .null])), (q0, .inl (cs.1, 10, .inl (fun _ => 0))), (q1, .inl (cs.1, 10, .inl (fun _ => 0))), (q2, .inl (cs.1, 10, .inl (fun _ => 0))), (q3, .inl (cs.1, 10, .inl (fun _ => 0))), (q4, .inl (cs.1, 10, .inl (fun _ => 0))), (q5, .inl (cs.1, 10, .inl (fun _ => 0)))] := hD
  refine lv_aload_n hx hb dX2_init_52 rfl (lv_at hl 0 rfl) ?_
  refine lv_bipush (v := 10) hx hb dX2_init_53 (by decide) ?_
  refine va_newa (atype := .int) (ty := .int) (N' := 10) (a0 := (10, .inl (fun _ => 0))) hx hb (hts (.arrayClass .int) (List.mem_of_getElem? (i := 4) (by decide +kernel))) rfl hK hP hD hS hA (fun cA => rfl) (by decide) (by decide) (by show 10 * 4 ≤ 536870912; decide) (Nat.le_of_ble_eq_true rfl) (Nat.le_of_ble_eq_true rfl) dX2_init_55 (fun q6 cA H hK hP hD hS => ?_)
  obtain rfl := RAi_eq (hK.2 3 _ rfl).2 (hK.2 0 _ rfl).2
  have hK := hK.sub (tys' := tyz cs) [0, 1, 2] rfl
  have hP : va_P D vwCl [(x, .inr (3, [.int 0, .int 0, .int 0, .int 0, .int 0, .ref q0, .ref q1, .ref q2, .ref q3, .ref q4, .ref q5, .null, .null])), (q0, .inl (cs.1, 10, .inl (fun _ => 0))), (q1, .inl (cs.1, 10, .inl (fun _ => 0))), (q2, .inl (cs.1, 10, .inl (fun _ => 0))), (q3, .inl (cs.1, 10, .inl (fun _ => 0))), (q4, .inl (cs.1, 10, .inl (fun _ => 0))), (q5, .inl (cs.1, 10, .inl (fun _ => 0))), (q6, .inl (cs.1, 10, .inl (fun _ => 0)))] H := hP
  have hD : va_D A [(x, .inr (3, [.int 0, .int 0, .int 0, .int 0, .int 0, .ref q0, .ref q1, .ref q2, .ref q3, .ref q4, .ref q5, .null, .null])), (q0, .inl (cs.1, 10, .inl (fun _ => 0))), (q1, .inl (cs.1, 10, .inl (fun _ => 0))), (q2, .inl (cs.1, 10, .inl (fun _ => 0))), (q3, .inl (cs.1, 10, .inl (fun _ => 0))), (q4, .inl (cs.1, 10, .inl (fun _ => 0))), (q5, .inl (cs.1, 10, .inl (fun _ => 0))), (q6, .inl (cs.1, 10, .inl (fun _ => 0)))] := hD
  refine va_putF (D := D) (ci := 3) (v := .ref q6) (ty := (.array .int)) (C := RX2) (T := TX2) (N := 13) hx hb hts in_X2_init_X2 tyX2 tyX2_ok nmX2 hown hK hP hD hS 0 rfl rfl 11 (by decide) (hts (.fieldLink RX2 28 "ShadowSocietyModel" "at" "[I") (List.mem_of_getElem? (i := 11) (by decide +kernel))) (fun _ h9 => h9) rfl hin rfl (by decide +kernel) rfl rfl (Nat.le_of_ble_eq_true rfl) dX2_init_57 (fun H locs hP hD hS => ?_)
  have hP : va_P D vwCl [(x, .inr (3, [.int 0, .int 0, .int 0, .int 0, .int 0, .ref q0, .ref q1, .ref q2, .ref q3, .ref q4, .ref q5, .ref q6, .null])), (q0, .inl (cs.1, 10, .inl (fun _ => 0))), (q1, .inl (cs.1, 10, .inl (fun _ => 0))), (q2, .inl (cs.1, 10, .inl (fun _ => 0))), (q3, .inl (cs.1, 10, .inl (fun _ => 0))), (q4, .inl (cs.1, 10, .inl (fun _ => 0))), (q5, .inl (cs.1, 10, .inl (fun _ => 0))), (q6, .inl (cs.1, 10, .inl (fun _ => 0)))] H := hP
  have hD : va_D A [(x, .inr (3, [.int 0, .int 0, .int 0, .int 0, .int 0, .ref q0, .ref q1, .ref q2, .ref q3, .ref q4, .ref q5, .ref q6, .null])), (q0, .inl (cs.1, 10, .inl (fun _ => 0))), (q1, .inl (cs.1, 10, .inl (fun _ => 0))), (q2, .inl (cs.1, 10, .inl (fun _ => 0))), (q3, .inl (cs.1, 10, .inl (fun _ => 0))), (q4, .inl (cs.1, 10, .inl (fun _ => 0))), (q5, .inl (cs.1, 10, .inl (fun _ => 0))), (q6, .inl (cs.1, 10, .inl (fun _ => 0)))] := hD
  refine lv_aload_n hx hb dX2_init_60 rfl (lv_at hl 0 rfl) ?_
  refine lv_bipush (v := 10) hx hb dX2_init_61 (by decide) ?_
  refine va_newa (atype := .int) (ty := .int) (N' := 10) (a0 := (10, .inl (fun _ => 0))) hx hb (hts (.arrayClass .int) (List.mem_of_getElem? (i := 4) (by decide +kernel))) rfl hK hP hD hS hA (fun cA => rfl) (by decide) (by decide) (by show 10 * 4 ≤ 536870912; decide) (Nat.le_of_ble_eq_true rfl) (Nat.le_of_ble_eq_true rfl) dX2_init_63 (fun q7 cA H hK hP hD hS => ?_)
  obtain rfl := RAi_eq (hK.2 3 _ rfl).2 (hK.2 0 _ rfl).2
  have hK := hK.sub (tys' := tyz cs) [0, 1, 2] rfl
  have hP : va_P D vwCl [(x, .inr (3, [.int 0, .int 0, .int 0, .int 0, .int 0, .ref q0, .ref q1, .ref q2, .ref q3, .ref q4, .ref q5, .ref q6, .null])), (q0, .inl (cs.1, 10, .inl (fun _ => 0))), (q1, .inl (cs.1, 10, .inl (fun _ => 0))), (q2, .inl (cs.1, 10, .inl (fun _ => 0))), (q3, .inl (cs.1, 10, .inl (fun _ => 0))), (q4, .inl (cs.1, 10, .inl (fun _ => 0))), (q5, .inl (cs.1, 10, .inl (fun _ => 0))), (q6, .inl (cs.1, 10, .inl (fun _ => 0))), (q7, .inl (cs.1, 10, .inl (fun _ => 0)))] H := hP
  have hD : va_D A [(x, .inr (3, [.int 0, .int 0, .int 0, .int 0, .int 0, .ref q0, .ref q1, .ref q2, .ref q3, .ref q4, .ref q5, .ref q6, .null])), (q0, .inl (cs.1, 10, .inl (fun _ => 0))), (q1, .inl (cs.1, 10, .inl (fun _ => 0))), (q2, .inl (cs.1, 10, .inl (fun _ => 0))), (q3, .inl (cs.1, 10, .inl (fun _ => 0))), (q4, .inl (cs.1, 10, .inl (fun _ => 0))), (q5, .inl (cs.1, 10, .inl (fun _ => 0))), (q6, .inl (cs.1, 10, .inl (fun _ => 0))), (q7, .inl (cs.1, 10, .inl (fun _ => 0)))] := hD
  refine va_putF (D := D) (ci := 3) (v := .ref q7) (ty := (.array .int)) (C := RX2) (T := TX2) (N := 13) hx hb hts in_X2_init_X2 tyX2 tyX2_ok nmX2 hown hK hP hD hS 0 rfl rfl 12 (by decide) (hts (.fieldLink RX2 31 "ShadowSocietyModel" "lost" "[I") (List.mem_of_getElem? (i := 12) (by decide +kernel))) (fun _ h9 => h9) rfl hin rfl (by decide +kernel) rfl rfl (Nat.le_of_ble_eq_true rfl) dX2_init_65 (fun H locs hP hD hS => ?_)
  have hP : va_P D vwCl [(x, .inr (3, [.int 0, .int 0, .int 0, .int 0, .int 0, .ref q0, .ref q1, .ref q2, .ref q3, .ref q4, .ref q5, .ref q6, .ref q7])), (q0, .inl (cs.1, 10, .inl (fun _ => 0))), (q1, .inl (cs.1, 10, .inl (fun _ => 0))), (q2, .inl (cs.1, 10, .inl (fun _ => 0))), (q3, .inl (cs.1, 10, .inl (fun _ => 0))), (q4, .inl (cs.1, 10, .inl (fun _ => 0))), (q5, .inl (cs.1, 10, .inl (fun _ => 0))), (q6, .inl (cs.1, 10, .inl (fun _ => 0))), (q7, .inl (cs.1, 10, .inl (fun _ => 0)))] H := hP
  have hD : va_D A [(x, .inr (3, [.int 0, .int 0, .int 0, .int 0, .int 0, .ref q0, .ref q1, .ref q2, .ref q3, .ref q4, .ref q5, .ref q6, .ref q7])), (q0, .inl (cs.1, 10, .inl (fun _ => 0))), (q1, .inl (cs.1, 10, .inl (fun _ => 0))), (q2, .inl (cs.1, 10, .inl (fun _ => 0))), (q3, .inl (cs.1, 10, .inl (fun _ => 0))), (q4, .inl (cs.1, 10, .inl (fun _ => 0))), (q5, .inl (cs.1, 10, .inl (fun _ => 0))), (q6, .inl (cs.1, 10, .inl (fun _ => 0))), (q7, .inl (cs.1, 10, .inl (fun _ => 0)))] := hD
  refine W.widen (k := 8) (n := 80) (Nat.le_of_ble_eq_true rfl) (Nat.le_of_ble_eq_true rfl) ?_
  obtain ⟨f, hf⟩ : ∃ f : Nat → Nat, f 0 = q0 ∧ f 1 = q1 ∧ f 2 = q2 ∧ f 3 = q3 ∧ f 4 = q4 ∧ f 5 = q5 ∧ f 6 = q6 ∧ f 7 = q7 := ⟨fun j => if j = 0 then q0 else if j = 1 then q1 else if j = 2 then q2 else if j = 3 then q3 else if j = 4 then q4 else if j = 5 then q5 else if j = 6 then q6 else q7, rfl, rfl, rfl, rfl, rfl, rfl, rfl, rfl⟩
  obtain ⟨rfl, rfl, rfl, rfl, rfl, rfl, rfl, rfl⟩ := hf
  have hP : va_P D vwCl (modW cs (x, f) 0 ps0) H := hP
  have hD : va_D A (modW cs (x, f) 0 ps0) := hD
  exact W.vret hx hb hr (fun t ht hW => ⟨⟨f, rfl, trivial, by show va_P D vwCl (modW cs (x, f) 0 ps0) t.heap ∧ va_D A (modW cs (x, f) 0 ps0); rw [ht]; exact ⟨hP, hD⟩⟩, hS.F ht⟩) hS.2.2 dX2_init_68
