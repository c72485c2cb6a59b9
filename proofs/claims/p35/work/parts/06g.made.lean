/-! CONSTRUCTORS AND THE LIST (laid by wip/p35/gen/lworld.py) -/
set_option maxHeartbeats 4000000 in
set_option maxRecDepth 100000 in
/-- AbstractCollection() -/
theorem c_Jxa1e45_init (l : Launch) (D : va_G) (cs : Cs) (H0 : Heap) (q : Nat) (mc z : Int32) : Met l yJxa1e45_init_da8c8 wsJxa1e45_init_da8c8 ({ frames := 1, cells := 0, slots := 0, locals := 12 }) (va_Pc [.ref q] (LBp D cs [(q, .inr (0, [.int mc, .null, .int z]))] H0 (E0))) (va_Qv (fun _ : Unit => True) (fun (_ : Unit) t => va_P D vwCl [(q, .inr (0, [.int mc, .null, .int z]))] t.heap ∧ va_D (va_A [(q, .inr (0, [.int mc, .null, .int z]))] H0.size) [(q, .inr (0, [.int mc, .null, .int z]))]) (va_A [(q, .inr (0, [.int mc, .null, .int z]))] H0.size)) 0 0 (va_A [(q, .inr (0, [.int mc, .null, .int z]))] H0.size) := by
  refine Met.ofW (cc := cJxa1e45_init_da8c8) (maxL := 1) (ret := none) (by decide) rfl ?_
  intro p e s m args below meth c s₁ B0 hml hv
  obtain ⟨rfl, ⟨⟨hH, hP, hD0⟩, hK, hN⟩, hE⟩ := hv
  subst hH
  have hx := B0.exec
  have hb := B0.bytes
  have hr := B0.returns
  have hts := atoms_spec (ws := wsJxa1e45_init_da8c8) B0.pre
  have hown : s.vm.findClass RJxa1e45 = some m.cls := findClass_of_methodNamed B0.named
  have hlocks := B0.notSynchronized
  have hD := hD0.self (sz := s.heap.size)
  generalize hAe : va_A [(q, .inr (0, [.int mc, .null, .int z]))] s.heap.size = A at hD ⊢
  have hA : ∀ q : Nat, s.heap.size ≤ q → A q := fun q h => by rw [← hAe]; exact Or.inr h
  have hS : va_S A s.heap s.heap [] := va_S.rf
  have hl := lv_entry ([.ref q]) (n := 1) (Nat.le_of_ble_eq_true rfl)
  rw [lg_entry_eq]
  generalize (lg_sl ([.ref q]) ++ List.replicate (1 - (lg_sl ([.ref q])).length) Slot.unset).toArray = ls at hl ⊢
  have hl : lv_has ls 1 [(0, .ref q)] := hl
  refine lv_aload_n hx hb dJxa1e45_init_da8c8_0 rfl (lv_at hl 0 rfl) ?_
  refine W.objInit hx hb hown (hts (.methodLink RJxa1e45 1 objectInit) (List.mem_of_getElem? (i := 1) (by decide +kernel))) (hts (.instanceMethod objectInit) (List.mem_of_getElem? (i := 2) (by decide +kernel))) (hts (.code objectInit ⟨#[0xb1]⟩ 1 none) (List.mem_of_getElem? (i := 3) (by decide +kernel))) rfl (by rw [hml]; exact hl.1) rfl dJxa1e45_init_da8c8_1 (Nat.le_of_ble_eq_true rfl) (Nat.le_of_ble_eq_true rfl) ?_
  refine W.eq (g2 := F0 m 4 ls []) rfl ?_
  exact W.vret hx hb hr (fun t ht hW => ⟨⟨(), rfl, trivial, by show va_P D vwCl _ t.heap ∧ _; rw [ht]; exact ⟨hP, hD⟩⟩, hS.F ht⟩) hS.2.2 dJxa1e45_init_da8c8_4
theorem in_Jxc12de_init_da8c8_Jx4a65c : ∀ w ∈ wsJx4a65c0, w ∈ wsJxc12de_init_da8c8 := by decide +kernel
set_option maxHeartbeats 4000000 in
set_option maxRecDepth 100000 in
/-- AbstractList() -/
theorem c_Jxc12de_init (l : Launch) (D : va_G) (cs : Cs) (H0 : Heap) (q : Nat) (mc z : Int32) : Met l yJxc12de_init_da8c8 wsJxc12de_init_da8c8 ({ frames := 2, cells := 0, slots := 0, locals := 32 }) (va_Pc [.ref q] (LBp D cs [(q, .inr (0, [.int mc, .null, .int z]))] H0 (E0))) (va_Qv (fun _ : Unit => True) (fun (_ : Unit) t => va_P D vwCl [(q, .inr (0, [.int 0, .null, .int z]))] t.heap ∧ va_D (va_A [(q, .inr (0, [.int mc, .null, .int z]))] H0.size) [(q, .inr (0, [.int 0, .null, .int z]))]) (va_A [(q, .inr (0, [.int mc, .null, .int z]))] H0.size)) 0 0 (va_A [(q, .inr (0, [.int mc, .null, .int z]))] H0.size) := by
  refine Met.ofW (cc := cJxc12de_init_da8c8) (maxL := 1) (ret := none) (by decide) rfl ?_
  intro p e s m args below meth c s₁ B0 hml hv
  obtain ⟨rfl, ⟨⟨hH, hP, hD0⟩, hK, hN⟩, hE⟩ := hv
  subst hH
  have hx := B0.exec
  have hb := B0.bytes
  have hr := B0.returns
  have hts := atoms_spec (ws := wsJxc12de_init_da8c8) B0.pre
  have hown : s.vm.findClass RJxc12de = some m.cls := findClass_of_methodNamed B0.named
  have hlocks := B0.notSynchronized
  have hD := hD0.self (sz := s.heap.size)
  generalize hAe : va_A [(q, .inr (0, [.int mc, .null, .int z]))] s.heap.size = A at hD ⊢
  have hA : ∀ q : Nat, s.heap.size ≤ q → A q := fun q h => by rw [← hAe]; exact Or.inr h
  have hS : va_S A s.heap s.heap [] := va_S.rf
  have hl := lv_entry ([.ref q]) (n := 1) (Nat.le_of_ble_eq_true rfl)
  rw [lg_entry_eq]
  generalize (lg_sl ([.ref q]) ++ List.replicate (1 - (lg_sl ([.ref q])).length) Slot.unset).toArray = ls at hl ⊢
  have hl : lv_has ls 1 [(0, .ref q)] := hl
  refine lv_aload_n hx hb dJxc12de_init_da8c8_0 rfl (lv_at hl 0 rfl) ?_
  have hPc := hP.sub (ws' := [(q, .inr (0, [.int mc, .null, .int z]))]) [0] rfl
  have hDc := hD.sub (ws' := [(q, .inr (0, [.int mc, .null, .int z]))]) [0] (by decide) rfl
  have hFc := va_free (wc := [(q, .inr (0, [.int mc, .null, .int z]))]) hD hS hA [0] rfl
  refine va_callv (va_runI (As := []) (rest := []) ⟨hx, hb, hml, hown, hts⟩ (c_Jxa1e45_init l D cs s.heap q mc z) (cwI 0 hts gJxc12de_init_da8c8_Jxa1e45_init_da8c8 rfl rfl rfl (hts (.initialized RJxa1e45) (List.mem_of_getElem? (i := 4) (by decide +kernel))) (hts (.methodLink RJxc12de 1 yJxa1e45_init_da8c8) (List.mem_of_getElem? (i := 2) (by decide +kernel))) (hts (.instanceMethod yJxa1e45_init_da8c8) (List.mem_of_getElem? (i := 3) (by decide +kernel))) rfl (by decide +kernel) ⟨Nat.le_of_ble_eq_true rfl, Nat.le_of_ble_eq_true rfl⟩) (lb_I hK hN hPc hDc E0_b (fun _ _ _ => trivial)) rfl rfl hl.1 rfl (lv_room (Nat.le_of_ble_eq_true rfl)) dJxc12de_init_da8c8_1 ⟨Nat.le_of_ble_eq_true rfl, Nat.le_of_ble_eq_true rfl⟩) hS (fun q _ h => hFc q h) hFc (fun u t H1 locs ht hvm hw hB hz1 hk1 hS => ?_)
  rw [ht] at hB
  obtain ⟨hP, hD⟩ := va_join (wr := []) (w1 := [(q, .inr (0, [.int mc, .null, .int z]))]) hP hD [0] [] rfl rfl (by decide) (by decide) hk1 hFc hB.1 hB.2
  generalize H1 = H at hP hS ⊢
  have hP : va_P D vwCl [(q, .inr (0, [.int mc, .null, .int z]))] H := hP
  have hD : va_D A [(q, .inr (0, [.int mc, .null, .int z]))] := hD
  refine lv_aload_n hx hb dJxc12de_init_da8c8_4 rfl (lv_at hl 0 rfl) ?_
  refine lv_iconst (v := 0) hx hb dJxc12de_init_da8c8_5 (by decide) ?_
  refine va_put (D := D) (ci := 0) (v := .int 0) (ty := .int) (C := RJx4a65c) (T := TJx4a65c) (N := 3) hx hb hts in_Jxc12de_init_da8c8_Jx4a65c tyJx4a65c tyJx4a65c_ok nmJx4a65c hown hK hP hD hS 0 rfl rfl 0 (by decide) (hts (.fieldLink RJxc12de 7 "java/util/AbstractList" "modCount" "I") (List.mem_of_getElem? (i := 1) (by decide +kernel))) (fun _ h9 => h9) rfl (by decide +kernel) rfl rfl (Nat.le_of_ble_eq_true rfl) dJxc12de_init_da8c8_6 (fun H locs hP hD hS => ?_)
  have hP : va_P D vwCl [(q, .inr (0, [.int 0, .null, .int z]))] H := hP
  have hD : va_D A [(q, .inr (0, [.int 0, .null, .int z]))] := hD
  exact W.vret hx hb hr (fun t ht hW => ⟨⟨(), rfl, trivial, by show va_P D vwCl _ t.heap ∧ _; rw [ht]; exact ⟨hP, hD⟩⟩, hS.F ht⟩) hS.2.2 dJxc12de_init_da8c8_9
theorem in_Jx4a65c_init_da8c8_Jx4a65c : ∀ w ∈ wsJx4a65c0, w ∈ wsJx4a65c_init_da8c8 := by decide +kernel
set_option maxHeartbeats 4000000 in
set_option maxRecDepth 100000 in
/-- ArrayList() -/
theorem c_Jx4a65c_init (l : Launch) (D : va_G) (cs : Cs) (H0 : Heap) (q e0 : Nat) (mc z : Int32) : Met l yJx4a65c_init_da8c8 wsJx4a65c_init_da8c8 ({ frames := 3, cells := 0, slots := 0, locals := 52 }) (va_Pc [.ref q] (LBp D cs [(q, .inr (0, [.int mc, .null, .int z]))] H0 (DefP (va_A [(q, .inr (0, [.int mc, .null, .int z]))] H0.size) e0))) (va_Qv (fun _ : Unit => True) (fun (_ : Unit) t => va_P D vwCl [(q, .inr (0, [.int 0, .ref e0, .int z]))] t.heap ∧ va_D (va_A [(q, .inr (0, [.int mc, .null, .int z]))] H0.size) [(q, .inr (0, [.int 0, .ref e0, .int z]))]) (va_A [(q, .inr (0, [.int mc, .null, .int z]))] H0.size)) 0 0 (va_A [(q, .inr (0, [.int mc, .null, .int z]))] H0.size) := by
  refine Met.ofW (cc := cJx4a65c_init_da8c8) (maxL := 1) (ret := none) (by decide) rfl ?_
  intro p e s m args below meth c s₁ B0 hml hv
  obtain ⟨rfl, ⟨⟨hH, hP, hD0⟩, hK, hN⟩, hE⟩ := hv
  subst hH
  have hx := B0.exec
  have hb := B0.bytes
  have hr := B0.returns
  have hts := atoms_spec (ws := wsJx4a65c_init_da8c8) B0.pre
  have hown : s.vm.findClass RJx4a65c = some m.cls := findClass_of_methodNamed B0.named
  have hlocks := B0.notSynchronized
  have hD := hD0.self (sz := s.heap.size)
  generalize hAe : va_A [(q, .inr (0, [.int mc, .null, .int z]))] s.heap.size = A at hD ⊢
  have hA : ∀ q : Nat, s.heap.size ≤ q → A q := fun q h => by rw [← hAe]; exact Or.inr h
  have hS : va_S A s.heap s.heap [] := va_S.rf
  have hl := lv_entry ([.ref q]) (n := 1) (Nat.le_of_ble_eq_true rfl)
  rw [lg_entry_eq]
  generalize (lg_sl ([.ref q]) ++ List.replicate (1 - (lg_sl ([.ref q])).length) Slot.unset).toArray = ls at hl ⊢
  have hl : lv_has ls 1 [(0, .ref q)] := hl
  refine lv_aload_n hx hb dJx4a65c_init_da8c8_0 rfl (lv_at hl 0 rfl) ?_
  have hPc := hP.sub (ws' := [(q, .inr (0, [.int mc, .null, .int z]))]) [0] rfl
  have hDc := hD.sub (ws' := [(q, .inr (0, [.int mc, .null, .int z]))]) [0] (by decide) rfl
  have hFc := va_free (wc := [(q, .inr (0, [.int mc, .null, .int z]))]) hD hS hA [0] rfl
  refine va_callv (va_runI (As := []) (rest := []) ⟨hx, hb, hml, hown, hts⟩ (c_Jxc12de_init l D cs s.heap q mc z) (cwI 0 hts gJx4a65c_init_da8c8_Jxc12de_init_da8c8 rfl rfl rfl (hts (.initialized RJxc12de) (List.mem_of_getElem? (i := 5) (by decide +kernel))) (hts (.methodLink RJx4a65c 1 yJxc12de_init_da8c8) (List.mem_of_getElem? (i := 3) (by decide +kernel))) (hts (.instanceMethod yJxc12de_init_da8c8) (List.mem_of_getElem? (i := 4) (by decide +kernel))) rfl (by decide +kernel) ⟨Nat.le_of_ble_eq_true rfl, Nat.le_of_ble_eq_true rfl⟩) (lb_I hK hN hPc hDc E0_b (fun _ _ _ => trivial)) rfl rfl hl.1 rfl (lv_room (Nat.le_of_ble_eq_true rfl)) dJx4a65c_init_da8c8_1 ⟨Nat.le_of_ble_eq_true rfl, Nat.le_of_ble_eq_true rfl⟩) hS (fun q _ h => hFc q h) hFc (fun u t H1 locs ht hvm hw hB hz1 hk1 hS => ?_)
  rw [ht] at hB
  obtain ⟨hP, hD⟩ := va_join (wr := []) (w1 := [(q, .inr (0, [.int 0, .null, .int z]))]) hP hD [0] [] rfl rfl (by decide) (by decide) hk1 hFc hB.1 hB.2
  generalize H1 = H at hP hS ⊢
  have hP : va_P D vwCl [(q, .inr (0, [.int 0, .null, .int z]))] H := hP
  have hD : va_D A [(q, .inr (0, [.int 0, .null, .int z]))] := hD
  refine lv_aload_n hx hb dJx4a65c_init_da8c8_4 rfl (lv_at hl 0 rfl) ?_
  refine va_gets hx hb (hE.1.narrow (fun q h => by rw [hAe]; exact h)) hS hown (hts (.fieldLink RJx4a65c 39 "java/util/ArrayList" "DEFAULTCAPACITY_EMPTY_ELEMENTDATA" "[Ljava/lang/Object;") (List.mem_of_getElem? (i := 1) (by decide +kernel))) (fun _ h9 => h9) dJx4a65c_init_da8c8_5 ?_
  refine va_put (D := D) (ci := 0) (v := .ref e0) (ty := (.array (.object "java/lang/Object"))) (C := RJx4a65c) (T := TJx4a65c) (N := 3) hx hb hts in_Jx4a65c_init_da8c8_Jx4a65c tyJx4a65c tyJx4a65c_ok nmJx4a65c hown hK hP hD hS 0 rfl rfl 1 (by decide) (hts (.fieldLink RJx4a65c 9 "java/util/ArrayList" "elementData" "[Ljava/lang/Object;") (List.mem_of_getElem? (i := 2) (by decide +kernel))) (fun _ h9 => h9) rfl (by decide +kernel) rfl rfl (Nat.le_of_ble_eq_true rfl) dJx4a65c_init_da8c8_8 (fun H locs hP hD hS => ?_)
  have hP : va_P D vwCl [(q, .inr (0, [.int 0, .ref e0, .int z]))] H := hP
  have hD : va_D A [(q, .inr (0, [.int 0, .ref e0, .int z]))] := hD
  exact W.vret hx hb hr (fun t ht hW => ⟨⟨(), rfl, trivial, by show va_P D vwCl _ t.heap ∧ _; rw [ht]; exact ⟨hP, hD⟩⟩, hS.F ht⟩) hS.2.2 dJx4a65c_init_da8c8_11
theorem in_X0_init_X0 : ∀ w ∈ wsX00, w ∈ wsX0_init := by decide +kernel
set_option maxHeartbeats 4000000 in
set_option maxRecDepth 100000 in
/-- Member(n, a, b) -/
theorem c_X0_init (l : Launch) (D : va_G) (cs : Cs) (H0 : Heap) (q : Nat) (n a b : Int32) : Met l yX0_init wsX0_init ({ frames := 1, cells := 0, slots := 0, locals := 12 }) (va_Pc [.ref q, .int n, .int a, .int b] (LBp D cs [(q, .inr (1, [.int 0, .int 0, .int 0, .int 0, .int 0, .null, .int 0, .int 0, .int 0]))] H0 (E0))) (va_Qv (fun _ : Unit => True) (fun (_ : Unit) t => va_P D vwCl [(q, .inr (1, [.int n, .int a, .int b, .int 50, .int 0, .null, .int (-1), .int 0, .int 0]))] t.heap ∧ va_D (va_A [(q, .inr (1, [.int 0, .int 0, .int 0, .int 0, .int 0, .null, .int 0, .int 0, .int 0]))] H0.size) [(q, .inr (1, [.int n, .int a, .int b, .int 50, .int 0, .null, .int (-1), .int 0, .int 0]))]) (va_A [(q, .inr (1, [.int 0, .int 0, .int 0, .int 0, .int 0, .null, .int 0, .int 0, .int 0]))] H0.size)) 0 0 (va_A [(q, .inr (1, [.int 0, .int 0, .int 0, .int 0, .int 0, .null, .int 0, .int 0, .int 0]))] H0.size) := by
  refine Met.ofW (cc := cX0_init) (maxL := 4) (ret := none) (by decide) rfl ?_
  intro p e s m args below meth c s₁ B0 hml hv
  obtain ⟨rfl, ⟨⟨hH, hP, hD0⟩, hK, hN⟩, hE⟩ := hv
  subst hH
  have hx := B0.exec
  have hb := B0.bytes
  have hr := B0.returns
  have hts := atoms_spec (ws := wsX0_init) B0.pre
  have hown : s.vm.findClass RX0 = some m.cls := findClass_of_methodNamed B0.named
  have hlocks := B0.notSynchronized
  have hin : meth.name = "<init>" := (name_of_methodNamed B0.named B0.method).1
  have hD := hD0.self (sz := s.heap.size)
  generalize hAe : va_A [(q, .inr (1, [.int 0, .int 0, .int 0, .int 0, .int 0, .null, .int 0, .int 0, .int 0]))] s.heap.size = A at hD ⊢
  have hA : ∀ q : Nat, s.heap.size ≤ q → A q := fun q h => by rw [← hAe]; exact Or.inr h
  have hS : va_S A s.heap s.heap [] := va_S.rf
  have hl := lv_entry ([.ref q, .int n, .int a, .int b]) (n := 4) (Nat.le_of_ble_eq_true rfl)
  rw [lg_entry_eq]
  generalize (lg_sl ([.ref q, .int n, .int a, .int b]) ++ List.replicate (4 - (lg_sl ([.ref q, .int n, .int a, .int b])).length) Slot.unset).toArray = ls at hl ⊢
  have hl : lv_has ls 4 [(0, .ref q), (1, .int n), (2, .int a), (3, .int b)] := hl
  refine lv_aload_n hx hb dX0_init_0 rfl (lv_at hl 0 rfl) ?_
  refine W.objInit hx hb hown (hts (.methodLink RX0 3 objectInit) (List.mem_of_getElem? (i := 1) (by decide +kernel))) (hts (.instanceMethod objectInit) (List.mem_of_getElem? (i := 2) (by decide +kernel))) (hts (.code objectInit ⟨#[0xb1]⟩ 1 none) (List.mem_of_getElem? (i := 3) (by decide +kernel))) rfl (by rw [hml]; exact hl.1) rfl dX0_init_1 (Nat.le_of_ble_eq_true rfl) (Nat.le_of_ble_eq_true rfl) ?_
  refine W.eq (g2 := F0 m 4 ls []) rfl ?_
  refine lv_aload_n hx hb dX0_init_4 rfl (lv_at hl 0 rfl) ?_
  refine lv_bipush (v := 50) hx hb dX0_init_5 (by decide) ?_
  refine va_put (D := D) (ci := 1) (v := .int 50) (ty := .int) (C := RX0) (T := TX0) (N := 9) hx hb hts in_X0_init_X0 tyX0 tyX0_ok nmX0 hown hK hP hD hS 0 rfl rfl 3 (by decide) (hts (.fieldLink RX0 9 "ShadowSociety$Member" "purse" "I") (List.mem_of_getElem? (i := 4) (by decide +kernel))) (fun _ h9 => h9) rfl (by decide +kernel) rfl rfl (Nat.le_of_ble_eq_true rfl) dX0_init_7 (fun H locs hP hD hS => ?_)
  have hP : va_P D vwCl [(q, .inr (1, [.int 0, .int 0, .int 0, .int 50, .int 0, .null, .int 0, .int 0, .int 0]))] H := hP
  have hD : va_D A [(q, .inr (1, [.int 0, .int 0, .int 0, .int 50, .int 0, .null, .int 0, .int 0, .int 0]))] := hD
  refine lv_aload_n hx hb dX0_init_10 rfl (lv_at hl 0 rfl) ?_
  refine lv_iconst (v := 0) hx hb dX0_init_11 (by decide) ?_
  refine va_put (D := D) (ci := 1) (v := .int 0) (ty := .int) (C := RX0) (T := TX0) (N := 9) hx hb hts in_X0_init_X0 tyX0 tyX0_ok nmX0 hown hK hP hD hS 0 rfl rfl 4 (by decide) (hts (.fieldLink RX0 15 "ShadowSociety$Member" "lamp" "I") (List.mem_of_getElem? (i := 5) (by decide +kernel))) (fun _ h9 => h9) rfl (by decide +kernel) rfl rfl (Nat.le_of_ble_eq_true rfl) dX0_init_12 (fun H locs hP hD hS => ?_)
  have hP : va_P D vwCl [(q, .inr (1, [.int 0, .int 0, .int 0, .int 50, .int 0, .null, .int 0, .int 0, .int 0]))] H := hP
  have hD : va_D A [(q, .inr (1, [.int 0, .int 0, .int 0, .int 50, .int 0, .null, .int 0, .int 0, .int 0]))] := hD
  refine lv_aload_n hx hb dX0_init_15 rfl (lv_at hl 0 rfl) ?_
  refine lv_null hx hb dX0_init_16 ?_
  refine va_put (D := D) (ci := 1) (v := .null) (ty := (.object "ShadowSociety$Member")) (C := RX0) (T := TX0) (N := 9) hx hb hts in_X0_init_X0 tyX0 tyX0_ok nmX0 hown hK hP hD hS 0 rfl rfl 5 (by decide) (hts (.fieldLink RX0 18 "ShadowSociety$Member" "hatOwner" "LShadowSociety$Member;") (List.mem_of_getElem? (i := 6) (by decide +kernel))) (fun _ h9 => h9) rfl (by decide +kernel) rfl rfl (Nat.le_of_ble_eq_true rfl) dX0_init_17 (fun H locs hP hD hS => ?_)
  have hP : va_P D vwCl [(q, .inr (1, [.int 0, .int 0, .int 0, .int 50, .int 0, .null, .int 0, .int 0, .int 0]))] H := hP
  have hD : va_D A [(q, .inr (1, [.int 0, .int 0, .int 0, .int 50, .int 0, .null, .int 0, .int 0, .int 0]))] := hD
  refine lv_aload_n hx hb dX0_init_20 rfl (lv_at hl 0 rfl) ?_
  refine lv_iconst (v := (-1)) hx hb dX0_init_21 (by decide) ?_
  refine va_put (D := D) (ci := 1) (v := .int (-1)) (ty := .int) (C := RX0) (T := TX0) (N := 9) hx hb hts in_X0_init_X0 tyX0 tyX0_ok nmX0 hown hK hP hD hS 0 rfl rfl 6 (by decide) (hts (.fieldLink RX0 22 "ShadowSociety$Member" "certifiedLength" "I") (List.mem_of_getElem? (i := 7) (by decide +kernel))) (fun _ h9 => h9) rfl (by decide +kernel) rfl rfl (Nat.le_of_ble_eq_true rfl) dX0_init_22 (fun H locs hP hD hS => ?_)
  have hP : va_P D vwCl [(q, .inr (1, [.int 0, .int 0, .int 0, .int 50, .int 0, .null, .int (-1), .int 0, .int 0]))] H := hP
  have hD : va_D A [(q, .inr (1, [.int 0, .int 0, .int 0, .int 50, .int 0, .null, .int (-1), .int 0, .int 0]))] := hD
  refine lv_aload_n hx hb dX0_init_25 rfl (lv_at hl 0 rfl) ?_
  refine lv_iconst (v := 0) hx hb dX0_init_26 (by decide) ?_
  refine va_put (D := D) (ci := 1) (v := .int 0) (ty := .int) (C := RX0) (T := TX0) (N := 9) hx hb hts in_X0_init_X0 tyX0 tyX0_ok nmX0 hown hK hP hD hS 0 rfl rfl 7 (by decide) (hts (.fieldLink RX0 25 "ShadowSociety$Member" "certifiedHour" "I") (List.mem_of_getElem? (i := 8) (by decide +kernel))) (fun _ h9 => h9) rfl (by decide +kernel) rfl rfl (Nat.le_of_ble_eq_true rfl) dX0_init_27 (fun H locs hP hD hS => ?_)
  have hP : va_P D vwCl [(q, .inr (1, [.int 0, .int 0, .int 0, .int 50, .int 0, .null, .int (-1), .int 0, .int 0]))] H := hP
  have hD : va_D A [(q, .inr (1, [.int 0, .int 0, .int 0, .int 50, .int 0, .null, .int (-1), .int 0, .int 0]))] := hD
  refine lv_aload_n hx hb dX0_init_30 rfl (lv_at hl 0 rfl) ?_
  refine lv_iconst (v := 0) hx hb dX0_init_31 (by decide) ?_
  refine va_put (D := D) (ci := 1) (v := .int 0) (ty := .int) (C := RX0) (T := TX0) (N := 9) hx hb hts in_X0_init_X0 tyX0 tyX0_ok nmX0 hown hK hP hD hS 0 rfl rfl 8 (by decide) (hts (.fieldLink RX0 28 "ShadowSociety$Member" "revocations" "I") (List.mem_of_getElem? (i := 9) (by decide +kernel))) (fun _ h9 => h9) rfl (by decide +kernel) rfl rfl (Nat.le_of_ble_eq_true rfl) dX0_init_32 (fun H locs hP hD hS => ?_)
  have hP : va_P D vwCl [(q, .inr (1, [.int 0, .int 0, .int 0, .int 50, .int 0, .null, .int (-1), .int 0, .int 0]))] H := hP
  have hD : va_D A [(q, .inr (1, [.int 0, .int 0, .int 0, .int 50, .int 0, .null, .int (-1), .int 0, .int 0]))] := hD
  refine lv_aload_n hx hb dX0_init_35 rfl (lv_at hl 0 rfl) ?_
  refine lv_iload_n hx hb dX0_init_36 rfl (lv_at hl 1 rfl) ?_
  refine va_putF (D := D) (ci := 1) (v := .int n) (ty := .int) (C := RX0) (T := TX0) (N := 9) hx hb hts in_X0_init_X0 tyX0 tyX0_ok nmX0 hown hK hP hD hS 0 rfl rfl 0 (by decide) (hts (.fieldLink RX0 31 "ShadowSociety$Member" "number" "I") (List.mem_of_getElem? (i := 10) (by decide +kernel))) (fun _ h9 => h9) rfl hin rfl (by decide +kernel) rfl rfl (Nat.le_of_ble_eq_true rfl) dX0_init_37 (fun H locs hP hD hS => ?_)
  have hP : va_P D vwCl [(q, .inr (1, [.int n, .int 0, .int 0, .int 50, .int 0, .null, .int (-1), .int 0, .int 0]))] H := hP
  have hD : va_D A [(q, .inr (1, [.int n, .int 0, .int 0, .int 50, .int 0, .null, .int (-1), .int 0, .int 0]))] := hD
  refine lv_aload_n hx hb dX0_init_40 rfl (lv_at hl 0 rfl) ?_
  refine lv_iload_n hx hb dX0_init_41 rfl (lv_at hl 2 rfl) ?_
  refine va_putF (D := D) (ci := 1) (v := .int a) (ty := .int) (C := RX0) (T := TX0) (N := 9) hx hb hts in_X0_init_X0 tyX0 tyX0_ok nmX0 hown hK hP hD hS 0 rfl rfl 1 (by decide) (hts (.fieldLink RX0 34 "ShadowSociety$Member" "height" "I") (List.mem_of_getElem? (i := 11) (by decide +kernel))) (fun _ h9 => h9) rfl hin rfl (by decide +kernel) rfl rfl (Nat.le_of_ble_eq_true rfl) dX0_init_42 (fun H locs hP hD hS => ?_)
  have hP : va_P D vwCl [(q, .inr (1, [.int n, .int a, .int 0, .int 50, .int 0, .null, .int (-1), .int 0, .int 0]))] H := hP
  have hD : va_D A [(q, .inr (1, [.int n, .int a, .int 0, .int 50, .int 0, .null, .int (-1), .int 0, .int 0]))] := hD
  refine lv_aload_n hx hb dX0_init_45 rfl (lv_at hl 0 rfl) ?_
  refine lv_iload_n hx hb dX0_init_46 rfl (lv_at hl 3 rfl) ?_
  refine va_putF (D := D) (ci := 1) (v := .int b) (ty := .int) (C := RX0) (T := TX0) (N := 9) hx hb hts in_X0_init_X0 tyX0 tyX0_ok nmX0 hown hK hP hD hS 0 rfl rfl 2 (by decide) (hts (.fieldLink RX0 37 "ShadowSociety$Member" "hat" "I") (List.mem_of_getElem? (i := 12) (by decide +kernel))) (fun _ h9 => h9) rfl hin rfl (by decide +kernel) rfl rfl (Nat.le_of_ble_eq_true rfl) dX0_init_47 (fun H locs hP hD hS => ?_)
  have hP : va_P D vwCl [(q, .inr (1, [.int n, .int a, .int b, .int 50, .int 0, .null, .int (-1), .int 0, .int 0]))] H := hP
  have hD : va_D A [(q, .inr (1, [.int n, .int a, .int b, .int 50, .int 0, .null, .int (-1), .int 0, .int 0]))] := hD
  exact W.vret hx hb hr (fun t ht hW => ⟨⟨(), rfl, trivial, by show va_P D vwCl _ t.heap ∧ _; rw [ht]; exact ⟨hP, hD⟩⟩, hS.F ht⟩) hS.2.2 dX0_init_50
theorem in_Jx4a65c_grow_92f84_Jx4a65c : ∀ w ∈ wsJx4a65c0, w ∈ wsJx4a65c_grow_92f84 := by decide +kernel
set_option maxHeartbeats 4000000 in
set_option maxRecDepth 100000 in
/-- ArrayList.grow(1) of an empty list -/
theorem c_Jx4a65c_grow1 (l : Launch) (D : va_G) (cs : Cs) (H0 : Heap) (q e0 : Nat) (mc : Int32) : Met l yJx4a65c_grow_92f84 wsJx4a65c_grow_92f84 ({ frames := 1, cells := 1, slots := 10, locals := 14 }) (va_Pc [.ref q, .int (0 + 1)] (LBp D cs [(q, .inr (0, [.int mc, .ref e0, .int 0]))] H0 (DefP (va_A [(q, .inr (0, [.int mc, .ref e0, .int 0]))] H0.size) e0))) (va_Qr (fun _ : Unit => True) (fun (_ : Unit) (ra : Nat) t =>  va_P D vwCl [(q, .inr (0, [.int mc, .ref ra, .int 0])), (ra, .inl (cs.2.1, 10, .inr (.inr (.inr (.inr (fun _ => none))))))] t.heap ∧ va_D (va_A [(q, .inr (0, [.int mc, .ref e0, .int 0]))] H0.size) [(q, .inr (0, [.int mc, .ref ra, .int 0])), (ra, .inl (cs.2.1, 10, .inr (.inr (.inr (.inr (fun _ => none))))))]) (va_A [(q, .inr (0, [.int mc, .ref e0, .int 0]))] H0.size)) 1 10 (va_A [(q, .inr (0, [.int mc, .ref e0, .int 0]))] H0.size) := by
  refine Met.ofW (cc := cJx4a65c_grow_92f84) (maxL := 4) (ret := (some (.array (.object "java/lang/Object")))) (by decide) rfl ?_
  intro p e s m args below meth c s₁ B0 hml hv
  obtain ⟨rfl, ⟨⟨hH, hP, hD0⟩, hK, hN⟩, hE⟩ := hv
  subst hH
  have hx := B0.exec
  have hb := B0.bytes
  have hr := B0.returns
  have hts := atoms_spec (ws := wsJx4a65c_grow_92f84) B0.pre
  have hown : s.vm.findClass RJx4a65c = some m.cls := findClass_of_methodNamed B0.named
  have hlocks := B0.notSynchronized
  have hD := hD0.self (sz := s.heap.size)
  generalize hAe : va_A [(q, .inr (0, [.int mc, .ref e0, .int 0]))] s.heap.size = A at hD ⊢
  have hA : ∀ q : Nat, s.heap.size ≤ q → A q := fun q h => by rw [← hAe]; exact Or.inr h
  have hS : va_S A s.heap s.heap [] := va_S.rf
  have hl := lv_entry ([.ref q, .int (0 + 1)]) (n := 4) (Nat.le_of_ble_eq_true rfl)
  rw [lg_entry_eq]
  generalize (lg_sl ([.ref q, .int (0 + 1)]) ++ List.replicate (4 - (lg_sl ([.ref q, .int (0 + 1)])).length) Slot.unset).toArray = ls at hl ⊢
  have hl : lv_has ls 4 [(0, .ref q), (1, .int (0 + 1))] := hl
  refine lv_aload_n hx hb dJx4a65c_grow_92f84_0 rfl (lv_at hl 0 rfl) ?_
  refine va_get (D := D) (ci := 0) (v := .ref e0) (C := RJx4a65c) (T := TJx4a65c) (N := 3) hx hb hts in_Jx4a65c_grow_92f84_Jx4a65c hown hK hP 0 rfl rfl 1 (by decide) (hts (.fieldLink RJx4a65c 9 "java/util/ArrayList" "elementData" "[Ljava/lang/Object;") (List.mem_of_getElem? (i := 1) (by decide +kernel))) (fun _ h9 => h9) rfl dJx4a65c_grow_92f84_1 ?_
  refine va_tlen (v := 0) hx hb (hE.2.1.narrow (fun q h => by rw [hAe]; exact h)) hS rfl dJx4a65c_grow_92f84_4 ?_
  refine lv_istore_n (lv' := [(2, .int 0), (0, .ref q), (1, .int (0 + 1))]) hx hb dJx4a65c_grow_92f84_5 rfl hl (by decide) rfl (fun ls hl => ?_)
  refine lv_iload_n hx hb dJx4a65c_grow_92f84_6 rfl (lv_at hl 0 rfl) ?_
  refine lv_if_gt (tgt := 20) hx hb dJx4a65c_grow_92f84_7 (by decide) (fun c9 => absurd c9 (by decide)) (fun _ => ?_)
  refine lv_aload_n hx hb dJx4a65c_grow_92f84_10 rfl (lv_at hl 1 rfl) ?_
  refine va_get (D := D) (ci := 0) (v := .ref e0) (C := RJx4a65c) (T := TJx4a65c) (N := 3) hx hb hts in_Jx4a65c_grow_92f84_Jx4a65c hown hK hP 0 rfl rfl 1 (by decide) (hts (.fieldLink RJx4a65c 9 "java/util/ArrayList" "elementData" "[Ljava/lang/Object;") (List.mem_of_getElem? (i := 1) (by decide +kernel))) (fun _ h9 => h9) rfl dJx4a65c_grow_92f84_11 ?_
  refine va_gets hx hb (hE.1.narrow (fun q h => by rw [hAe]; exact h)) hS hown (hts (.fieldLink RJx4a65c 39 "java/util/ArrayList" "DEFAULTCAPACITY_EMPTY_ELEMENTDATA" "[Ljava/lang/Object;") (List.mem_of_getElem? (i := 2) (by decide +kernel))) (fun _ h9 => h9) dJx4a65c_grow_92f84_14 ?_
  refine lv_acmp_eq (rx := some e0) (ry := some e0) (tgt := 45) hx hb dJx4a65c_grow_92f84_17 (by decide) (fun _ => ?_) (fun c9 => absurd (rfl) c9)
  refine lv_aload_n hx hb dJx4a65c_grow_92f84_45 rfl (lv_at hl 1 rfl) ?_
  refine lv_bipush (v := 10) hx hb dJx4a65c_grow_92f84_46 (by decide) ?_
  refine lv_iload_n hx hb dJx4a65c_grow_92f84_48 rfl (lv_at hl 2 rfl) ?_
  refine va_mmax hx hb (by rw [hml]; exact hl.1.symm) hown (hts (.methodLink RJx4a65c 79 Lib.Math.max.name) (List.mem_of_getElem? (i := 3) (by decide +kernel))) (hts (.static Lib.Math.max.name) (List.mem_of_getElem? (i := 4) (by decide +kernel))) (hts (.initialized "java/lang/Math") (List.mem_of_getElem? (i := 5) (by decide +kernel))) (hts (.code Lib.Math.max.name Lib.Math.max.code 2 (some .int)) (List.mem_of_getElem? (i := 6) (by decide +kernel))) (Nat.le_of_ble_eq_true rfl) (Nat.le_of_ble_eq_true rfl) (Nat.zero_le _) (Nat.zero_le _) dJx4a65c_grow_92f84_49 ?_
  refine lv_topi (fun mx9 hm9 => ?_)
  have hm9 : mx9 = 10 := hm9.trans (by decide)
  subst hm9
  refine va_newq hx hb hown (hts (.classLink RJx4a65c 7 "java/lang/Object") (List.mem_of_getElem? (i := 7) (by decide +kernel))) hE.2.2 hK hP hD hS hA (N' := 10) (by decide) (by decide) (by decide) (Nat.le_of_ble_eq_true rfl) (Nat.le_of_ble_eq_true rfl) dJx4a65c_grow_92f84_52 (fun ra cA H hK hP hD hS => ?_)
  obtain rfl := RA_eq (hK.2 4 _ rfl).2 (hK.2 1 _ rfl).2
  have hK := hK.sub (tys' := tyz cs) [0, 1, 2, 3] rfl
  have hP : va_P D vwCl [(q, .inr (0, [.int mc, .ref e0, .int 0])), (ra, .inl (cs.2.1, 10, .inr (.inr (.inr (.inr (fun _ => none))))))] H := hP
  have hD : va_D A [(q, .inr (0, [.int mc, .ref e0, .int 0])), (ra, .inl (cs.2.1, 10, .inr (.inr (.inr (.inr (fun _ => none))))))] := hD
  refine lv_dup_x1 hx hb dJx4a65c_grow_92f84_55 rfl rfl ?_
  refine va_put (D := D) (ci := 0) (v := .ref ra) (ty := (.array (.object "java/lang/Object"))) (C := RJx4a65c) (T := TJx4a65c) (N := 3) hx hb hts in_Jx4a65c_grow_92f84_Jx4a65c tyJx4a65c tyJx4a65c_ok nmJx4a65c hown hK hP hD hS 0 rfl rfl 1 (by decide) (hts (.fieldLink RJx4a65c 9 "java/util/ArrayList" "elementData" "[Ljava/lang/Object;") (List.mem_of_getElem? (i := 1) (by decide +kernel))) (fun _ h9 => h9) rfl (by decide +kernel) rfl rfl (Nat.le_of_ble_eq_true rfl) dJx4a65c_grow_92f84_56 (fun H locs hP hD hS => ?_)
  have hP : va_P D vwCl [(q, .inr (0, [.int mc, .ref ra, .int 0])), (ra, .inl (cs.2.1, 10, .inr (.inr (.inr (.inr (fun _ => none))))))] H := hP
  have hD : va_D A [(q, .inr (0, [.int mc, .ref ra, .int 0])), (ra, .inl (cs.2.1, 10, .inr (.inr (.inr (.inr (fun _ => none))))))] := hD
  refine W.widen (k := 1) (n := 10) (Nat.le_of_ble_eq_true rfl) (Nat.le_of_ble_eq_true rfl) ?_
  exact W.aret (v := .ref ra) (rt := (.array (.object "java/lang/Object"))) hx hb hr (Or.inr ⟨_, rfl⟩) (Or.inr ⟨_, rfl⟩) (fun t ht hW => ⟨⟨(), ra, rfl, trivial, by show va_P D vwCl _ t.heap ∧ _; rw [ht]; exact ⟨hP, hD⟩⟩, hS.F ht⟩) hS.2.2 dJx4a65c_grow_92f84_59
theorem in_Jx4a65c_grow_d5877_Jx4a65c : ∀ w ∈ wsJx4a65c0, w ∈ wsJx4a65c_grow_d5877 := by decide +kernel
set_option maxHeartbeats 4000000 in
set_option maxRecDepth 100000 in
/-- ArrayList.grow() of an empty list -/
theorem c_Jx4a65c_grow0 (l : Launch) (D : va_G) (cs : Cs) (H0 : Heap) (q e0 : Nat) (mc : Int32) : Met l yJx4a65c_grow_d5877 wsJx4a65c_grow_d5877 ({ frames := 2, cells := 1, slots := 10, locals := 37 }) (va_Pc [.ref q] (LBp D cs [(q, .inr (0, [.int mc, .ref e0, .int 0]))] H0 (DefP (va_A [(q, .inr (0, [.int mc, .ref e0, .int 0]))] H0.size) e0))) (va_Qr (fun _ : Unit => True) (fun (_ : Unit) (ra : Nat) t =>  va_P D vwCl [(q, .inr (0, [.int mc, .ref ra, .int 0])), (ra, .inl (cs.2.1, 10, .inr (.inr (.inr (.inr (fun _ => none))))))] t.heap ∧ va_D (va_A [(q, .inr (0, [.int mc, .ref e0, .int 0]))] H0.size) [(q, .inr (0, [.int mc, .ref ra, .int 0])), (ra, .inl (cs.2.1, 10, .inr (.inr (.inr (.inr (fun _ => none))))))]) (va_A [(q, .inr (0, [.int mc, .ref e0, .int 0]))] H0.size)) 1 10 (va_A [(q, .inr (0, [.int mc, .ref e0, .int 0]))] H0.size) := by
  refine Met.ofW (cc := cJx4a65c_grow_d5877) (maxL := 1) (ret := (some (.array (.object "java/lang/Object")))) (by decide) rfl ?_
  intro p e s m args below meth c s₁ B0 hml hv
  obtain ⟨rfl, ⟨⟨hH, hP, hD0⟩, hK, hN⟩, hE⟩ := hv
  subst hH
  have hx := B0.exec
  have hb := B0.bytes
  have hr := B0.returns
  have hts := atoms_spec (ws := wsJx4a65c_grow_d5877) B0.pre
  have hown : s.vm.findClass RJx4a65c = some m.cls := findClass_of_methodNamed B0.named
  have hlocks := B0.notSynchronized
  have hD := hD0.self (sz := s.heap.size)
  generalize hAe : va_A [(q, .inr (0, [.int mc, .ref e0, .int 0]))] s.heap.size = A at hD ⊢
  have hA : ∀ q : Nat, s.heap.size ≤ q → A q := fun q h => by rw [← hAe]; exact Or.inr h
  have hS : va_S A s.heap s.heap [] := va_S.rf
  have hl := lv_entry ([.ref q]) (n := 1) (Nat.le_of_ble_eq_true rfl)
  rw [lg_entry_eq]
  generalize (lg_sl ([.ref q]) ++ List.replicate (1 - (lg_sl ([.ref q])).length) Slot.unset).toArray = ls at hl ⊢
  have hl : lv_has ls 1 [(0, .ref q)] := hl
  refine lv_aload_n hx hb dJx4a65c_grow_d5877_0 rfl (lv_at hl 0 rfl) ?_
  refine lv_aload_n hx hb dJx4a65c_grow_d5877_1 rfl (lv_at hl 0 rfl) ?_
  refine va_get (D := D) (ci := 0) (v := .int 0) (C := RJx4a65c) (T := TJx4a65c) (N := 3) hx hb hts in_Jx4a65c_grow_d5877_Jx4a65c hown hK hP 0 rfl rfl 2 (by decide) (hts (.fieldLink RJx4a65c 48 "java/util/ArrayList" "size" "I") (List.mem_of_getElem? (i := 1) (by decide +kernel))) (fun _ h9 => h9) rfl dJx4a65c_grow_d5877_2 ?_
  refine lv_iconst (v := 1) hx hb dJx4a65c_grow_d5877_5 (by decide) ?_
  refine lv_iadd hx hb dJx4a65c_grow_d5877_6 ?_
  have hPc := hP.sub (ws' := [(q, .inr (0, [.int mc, .ref e0, .int 0]))]) [0] rfl
  have hDc := hD.sub (ws' := [(q, .inr (0, [.int mc, .ref e0, .int 0]))]) [0] (by decide) rfl
  have hFc := va_free (wc := [(q, .inr (0, [.int mc, .ref e0, .int 0]))]) hD hS hA [0] rfl
  refine va_callr (va_runV (As := [.int (0 + 1)]) (rest := []) ⟨hx, hb, hml, hown, hts⟩ (c_Jx4a65c_grow1 l D cs s.heap q e0 mc) (cwV 1 hts gJx4a65c_grow_d5877_Jx4a65c_grow_92f84 rfl rfl rfl (by decide +kernel) ⟨Nat.le_of_ble_eq_true rfl, Nat.le_of_ble_eq_true rfl⟩) (lb_V hK hN hPc hDc DefP_b (fun U hU hW => hE.move hW.alike (fun q h1 h2 => by rw [hU]; first | done | exact hS.2.1 q h1 (by rw [hAe] at h2; exact h2)) (fun q h => by rw [hAe]; exact hFc q h)) (va_recv hK hPc (ci := 0) (q0 := 0) rfl rfl)) rfl rfl hl.1 rfl (lv_room (Nat.le_of_ble_eq_true rfl)) dJx4a65c_grow_d5877_7 ⟨Nat.le_of_ble_eq_true rfl, Nat.le_of_ble_eq_true rfl⟩) hS (fun q _ h => hFc q h) hFc (fun u ra t H1 locs ht hvm hw hB hz1 hk1 hS => ?_)
  rw [ht] at hB
  obtain ⟨hP, hD⟩ := va_join (wr := []) (w1 := [(q, .inr (0, [.int mc, .ref ra, .int 0])), (ra, .inl (cs.2.1, 10, .inr (.inr (.inr (.inr (fun _ => none))))))]) hP hD [0] [] rfl rfl (by decide) (by decide) hk1 hFc hB.1 hB.2
  generalize H1 = H at hP hS ⊢
  have hP : va_P D vwCl [(q, .inr (0, [.int mc, .ref ra, .int 0])), (ra, .inl (cs.2.1, 10, .inr (.inr (.inr (.inr (fun _ => none))))))] H := hP
  have hD : va_D A [(q, .inr (0, [.int mc, .ref ra, .int 0])), (ra, .inl (cs.2.1, 10, .inr (.inr (.inr (.inr (fun _ => none))))))] := hD
  refine W.widen (k := 1) (n := 10) (Nat.le_of_ble_eq_true rfl) (Nat.le_of_ble_eq_true rfl) ?_
  exact W.aret (v := .ref ra) (rt := (.array (.object "java/lang/Object"))) hx hb hr (Or.inr ⟨_, rfl⟩) (Or.inr ⟨_, rfl⟩) (fun t ht hW => ⟨⟨(), ra, rfl, trivial, by show va_P D vwCl _ t.heap ∧ _; rw [ht]; exact ⟨hP, hD⟩⟩, hS.F ht⟩) hS.2.2 dJx4a65c_grow_d5877_10
theorem in_Jx4a65c_add_72be8_Jx4a65c : ∀ w ∈ wsJx4a65c0, w ∈ wsJx4a65c_add_72be8 := by decide +kernel
set_option maxHeartbeats 4000000 in
set_option maxRecDepth 100000 in
/-- ArrayList.add(v, elementData, 0): the first -/
theorem c_Jx4a65c_add3B (l : Launch) (D : va_G) (cs : Cs) (H0 : Heap) (q v e0 : Nat) (mc : Int32) (fs : List Value) : Met l yJx4a65c_add_72be8 wsJx4a65c_add_72be8 ({ frames := 3, cells := 1, slots := 10, locals := 57 }) (va_Pc [.ref q, .ref v, .ref e0, .int 0] (LBp D cs [(q, .inr (0, [.int mc, .ref e0, .int 0])), (v, .inr (1, fs))] H0 (DefP (va_A [(q, .inr (0, [.int mc, .ref e0, .int 0])), (v, .inr (1, fs))] H0.size) e0))) (va_Qv (fun _ : Nat => True) (fun (ra : Nat) t => va_P D vwCl [(v, .inr (1, fs)), (q, .inr (0, [.int mc, .ref ra, .int (0 + 1)])), (ra, .inl (cs.2.1, 10, .inr (.inr (.inr (.inr (va_up (fun _ => none) 0 (some v)))))))] t.heap ∧ va_D (va_A [(q, .inr (0, [.int mc, .ref e0, .int 0])), (v, .inr (1, fs))] H0.size) [(v, .inr (1, fs)), (q, .inr (0, [.int mc, .ref ra, .int (0 + 1)])), (ra, .inl (cs.2.1, 10, .inr (.inr (.inr (.inr (va_up (fun _ => none) 0 (some v)))))))]) (va_A [(q, .inr (0, [.int mc, .ref e0, .int 0])), (v, .inr (1, fs))] H0.size)) 1 10 (va_A [(q, .inr (0, [.int mc, .ref e0, .int 0])), (v, .inr (1, fs))] H0.size) := by
  refine Met.ofW (cc := cJx4a65c_add_72be8) (maxL := 4) (ret := none) (by decide) rfl ?_
  intro p e s m args below meth c s₁ B0 hml hv
  obtain ⟨rfl, ⟨⟨hH, hP, hD0⟩, hK, hN⟩, hE⟩ := hv
  subst hH
  have hx := B0.exec
  have hb := B0.bytes
  have hr := B0.returns
  have hts := atoms_spec (ws := wsJx4a65c_add_72be8) B0.pre
  have hown : s.vm.findClass RJx4a65c = some m.cls := findClass_of_methodNamed B0.named
  have hlocks := B0.notSynchronized
  have hD := hD0.self (sz := s.heap.size)
  generalize hAe : va_A [(q, .inr (0, [.int mc, .ref e0, .int 0])), (v, .inr (1, fs))] s.heap.size = A at hD ⊢
  have hA : ∀ q : Nat, s.heap.size ≤ q → A q := fun q h => by rw [← hAe]; exact Or.inr h
  have hS : va_S A s.heap s.heap [] := va_S.rf
  have hl := lv_entry ([.ref q, .ref v, .ref e0, .int 0]) (n := 4) (Nat.le_of_ble_eq_true rfl)
  rw [lg_entry_eq]
  generalize (lg_sl ([.ref q, .ref v, .ref e0, .int 0]) ++ List.replicate (4 - (lg_sl ([.ref q, .ref v, .ref e0, .int 0])).length) Slot.unset).toArray = ls at hl ⊢
  have hl : lv_has ls 4 [(0, .ref q), (1, .ref v), (2, .ref e0), (3, .int 0)] := hl
  refine lv_iload_n hx hb dJx4a65c_add_72be8_0 rfl (lv_at hl 3 rfl) ?_
  refine lv_aload_n hx hb dJx4a65c_add_72be8_1 rfl (lv_at hl 2 rfl) ?_
  refine va_tlen (v := 0) hx hb (hE.2.1.narrow (fun q h => by rw [hAe]; exact h)) hS rfl dJx4a65c_add_72be8_2 ?_
  refine lv_icmp_ne (tgt := 11) hx hb dJx4a65c_add_72be8_3 (by decide) (fun c9 => absurd (rfl) c9) (fun _ => ?_)
  refine lv_aload_n hx hb dJx4a65c_add_72be8_6 rfl (lv_at hl 0 rfl) ?_
  have hPc := hP.sub (ws' := [(q, .inr (0, [.int mc, .ref e0, .int 0]))]) [0] rfl
  have hDc := hD.sub (ws' := [(q, .inr (0, [.int mc, .ref e0, .int 0]))]) [0] (by decide) rfl
  have hFc := va_free (wc := [(q, .inr (0, [.int mc, .ref e0, .int 0]))]) hD hS hA [0] rfl
  refine va_callr (va_runV (As := []) (rest := []) ⟨hx, hb, hml, hown, hts⟩ (c_Jx4a65c_grow0 l D cs s.heap q e0 mc) (cwV 0 hts gJx4a65c_add_72be8_Jx4a65c_grow_d5877 rfl rfl rfl (by decide +kernel) ⟨Nat.le_of_ble_eq_true rfl, Nat.le_of_ble_eq_true rfl⟩) (lb_V hK hN hPc hDc DefP_b (fun U hU hW => hE.move hW.alike (fun q h1 h2 => by rw [hU]; first | done | exact hS.2.1 q h1 (by rw [hAe] at h2; exact h2)) (fun q h => by rw [hAe]; exact hFc q h)) (va_recv hK hPc (ci := 0) (q0 := 0) rfl rfl)) rfl rfl hl.1 rfl (lv_room (Nat.le_of_ble_eq_true rfl)) dJx4a65c_add_72be8_7 ⟨Nat.le_of_ble_eq_true rfl, Nat.le_of_ble_eq_true rfl⟩) hS (fun q _ h => hFc q h) hFc (fun u ra t H1 locs ht hvm hw hB hz1 hk1 hS => ?_)
  rw [ht] at hB
  obtain ⟨hP, hD⟩ := va_join (wr := [(v, .inr (1, fs))]) (w1 := [(q, .inr (0, [.int mc, .ref ra, .int 0])), (ra, .inl (cs.2.1, 10, .inr (.inr (.inr (.inr (fun _ => none))))))]) hP hD [0] [1] rfl rfl (by decide) (by decide) hk1 hFc hB.1 hB.2
  generalize H1 = H at hP hS ⊢
  have hP : va_P D vwCl [(v, .inr (1, fs)), (q, .inr (0, [.int mc, .ref ra, .int 0])), (ra, .inl (cs.2.1, 10, .inr (.inr (.inr (.inr (fun _ => none))))))] H := hP
  have hD : va_D A [(v, .inr (1, fs)), (q, .inr (0, [.int mc, .ref ra, .int 0])), (ra, .inl (cs.2.1, 10, .inr (.inr (.inr (.inr (fun _ => none))))))] := hD
  refine lv_astore_n (lv' := [(2, .ref ra), (0, .ref q), (1, .ref v), (3, .int 0)]) hx hb dJx4a65c_add_72be8_10 rfl hl (by decide) rfl (fun ls hl => ?_)
  refine lv_aload_n hx hb dJx4a65c_add_72be8_11 rfl (lv_at hl 0 rfl) ?_
  refine lv_iload_n hx hb dJx4a65c_add_72be8_12 rfl (lv_at hl 3 rfl) ?_
  refine lv_aload_n hx hb dJx4a65c_add_72be8_13 rfl (lv_at hl 2 rfl) ?_
  refine va_astqO (E := "java/lang/Object") hx hb hK hP hD hS 2 1 0 1 rfl rfl (hN (.castable "ShadowSociety$Member" "java/lang/Object") (by decide +kernel)) rfl rfl (by unfold vp_in; decide) dJx4a65c_add_72be8_14 (fun H locs hP hD hS => ?_)
  rw [show (0 : Int32).toNatClampNeg = 0 from rfl] at hP hD
  have hP : va_P D vwCl [(v, .inr (1, fs)), (q, .inr (0, [.int mc, .ref ra, .int 0])), (ra, .inl (cs.2.1, 10, .inr (.inr (.inr (.inr (va_up (fun _ => none) 0 (some v)))))))] H := hP
  have hD : va_D A [(v, .inr (1, fs)), (q, .inr (0, [.int mc, .ref ra, .int 0])), (ra, .inl (cs.2.1, 10, .inr (.inr (.inr (.inr (va_up (fun _ => none) 0 (some v)))))))] := hD
  refine lv_aload_n hx hb dJx4a65c_add_72be8_15 rfl (lv_at hl 1 rfl) ?_
  refine lv_iload_n hx hb dJx4a65c_add_72be8_16 rfl (lv_at hl 3 rfl) ?_
  refine lv_iconst (v := 1) hx hb dJx4a65c_add_72be8_17 (by decide) ?_
  refine lv_iadd hx hb dJx4a65c_add_72be8_18 ?_
  refine va_put (D := D) (ci := 0) (v := .int (0 + 1)) (ty := .int) (C := RJx4a65c) (T := TJx4a65c) (N := 3) hx hb hts in_Jx4a65c_add_72be8_Jx4a65c tyJx4a65c tyJx4a65c_ok nmJx4a65c hown hK hP hD hS 1 rfl rfl 2 (by decide) (hts (.fieldLink RJx4a65c 48 "java/util/ArrayList" "size" "I") (List.mem_of_getElem? (i := 1) (by decide +kernel))) (fun _ h9 => h9) rfl (by decide +kernel) rfl rfl (Nat.le_of_ble_eq_true rfl) dJx4a65c_add_72be8_19 (fun H locs hP hD hS => ?_)
  have hP : va_P D vwCl [(v, .inr (1, fs)), (q, .inr (0, [.int mc, .ref ra, .int (0 + 1)])), (ra, .inl (cs.2.1, 10, .inr (.inr (.inr (.inr (va_up (fun _ => none) 0 (some v)))))))] H := hP
  have hD : va_D A [(v, .inr (1, fs)), (q, .inr (0, [.int mc, .ref ra, .int (0 + 1)])), (ra, .inl (cs.2.1, 10, .inr (.inr (.inr (.inr (va_up (fun _ => none) 0 (some v)))))))] := hD
  refine W.widen (k := 1) (n := 10) (Nat.le_of_ble_eq_true rfl) (Nat.le_of_ble_eq_true rfl) ?_
  exact W.vret hx hb hr (fun t ht hW => ⟨⟨ra, rfl, trivial, by show va_P D vwCl _ t.heap ∧ _; rw [ht]; exact ⟨hP, hD⟩⟩, hS.F ht⟩) hS.2.2 dJx4a65c_add_72be8_22
set_option maxHeartbeats 4000000 in
set_option maxRecDepth 100000 in
/-- ArrayList.add(v, elementData, k): there is room -/
theorem c_Jx4a65c_add3A (l : Launch) (D : va_G) (cs : Cs) (H0 : Heap) (q v ea : Nat) (mc : Int32) (fs : List Value) (k : Nat) (f : Nat → Option Nat) (hk : k < 10) : Met l yJx4a65c_add_72be8 wsJx4a65c_add_72be8 ({ frames := 0, cells := 0, slots := 0, locals := 0 }) (va_Pc [.ref q, .ref v, .ref ea, .int (nI k)] (LBp D cs [(q, .inr (0, [.int mc, .ref ea, .int (nI k)])), (ea, .inl (cs.2.1, 10, .inr (.inr (.inr (.inr f))))), (v, .inr (1, fs))] H0 (E0))) (va_Qv (fun _ : Unit => True) (fun (_ : Unit) t => va_P D vwCl [(q, .inr (0, [.int mc, .ref ea, .int ((nI k) + 1)])), (ea, .inl (cs.2.1, 10, .inr (.inr (.inr (.inr (va_up (f) k (some v))))))), (v, .inr (1, fs))] t.heap ∧ va_D (va_A [(q, .inr (0, [.int mc, .ref ea, .int (nI k)])), (ea, .inl (cs.2.1, 10, .inr (.inr (.inr (.inr f))))), (v, .inr (1, fs))] H0.size) [(q, .inr (0, [.int mc, .ref ea, .int ((nI k) + 1)])), (ea, .inl (cs.2.1, 10, .inr (.inr (.inr (.inr (va_up (f) k (some v))))))), (v, .inr (1, fs))]) (va_A [(q, .inr (0, [.int mc, .ref ea, .int (nI k)])), (ea, .inl (cs.2.1, 10, .inr (.inr (.inr (.inr f))))), (v, .inr (1, fs))] H0.size)) 0 0 (va_A [(q, .inr (0, [.int mc, .ref ea, .int (nI k)])), (ea, .inl (cs.2.1, 10, .inr (.inr (.inr (.inr f))))), (v, .inr (1, fs))] H0.size) := by
  refine Met.ofW (cc := cJx4a65c_add_72be8) (maxL := 4) (ret := none) (by decide) rfl ?_
  intro p e s m args below meth c s₁ B0 hml hv
  obtain ⟨rfl, ⟨⟨hH, hP, hD0⟩, hK, hN⟩, hE⟩ := hv
  subst hH
  have hx := B0.exec
  have hb := B0.bytes
  have hr := B0.returns
  have hts := atoms_spec (ws := wsJx4a65c_add_72be8) B0.pre
  have hown : s.vm.findClass RJx4a65c = some m.cls := findClass_of_methodNamed B0.named
  have hlocks := B0.notSynchronized
  have hD := hD0.self (sz := s.heap.size)
  generalize hAe : va_A [(q, .inr (0, [.int mc, .ref ea, .int (nI k)])), (ea, .inl (cs.2.1, 10, .inr (.inr (.inr (.inr f))))), (v, .inr (1, fs))] s.heap.size = A at hD ⊢
  have hA : ∀ q : Nat, s.heap.size ≤ q → A q := fun q h => by rw [← hAe]; exact Or.inr h
  have hS : va_S A s.heap s.heap [] := va_S.rf
  have hl := lv_entry ([.ref q, .ref v, .ref ea, .int (nI k)]) (n := 4) (Nat.le_of_ble_eq_true rfl)
  rw [lg_entry_eq]
  generalize (lg_sl ([.ref q, .ref v, .ref ea, .int (nI k)]) ++ List.replicate (4 - (lg_sl ([.ref q, .ref v, .ref ea, .int (nI k)])).length) Slot.unset).toArray = ls at hl ⊢
  have hl : lv_has ls 4 [(0, .ref q), (1, .ref v), (2, .ref ea), (3, .int (nI k))] := hl
  refine lv_iload_n hx hb dJx4a65c_add_72be8_0 rfl (lv_at hl 3 rfl) ?_
  refine lv_aload_n hx hb dJx4a65c_add_72be8_1 rfl (lv_at hl 2 rfl) ?_
  refine va_alen (v := 10) hx hb hK hP 1 1 rfl rfl rfl dJx4a65c_add_72be8_2 ?_
  refine lv_icmp_ne (tgt := 11) hx hb dJx4a65c_add_72be8_3 (by decide) (fun _ => ?_) (fun c9 => absurd c9 (fun q => absurd ((nI_eq (a := k) (b := 10) (by omega) (by omega)).mp q) (by omega)))
  refine lv_aload_n hx hb dJx4a65c_add_72be8_11 rfl (lv_at hl 2 rfl) ?_
  refine lv_iload_n hx hb dJx4a65c_add_72be8_12 rfl (lv_at hl 3 rfl) ?_
  refine lv_aload_n hx hb dJx4a65c_add_72be8_13 rfl (lv_at hl 1 rfl) ?_
  refine va_astqO (E := "java/lang/Object") hx hb hK hP hD hS 1 1 2 1 rfl rfl (hN (.castable "ShadowSociety$Member" "java/lang/Object") (by decide +kernel)) rfl rfl (vp_in_nI hk (by omega)) dJx4a65c_add_72be8_14 (fun H locs hP hD hS => ?_)
  rw [show (nI k : Int32).toNatClampNeg = k from nI_clamp (by omega)] at hP hD
  have hP : va_P D vwCl [(q, .inr (0, [.int mc, .ref ea, .int (nI k)])), (ea, .inl (cs.2.1, 10, .inr (.inr (.inr (.inr (va_up (f) k (some v))))))), (v, .inr (1, fs))] H := hP
  have hD : va_D A [(q, .inr (0, [.int mc, .ref ea, .int (nI k)])), (ea, .inl (cs.2.1, 10, .inr (.inr (.inr (.inr (va_up (f) k (some v))))))), (v, .inr (1, fs))] := hD
  refine lv_aload_n hx hb dJx4a65c_add_72be8_15 rfl (lv_at hl 0 rfl) ?_
  refine lv_iload_n hx hb dJx4a65c_add_72be8_16 rfl (lv_at hl 3 rfl) ?_
  refine lv_iconst (v := 1) hx hb dJx4a65c_add_72be8_17 (by decide) ?_
  refine lv_iadd hx hb dJx4a65c_add_72be8_18 ?_
  refine va_put (D := D) (ci := 0) (v := .int ((nI k) + 1)) (ty := .int) (C := RJx4a65c) (T := TJx4a65c) (N := 3) hx hb hts in_Jx4a65c_add_72be8_Jx4a65c tyJx4a65c tyJx4a65c_ok nmJx4a65c hown hK hP hD hS 0 rfl rfl 2 (by decide) (hts (.fieldLink RJx4a65c 48 "java/util/ArrayList" "size" "I") (List.mem_of_getElem? (i := 1) (by decide +kernel))) (fun _ h9 => h9) rfl (by decide +kernel) rfl rfl (Nat.le_of_ble_eq_true rfl) dJx4a65c_add_72be8_19 (fun H locs hP hD hS => ?_)
  have hP : va_P D vwCl [(q, .inr (0, [.int mc, .ref ea, .int ((nI k) + 1)])), (ea, .inl (cs.2.1, 10, .inr (.inr (.inr (.inr (va_up (f) k (some v))))))), (v, .inr (1, fs))] H := hP
  have hD : va_D A [(q, .inr (0, [.int mc, .ref ea, .int ((nI k) + 1)])), (ea, .inl (cs.2.1, 10, .inr (.inr (.inr (.inr (va_up (f) k (some v))))))), (v, .inr (1, fs))] := hD
  exact W.vret hx hb hr (fun t ht hW => ⟨⟨(), rfl, trivial, by show va_P D vwCl _ t.heap ∧ _; rw [ht]; exact ⟨hP, hD⟩⟩, hS.F ht⟩) hS.2.2 dJx4a65c_add_72be8_22
theorem in_Jx4a65c_add_9ea2d_Jx4a65c : ∀ w ∈ wsJx4a65c0, w ∈ wsJx4a65c_add_9ea2d := by decide +kernel
set_option maxHeartbeats 4000000 in
set_option maxRecDepth 100000 in
/-- ArrayList.add(v): the first -/
theorem c_Jx4a65c_addB (l : Launch) (D : va_G) (cs : Cs) (H0 : Heap) (q v e0 : Nat) (mc : Int32) (fs : List Value) : Met l yJx4a65c_add_9ea2d wsJx4a65c_add_9ea2d ({ frames := 4, cells := 1, slots := 10, locals := 80 }) (va_Pc [.ref q, .ref v] (LBp D cs [(q, .inr (0, [.int mc, .ref e0, .int 0])), (v, .inr (1, fs))] H0 (DefP (va_A [(q, .inr (0, [.int mc, .ref e0, .int 0])), (v, .inr (1, fs))] H0.size) e0))) (va_Qi (fun (_ : Int32) (_ : Nat) => True) (fun (ra : Nat) t => va_P D vwCl [(v, .inr (1, fs)), (q, .inr (0, [.int (mc + 1), .ref ra, .int (0 + 1)])), (ra, .inl (cs.2.1, 10, .inr (.inr (.inr (.inr (va_up (fun _ => none) 0 (some v)))))))] t.heap ∧ va_D (va_A [(q, .inr (0, [.int mc, .ref e0, .int 0])), (v, .inr (1, fs))] H0.size) [(v, .inr (1, fs)), (q, .inr (0, [.int (mc + 1), .ref ra, .int (0 + 1)])), (ra, .inl (cs.2.1, 10, .inr (.inr (.inr (.inr (va_up (fun _ => none) 0 (some v)))))))]) (va_A [(q, .inr (0, [.int mc, .ref e0, .int 0])), (v, .inr (1, fs))] H0.size)) 1 10 (va_A [(q, .inr (0, [.int mc, .ref e0, .int 0])), (v, .inr (1, fs))] H0.size) := by
  refine Met.ofW (cc := cJx4a65c_add_9ea2d) (maxL := 2) (ret := (some .boolean)) (by decide) rfl ?_
  intro p e s m args below meth c s₁ B0 hml hv
  obtain ⟨rfl, ⟨⟨hH, hP, hD0⟩, hK, hN⟩, hE⟩ := hv
  subst hH
  have hx := B0.exec
  have hb := B0.bytes
  have hr := B0.returns
  have hts := atoms_spec (ws := wsJx4a65c_add_9ea2d) B0.pre
  have hown : s.vm.findClass RJx4a65c = some m.cls := findClass_of_methodNamed B0.named
  have hlocks := B0.notSynchronized
  have hD := hD0.self (sz := s.heap.size)
  generalize hAe : va_A [(q, .inr (0, [.int mc, .ref e0, .int 0])), (v, .inr (1, fs))] s.heap.size = A at hD ⊢
  have hA : ∀ q : Nat, s.heap.size ≤ q → A q := fun q h => by rw [← hAe]; exact Or.inr h
  have hS : va_S A s.heap s.heap [] := va_S.rf
  have hl := lv_entry ([.ref q, .ref v]) (n := 2) (Nat.le_of_ble_eq_true rfl)
  rw [lg_entry_eq]
  generalize (lg_sl ([.ref q, .ref v]) ++ List.replicate (2 - (lg_sl ([.ref q, .ref v])).length) Slot.unset).toArray = ls at hl ⊢
  have hl : lv_has ls 2 [(0, .ref q), (1, .ref v)] := hl
  refine lv_aload_n hx hb dJx4a65c_add_9ea2d_0 rfl (lv_at hl 0 rfl) ?_
  refine lv_dup hx hb dJx4a65c_add_9ea2d_1 rfl ?_
  refine va_get (D := D) (ci := 0) (v := .int mc) (C := RJx4a65c) (T := TJx4a65c) (N := 3) hx hb hts in_Jx4a65c_add_9ea2d_Jx4a65c hown hK hP 0 rfl rfl 0 (by decide) (hts (.fieldLink RJx4a65c 63 "java/util/ArrayList" "modCount" "I") (List.mem_of_getElem? (i := 1) (by decide +kernel))) (fun x h9 => u_same (hts (.sameField "java/util/ArrayList" "java/util/AbstractList" "modCount" "I") (List.mem_of_getElem? (i := 2) (by decide +kernel))) x h9) rfl dJx4a65c_add_9ea2d_2 ?_
  refine lv_iconst (v := 1) hx hb dJx4a65c_add_9ea2d_5 (by decide) ?_
  refine lv_iadd hx hb dJx4a65c_add_9ea2d_6 ?_
  refine va_put (D := D) (ci := 0) (v := .int (mc + 1)) (ty := .int) (C := RJx4a65c) (T := TJx4a65c) (N := 3) hx hb hts in_Jx4a65c_add_9ea2d_Jx4a65c tyJx4a65c tyJx4a65c_ok nmJx4a65c hown hK hP hD hS 0 rfl rfl 0 (by decide) (hts (.fieldLink RJx4a65c 63 "java/util/ArrayList" "modCount" "I") (List.mem_of_getElem? (i := 1) (by decide +kernel))) (fun x h9 => u_same (hts (.sameField "java/util/ArrayList" "java/util/AbstractList" "modCount" "I") (List.mem_of_getElem? (i := 2) (by decide +kernel))) x h9) rfl (by decide +kernel) rfl rfl (Nat.le_of_ble_eq_true rfl) dJx4a65c_add_9ea2d_7 (fun H locs hP hD hS => ?_)
  have hP : va_P D vwCl [(q, .inr (0, [.int (mc + 1), .ref e0, .int 0])), (v, .inr (1, fs))] H := hP
  have hD : va_D A [(q, .inr (0, [.int (mc + 1), .ref e0, .int 0])), (v, .inr (1, fs))] := hD
  refine lv_aload_n hx hb dJx4a65c_add_9ea2d_10 rfl (lv_at hl 0 rfl) ?_
  refine lv_aload_n hx hb dJx4a65c_add_9ea2d_11 rfl (lv_at hl 1 rfl) ?_
  refine lv_aload_n hx hb dJx4a65c_add_9ea2d_12 rfl (lv_at hl 0 rfl) ?_
  refine va_get (D := D) (ci := 0) (v := .ref e0) (C := RJx4a65c) (T := TJx4a65c) (N := 3) hx hb hts in_Jx4a65c_add_9ea2d_Jx4a65c hown hK hP 0 rfl rfl 1 (by decide) (hts (.fieldLink RJx4a65c 9 "java/util/ArrayList" "elementData" "[Ljava/lang/Object;") (List.mem_of_getElem? (i := 3) (by decide +kernel))) (fun _ h9 => h9) rfl dJx4a65c_add_9ea2d_13 ?_
  refine lv_aload_n hx hb dJx4a65c_add_9ea2d_16 rfl (lv_at hl 0 rfl) ?_
  refine va_get (D := D) (ci := 0) (v := .int 0) (C := RJx4a65c) (T := TJx4a65c) (N := 3) hx hb hts in_Jx4a65c_add_9ea2d_Jx4a65c hown hK hP 0 rfl rfl 2 (by decide) (hts (.fieldLink RJx4a65c 48 "java/util/ArrayList" "size" "I") (List.mem_of_getElem? (i := 4) (by decide +kernel))) (fun _ h9 => h9) rfl dJx4a65c_add_9ea2d_17 ?_
  have hPc := hP.sub (ws' := [(q, .inr (0, [.int (mc + 1), .ref e0, .int 0])), (v, .inr (1, fs))]) [0, 1] rfl
  have hDc := hD.sub (ws' := [(q, .inr (0, [.int (mc + 1), .ref e0, .int 0])), (v, .inr (1, fs))]) [0, 1] (by decide) rfl
  have hFc := va_free (wc := [(q, .inr (0, [.int (mc + 1), .ref e0, .int 0])), (v, .inr (1, fs))]) hD hS hA [0, 1] rfl
  refine va_callv (va_runV (As := [.ref v, .ref e0, .int 0]) (rest := []) ⟨hx, hb, hml, hown, hts⟩ (c_Jx4a65c_add3B l D cs H q v e0 (mc + 1) fs) (cwV 3 hts gJx4a65c_add_9ea2d_Jx4a65c_add_72be8 rfl rfl rfl (by decide +kernel) ⟨Nat.le_of_ble_eq_true rfl, Nat.le_of_ble_eq_true rfl⟩) (lb_V hK hN hPc hDc DefP_b (fun U hU hW => hE.move hW.alike (fun q h1 h2 => by rw [hU]; first | done | exact hS.2.1 q h1 (by rw [hAe] at h2; exact h2)) (fun q h => by rw [hAe]; exact hFc q h)) (va_recv hK hPc (ci := 0) (q0 := 0) rfl rfl)) rfl rfl hl.1 rfl (lv_room (Nat.le_of_ble_eq_true rfl)) dJx4a65c_add_9ea2d_20 ⟨Nat.le_of_ble_eq_true rfl, Nat.le_of_ble_eq_true rfl⟩) hS (fun q _ h => hFc q h) hFc (fun ra t H1 locs ht hvm hw hB hz1 hk1 hS => ?_)
  rw [ht] at hB
  obtain ⟨hP, hD⟩ := va_join (wr := []) (w1 := [(v, .inr (1, fs)), (q, .inr (0, [.int (mc + 1), .ref ra, .int (0 + 1)])), (ra, .inl (cs.2.1, 10, .inr (.inr (.inr (.inr (va_up (fun _ => none) 0 (some v)))))))]) hP hD [0, 1] [] rfl rfl (by decide) (by decide) hk1 hFc hB.1 hB.2
  generalize H1 = H at hP hS ⊢
  have hP : va_P D vwCl [(v, .inr (1, fs)), (q, .inr (0, [.int (mc + 1), .ref ra, .int (0 + 1)])), (ra, .inl (cs.2.1, 10, .inr (.inr (.inr (.inr (va_up (fun _ => none) 0 (some v)))))))] H := hP
  have hD : va_D A [(v, .inr (1, fs)), (q, .inr (0, [.int (mc + 1), .ref ra, .int (0 + 1)])), (ra, .inl (cs.2.1, 10, .inr (.inr (.inr (.inr (va_up (fun _ => none) 0 (some v)))))))] := hD
  refine lv_iconst (v := 1) hx hb dJx4a65c_add_9ea2d_23 (by decide) ?_
  refine W.widen (k := 1) (n := 10) (Nat.le_of_ble_eq_true rfl) (Nat.le_of_ble_eq_true rfl) ?_
  exact W.zret (ty := .boolean) (v := 1) hx hb hr rfl (fun t ht hW => ⟨⟨_, ra, rfl, trivial, by show va_P D vwCl _ t.heap ∧ _; rw [ht]; exact ⟨hP, hD⟩⟩, hS.F ht⟩) hS.2.2 dJx4a65c_add_9ea2d_24
set_option maxHeartbeats 4000000 in
set_option maxRecDepth 100000 in
/-- ArrayList.add(v): there is room -/
theorem c_Jx4a65c_addA (l : Launch) (D : va_G) (cs : Cs) (H0 : Heap) (q v ea : Nat) (mc : Int32) (fs : List Value) (k : Nat) (f : Nat → Option Nat) (hk : k < 10) : Met l yJx4a65c_add_9ea2d wsJx4a65c_add_9ea2d ({ frames := 1, cells := 0, slots := 0, locals := 23 }) (va_Pc [.ref q, .ref v] (LBp D cs [(q, .inr (0, [.int mc, .ref ea, .int (nI k)])), (ea, .inl (cs.2.1, 10, .inr (.inr (.inr (.inr f))))), (v, .inr (1, fs))] H0 (E0))) (va_Qi (fun (_ : Int32) (_ : Unit) => True) (fun (_ : Unit) t => va_P D vwCl [(q, .inr (0, [.int (mc + 1), .ref ea, .int (nI k + 1)])), (ea, .inl (cs.2.1, 10, .inr (.inr (.inr (.inr (va_up (f) k (some v))))))), (v, .inr (1, fs))] t.heap ∧ va_D (va_A [(q, .inr (0, [.int mc, .ref ea, .int (nI k)])), (ea, .inl (cs.2.1, 10, .inr (.inr (.inr (.inr f))))), (v, .inr (1, fs))] H0.size) [(q, .inr (0, [.int (mc + 1), .ref ea, .int (nI k + 1)])), (ea, .inl (cs.2.1, 10, .inr (.inr (.inr (.inr (va_up (f) k (some v))))))), (v, .inr (1, fs))]) (va_A [(q, .inr (0, [.int mc, .ref ea, .int (nI k)])), (ea, .inl (cs.2.1, 10, .inr (.inr (.inr (.inr f))))), (v, .inr (1, fs))] H0.size)) 0 0 (va_A [(q, .inr (0, [.int mc, .ref ea, .int (nI k)])), (ea, .inl (cs.2.1, 10, .inr (.inr (.inr (.inr f))))), (v, .inr (1, fs))] H0.size) := by
  refine Met.ofW (cc := cJx4a65c_add_9ea2d) (maxL := 2) (ret := (some .boolean)) (by decide) rfl ?_
  intro p e s m args below meth c s₁ B0 hml hv
  obtain ⟨rfl, ⟨⟨hH, hP, hD0⟩, hK, hN⟩, hE⟩ := hv
  subst hH
  have hx := B0.exec
  have hb := B0.bytes
  have hr := B0.returns
  have hts := atoms_spec (ws := wsJx4a65c_add_9ea2d) B0.pre
  have hown : s.vm.findClass RJx4a65c = some m.cls := findClass_of_methodNamed B0.named
  have hlocks := B0.notSynchronized
  have hD := hD0.self (sz := s.heap.size)
  generalize hAe : va_A [(q, .inr (0, [.int mc, .ref ea, .int (nI k)])), (ea, .inl (cs.2.1, 10, .inr (.inr (.inr (.inr f))))), (v, .inr (1, fs))] s.heap.size = A at hD ⊢
  have hA : ∀ q : Nat, s.heap.size ≤ q → A q := fun q h => by rw [← hAe]; exact Or.inr h
  have hS : va_S A s.heap s.heap [] := va_S.rf
  have hl := lv_entry ([.ref q, .ref v]) (n := 2) (Nat.le_of_ble_eq_true rfl)
  rw [lg_entry_eq]
  generalize (lg_sl ([.ref q, .ref v]) ++ List.replicate (2 - (lg_sl ([.ref q, .ref v])).length) Slot.unset).toArray = ls at hl ⊢
  have hl : lv_has ls 2 [(0, .ref q), (1, .ref v)] := hl
  refine lv_aload_n hx hb dJx4a65c_add_9ea2d_0 rfl (lv_at hl 0 rfl) ?_
  refine lv_dup hx hb dJx4a65c_add_9ea2d_1 rfl ?_
  refine va_get (D := D) (ci := 0) (v := .int mc) (C := RJx4a65c) (T := TJx4a65c) (N := 3) hx hb hts in_Jx4a65c_add_9ea2d_Jx4a65c hown hK hP 0 rfl rfl 0 (by decide) (hts (.fieldLink RJx4a65c 63 "java/util/ArrayList" "modCount" "I") (List.mem_of_getElem? (i := 1) (by decide +kernel))) (fun x h9 => u_same (hts (.sameField "java/util/ArrayList" "java/util/AbstractList" "modCount" "I") (List.mem_of_getElem? (i := 2) (by decide +kernel))) x h9) rfl dJx4a65c_add_9ea2d_2 ?_
  refine lv_iconst (v := 1) hx hb dJx4a65c_add_9ea2d_5 (by decide) ?_
  refine lv_iadd hx hb dJx4a65c_add_9ea2d_6 ?_
  refine va_put (D := D) (ci := 0) (v := .int (mc + 1)) (ty := .int) (C := RJx4a65c) (T := TJx4a65c) (N := 3) hx hb hts in_Jx4a65c_add_9ea2d_Jx4a65c tyJx4a65c tyJx4a65c_ok nmJx4a65c hown hK hP hD hS 0 rfl rfl 0 (by decide) (hts (.fieldLink RJx4a65c 63 "java/util/ArrayList" "modCount" "I") (List.mem_of_getElem? (i := 1) (by decide +kernel))) (fun x h9 => u_same (hts (.sameField "java/util/ArrayList" "java/util/AbstractList" "modCount" "I") (List.mem_of_getElem? (i := 2) (by decide +kernel))) x h9) rfl (by decide +kernel) rfl rfl (Nat.le_of_ble_eq_true rfl) dJx4a65c_add_9ea2d_7 (fun H locs hP hD hS => ?_)
  have hP : va_P D vwCl [(q, .inr (0, [.int (mc + 1), .ref ea, .int (nI k)])), (ea, .inl (cs.2.1, 10, .inr (.inr (.inr (.inr f))))), (v, .inr (1, fs))] H := hP
  have hD : va_D A [(q, .inr (0, [.int (mc + 1), .ref ea, .int (nI k)])), (ea, .inl (cs.2.1, 10, .inr (.inr (.inr (.inr f))))), (v, .inr (1, fs))] := hD
  refine lv_aload_n hx hb dJx4a65c_add_9ea2d_10 rfl (lv_at hl 0 rfl) ?_
  refine lv_aload_n hx hb dJx4a65c_add_9ea2d_11 rfl (lv_at hl 1 rfl) ?_
  refine lv_aload_n hx hb dJx4a65c_add_9ea2d_12 rfl (lv_at hl 0 rfl) ?_
  refine va_get (D := D) (ci := 0) (v := .ref ea) (C := RJx4a65c) (T := TJx4a65c) (N := 3) hx hb hts in_Jx4a65c_add_9ea2d_Jx4a65c hown hK hP 0 rfl rfl 1 (by decide) (hts (.fieldLink RJx4a65c 9 "java/util/ArrayList" "elementData" "[Ljava/lang/Object;") (List.mem_of_getElem? (i := 3) (by decide +kernel))) (fun _ h9 => h9) rfl dJx4a65c_add_9ea2d_13 ?_
  refine lv_aload_n hx hb dJx4a65c_add_9ea2d_16 rfl (lv_at hl 0 rfl) ?_
  refine va_get (D := D) (ci := 0) (v := .int (nI k)) (C := RJx4a65c) (T := TJx4a65c) (N := 3) hx hb hts in_Jx4a65c_add_9ea2d_Jx4a65c hown hK hP 0 rfl rfl 2 (by decide) (hts (.fieldLink RJx4a65c 48 "java/util/ArrayList" "size" "I") (List.mem_of_getElem? (i := 4) (by decide +kernel))) (fun _ h9 => h9) rfl dJx4a65c_add_9ea2d_17 ?_
  have hPc := hP.sub (ws' := [(q, .inr (0, [.int (mc + 1), .ref ea, .int (nI k)])), (ea, .inl (cs.2.1, 10, .inr (.inr (.inr (.inr f))))), (v, .inr (1, fs))]) [0, 1, 2] rfl
  have hDc := hD.sub (ws' := [(q, .inr (0, [.int (mc + 1), .ref ea, .int (nI k)])), (ea, .inl (cs.2.1, 10, .inr (.inr (.inr (.inr f))))), (v, .inr (1, fs))]) [0, 1, 2] (by decide) rfl
  have hFc := va_free (wc := [(q, .inr (0, [.int (mc + 1), .ref ea, .int (nI k)])), (ea, .inl (cs.2.1, 10, .inr (.inr (.inr (.inr f))))), (v, .inr (1, fs))]) hD hS hA [0, 1, 2] rfl
  refine va_callv (va_runV (As := [.ref v, .ref ea, .int (nI k)]) (rest := []) ⟨hx, hb, hml, hown, hts⟩ (c_Jx4a65c_add3A l D cs H q v ea (mc + 1) fs k f hk) (cwV 3 hts gJx4a65c_add_9ea2d_Jx4a65c_add_72be8 rfl rfl rfl (by decide +kernel) ⟨Nat.le_of_ble_eq_true rfl, Nat.le_of_ble_eq_true rfl⟩) (lb_V hK hN hPc hDc E0_b (fun _ _ _ => trivial) (va_recv hK hPc (ci := 0) (q0 := 0) rfl rfl)) rfl rfl hl.1 rfl (lv_room (Nat.le_of_ble_eq_true rfl)) dJx4a65c_add_9ea2d_20 ⟨Nat.le_of_ble_eq_true rfl, Nat.le_of_ble_eq_true rfl⟩) hS (fun q _ h => hFc q h) hFc (fun u t H1 locs ht hvm hw hB hz1 hk1 hS => ?_)
  rw [ht] at hB
  obtain ⟨hP, hD⟩ := va_join (wr := []) (w1 := [(q, .inr (0, [.int (mc + 1), .ref ea, .int (nI k + 1)])), (ea, .inl (cs.2.1, 10, .inr (.inr (.inr (.inr (va_up (f) k (some v))))))), (v, .inr (1, fs))]) hP hD [0, 1, 2] [] rfl rfl (by decide) (by decide) hk1 hFc hB.1 hB.2
  generalize H1 = H at hP hS ⊢
  have hP : va_P D vwCl [(q, .inr (0, [.int (mc + 1), .ref ea, .int (nI k + 1)])), (ea, .inl (cs.2.1, 10, .inr (.inr (.inr (.inr (va_up (f) k (some v))))))), (v, .inr (1, fs))] H := hP
  have hD : va_D A [(q, .inr (0, [.int (mc + 1), .ref ea, .int (nI k + 1)])), (ea, .inl (cs.2.1, 10, .inr (.inr (.inr (.inr (va_up (f) k (some v))))))), (v, .inr (1, fs))] := hD
  refine lv_iconst (v := 1) hx hb dJx4a65c_add_9ea2d_23 (by decide) ?_
  exact W.zret (ty := .boolean) (v := 1) hx hb hr rfl (fun t ht hW => ⟨⟨_, (), rfl, trivial, by show va_P D vwCl _ t.heap ∧ _; rw [ht]; exact ⟨hP, hD⟩⟩, hS.F ht⟩) hS.2.2 dJx4a65c_add_9ea2d_24
theorem in_X1_init_Jx4a65c : ∀ w ∈ wsJx4a65c0, w ∈ wsX1_init := by decide +kernel
theorem in_X1_init_X1 : ∀ w ∈ wsX10, w ∈ wsX1_init := by decide +kernel
set_option maxHeartbeats 4000000 in
set_option maxRecDepth 100000 in
/-- ShadowSociety() -/
theorem c_X1_init (l : Launch) (D : va_G) (cs : Cs) (H0 : Heap) (x e0 : Nat) : Met l yX1_init wsX1_init ({ frames := 4, cells := 1, slots := 3, locals := 72 }) (va_Pc [.ref x] (LBp D cs [(x, .inr (2, [.null, .int 0, .int 0, .int 0]))] H0 (DefP (va_A [(x, .inr (2, [.null, .int 0, .int 0, .int 0]))] H0.size) e0))) (va_Qv (fun _ : Nat => True) (fun (q : Nat) t => va_P D vwCl [(x, .inr (2, [.ref q, .int 0, .int 0, .int 0])), (q, .inr (0, [.int 0, .ref e0, .int 0]))] t.heap ∧ va_D (va_A [(x, .inr (2, [.null, .int 0, .int 0, .int 0]))] H0.size) [(x, .inr (2, [.ref q, .int 0, .int 0, .int 0])), (q, .inr (0, [.int 0, .ref e0, .int 0]))]) (va_A [(x, .inr (2, [.null, .int 0, .int 0, .int 0]))] H0.size)) 1 3 (va_A [(x, .inr (2, [.null, .int 0, .int 0, .int 0]))] H0.size) := by
  refine Met.ofW (cc := cX1_init) (maxL := 1) (ret := none) (by decide) rfl ?_
  intro p e s m args below meth c s₁ B0 hml hv
  obtain ⟨rfl, ⟨⟨hH, hP, hD0⟩, hK, hN⟩, hE⟩ := hv
  subst hH
  have hx := B0.exec
  have hb := B0.bytes
  have hr := B0.returns
  have hts := atoms_spec (ws := wsX1_init) B0.pre
  have hown : s.vm.findClass RX1 = some m.cls := findClass_of_methodNamed B0.named
  have hlocks := B0.notSynchronized
  have hin : meth.name = "<init>" := (name_of_methodNamed B0.named B0.method).1
  have hD := hD0.self (sz := s.heap.size)
  generalize hAe : va_A [(x, .inr (2, [.null, .int 0, .int 0, .int 0]))] s.heap.size = A at hD ⊢
  have hA : ∀ q : Nat, s.heap.size ≤ q → A q := fun q h => by rw [← hAe]; exact Or.inr h
  have hS : va_S A s.heap s.heap [] := va_S.rf
  have hl := lv_entry ([.ref x]) (n := 1) (Nat.le_of_ble_eq_true rfl)
  rw [lg_entry_eq]
  generalize (lg_sl ([.ref x]) ++ List.replicate (1 - (lg_sl ([.ref x])).length) Slot.unset).toArray = ls at hl ⊢
  have hl : lv_has ls 1 [(0, .ref x)] := hl
  refine lv_aload_n hx hb dX1_init_0 rfl (lv_at hl 0 rfl) ?_
  refine W.objInit hx hb hown (hts (.methodLink RX1 1 objectInit) (List.mem_of_getElem? (i := 1) (by decide +kernel))) (hts (.instanceMethod objectInit) (List.mem_of_getElem? (i := 2) (by decide +kernel))) (hts (.code objectInit ⟨#[0xb1]⟩ 1 none) (List.mem_of_getElem? (i := 3) (by decide +kernel))) rfl (by rw [hml]; exact hl.1) rfl dX1_init_1 (Nat.le_of_ble_eq_true rfl) (Nat.le_of_ble_eq_true rfl) ?_
  refine W.eq (g2 := F0 m 4 ls []) rfl ?_
  refine lv_aload_n hx hb dX1_init_4 rfl (lv_at hl 0 rfl) ?_
  refine va_new (ci := 0) (fs := [.int 0, .null, .int 0]) (C := RJx4a65c) (T := TJx4a65c) (N := 3) hx hb hts in_X1_init_Jx4a65c tyJx4a65c tyJx4a65c_ok hown (hts (.classLink RX1 7 RJx4a65c) (List.mem_of_getElem? (i := 4) (by decide +kernel))) (hts (.instantiable RJx4a65c 3) (List.mem_of_getElem? (i := 5) (by decide +kernel))) (hts (.initialized RJx4a65c) (List.mem_of_getElem? (i := 6) (by decide +kernel))) hK hP hD hS hA rfl (fun j hj => by rcases (show j = 0 ∨ j = 1 ∨ j = 2 by omega) with rfl | rfl | rfl <;> rfl) (Nat.le_of_ble_eq_true rfl) (Nat.le_of_ble_eq_true rfl) dX1_init_5 (fun q H hP hD hS => ?_)
  have hP : va_P D vwCl [(x, .inr (2, [.null, .int 0, .int 0, .int 0])), (q, .inr (0, [.int 0, .null, .int 0]))] H := hP
  have hD : va_D A [(x, .inr (2, [.null, .int 0, .int 0, .int 0])), (q, .inr (0, [.int 0, .null, .int 0]))] := hD
  refine lv_dup hx hb dX1_init_8 rfl ?_
  have hPc := hP.sub (ws' := [(q, .inr (0, [.int 0, .null, .int 0]))]) [1] rfl
  have hDc := hD.sub (ws' := [(q, .inr (0, [.int 0, .null, .int 0]))]) [1] (by decide) rfl
  have hFc := va_free (wc := [(q, .inr (0, [.int 0, .null, .int 0]))]) hD hS hA [1] rfl
  refine va_callv (va_runI (As := []) (rest := [.ref q, .ref x]) ⟨hx, hb, hml, hown, hts⟩ (c_Jx4a65c_init l D cs H q e0 0 0) (cwI 0 hts gX1_init_Jx4a65c_init_da8c8 rfl rfl rfl (hts (.initialized RJx4a65c) (List.mem_of_getElem? (i := 6) (by decide +kernel))) (hts (.methodLink RX1 9 yJx4a65c_init_da8c8) (List.mem_of_getElem? (i := 11) (by decide +kernel))) (hts (.instanceMethod yJx4a65c_init_da8c8) (List.mem_of_getElem? (i := 12) (by decide +kernel))) rfl (by decide +kernel) ⟨Nat.le_of_ble_eq_true rfl, Nat.le_of_ble_eq_true rfl⟩) (lb_I hK hN hPc hDc DefP_b (fun U hU hW => hE.move hW.alike (fun q h1 h2 => by rw [hU]; first | done | exact hS.2.1 q h1 (by rw [hAe] at h2; exact h2)) (fun q h => by rw [hAe]; exact hFc q h))) rfl rfl hl.1 rfl (lv_room (Nat.le_of_ble_eq_true rfl)) dX1_init_9 ⟨Nat.le_of_ble_eq_true rfl, Nat.le_of_ble_eq_true rfl⟩) hS (fun q _ h => hFc q h) hFc (fun u t H1 locs ht hvm hw hB hz1 hk1 hS => ?_)
  rw [ht] at hB
  obtain ⟨hP, hD⟩ := va_join (wr := [(x, .inr (2, [.null, .int 0, .int 0, .int 0]))]) (w1 := [(q, .inr (0, [.int 0, .ref e0, .int 0]))]) hP hD [1] [0] rfl rfl (by decide) (by decide) hk1 hFc hB.1 hB.2
  generalize H1 = H at hP hS ⊢
  have hP : va_P D vwCl [(x, .inr (2, [.null, .int 0, .int 0, .int 0])), (q, .inr (0, [.int 0, .ref e0, .int 0]))] H := hP
  have hD : va_D A [(x, .inr (2, [.null, .int 0, .int 0, .int 0])), (q, .inr (0, [.int 0, .ref e0, .int 0]))] := hD
  refine va_putF (D := D) (ci := 2) (v := .ref q) (ty := (.object "java/util/ArrayList")) (C := RX1) (T := TX1) (N := 4) hx hb hts in_X1_init_X1 tyX1 tyX1_ok nmX1 hown hK hP hD hS 0 rfl rfl 0 (by decide) (hts (.fieldLink RX1 10 "ShadowSociety" "roll" "Ljava/util/ArrayList;") (List.mem_of_getElem? (i := 7) (by decide +kernel))) (fun _ h9 => h9) rfl hin rfl (by decide +kernel) rfl rfl (Nat.le_of_ble_eq_true rfl) dX1_init_12 (fun H locs hP hD hS => ?_)
  have hP : va_P D vwCl [(x, .inr (2, [.ref q, .int 0, .int 0, .int 0])), (q, .inr (0, [.int 0, .ref e0, .int 0]))] H := hP
  have hD : va_D A [(x, .inr (2, [.ref q, .int 0, .int 0, .int 0])), (q, .inr (0, [.int 0, .ref e0, .int 0]))] := hD
  refine lv_aload_n hx hb dX1_init_15 rfl (lv_at hl 0 rfl) ?_
  refine lv_iconst (v := 0) hx hb dX1_init_16 (by decide) ?_
  refine va_put (D := D) (ci := 2) (v := .int 0) (ty := .int) (C := RX1) (T := TX1) (N := 4) hx hb hts in_X1_init_X1 tyX1 tyX1_ok nmX1 hown hK hP hD hS 0 rfl rfl 1 (by decide) (hts (.fieldLink RX1 16 "ShadowSociety" "now" "I") (List.mem_of_getElem? (i := 8) (by decide +kernel))) (fun _ h9 => h9) rfl (by decide +kernel) rfl rfl (Nat.le_of_ble_eq_true rfl) dX1_init_17 (fun H locs hP hD hS => ?_)
  have hP : va_P D vwCl [(x, .inr (2, [.ref q, .int 0, .int 0, .int 0])), (q, .inr (0, [.int 0, .ref e0, .int 0]))] H := hP
  have hD : va_D A [(x, .inr (2, [.ref q, .int 0, .int 0, .int 0])), (q, .inr (0, [.int 0, .ref e0, .int 0]))] := hD
  refine lv_aload_n hx hb dX1_init_20 rfl (lv_at hl 0 rfl) ?_
  refine lv_iconst (v := 0) hx hb dX1_init_21 (by decide) ?_
  refine va_put (D := D) (ci := 2) (v := .int 0) (ty := .int) (C := RX1) (T := TX1) (N := 4) hx hb hts in_X1_init_X1 tyX1 tyX1_ok nmX1 hown hK hP hD hS 0 rfl rfl 2 (by decide) (hts (.fieldLink RX1 20 "ShadowSociety" "seizedInAll" "I") (List.mem_of_getElem? (i := 9) (by decide +kernel))) (fun _ h9 => h9) rfl (by decide +kernel) rfl rfl (Nat.le_of_ble_eq_true rfl) dX1_init_22 (fun H locs hP hD hS => ?_)
  have hP : va_P D vwCl [(x, .inr (2, [.ref q, .int 0, .int 0, .int 0])), (q, .inr (0, [.int 0, .ref e0, .int 0]))] H := hP
  have hD : va_D A [(x, .inr (2, [.ref q, .int 0, .int 0, .int 0])), (q, .inr (0, [.int 0, .ref e0, .int 0]))] := hD
  refine lv_aload_n hx hb dX1_init_25 rfl (lv_at hl 0 rfl) ?_
  refine lv_iconst (v := 0) hx hb dX1_init_26 (by decide) ?_
  refine va_put (D := D) (ci := 2) (v := .int 0) (ty := .int) (C := RX1) (T := TX1) (N := 4) hx hb hts in_X1_init_X1 tyX1 tyX1_ok nmX1 hown hK hP hD hS 0 rfl rfl 3 (by decide) (hts (.fieldLink RX1 23 "ShadowSociety" "revokedInAll" "I") (List.mem_of_getElem? (i := 10) (by decide +kernel))) (fun _ h9 => h9) rfl (by decide +kernel) rfl rfl (Nat.le_of_ble_eq_true rfl) dX1_init_27 (fun H locs hP hD hS => ?_)
  have hP : va_P D vwCl [(x, .inr (2, [.ref q, .int 0, .int 0, .int 0])), (q, .inr (0, [.int 0, .ref e0, .int 0]))] H := hP
  have hD : va_D A [(x, .inr (2, [.ref q, .int 0, .int 0, .int 0])), (q, .inr (0, [.int 0, .ref e0, .int 0]))] := hD
  refine W.widen (k := 1) (n := 3) (Nat.le_of_ble_eq_true rfl) (Nat.le_of_ble_eq_true rfl) ?_
  exact W.vret hx hb hr (fun t ht hW => ⟨⟨q, rfl, trivial, by show va_P D vwCl _ t.heap ∧ _; rw [ht]; exact ⟨hP, hD⟩⟩, hS.F ht⟩) hS.2.2 dX1_init_30
