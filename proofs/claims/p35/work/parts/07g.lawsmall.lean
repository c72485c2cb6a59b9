/-! THE LAW'S SMALL METHODS -/
set_option maxHeartbeats 4000000 in
set_option maxRecDepth 100000 in
/-- a number below N that a number chooses -/
theorem c_L_below (l : Launch) (D : va_G) (cs : Cs) (v : Int32) (N : Nat) (h0 : 0 < N) (hN31 : N < 2 ^ 31) : Met l yL_below wsL_below ({ frames := 0, cells := 0, slots := 0, locals := 0 }) (va_Pc [.int v, .int (nI N)] (RBp D cs (fun _ => True))) (vp_Si (fun r : Int32 => ∃ j, j < N ∧ r = nI j)) 0 0 (fun _ => False) := by
  refine Met.ofW (cc := cL_below) (maxL := 2) (ret := (some .int)) (by decide) rfl ?_
  intro p e s m args below meth c s₁ B0 hml hv
  obtain ⟨rfl, -, hK, hN⟩ := hv
  have hx := B0.exec
  have hb := B0.bytes
  have hr := B0.returns
  have hts := atoms_spec (ws := wsL_below) B0.pre
  have hown : s.vm.findClass RL = some m.cls := findClass_of_methodNamed B0.named
  have hlocks := B0.notSynchronized
  have hl := lv_entry ([.int v, .int (nI N)]) (n := 2) (Nat.le_of_ble_eq_true rfl)
  rw [lg_entry_eq]
  generalize (lg_sl ([.int v, .int (nI N)]) ++ List.replicate (2 - (lg_sl ([.int v, .int (nI N)])).length) Slot.unset).toArray = ls at hl ⊢
  have hl : lv_has ls 2 [(0, .int v), (1, .int (nI N))] := hl
  refine lv_iload_n hx hb dL_below_0 rfl (lv_at hl 0 rfl) ?_
  refine lv_ldc (v := 2147483647) hx hb hown (hts (.constant RL 7 (2147483647)) (by decide +kernel)) dL_below_1 ?_
  refine lv_iand hx hb dL_below_3 ?_
  obtain ⟨a, ha, ea⟩ := pk_andE v (m := 2147483647) 31 (by decide +kernel)
  rw [ea]
  refine lv_iload_n hx hb dL_below_4 rfl (lv_at hl 1 rfl) ?_
  refine lv_irem hx hb dL_below_5 (nI_ne0 h0 hN31) ?_
  rw [pk_rem ha h0 hN31]
  exact W.iret (v := nI (a % N)) hx hb hr (fun t ht hW => ⟨_, rfl, ⟨a % N, Nat.mod_lt _ h0, rfl⟩, ht⟩) (fun q hq => absurd hq List.not_mem_nil) dL_below_6
theorem xx_blind {av : List Value} {b L : Nat} {xs : Nat → Int32} : FrameBlind (va_Pc av (fun U => va_X b L xs U U.heap)) :=
  fun a U g mk q => ⟨q.1, va_X.moved (u := U) (U := U.calling g mk a) (Vm.Alike.refl U.vm) q.2⟩
theorem xx_S {s : State} {H : Heap} {As : List Value} {b L : Nat} {xs : Nat → Int32} (hX : va_X b L xs s H) : PreS s H (va_Pc As (fun U => va_X b L xs U U.heap)) As :=
  ⟨xx_blind, fun U hU hW => ⟨rfl, by show va_X b L xs U U.heap; rw [hU]; exact va_X.moved hW.alike hX⟩⟩
set_option maxHeartbeats 4000000 in
set_option maxRecDepth 100000 in
/-- a cell of the script, or a number in its place -/
theorem c_L_cell (l : Launch) (b L : Nat) (xs : Nat → Int32) (K : Nat) (hK31 : K < 2 ^ 31) (hL : L ≤ 260) : Met l yL_cell wsL_cell ({ frames := 0, cells := 0, slots := 0, locals := 0 }) (va_Pc [.ref b, .int (nI K)] (fun U => va_X b L xs U U.heap)) (vp_Si (fun _ : Int32 => True)) 0 0 (fun _ => False) := by
  refine Met.ofW (cc := cL_cell) (maxL := 2) (ret := (some .int)) (by decide) rfl ?_
  intro p e s m args below meth c s₁ B0 hml hv
  obtain ⟨rfl, hX⟩ := hv
  have hx := B0.exec
  have hb := B0.bytes
  have hr := B0.returns
  have hts := atoms_spec (ws := wsL_cell) B0.pre
  have hown : s.vm.findClass RL = some m.cls := findClass_of_methodNamed B0.named
  have hlocks := B0.notSynchronized
  have hbl : b < s.heap.size := by
    obtain ⟨scr, h, -⟩ := hX
    exact (Array.getElem?_eq_some_iff.mp h).1
  have hS : va_S (fun q : Nat => s.heap.size ≤ q) s.heap s.heap [] := va_S.rf
  have hl := lv_entry ([.ref b, .int (nI K)]) (n := 2) (Nat.le_of_ble_eq_true rfl)
  rw [lg_entry_eq]
  generalize (lg_sl ([.ref b, .int (nI K)]) ++ List.replicate (2 - (lg_sl ([.ref b, .int (nI K)])).length) Slot.unset).toArray = ls at hl ⊢
  have hl : lv_has ls 2 [(0, .ref b), (1, .int (nI K))] := hl
  refine lv_iload_n hx hb dL_cell_0 rfl (lv_at hl 1 rfl) ?_
  refine lv_aload_n hx hb dL_cell_1 rfl (lv_at hl 0 rfl) ?_
  refine va_slen hx hb hX hbl (Nat.not_le.mpr hbl) hS dL_cell_2 ?_
  refine lv_icmp_ge (tgt := 12) hx hb dL_cell_3 (by decide) (fun c_1 => ?_) (fun c_1 => ?_)
  · refine lv_ldc (v := 790386105) hx hb hown (hts (.constant RL 8 (790386105)) (by decide +kernel)) dL_cell_12 ?_
    refine lv_iload_n hx hb dL_cell_14 rfl (lv_at hl 1 rfl) ?_
    refine lv_iconst (v := 3) hx hb dL_cell_15 (by decide) ?_
    refine lv_iadd hx hb dL_cell_16 ?_
    refine lv_imul hx hb dL_cell_17 ?_
    exact W.iret (v := _) hx hb hr (fun t ht hW => ⟨_, rfl, trivial, ht⟩) (fun q hq => absurd hq List.not_mem_nil) dL_cell_18
  · have hlt : K < L := by
      rcases Nat.lt_or_ge K L with h | h
      · exact h
      · exact absurd (show nI L ≤ nI K from nI_le h hK31) c_1
    refine lv_aload_n hx hb dL_cell_6 rfl (lv_at hl 0 rfl) ?_
    refine lv_iload_n hx hb dL_cell_7 rfl (lv_at hl 1 rfl) ?_
    refine va_sld hx hb hX hbl (Nat.not_le.mpr hbl) hS (vp_in_nI hlt (by omega)) dL_cell_8 ?_
    refine lv_goto (tgt := 18) hx hb dL_cell_9 (by decide) ?_
    exact W.iret (v := _) hx hb hr (fun t ht hW => ⟨_, rfl, trivial, ht⟩) (fun q hq => absurd hq List.not_mem_nil) dL_cell_18
abbrev bwS (σ : PS) (i o : Nat) : PS := setWe σ (upd (upd (sWe σ) o (-1)) i (nI o))
set_option maxHeartbeats 4000000 in
set_option maxRecDepth 100000 in
/-- the shadow of one with a hat that is borrowed -/
theorem c_L_with (l : Launch) (D : va_G) (cs : Cs) (M : Mf) {B : Nat} {σ : PS} (hI : InvS B σ) (H0 : Heap) (i : Nat) (hi : i < sK σ) (o : Nat) (ho : o < sK σ) : Met l yL_with wsL_with ({ frames := 5, cells := 22, slots := 194, locals := 120 }) (va_Pc [.ref M.1, .int (nI i), .int (nI o)] (fun U => RBp D cs (fun X => X = H0 ∧ va_P D vwCl (simW cs M σ) X) U ∧ AoI U)) (va_Qi (fun (r : Int32) (_ : Unit) => r = shadS (bwS σ i o) i (dayOf (bwS σ i o))) (fun _ _ => True) (fun q => H0.size ≤ q)) 22 194 (fun q => H0.size ≤ q) := by
  refine Met.ofW (cc := cL_with) (maxL := 4) (ret := (some .int)) (by decide) rfl ?_
  intro p e s m args below meth c s₁ B0 hml hv
  obtain ⟨rfl, ⟨⟨hH, hM⟩, hK, hN⟩, hO⟩ := hv
  subst hH
  have hx := B0.exec
  have hb := B0.bytes
  have hr := B0.returns
  have hts := atoms_spec (ws := wsL_with) B0.pre
  have hown : s.vm.findClass RL = some m.cls := findClass_of_methodNamed B0.named
  have hlocks := B0.notSynchronized
  have hS : va_S (fun q : Nat => s.heap.size ≤ q) s.heap s.heap [] := va_S.rf
  have hl := lv_entry ([.ref M.1, .int (nI i), .int (nI o)]) (n := 4) (Nat.le_of_ble_eq_true rfl)
  rw [lg_entry_eq]
  generalize (lg_sl ([.ref M.1, .int (nI i), .int (nI o)]) ++ List.replicate (4 - (lg_sl ([.ref M.1, .int (nI i), .int (nI o)])).length) Slot.unset).toArray = ls at hl ⊢
  have hl : lv_has ls 4 [(0, .ref M.1), (1, .int (nI i)), (2, .int (nI o))] := hl
  refine lv_aload_n hx hb dL_with_0 rfl (lv_at hl 0 rfl) ?_
  refine va_callr (va_runV (As := []) (rest := []) ⟨hx, hb, hml, hown, hts⟩ (c_X2_copy l D cs M hI s.heap) (cwV 0 hts gL_with_X2_copy rfl rfl rfl (by decide +kernel) ⟨Nat.le_of_ble_eq_true rfl, Nat.le_of_ble_eq_true rfl⟩) (ao_V hK hN hO ⟨rfl, hM⟩ (va_recv hK hM (ci := 3) (q0 := 0) rfl rfl)) rfl rfl hl.1 rfl (lv_room (Nat.le_of_ble_eq_true rfl)) dL_with_1 ⟨Nat.le_of_ble_eq_true rfl, Nat.le_of_ble_eq_true rfl⟩) hS (fun q _ h => h) (fun q h => h) (fun u x t H locs ht hvm hw hB hz1 hk1 hS => ?_)
  rw [ht] at hB
  obtain ⟨hP, hap, hown9⟩ := hB
  refine lv_astore_n (lv' := [(3, .ref x), (0, .ref M.1), (1, .int (nI i)), (2, .int (nI o))]) hx hb dL_with_4 rfl hl (by decide) rfl (fun ls hl => ?_)
  refine lv_aload_n hx hb dL_with_5 rfl (lv_at hl 0 rfl) ?_
  refine lv_iload_n hx hb dL_with_6 rfl (lv_at hl 2 rfl) ?_
  refine lv_iload_n hx hb dL_with_7 rfl (lv_at hl 3 rfl) ?_
  have hAx : ∀ q : Nat, smA (x, u) (sK σ) H q → s.heap.size ≤ q := fun q h => h.elim (hown9 q) (fun h => Nat.le_trans hS.1 h)
  refine va_callv (va_runV (As := [.int (nI i), .int (nI o)]) (rest := []) ⟨hx, hb, hml, hown, hts⟩ (c_X2_borrow l D cs (x, u) hI hap H i hi o ho) (cwV 2 hts gL_with_X2_borrow rfl rfl rfl (by decide +kernel) ⟨Nat.le_of_ble_eq_true rfl, Nat.le_of_ble_eq_true rfl⟩) (rb_V hK hN ⟨rfl, hP⟩ (va_recv hK hP (ci := 3) (q0 := 0) rfl rfl)) rfl rfl hl.1 rfl (lv_room (Nat.le_of_ble_eq_true rfl)) dL_with_8 ⟨Nat.le_of_ble_eq_true rfl, Nat.le_of_ble_eq_true rfl⟩) hS (fun q _ h => hAx q h) hAx (fun τ t H locs ht hvm hw hB hz1 hk1 hS => ?_)
  rw [ht, hw] at hB
  have hP : va_P D vwCl (simW cs (x, u) (bwS σ i o)) H := hB
  have hI2 : InvS B (bwS σ i o) := invS_we (invS_we hI (Or.inl rfl)) (Or.inr ⟨o, ho, rfl⟩)
  refine lv_aload_n hx hb dL_with_11 rfl (lv_at hl 0 rfl) ?_
  refine lv_iload_n hx hb dL_with_12 rfl (lv_at hl 2 rfl) ?_
  refine vp_callSi (va_Run.run (va_runV (As := [.int (nI i)]) (rest := []) ⟨hx, hb, hml, hown, hts⟩ (c_X2_shadow l D cs (x, u) hI2 i hi) (cwV 1 hts gL_with_X2_shadow rfl rfl rfl (by decide +kernel) ⟨Nat.le_of_ble_eq_true rfl, Nat.le_of_ble_eq_true rfl⟩) (rb_V hK hN hP (va_recv hK hP (ci := 3) (q0 := 0) rfl rfl)) rfl rfl hl.1 rfl (lv_room (Nat.le_of_ble_eq_true rfl)) dL_with_13 ⟨Nat.le_of_ble_eq_true rfl, Nat.le_of_ble_eq_true rfl⟩)) (fun r hr9 => ?_)
  exact W.iret (v := r) hx hb hr (fun t ht hW => ⟨⟨_, (), rfl, hr9, trivial⟩, hS.F ht⟩) hS.2.2 dL_with_16
