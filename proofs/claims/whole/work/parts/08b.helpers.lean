/-! THE LAW'S HELPERS (laid by wip/whole/gen/helpers.py) -/
set_option maxHeartbeats 4000000 in
set_option maxRecDepth 100000 in
/-- the law's lampOf -/
theorem h_lampOf (l : Launch) (hlf : l.stackTraces = false) (D : va_G) (cs : Cs) (ρ : Rf) {B : Nat} {σ : PS} (hI : InvS B σ) (hap : AptA ρ (sK σ)) (H0 : Heap) (o : Nat) (f : Nat → Int64) (ho : ¬ ownB ρ (sK σ) o) (a : Int32) : vx_Met l yL_lampOf wsL_lampOf ({ frames := 8, cells := 1, slots := 6, locals := 126 }) (va_Pc [.ref (r_h ρ), .int a, .ref o] (HBp D cs (fun X => X = H0 ∧ Soc D cs ρ σ X ∧ va_at D vwCl (outE cs o f) X))) (va_Qi (fun (r : Int32) (u : PS × (Nat → Int64)) => r = nI (rdO σ a (fun i => sLa σ i)).1 ∧ u.1 = σ ∧ ((rdO σ a (fun i => sLa σ i)).1 = 0 → u.2 0 = ((rdO σ a (fun i => sLa σ i)).2).toInt64)) (fun u t => Soc D cs ρ u.1 t.heap ∧ va_at D vwCl (outE cs o u.2) t.heap) (hlA ρ (sK σ) o H0)) (vx_X (fun _ : Unit => False) (fun _ _ _ => True) (fun _ => False)) 1 6 (hlA ρ (sK σ) o H0) := by
  refine vx_ofWH (cc := cL_lampOf) (maxL := 4) (ret := (some .int)) (hh := [(0, 9, 12, 20)]) (by decide) rfl ?_
  intro p e s m args below meth c s₁ B0 hml hv
  obtain ⟨rfl, ⟨⟨⟨hH, hP, hO⟩, hK, hN⟩, hT⟩, hNc⟩ := hv
  subst hH
  have hx := B0.exec
  have hb := B0.bytes
  have hr := B0.returns
  have hts := atoms_spec (ws := wsL_lampOf) B0.pre
  have htab := vx_table (x := yL_lampOf) B0 (hts _ List.mem_cons_self)
  have hown : s.vm.findClass RL = some m.cls := findClass_of_methodNamed B0.named
  have hlocks := B0.notSynchronized
  have hS : va_S (hlA ρ (sK σ) o s.heap) s.heap s.heap [] := va_S.rf
  have hl := lv_entry ([.ref (r_h ρ), .int a, .ref o]) (n := 4) (Nat.le_of_ble_eq_true rfl)
  rw [lg_entry_eq]
  generalize (lg_sl ([.ref (r_h ρ), .int a, .ref o]) ++ List.replicate (4 - (lg_sl ([.ref (r_h ρ), .int a, .ref o])).length) Slot.unset).toArray = ls at hl ⊢
  have hl : lv_has ls 4 [(0, .ref (r_h ρ)), (1, .int a), (2, .ref o)] := hl
  refine lv_aload_n hx hb dL_lampOf_0 rfl (lv_at hl 2 rfl) ?_
  refine lv_iconst (v := 0) hx hb dL_lampOf_1 (by decide) ?_
  refine lv_aload_n hx hb dL_lampOf_2 rfl (lv_at hl 0 rfl) ?_
  refine lv_iload_n hx hb dL_lampOf_3 rfl (lv_at hl 1 rfl) ?_
  refine vx_calli (vx_runV (As := [.int a]) (rest := [.int 0, .ref o]) ⟨hx, hb, hml, hown, hts⟩ (x_X1_lampOf l hlf D cs ρ hI hap s.heap a) (cwV 1 hts gL_lampOf_X1_lampOf rfl rfl rfl (by decide +kernel) ⟨Nat.le_of_ble_eq_true rfl, Nat.le_of_ble_eq_true rfl⟩) (tb_V hK hN ⟨rfl, hP⟩ hT (Nat.le_refl _) (fun _ _ => rfl) (va_recv hK (one_P hP.1) (ci := 2) (q0 := 0) rfl rfl)) rfl rfl hl.1 rfl (lv_room (Nat.le_of_ble_eq_true rfl)) dL_lampOf_4 ⟨Nat.le_of_ble_eq_true rfl, Nat.le_of_ble_eq_true rfl⟩) hS (fun q _ h => Or.inl (Or.inr h)) (fun q h => Or.inl (Or.inr h)) (fun q _ h => Or.inl (Or.inr h)) (fun E ce q9 u t H1 locs ht hvm hu hB hz1 hk1 hS hce hcv hcl => ?_) (fun r u t H1 locs ht hvm hw hB hz1 hk1 hS => ?_)
  · have hP : Soc D cs ρ σ H1 := soc_kept hP (fun q _ h2 => hk1 q h2 (fun z => absurd z (Nat.not_le.mpr h2)))
    have hO : va_at D vwCl (outE cs o f) H1 := hO.kept (hk1 o hO.lt (fun z => absurd z (Nat.not_le.mpr hO.lt)))
    obtain ⟨rfl, hc⟩ := hB
    refine vx_catch hown [] ⟨0, 9, 12, 20⟩ [] (htab.trans rfl) (fun z hz => absurd hz List.not_mem_nil) (by decide) (by decide) (hts (.classLink RL 20 "java/lang/IndexOutOfBoundsException") (List.mem_of_getElem? (i := 1) (by decide +kernel))) (hN.use (w := .castable eIob eIob) (by decide +kernel)) hce hcv hcl ?_
    refine lv_astore_n (lv' := [(3, .ref q9), (0, .ref (r_h ρ)), (1, .int a), (2, .ref o)]) hx hb dL_lampOf_12 rfl hl (by decide) rfl (fun ls hl => ?_)
    refine lv_iconst (v := 1) hx hb dL_lampOf_13 (by decide) ?_
    refine vx_ret ?_
    refine W.widen (k := 1) (n := 6) (Nat.le_of_ble_eq_true rfl) (Nat.le_of_ble_eq_true rfl) ?_
    exact W.iret (v := 1) hx hb hr (fun t ht hW => ⟨⟨_, (σ, f), rfl, ⟨by rw [hc]; rfl, rfl, fun h9 => absurd (hc.symm.trans h9) (by decide)⟩, by show Soc D cs ρ _ t.heap ∧ va_at D vwCl _ t.heap; rw [ht]; exact ⟨hP, hO⟩⟩, hS.F ht⟩) hS.2.2 dL_lampOf_14
  · have hH1 : H1 = s.heap := ht.symm.trans hB
    subst hH1
    have hku : sK σ = sK σ := rfl
    refine lv_i2l (v := (r).toInt64) hx hb dL_lampOf_7 rfl ?_
    have hQ := P_cons hO (soc_P hP)
    have hQD : va_D (hlA ρ (sK σ) o s.heap) (outE cs o f :: socW cs ρ σ) := out_D hku hap ho
    refine va_last hx hb hK hQ hQD hS 0 2 rfl rfl (by unfold vp_in; decide) dL_lampOf_8 (fun H locs hQ hQD hS => ?_)
    have hO : va_at D vwCl (outE cs o (vp_updL f 0 ((r).toInt64))) H := P_head hQ
    have hP : Soc D cs ρ σ H := P_soc (P_tail hQ)
    refine lv_goto (tgt := 15) hx hb dL_lampOf_9 (by decide) ?_
    refine lv_iconst (v := 0) hx hb dL_lampOf_15 (by decide) ?_
    refine vx_ret ?_
    refine W.widen (k := 1) (n := 6) (Nat.le_of_ble_eq_true rfl) (Nat.le_of_ble_eq_true rfl) ?_
    exact W.iret (v := 0) hx hb hr (fun t ht hW => ⟨⟨_, (σ, vp_updL f 0 ((r).toInt64)), rfl, ⟨by rw [hw]; rfl, rfl, fun _ => by rw [hw]; exact (pk_uLs (f := f) (k := 0) (x := (r).toInt64) :)⟩, by show Soc D cs ρ _ t.heap ∧ va_at D vwCl _ t.heap; rw [ht]; exact ⟨hP, hO⟩⟩, hS.F ht⟩) hS.2.2 dL_lampOf_16
set_option maxHeartbeats 4000000 in
set_option maxRecDepth 100000 in
/-- the law's purseOf -/
theorem h_purseOf (l : Launch) (hlf : l.stackTraces = false) (D : va_G) (cs : Cs) (ρ : Rf) {B : Nat} {σ : PS} (hI : InvS B σ) (hap : AptA ρ (sK σ)) (H0 : Heap) (o : Nat) (f : Nat → Int64) (ho : ¬ ownB ρ (sK σ) o) (a : Int32) : vx_Met l yL_purseOf wsL_purseOf ({ frames := 8, cells := 1, slots := 6, locals := 126 }) (va_Pc [.ref (r_h ρ), .int a, .ref o] (HBp D cs (fun X => X = H0 ∧ Soc D cs ρ σ X ∧ va_at D vwCl (outE cs o f) X))) (va_Qi (fun (r : Int32) (u : PS × (Nat → Int64)) => r = nI (rdO σ a (fun i => sPu σ i)).1 ∧ u.1 = σ ∧ ((rdO σ a (fun i => sPu σ i)).1 = 0 → u.2 0 = ((rdO σ a (fun i => sPu σ i)).2).toInt64)) (fun u t => Soc D cs ρ u.1 t.heap ∧ va_at D vwCl (outE cs o u.2) t.heap) (hlA ρ (sK σ) o H0)) (vx_X (fun _ : Unit => False) (fun _ _ _ => True) (fun _ => False)) 1 6 (hlA ρ (sK σ) o H0) := by
  refine vx_ofWH (cc := cL_purseOf) (maxL := 4) (ret := (some .int)) (hh := [(0, 9, 12, 20)]) (by decide) rfl ?_
  intro p e s m args below meth c s₁ B0 hml hv
  obtain ⟨rfl, ⟨⟨⟨hH, hP, hO⟩, hK, hN⟩, hT⟩, hNc⟩ := hv
  subst hH
  have hx := B0.exec
  have hb := B0.bytes
  have hr := B0.returns
  have hts := atoms_spec (ws := wsL_purseOf) B0.pre
  have htab := vx_table (x := yL_purseOf) B0 (hts _ List.mem_cons_self)
  have hown : s.vm.findClass RL = some m.cls := findClass_of_methodNamed B0.named
  have hlocks := B0.notSynchronized
  have hS : va_S (hlA ρ (sK σ) o s.heap) s.heap s.heap [] := va_S.rf
  have hl := lv_entry ([.ref (r_h ρ), .int a, .ref o]) (n := 4) (Nat.le_of_ble_eq_true rfl)
  rw [lg_entry_eq]
  generalize (lg_sl ([.ref (r_h ρ), .int a, .ref o]) ++ List.replicate (4 - (lg_sl ([.ref (r_h ρ), .int a, .ref o])).length) Slot.unset).toArray = ls at hl ⊢
  have hl : lv_has ls 4 [(0, .ref (r_h ρ)), (1, .int a), (2, .ref o)] := hl
  refine lv_aload_n hx hb dL_purseOf_0 rfl (lv_at hl 2 rfl) ?_
  refine lv_iconst (v := 0) hx hb dL_purseOf_1 (by decide) ?_
  refine lv_aload_n hx hb dL_purseOf_2 rfl (lv_at hl 0 rfl) ?_
  refine lv_iload_n hx hb dL_purseOf_3 rfl (lv_at hl 1 rfl) ?_
  refine vx_calli (vx_runV (As := [.int a]) (rest := [.int 0, .ref o]) ⟨hx, hb, hml, hown, hts⟩ (x_X1_purseOf l hlf D cs ρ hI hap s.heap a) (cwV 1 hts gL_purseOf_X1_purseOf rfl rfl rfl (by decide +kernel) ⟨Nat.le_of_ble_eq_true rfl, Nat.le_of_ble_eq_true rfl⟩) (tb_V hK hN ⟨rfl, hP⟩ hT (Nat.le_refl _) (fun _ _ => rfl) (va_recv hK (one_P hP.1) (ci := 2) (q0 := 0) rfl rfl)) rfl rfl hl.1 rfl (lv_room (Nat.le_of_ble_eq_true rfl)) dL_purseOf_4 ⟨Nat.le_of_ble_eq_true rfl, Nat.le_of_ble_eq_true rfl⟩) hS (fun q _ h => Or.inl (Or.inr h)) (fun q h => Or.inl (Or.inr h)) (fun q _ h => Or.inl (Or.inr h)) (fun E ce q9 u t H1 locs ht hvm hu hB hz1 hk1 hS hce hcv hcl => ?_) (fun r u t H1 locs ht hvm hw hB hz1 hk1 hS => ?_)
  · have hP : Soc D cs ρ σ H1 := soc_kept hP (fun q _ h2 => hk1 q h2 (fun z => absurd z (Nat.not_le.mpr h2)))
    have hO : va_at D vwCl (outE cs o f) H1 := hO.kept (hk1 o hO.lt (fun z => absurd z (Nat.not_le.mpr hO.lt)))
    obtain ⟨rfl, hc⟩ := hB
    refine vx_catch hown [] ⟨0, 9, 12, 20⟩ [] (htab.trans rfl) (fun z hz => absurd hz List.not_mem_nil) (by decide) (by decide) (hts (.classLink RL 20 "java/lang/IndexOutOfBoundsException") (List.mem_of_getElem? (i := 1) (by decide +kernel))) (hN.use (w := .castable eIob eIob) (by decide +kernel)) hce hcv hcl ?_
    refine lv_astore_n (lv' := [(3, .ref q9), (0, .ref (r_h ρ)), (1, .int a), (2, .ref o)]) hx hb dL_purseOf_12 rfl hl (by decide) rfl (fun ls hl => ?_)
    refine lv_iconst (v := 1) hx hb dL_purseOf_13 (by decide) ?_
    refine vx_ret ?_
    refine W.widen (k := 1) (n := 6) (Nat.le_of_ble_eq_true rfl) (Nat.le_of_ble_eq_true rfl) ?_
    exact W.iret (v := 1) hx hb hr (fun t ht hW => ⟨⟨_, (σ, f), rfl, ⟨by rw [hc]; rfl, rfl, fun h9 => absurd (hc.symm.trans h9) (by decide)⟩, by show Soc D cs ρ _ t.heap ∧ va_at D vwCl _ t.heap; rw [ht]; exact ⟨hP, hO⟩⟩, hS.F ht⟩) hS.2.2 dL_purseOf_14
  · have hH1 : H1 = s.heap := ht.symm.trans hB
    subst hH1
    have hku : sK σ = sK σ := rfl
    refine lv_i2l (v := (r).toInt64) hx hb dL_purseOf_7 rfl ?_
    have hQ := P_cons hO (soc_P hP)
    have hQD : va_D (hlA ρ (sK σ) o s.heap) (outE cs o f :: socW cs ρ σ) := out_D hku hap ho
    refine va_last hx hb hK hQ hQD hS 0 2 rfl rfl (by unfold vp_in; decide) dL_purseOf_8 (fun H locs hQ hQD hS => ?_)
    have hO : va_at D vwCl (outE cs o (vp_updL f 0 ((r).toInt64))) H := P_head hQ
    have hP : Soc D cs ρ σ H := P_soc (P_tail hQ)
    refine lv_goto (tgt := 15) hx hb dL_purseOf_9 (by decide) ?_
    refine lv_iconst (v := 0) hx hb dL_purseOf_15 (by decide) ?_
    refine vx_ret ?_
    refine W.widen (k := 1) (n := 6) (Nat.le_of_ble_eq_true rfl) (Nat.le_of_ble_eq_true rfl) ?_
    exact W.iret (v := 0) hx hb hr (fun t ht hW => ⟨⟨_, (σ, vp_updL f 0 ((r).toInt64)), rfl, ⟨by rw [hw]; rfl, rfl, fun _ => by rw [hw]; exact (pk_uLs (f := f) (k := 0) (x := (r).toInt64) :)⟩, by show Soc D cs ρ _ t.heap ∧ va_at D vwCl _ t.heap; rw [ht]; exact ⟨hP, hO⟩⟩, hS.F ht⟩) hS.2.2 dL_purseOf_16
set_option maxHeartbeats 4000000 in
set_option maxRecDepth 100000 in
/-- the law's wears -/
theorem h_wears (l : Launch) (hlf : l.stackTraces = false) (D : va_G) (cs : Cs) (ρ : Rf) {B : Nat} {σ : PS} (hI : InvS B σ) (hap : AptA ρ (sK σ)) (H0 : Heap) (o : Nat) (f : Nat → Int64) (ho : ¬ ownB ρ (sK σ) o) (a : Int32) : vx_Met l yL_wears wsL_wears ({ frames := 8, cells := 1, slots := 6, locals := 126 }) (va_Pc [.ref (r_h ρ), .int a, .ref o] (HBp D cs (fun X => X = H0 ∧ Soc D cs ρ σ X ∧ va_at D vwCl (outE cs o f) X))) (va_Qi (fun (r : Int32) (u : PS × (Nat → Int64)) => r = nI (rdO σ a (fun i => sWe σ i)).1 ∧ u.1 = σ ∧ ((rdO σ a (fun i => sWe σ i)).1 = 0 → u.2 0 = ((rdO σ a (fun i => sWe σ i)).2).toInt64)) (fun u t => Soc D cs ρ u.1 t.heap ∧ va_at D vwCl (outE cs o u.2) t.heap) (hlA ρ (sK σ) o H0)) (vx_X (fun _ : Unit => False) (fun _ _ _ => True) (fun _ => False)) 1 6 (hlA ρ (sK σ) o H0) := by
  refine vx_ofWH (cc := cL_wears) (maxL := 4) (ret := (some .int)) (hh := [(0, 9, 12, 20)]) (by decide) rfl ?_
  intro p e s m args below meth c s₁ B0 hml hv
  obtain ⟨rfl, ⟨⟨⟨hH, hP, hO⟩, hK, hN⟩, hT⟩, hNc⟩ := hv
  subst hH
  have hx := B0.exec
  have hb := B0.bytes
  have hr := B0.returns
  have hts := atoms_spec (ws := wsL_wears) B0.pre
  have htab := vx_table (x := yL_wears) B0 (hts _ List.mem_cons_self)
  have hown : s.vm.findClass RL = some m.cls := findClass_of_methodNamed B0.named
  have hlocks := B0.notSynchronized
  have hS : va_S (hlA ρ (sK σ) o s.heap) s.heap s.heap [] := va_S.rf
  have hl := lv_entry ([.ref (r_h ρ), .int a, .ref o]) (n := 4) (Nat.le_of_ble_eq_true rfl)
  rw [lg_entry_eq]
  generalize (lg_sl ([.ref (r_h ρ), .int a, .ref o]) ++ List.replicate (4 - (lg_sl ([.ref (r_h ρ), .int a, .ref o])).length) Slot.unset).toArray = ls at hl ⊢
  have hl : lv_has ls 4 [(0, .ref (r_h ρ)), (1, .int a), (2, .ref o)] := hl
  refine lv_aload_n hx hb dL_wears_0 rfl (lv_at hl 2 rfl) ?_
  refine lv_iconst (v := 0) hx hb dL_wears_1 (by decide) ?_
  refine lv_aload_n hx hb dL_wears_2 rfl (lv_at hl 0 rfl) ?_
  refine lv_iload_n hx hb dL_wears_3 rfl (lv_at hl 1 rfl) ?_
  refine vx_calli (vx_runV (As := [.int a]) (rest := [.int 0, .ref o]) ⟨hx, hb, hml, hown, hts⟩ (x_X1_wears l hlf D cs ρ hI hap s.heap a) (cwV 1 hts gL_wears_X1_wears rfl rfl rfl (by decide +kernel) ⟨Nat.le_of_ble_eq_true rfl, Nat.le_of_ble_eq_true rfl⟩) (tb_V hK hN ⟨rfl, hP⟩ hT (Nat.le_refl _) (fun _ _ => rfl) (va_recv hK (one_P hP.1) (ci := 2) (q0 := 0) rfl rfl)) rfl rfl hl.1 rfl (lv_room (Nat.le_of_ble_eq_true rfl)) dL_wears_4 ⟨Nat.le_of_ble_eq_true rfl, Nat.le_of_ble_eq_true rfl⟩) hS (fun q _ h => Or.inl (Or.inr h)) (fun q h => Or.inl (Or.inr h)) (fun q _ h => Or.inl (Or.inr h)) (fun E ce q9 u t H1 locs ht hvm hu hB hz1 hk1 hS hce hcv hcl => ?_) (fun r u t H1 locs ht hvm hw hB hz1 hk1 hS => ?_)
  · have hP : Soc D cs ρ σ H1 := soc_kept hP (fun q _ h2 => hk1 q h2 (fun z => absurd z (Nat.not_le.mpr h2)))
    have hO : va_at D vwCl (outE cs o f) H1 := hO.kept (hk1 o hO.lt (fun z => absurd z (Nat.not_le.mpr hO.lt)))
    obtain ⟨rfl, hc⟩ := hB
    refine vx_catch hown [] ⟨0, 9, 12, 20⟩ [] (htab.trans rfl) (fun z hz => absurd hz List.not_mem_nil) (by decide) (by decide) (hts (.classLink RL 20 "java/lang/IndexOutOfBoundsException") (List.mem_of_getElem? (i := 1) (by decide +kernel))) (hN.use (w := .castable eIob eIob) (by decide +kernel)) hce hcv hcl ?_
    refine lv_astore_n (lv' := [(3, .ref q9), (0, .ref (r_h ρ)), (1, .int a), (2, .ref o)]) hx hb dL_wears_12 rfl hl (by decide) rfl (fun ls hl => ?_)
    refine lv_iconst (v := 1) hx hb dL_wears_13 (by decide) ?_
    refine vx_ret ?_
    refine W.widen (k := 1) (n := 6) (Nat.le_of_ble_eq_true rfl) (Nat.le_of_ble_eq_true rfl) ?_
    exact W.iret (v := 1) hx hb hr (fun t ht hW => ⟨⟨_, (σ, f), rfl, ⟨by rw [hc]; rfl, rfl, fun h9 => absurd (hc.symm.trans h9) (by decide)⟩, by show Soc D cs ρ _ t.heap ∧ va_at D vwCl _ t.heap; rw [ht]; exact ⟨hP, hO⟩⟩, hS.F ht⟩) hS.2.2 dL_wears_14
  · have hH1 : H1 = s.heap := ht.symm.trans hB
    subst hH1
    have hku : sK σ = sK σ := rfl
    refine lv_i2l (v := (r).toInt64) hx hb dL_wears_7 rfl ?_
    have hQ := P_cons hO (soc_P hP)
    have hQD : va_D (hlA ρ (sK σ) o s.heap) (outE cs o f :: socW cs ρ σ) := out_D hku hap ho
    refine va_last hx hb hK hQ hQD hS 0 2 rfl rfl (by unfold vp_in; decide) dL_wears_8 (fun H locs hQ hQD hS => ?_)
    have hO : va_at D vwCl (outE cs o (vp_updL f 0 ((r).toInt64))) H := P_head hQ
    have hP : Soc D cs ρ σ H := P_soc (P_tail hQ)
    refine lv_goto (tgt := 15) hx hb dL_wears_9 (by decide) ?_
    refine lv_iconst (v := 0) hx hb dL_wears_15 (by decide) ?_
    refine vx_ret ?_
    refine W.widen (k := 1) (n := 6) (Nat.le_of_ble_eq_true rfl) (Nat.le_of_ble_eq_true rfl) ?_
    exact W.iret (v := 0) hx hb hr (fun t ht hW => ⟨⟨_, (σ, vp_updL f 0 ((r).toInt64)), rfl, ⟨by rw [hw]; rfl, rfl, fun _ => by rw [hw]; exact (pk_uLs (f := f) (k := 0) (x := (r).toInt64) :)⟩, by show Soc D cs ρ _ t.heap ∧ va_at D vwCl _ t.heap; rw [ht]; exact ⟨hP, hO⟩⟩, hS.F ht⟩) hS.2.2 dL_wears_16
set_option maxHeartbeats 4000000 in
set_option maxRecDepth 100000 in
/-- the law's hatOn -/
theorem h_hatOn (l : Launch) (hlf : l.stackTraces = false) (D : va_G) (cs : Cs) (ρ : Rf) {B : Nat} {σ : PS} (hI : InvS B σ) (hap : AptA ρ (sK σ)) (H0 : Heap) (o : Nat) (f : Nat → Int64) (ho : ¬ ownB ρ (sK σ) o) (a : Int32) : vx_Met l yL_hatOn wsL_hatOn ({ frames := 8, cells := 1, slots := 6, locals := 126 }) (va_Pc [.ref (r_h ρ), .int a, .ref o] (HBp D cs (fun X => X = H0 ∧ Soc D cs ρ σ X ∧ va_at D vwCl (outE cs o f) X))) (va_Qi (fun (r : Int32) (u : PS × (Nat → Int64)) => r = nI (rdO σ a (fun i => wornH σ i)).1 ∧ u.1 = σ ∧ ((rdO σ a (fun i => wornH σ i)).1 = 0 → u.2 0 = ((rdO σ a (fun i => wornH σ i)).2).toInt64)) (fun u t => Soc D cs ρ u.1 t.heap ∧ va_at D vwCl (outE cs o u.2) t.heap) (hlA ρ (sK σ) o H0)) (vx_X (fun _ : Unit => False) (fun _ _ _ => True) (fun _ => False)) 1 6 (hlA ρ (sK σ) o H0) := by
  refine vx_ofWH (cc := cL_hatOn) (maxL := 4) (ret := (some .int)) (hh := [(0, 9, 12, 20)]) (by decide) rfl ?_
  intro p e s m args below meth c s₁ B0 hml hv
  obtain ⟨rfl, ⟨⟨⟨hH, hP, hO⟩, hK, hN⟩, hT⟩, hNc⟩ := hv
  subst hH
  have hx := B0.exec
  have hb := B0.bytes
  have hr := B0.returns
  have hts := atoms_spec (ws := wsL_hatOn) B0.pre
  have htab := vx_table (x := yL_hatOn) B0 (hts _ List.mem_cons_self)
  have hown : s.vm.findClass RL = some m.cls := findClass_of_methodNamed B0.named
  have hlocks := B0.notSynchronized
  have hS : va_S (hlA ρ (sK σ) o s.heap) s.heap s.heap [] := va_S.rf
  have hl := lv_entry ([.ref (r_h ρ), .int a, .ref o]) (n := 4) (Nat.le_of_ble_eq_true rfl)
  rw [lg_entry_eq]
  generalize (lg_sl ([.ref (r_h ρ), .int a, .ref o]) ++ List.replicate (4 - (lg_sl ([.ref (r_h ρ), .int a, .ref o])).length) Slot.unset).toArray = ls at hl ⊢
  have hl : lv_has ls 4 [(0, .ref (r_h ρ)), (1, .int a), (2, .ref o)] := hl
  refine lv_aload_n hx hb dL_hatOn_0 rfl (lv_at hl 2 rfl) ?_
  refine lv_iconst (v := 0) hx hb dL_hatOn_1 (by decide) ?_
  refine lv_aload_n hx hb dL_hatOn_2 rfl (lv_at hl 0 rfl) ?_
  refine lv_iload_n hx hb dL_hatOn_3 rfl (lv_at hl 1 rfl) ?_
  refine vx_calli (vx_runV (As := [.int a]) (rest := [.int 0, .ref o]) ⟨hx, hb, hml, hown, hts⟩ (x_X1_hatOn l hlf D cs ρ hI hap s.heap a) (cwV 1 hts gL_hatOn_X1_hatOn rfl rfl rfl (by decide +kernel) ⟨Nat.le_of_ble_eq_true rfl, Nat.le_of_ble_eq_true rfl⟩) (tb_V hK hN ⟨rfl, hP⟩ hT (Nat.le_refl _) (fun _ _ => rfl) (va_recv hK (one_P hP.1) (ci := 2) (q0 := 0) rfl rfl)) rfl rfl hl.1 rfl (lv_room (Nat.le_of_ble_eq_true rfl)) dL_hatOn_4 ⟨Nat.le_of_ble_eq_true rfl, Nat.le_of_ble_eq_true rfl⟩) hS (fun q _ h => Or.inl (Or.inr h)) (fun q h => Or.inl (Or.inr h)) (fun q _ h => Or.inl (Or.inr h)) (fun E ce q9 u t H1 locs ht hvm hu hB hz1 hk1 hS hce hcv hcl => ?_) (fun r u t H1 locs ht hvm hw hB hz1 hk1 hS => ?_)
  · have hP : Soc D cs ρ σ H1 := soc_kept hP (fun q _ h2 => hk1 q h2 (fun z => absurd z (Nat.not_le.mpr h2)))
    have hO : va_at D vwCl (outE cs o f) H1 := hO.kept (hk1 o hO.lt (fun z => absurd z (Nat.not_le.mpr hO.lt)))
    obtain ⟨rfl, hc⟩ := hB
    refine vx_catch hown [] ⟨0, 9, 12, 20⟩ [] (htab.trans rfl) (fun z hz => absurd hz List.not_mem_nil) (by decide) (by decide) (hts (.classLink RL 20 "java/lang/IndexOutOfBoundsException") (List.mem_of_getElem? (i := 1) (by decide +kernel))) (hN.use (w := .castable eIob eIob) (by decide +kernel)) hce hcv hcl ?_
    refine lv_astore_n (lv' := [(3, .ref q9), (0, .ref (r_h ρ)), (1, .int a), (2, .ref o)]) hx hb dL_hatOn_12 rfl hl (by decide) rfl (fun ls hl => ?_)
    refine lv_iconst (v := 1) hx hb dL_hatOn_13 (by decide) ?_
    refine vx_ret ?_
    refine W.widen (k := 1) (n := 6) (Nat.le_of_ble_eq_true rfl) (Nat.le_of_ble_eq_true rfl) ?_
    exact W.iret (v := 1) hx hb hr (fun t ht hW => ⟨⟨_, (σ, f), rfl, ⟨by rw [hc]; rfl, rfl, fun h9 => absurd (hc.symm.trans h9) (by decide)⟩, by show Soc D cs ρ _ t.heap ∧ va_at D vwCl _ t.heap; rw [ht]; exact ⟨hP, hO⟩⟩, hS.F ht⟩) hS.2.2 dL_hatOn_14
  · have hH1 : H1 = s.heap := ht.symm.trans hB
    subst hH1
    have hku : sK σ = sK σ := rfl
    refine lv_i2l (v := (r).toInt64) hx hb dL_hatOn_7 rfl ?_
    have hQ := P_cons hO (soc_P hP)
    have hQD : va_D (hlA ρ (sK σ) o s.heap) (outE cs o f :: socW cs ρ σ) := out_D hku hap ho
    refine va_last hx hb hK hQ hQD hS 0 2 rfl rfl (by unfold vp_in; decide) dL_hatOn_8 (fun H locs hQ hQD hS => ?_)
    have hO : va_at D vwCl (outE cs o (vp_updL f 0 ((r).toInt64))) H := P_head hQ
    have hP : Soc D cs ρ σ H := P_soc (P_tail hQ)
    refine lv_goto (tgt := 15) hx hb dL_hatOn_9 (by decide) ?_
    refine lv_iconst (v := 0) hx hb dL_hatOn_15 (by decide) ?_
    refine vx_ret ?_
    refine W.widen (k := 1) (n := 6) (Nat.le_of_ble_eq_true rfl) (Nat.le_of_ble_eq_true rfl) ?_
    exact W.iret (v := 0) hx hb hr (fun t ht hW => ⟨⟨_, (σ, vp_updL f 0 ((r).toInt64)), rfl, ⟨by rw [hw]; rfl, rfl, fun _ => by rw [hw]; exact (pk_uLs (f := f) (k := 0) (x := (r).toInt64) :)⟩, by show Soc D cs ρ _ t.heap ∧ va_at D vwCl _ t.heap; rw [ht]; exact ⟨hP, hO⟩⟩, hS.F ht⟩) hS.2.2 dL_hatOn_16
set_option maxHeartbeats 4000000 in
set_option maxRecDepth 100000 in
/-- the law's hasLent -/
theorem h_hasLent (l : Launch) (hlf : l.stackTraces = false) (D : va_G) (cs : Cs) (ρ : Rf) {B : Nat} {σ : PS} (hI : InvS B σ) (hap : AptA ρ (sK σ)) (H0 : Heap) (o : Nat) (f : Nat → Int64) (ho : ¬ ownB ρ (sK σ) o) (a : Int32) : vx_Met l yL_hasLent wsL_hasLent ({ frames := 8, cells := 1, slots := 6, locals := 126 }) (va_Pc [.ref (r_h ρ), .int a, .ref o] (HBp D cs (fun X => X = H0 ∧ Soc D cs ρ σ X ∧ va_at D vwCl (outE cs o f) X))) (va_Qi (fun (r : Int32) (u : PS × (Nat → Int64)) => r = nI (rdO σ a (fun i => b01 (lentS σ i))).1 ∧ u.1 = σ ∧ ((rdO σ a (fun i => b01 (lentS σ i))).1 = 0 → u.2 0 = zL ((rdO σ a (fun i => b01 (lentS σ i))).2))) (fun u t => Soc D cs ρ u.1 t.heap ∧ va_at D vwCl (outE cs o u.2) t.heap) (hlA ρ (sK σ) o H0)) (vx_X (fun _ : Unit => False) (fun _ _ _ => True) (fun _ => False)) 1 6 (hlA ρ (sK σ) o H0) := by
  refine vx_ofWH (cc := cL_hasLent) (maxL := 4) (ret := (some .int)) (hh := [(0, 16, 19, 20)]) (by decide) rfl ?_
  intro p e s m args below meth c s₁ B0 hml hv
  obtain ⟨rfl, ⟨⟨⟨hH, hP, hO⟩, hK, hN⟩, hT⟩, hNc⟩ := hv
  subst hH
  have hx := B0.exec
  have hb := B0.bytes
  have hr := B0.returns
  have hts := atoms_spec (ws := wsL_hasLent) B0.pre
  have htab := vx_table (x := yL_hasLent) B0 (hts _ List.mem_cons_self)
  have hown : s.vm.findClass RL = some m.cls := findClass_of_methodNamed B0.named
  have hlocks := B0.notSynchronized
  have hS : va_S (hlA ρ (sK σ) o s.heap) s.heap s.heap [] := va_S.rf
  have hl := lv_entry ([.ref (r_h ρ), .int a, .ref o]) (n := 4) (Nat.le_of_ble_eq_true rfl)
  rw [lg_entry_eq]
  generalize (lg_sl ([.ref (r_h ρ), .int a, .ref o]) ++ List.replicate (4 - (lg_sl ([.ref (r_h ρ), .int a, .ref o])).length) Slot.unset).toArray = ls at hl ⊢
  have hl : lv_has ls 4 [(0, .ref (r_h ρ)), (1, .int a), (2, .ref o)] := hl
  refine lv_aload_n hx hb dL_hasLent_0 rfl (lv_at hl 2 rfl) ?_
  refine lv_iconst (v := 0) hx hb dL_hasLent_1 (by decide) ?_
  refine lv_aload_n hx hb dL_hasLent_2 rfl (lv_at hl 0 rfl) ?_
  refine lv_iload_n hx hb dL_hasLent_3 rfl (lv_at hl 1 rfl) ?_
  refine vx_calli (vx_runV (As := [.int a]) (rest := [.int 0, .ref o]) ⟨hx, hb, hml, hown, hts⟩ (x_X1_hasLent l hlf D cs ρ hI hap s.heap a) (cwV 1 hts gL_hasLent_X1_hasLent rfl rfl rfl (by decide +kernel) ⟨Nat.le_of_ble_eq_true rfl, Nat.le_of_ble_eq_true rfl⟩) (tb_V hK hN ⟨rfl, hP⟩ hT (Nat.le_refl _) (fun _ _ => rfl) (va_recv hK (one_P hP.1) (ci := 2) (q0 := 0) rfl rfl)) rfl rfl hl.1 rfl (lv_room (Nat.le_of_ble_eq_true rfl)) dL_hasLent_4 ⟨Nat.le_of_ble_eq_true rfl, Nat.le_of_ble_eq_true rfl⟩) hS (fun q _ h => Or.inl (Or.inr h)) (fun q h => Or.inl (Or.inr h)) (fun q _ h => Or.inl (Or.inr h)) (fun E ce q9 u t H1 locs ht hvm hu hB hz1 hk1 hS hce hcv hcl => ?_) (fun r u t H1 locs ht hvm hw hB hz1 hk1 hS => ?_)
  · have hP : Soc D cs ρ σ H1 := soc_kept hP (fun q _ h2 => hk1 q h2 (fun z => absurd z (Nat.not_le.mpr h2)))
    have hO : va_at D vwCl (outE cs o f) H1 := hO.kept (hk1 o hO.lt (fun z => absurd z (Nat.not_le.mpr hO.lt)))
    obtain ⟨rfl, hc⟩ := hB
    refine vx_catch hown [] ⟨0, 16, 19, 20⟩ [] (htab.trans rfl) (fun z hz => absurd hz List.not_mem_nil) (by decide) (by decide) (hts (.classLink RL 20 "java/lang/IndexOutOfBoundsException") (List.mem_of_getElem? (i := 1) (by decide +kernel))) (hN.use (w := .castable eIob eIob) (by decide +kernel)) hce hcv hcl ?_
    refine lv_astore_n (lv' := [(3, .ref q9), (0, .ref (r_h ρ)), (1, .int a), (2, .ref o)]) hx hb dL_hasLent_19 rfl hl (by decide) rfl (fun ls hl => ?_)
    refine lv_iconst (v := 1) hx hb dL_hasLent_20 (by decide) ?_
    refine vx_ret ?_
    refine W.widen (k := 1) (n := 6) (Nat.le_of_ble_eq_true rfl) (Nat.le_of_ble_eq_true rfl) ?_
    exact W.iret (v := 1) hx hb hr (fun t ht hW => ⟨⟨_, (σ, f), rfl, ⟨by rw [hc]; rfl, rfl, fun h9 => absurd (hc.symm.trans h9) (by decide)⟩, by show Soc D cs ρ _ t.heap ∧ va_at D vwCl _ t.heap; rw [ht]; exact ⟨hP, hO⟩⟩, hS.F ht⟩) hS.2.2 dL_hasLent_21
  · have hH1 : H1 = s.heap := ht.symm.trans hB
    subst hH1
    have hku : sK σ = sK σ := rfl
    refine lv_if_eq (tgt := 14) hx hb dL_hasLent_7 (by decide) (fun c_1 => ?_) (fun c_1 => ?_)
    · refine lv_lconst (v := 0) hx hb dL_hasLent_14 (by decide) ?_
      have hQ := P_cons hO (soc_P hP)
      have hQD : va_D (hlA ρ (sK σ) o s.heap) (outE cs o f :: socW cs ρ σ) := out_D hku hap ho
      refine va_last hx hb hK hQ hQD hS 0 2 rfl rfl (by unfold vp_in; decide) dL_hasLent_15 (fun H locs hQ hQD hS => ?_)
      have hO : va_at D vwCl (outE cs o (vp_updL f 0 0)) H := P_head hQ
      have hP : Soc D cs ρ σ H := P_soc (P_tail hQ)
      refine lv_goto (tgt := 22) hx hb dL_hasLent_16 (by decide) ?_
      refine lv_iconst (v := 0) hx hb dL_hasLent_22 (by decide) ?_
      refine vx_ret ?_
      refine W.widen (k := 1) (n := 6) (Nat.le_of_ble_eq_true rfl) (Nat.le_of_ble_eq_true rfl) ?_
      exact W.iret (v := 0) hx hb hr (fun t ht hW => ⟨⟨_, (σ, vp_updL f 0 0), rfl, ⟨by rw [hw]; rfl, rfl, fun _ => by rw [hw]; exact ((pk_uLs (f := f) (k := 0) (x := 0)).trans (if_pos c_1 : (if r = 0 then (0 : Int64) else 1) = 0).symm :)⟩, by show Soc D cs ρ _ t.heap ∧ va_at D vwCl _ t.heap; rw [ht]; exact ⟨hP, hO⟩⟩, hS.F ht⟩) hS.2.2 dL_hasLent_23
    · refine lv_lconst (v := 1) hx hb dL_hasLent_10 (by decide) ?_
      refine lv_goto (tgt := 15) hx hb dL_hasLent_11 (by decide) ?_
      have hQ := P_cons hO (soc_P hP)
      have hQD : va_D (hlA ρ (sK σ) o s.heap) (outE cs o f :: socW cs ρ σ) := out_D hku hap ho
      refine va_last hx hb hK hQ hQD hS 0 2 rfl rfl (by unfold vp_in; decide) dL_hasLent_15 (fun H locs hQ hQD hS => ?_)
      have hO : va_at D vwCl (outE cs o (vp_updL f 0 1)) H := P_head hQ
      have hP : Soc D cs ρ σ H := P_soc (P_tail hQ)
      refine lv_goto (tgt := 22) hx hb dL_hasLent_16 (by decide) ?_
      refine lv_iconst (v := 0) hx hb dL_hasLent_22 (by decide) ?_
      refine vx_ret ?_
      refine W.widen (k := 1) (n := 6) (Nat.le_of_ble_eq_true rfl) (Nat.le_of_ble_eq_true rfl) ?_
      exact W.iret (v := 0) hx hb hr (fun t ht hW => ⟨⟨_, (σ, vp_updL f 0 1), rfl, ⟨by rw [hw]; rfl, rfl, fun _ => by rw [hw]; exact ((pk_uLs (f := f) (k := 0) (x := 1)).trans (if_neg c_1 : (if r = 0 then (0 : Int64) else 1) = 1).symm :)⟩, by show Soc D cs ρ _ t.heap ∧ va_at D vwCl _ t.heap; rw [ht]; exact ⟨hP, hO⟩⟩, hS.F ht⟩) hS.2.2 dL_hasLent_23
set_option maxHeartbeats 4000000 in
set_option maxRecDepth 100000 in
/-- the law's isExpelled -/
theorem h_isExpelled (l : Launch) (hlf : l.stackTraces = false) (D : va_G) (cs : Cs) (ρ : Rf) {B : Nat} {σ : PS} (hI : InvS B σ) (hap : AptA ρ (sK σ)) (H0 : Heap) (o : Nat) (f : Nat → Int64) (ho : ¬ ownB ρ (sK σ) o) (a : Int32) : vx_Met l yL_isExpelled wsL_isExpelled ({ frames := 8, cells := 1, slots := 6, locals := 126 }) (va_Pc [.ref (r_h ρ), .int a, .ref o] (HBp D cs (fun X => X = H0 ∧ Soc D cs ρ σ X ∧ va_at D vwCl (outE cs o f) X))) (va_Qi (fun (r : Int32) (u : PS × (Nat → Int64)) => r = nI (rdO σ a (fun i => b01 (outS σ i))).1 ∧ u.1 = σ ∧ ((rdO σ a (fun i => b01 (outS σ i))).1 = 0 → u.2 0 = zL ((rdO σ a (fun i => b01 (outS σ i))).2))) (fun u t => Soc D cs ρ u.1 t.heap ∧ va_at D vwCl (outE cs o u.2) t.heap) (hlA ρ (sK σ) o H0)) (vx_X (fun _ : Unit => False) (fun _ _ _ => True) (fun _ => False)) 1 6 (hlA ρ (sK σ) o H0) := by
  refine vx_ofWH (cc := cL_isExpelled) (maxL := 4) (ret := (some .int)) (hh := [(0, 16, 19, 20)]) (by decide) rfl ?_
  intro p e s m args below meth c s₁ B0 hml hv
  obtain ⟨rfl, ⟨⟨⟨hH, hP, hO⟩, hK, hN⟩, hT⟩, hNc⟩ := hv
  subst hH
  have hx := B0.exec
  have hb := B0.bytes
  have hr := B0.returns
  have hts := atoms_spec (ws := wsL_isExpelled) B0.pre
  have htab := vx_table (x := yL_isExpelled) B0 (hts _ List.mem_cons_self)
  have hown : s.vm.findClass RL = some m.cls := findClass_of_methodNamed B0.named
  have hlocks := B0.notSynchronized
  have hS : va_S (hlA ρ (sK σ) o s.heap) s.heap s.heap [] := va_S.rf
  have hl := lv_entry ([.ref (r_h ρ), .int a, .ref o]) (n := 4) (Nat.le_of_ble_eq_true rfl)
  rw [lg_entry_eq]
  generalize (lg_sl ([.ref (r_h ρ), .int a, .ref o]) ++ List.replicate (4 - (lg_sl ([.ref (r_h ρ), .int a, .ref o])).length) Slot.unset).toArray = ls at hl ⊢
  have hl : lv_has ls 4 [(0, .ref (r_h ρ)), (1, .int a), (2, .ref o)] := hl
  refine lv_aload_n hx hb dL_isExpelled_0 rfl (lv_at hl 2 rfl) ?_
  refine lv_iconst (v := 0) hx hb dL_isExpelled_1 (by decide) ?_
  refine lv_aload_n hx hb dL_isExpelled_2 rfl (lv_at hl 0 rfl) ?_
  refine lv_iload_n hx hb dL_isExpelled_3 rfl (lv_at hl 1 rfl) ?_
  refine vx_calli (vx_runV (As := [.int a]) (rest := [.int 0, .ref o]) ⟨hx, hb, hml, hown, hts⟩ (x_X1_isExpelled l hlf D cs ρ hI hap s.heap a) (cwV 1 hts gL_isExpelled_X1_isExpelled rfl rfl rfl (by decide +kernel) ⟨Nat.le_of_ble_eq_true rfl, Nat.le_of_ble_eq_true rfl⟩) (tb_V hK hN ⟨rfl, hP⟩ hT (Nat.le_refl _) (fun _ _ => rfl) (va_recv hK (one_P hP.1) (ci := 2) (q0 := 0) rfl rfl)) rfl rfl hl.1 rfl (lv_room (Nat.le_of_ble_eq_true rfl)) dL_isExpelled_4 ⟨Nat.le_of_ble_eq_true rfl, Nat.le_of_ble_eq_true rfl⟩) hS (fun q _ h => Or.inl (Or.inr h)) (fun q h => Or.inl (Or.inr h)) (fun q _ h => Or.inl (Or.inr h)) (fun E ce q9 u t H1 locs ht hvm hu hB hz1 hk1 hS hce hcv hcl => ?_) (fun r u t H1 locs ht hvm hw hB hz1 hk1 hS => ?_)
  · have hP : Soc D cs ρ σ H1 := soc_kept hP (fun q _ h2 => hk1 q h2 (fun z => absurd z (Nat.not_le.mpr h2)))
    have hO : va_at D vwCl (outE cs o f) H1 := hO.kept (hk1 o hO.lt (fun z => absurd z (Nat.not_le.mpr hO.lt)))
    obtain ⟨rfl, hc⟩ := hB
    refine vx_catch hown [] ⟨0, 16, 19, 20⟩ [] (htab.trans rfl) (fun z hz => absurd hz List.not_mem_nil) (by decide) (by decide) (hts (.classLink RL 20 "java/lang/IndexOutOfBoundsException") (List.mem_of_getElem? (i := 1) (by decide +kernel))) (hN.use (w := .castable eIob eIob) (by decide +kernel)) hce hcv hcl ?_
    refine lv_astore_n (lv' := [(3, .ref q9), (0, .ref (r_h ρ)), (1, .int a), (2, .ref o)]) hx hb dL_isExpelled_19 rfl hl (by decide) rfl (fun ls hl => ?_)
    refine lv_iconst (v := 1) hx hb dL_isExpelled_20 (by decide) ?_
    refine vx_ret ?_
    refine W.widen (k := 1) (n := 6) (Nat.le_of_ble_eq_true rfl) (Nat.le_of_ble_eq_true rfl) ?_
    exact W.iret (v := 1) hx hb hr (fun t ht hW => ⟨⟨_, (σ, f), rfl, ⟨by rw [hc]; rfl, rfl, fun h9 => absurd (hc.symm.trans h9) (by decide)⟩, by show Soc D cs ρ _ t.heap ∧ va_at D vwCl _ t.heap; rw [ht]; exact ⟨hP, hO⟩⟩, hS.F ht⟩) hS.2.2 dL_isExpelled_21
  · have hH1 : H1 = s.heap := ht.symm.trans hB
    subst hH1
    have hku : sK σ = sK σ := rfl
    refine lv_if_eq (tgt := 14) hx hb dL_isExpelled_7 (by decide) (fun c_1 => ?_) (fun c_1 => ?_)
    · refine lv_lconst (v := 0) hx hb dL_isExpelled_14 (by decide) ?_
      have hQ := P_cons hO (soc_P hP)
      have hQD : va_D (hlA ρ (sK σ) o s.heap) (outE cs o f :: socW cs ρ σ) := out_D hku hap ho
      refine va_last hx hb hK hQ hQD hS 0 2 rfl rfl (by unfold vp_in; decide) dL_isExpelled_15 (fun H locs hQ hQD hS => ?_)
      have hO : va_at D vwCl (outE cs o (vp_updL f 0 0)) H := P_head hQ
      have hP : Soc D cs ρ σ H := P_soc (P_tail hQ)
      refine lv_goto (tgt := 22) hx hb dL_isExpelled_16 (by decide) ?_
      refine lv_iconst (v := 0) hx hb dL_isExpelled_22 (by decide) ?_
      refine vx_ret ?_
      refine W.widen (k := 1) (n := 6) (Nat.le_of_ble_eq_true rfl) (Nat.le_of_ble_eq_true rfl) ?_
      exact W.iret (v := 0) hx hb hr (fun t ht hW => ⟨⟨_, (σ, vp_updL f 0 0), rfl, ⟨by rw [hw]; rfl, rfl, fun _ => by rw [hw]; exact ((pk_uLs (f := f) (k := 0) (x := 0)).trans (if_pos c_1 : (if r = 0 then (0 : Int64) else 1) = 0).symm :)⟩, by show Soc D cs ρ _ t.heap ∧ va_at D vwCl _ t.heap; rw [ht]; exact ⟨hP, hO⟩⟩, hS.F ht⟩) hS.2.2 dL_isExpelled_23
    · refine lv_lconst (v := 1) hx hb dL_isExpelled_10 (by decide) ?_
      refine lv_goto (tgt := 15) hx hb dL_isExpelled_11 (by decide) ?_
      have hQ := P_cons hO (soc_P hP)
      have hQD : va_D (hlA ρ (sK σ) o s.heap) (outE cs o f :: socW cs ρ σ) := out_D hku hap ho
      refine va_last hx hb hK hQ hQD hS 0 2 rfl rfl (by unfold vp_in; decide) dL_isExpelled_15 (fun H locs hQ hQD hS => ?_)
      have hO : va_at D vwCl (outE cs o (vp_updL f 0 1)) H := P_head hQ
      have hP : Soc D cs ρ σ H := P_soc (P_tail hQ)
      refine lv_goto (tgt := 22) hx hb dL_isExpelled_16 (by decide) ?_
      refine lv_iconst (v := 0) hx hb dL_isExpelled_22 (by decide) ?_
      refine vx_ret ?_
      refine W.widen (k := 1) (n := 6) (Nat.le_of_ble_eq_true rfl) (Nat.le_of_ble_eq_true rfl) ?_
      exact W.iret (v := 0) hx hb hr (fun t ht hW => ⟨⟨_, (σ, vp_updL f 0 1), rfl, ⟨by rw [hw]; rfl, rfl, fun _ => by rw [hw]; exact ((pk_uLs (f := f) (k := 0) (x := 1)).trans (if_neg c_1 : (if r = 0 then (0 : Int64) else 1) = 1).symm :)⟩, by show Soc D cs ρ _ t.heap ∧ va_at D vwCl _ t.heap; rw [ht]; exact ⟨hP, hO⟩⟩, hS.F ht⟩) hS.2.2 dL_isExpelled_23
set_option maxHeartbeats 4000000 in
set_option maxRecDepth 100000 in
/-- the law's shadowOf -/
theorem h_shadowOf (l : Launch) (hlf : l.stackTraces = false) (D : va_G) (cs : Cs) (ρ : Rf) {B : Nat} {σ : PS} (hI : InvS B σ) (hap : AptA ρ (sK σ)) (H0 : Heap) (o : Nat) (f : Nat → Int64) (ho : ¬ ownB ρ (sK σ) o) (a : Int32) : vx_Met l yL_shadowOf wsL_shadowOf ({ frames := 8, cells := 1, slots := 6, locals := 126 }) (va_Pc [.ref (r_h ρ), .int a, .ref o] (HBp D cs (fun X => X = H0 ∧ Soc D cs ρ σ X ∧ va_at D vwCl (outE cs o f) X))) (va_Qi (fun (r : Int32) (u : PS × (Nat → Int64)) => r = nI (rdO σ a (fun i => shadS σ i (dayOf σ))).1 ∧ u.1 = σ ∧ ((rdO σ a (fun i => shadS σ i (dayOf σ))).1 = 0 → u.2 0 = ((rdO σ a (fun i => shadS σ i (dayOf σ))).2).toInt64)) (fun u t => Soc D cs ρ u.1 t.heap ∧ va_at D vwCl (outE cs o u.2) t.heap) (hlA ρ (sK σ) o H0)) (vx_X (fun _ : Unit => False) (fun _ _ _ => True) (fun _ => False)) 1 6 (hlA ρ (sK σ) o H0) := by
  refine vx_ofWH (cc := cL_shadowOf) (maxL := 4) (ret := (some .int)) (hh := [(0, 9, 12, 20)]) (by decide) rfl ?_
  intro p e s m args below meth c s₁ B0 hml hv
  obtain ⟨rfl, ⟨⟨⟨hH, hP, hO⟩, hK, hN⟩, hT⟩, hNc⟩ := hv
  subst hH
  have hx := B0.exec
  have hb := B0.bytes
  have hr := B0.returns
  have hts := atoms_spec (ws := wsL_shadowOf) B0.pre
  have htab := vx_table (x := yL_shadowOf) B0 (hts _ List.mem_cons_self)
  have hown : s.vm.findClass RL = some m.cls := findClass_of_methodNamed B0.named
  have hlocks := B0.notSynchronized
  have hS : va_S (hlA ρ (sK σ) o s.heap) s.heap s.heap [] := va_S.rf
  have hl := lv_entry ([.ref (r_h ρ), .int a, .ref o]) (n := 4) (Nat.le_of_ble_eq_true rfl)
  rw [lg_entry_eq]
  generalize (lg_sl ([.ref (r_h ρ), .int a, .ref o]) ++ List.replicate (4 - (lg_sl ([.ref (r_h ρ), .int a, .ref o])).length) Slot.unset).toArray = ls at hl ⊢
  have hl : lv_has ls 4 [(0, .ref (r_h ρ)), (1, .int a), (2, .ref o)] := hl
  refine lv_aload_n hx hb dL_shadowOf_0 rfl (lv_at hl 2 rfl) ?_
  refine lv_iconst (v := 0) hx hb dL_shadowOf_1 (by decide) ?_
  refine lv_aload_n hx hb dL_shadowOf_2 rfl (lv_at hl 0 rfl) ?_
  refine lv_iload_n hx hb dL_shadowOf_3 rfl (lv_at hl 1 rfl) ?_
  refine vx_calli (vx_runV (As := [.int a]) (rest := [.int 0, .ref o]) ⟨hx, hb, hml, hown, hts⟩ (x_X1_shadowOf l hlf D cs ρ hI hap s.heap a) (cwV 1 hts gL_shadowOf_X1_shadowOf rfl rfl rfl (by decide +kernel) ⟨Nat.le_of_ble_eq_true rfl, Nat.le_of_ble_eq_true rfl⟩) (tb_V hK hN ⟨rfl, hP⟩ hT (Nat.le_refl _) (fun _ _ => rfl) (va_recv hK (one_P hP.1) (ci := 2) (q0 := 0) rfl rfl)) rfl rfl hl.1 rfl (lv_room (Nat.le_of_ble_eq_true rfl)) dL_shadowOf_4 ⟨Nat.le_of_ble_eq_true rfl, Nat.le_of_ble_eq_true rfl⟩) hS (fun q _ h => Or.inl (Or.inr h)) (fun q h => Or.inl (Or.inr h)) (fun q _ h => Or.inl (Or.inr h)) (fun E ce q9 u t H1 locs ht hvm hu hB hz1 hk1 hS hce hcv hcl => ?_) (fun r u t H1 locs ht hvm hw hB hz1 hk1 hS => ?_)
  · have hP : Soc D cs ρ σ H1 := soc_kept hP (fun q _ h2 => hk1 q h2 (fun z => absurd z (Nat.not_le.mpr h2)))
    have hO : va_at D vwCl (outE cs o f) H1 := hO.kept (hk1 o hO.lt (fun z => absurd z (Nat.not_le.mpr hO.lt)))
    obtain ⟨rfl, hc⟩ := hB
    refine vx_catch hown [] ⟨0, 9, 12, 20⟩ [] (htab.trans rfl) (fun z hz => absurd hz List.not_mem_nil) (by decide) (by decide) (hts (.classLink RL 20 "java/lang/IndexOutOfBoundsException") (List.mem_of_getElem? (i := 1) (by decide +kernel))) (hN.use (w := .castable eIob eIob) (by decide +kernel)) hce hcv hcl ?_
    refine lv_astore_n (lv' := [(3, .ref q9), (0, .ref (r_h ρ)), (1, .int a), (2, .ref o)]) hx hb dL_shadowOf_12 rfl hl (by decide) rfl (fun ls hl => ?_)
    refine lv_iconst (v := 1) hx hb dL_shadowOf_13 (by decide) ?_
    refine vx_ret ?_
    refine W.widen (k := 1) (n := 6) (Nat.le_of_ble_eq_true rfl) (Nat.le_of_ble_eq_true rfl) ?_
    exact W.iret (v := 1) hx hb hr (fun t ht hW => ⟨⟨_, (σ, f), rfl, ⟨by rw [hc]; rfl, rfl, fun h9 => absurd (hc.symm.trans h9) (by decide)⟩, by show Soc D cs ρ _ t.heap ∧ va_at D vwCl _ t.heap; rw [ht]; exact ⟨hP, hO⟩⟩, hS.F ht⟩) hS.2.2 dL_shadowOf_14
  · have hH1 : H1 = s.heap := ht.symm.trans hB
    subst hH1
    have hku : sK σ = sK σ := rfl
    refine lv_i2l (v := (r).toInt64) hx hb dL_shadowOf_7 rfl ?_
    have hQ := P_cons hO (soc_P hP)
    have hQD : va_D (hlA ρ (sK σ) o s.heap) (outE cs o f :: socW cs ρ σ) := out_D hku hap ho
    refine va_last hx hb hK hQ hQD hS 0 2 rfl rfl (by unfold vp_in; decide) dL_shadowOf_8 (fun H locs hQ hQD hS => ?_)
    have hO : va_at D vwCl (outE cs o (vp_updL f 0 ((r).toInt64))) H := P_head hQ
    have hP : Soc D cs ρ σ H := P_soc (P_tail hQ)
    refine lv_goto (tgt := 15) hx hb dL_shadowOf_9 (by decide) ?_
    refine lv_iconst (v := 0) hx hb dL_shadowOf_15 (by decide) ?_
    refine vx_ret ?_
    refine W.widen (k := 1) (n := 6) (Nat.le_of_ble_eq_true rfl) (Nat.le_of_ble_eq_true rfl) ?_
    exact W.iret (v := 0) hx hb hr (fun t ht hW => ⟨⟨_, (σ, vp_updL f 0 ((r).toInt64)), rfl, ⟨by rw [hw]; rfl, rfl, fun _ => by rw [hw]; exact (pk_uLs (f := f) (k := 0) (x := (r).toInt64) :)⟩, by show Soc D cs ρ _ t.heap ∧ va_at D vwCl _ t.heap; rw [ht]; exact ⟨hP, hO⟩⟩, hS.F ht⟩) hS.2.2 dL_shadowOf_16
set_option maxHeartbeats 4000000 in
set_option maxRecDepth 100000 in
/-- the law's certified -/
theorem h_certified (l : Launch) (hlf : l.stackTraces = false) (D : va_G) (cs : Cs) (ρ : Rf) {B : Nat} {σ : PS} (hI : InvS B σ) (hap : AptA ρ (sK σ)) (H0 : Heap) (o : Nat) (f : Nat → Int64) (ho : ¬ ownB ρ (sK σ) o) (a : Int32) : vx_Met l yL_certified wsL_certified ({ frames := 8, cells := 1, slots := 6, locals := 126 }) (va_Pc [.ref (r_h ρ), .int a, .ref o] (HBp D cs (fun X => X = H0 ∧ Soc D cs ρ σ X ∧ va_at D vwCl (outE cs o f) X))) (va_Qi (fun (r : Int32) (u : PS × (Nat → Int64)) => r = nI (rdO σ a (fun i => sCe σ i)).1 ∧ u.1 = σ ∧ ((rdO σ a (fun i => sCe σ i)).1 = 0 → u.2 0 = ((rdO σ a (fun i => sCe σ i)).2).toInt64)) (fun u t => Soc D cs ρ u.1 t.heap ∧ va_at D vwCl (outE cs o u.2) t.heap) (hlA ρ (sK σ) o H0)) (vx_X (fun _ : Unit => False) (fun _ _ _ => True) (fun _ => False)) 1 6 (hlA ρ (sK σ) o H0) := by
  refine vx_ofWH (cc := cL_certified) (maxL := 4) (ret := (some .int)) (hh := [(0, 9, 12, 20)]) (by decide) rfl ?_
  intro p e s m args below meth c s₁ B0 hml hv
  obtain ⟨rfl, ⟨⟨⟨hH, hP, hO⟩, hK, hN⟩, hT⟩, hNc⟩ := hv
  subst hH
  have hx := B0.exec
  have hb := B0.bytes
  have hr := B0.returns
  have hts := atoms_spec (ws := wsL_certified) B0.pre
  have htab := vx_table (x := yL_certified) B0 (hts _ List.mem_cons_self)
  have hown : s.vm.findClass RL = some m.cls := findClass_of_methodNamed B0.named
  have hlocks := B0.notSynchronized
  have hS : va_S (hlA ρ (sK σ) o s.heap) s.heap s.heap [] := va_S.rf
  have hl := lv_entry ([.ref (r_h ρ), .int a, .ref o]) (n := 4) (Nat.le_of_ble_eq_true rfl)
  rw [lg_entry_eq]
  generalize (lg_sl ([.ref (r_h ρ), .int a, .ref o]) ++ List.replicate (4 - (lg_sl ([.ref (r_h ρ), .int a, .ref o])).length) Slot.unset).toArray = ls at hl ⊢
  have hl : lv_has ls 4 [(0, .ref (r_h ρ)), (1, .int a), (2, .ref o)] := hl
  refine lv_aload_n hx hb dL_certified_0 rfl (lv_at hl 2 rfl) ?_
  refine lv_iconst (v := 0) hx hb dL_certified_1 (by decide) ?_
  refine lv_aload_n hx hb dL_certified_2 rfl (lv_at hl 0 rfl) ?_
  refine lv_iload_n hx hb dL_certified_3 rfl (lv_at hl 1 rfl) ?_
  refine vx_calli (vx_runV (As := [.int a]) (rest := [.int 0, .ref o]) ⟨hx, hb, hml, hown, hts⟩ (x_X1_certified l hlf D cs ρ hI hap s.heap a) (cwV 1 hts gL_certified_X1_certified rfl rfl rfl (by decide +kernel) ⟨Nat.le_of_ble_eq_true rfl, Nat.le_of_ble_eq_true rfl⟩) (tb_V hK hN ⟨rfl, hP⟩ hT (Nat.le_refl _) (fun _ _ => rfl) (va_recv hK (one_P hP.1) (ci := 2) (q0 := 0) rfl rfl)) rfl rfl hl.1 rfl (lv_room (Nat.le_of_ble_eq_true rfl)) dL_certified_4 ⟨Nat.le_of_ble_eq_true rfl, Nat.le_of_ble_eq_true rfl⟩) hS (fun q _ h => Or.inl (Or.inr h)) (fun q h => Or.inl (Or.inr h)) (fun q _ h => Or.inl (Or.inr h)) (fun E ce q9 u t H1 locs ht hvm hu hB hz1 hk1 hS hce hcv hcl => ?_) (fun r u t H1 locs ht hvm hw hB hz1 hk1 hS => ?_)
  · have hP : Soc D cs ρ σ H1 := soc_kept hP (fun q _ h2 => hk1 q h2 (fun z => absurd z (Nat.not_le.mpr h2)))
    have hO : va_at D vwCl (outE cs o f) H1 := hO.kept (hk1 o hO.lt (fun z => absurd z (Nat.not_le.mpr hO.lt)))
    obtain ⟨rfl, hc⟩ := hB
    refine vx_catch hown [] ⟨0, 9, 12, 20⟩ [] (htab.trans rfl) (fun z hz => absurd hz List.not_mem_nil) (by decide) (by decide) (hts (.classLink RL 20 "java/lang/IndexOutOfBoundsException") (List.mem_of_getElem? (i := 1) (by decide +kernel))) (hN.use (w := .castable eIob eIob) (by decide +kernel)) hce hcv hcl ?_
    refine lv_astore_n (lv' := [(3, .ref q9), (0, .ref (r_h ρ)), (1, .int a), (2, .ref o)]) hx hb dL_certified_12 rfl hl (by decide) rfl (fun ls hl => ?_)
    refine lv_iconst (v := 1) hx hb dL_certified_13 (by decide) ?_
    refine vx_ret ?_
    refine W.widen (k := 1) (n := 6) (Nat.le_of_ble_eq_true rfl) (Nat.le_of_ble_eq_true rfl) ?_
    exact W.iret (v := 1) hx hb hr (fun t ht hW => ⟨⟨_, (σ, f), rfl, ⟨by rw [hc]; rfl, rfl, fun h9 => absurd (hc.symm.trans h9) (by decide)⟩, by show Soc D cs ρ _ t.heap ∧ va_at D vwCl _ t.heap; rw [ht]; exact ⟨hP, hO⟩⟩, hS.F ht⟩) hS.2.2 dL_certified_14
  · have hH1 : H1 = s.heap := ht.symm.trans hB
    subst hH1
    have hku : sK σ = sK σ := rfl
    refine lv_i2l (v := (r).toInt64) hx hb dL_certified_7 rfl ?_
    have hQ := P_cons hO (soc_P hP)
    have hQD : va_D (hlA ρ (sK σ) o s.heap) (outE cs o f :: socW cs ρ σ) := out_D hku hap ho
    refine va_last hx hb hK hQ hQD hS 0 2 rfl rfl (by unfold vp_in; decide) dL_certified_8 (fun H locs hQ hQD hS => ?_)
    have hO : va_at D vwCl (outE cs o (vp_updL f 0 ((r).toInt64))) H := P_head hQ
    have hP : Soc D cs ρ σ H := P_soc (P_tail hQ)
    refine lv_goto (tgt := 15) hx hb dL_certified_9 (by decide) ?_
    refine lv_iconst (v := 0) hx hb dL_certified_15 (by decide) ?_
    refine vx_ret ?_
    refine W.widen (k := 1) (n := 6) (Nat.le_of_ble_eq_true rfl) (Nat.le_of_ble_eq_true rfl) ?_
    exact W.iret (v := 0) hx hb hr (fun t ht hW => ⟨⟨_, (σ, vp_updL f 0 ((r).toInt64)), rfl, ⟨by rw [hw]; rfl, rfl, fun _ => by rw [hw]; exact (pk_uLs (f := f) (k := 0) (x := (r).toInt64) :)⟩, by show Soc D cs ρ _ t.heap ∧ va_at D vwCl _ t.heap; rw [ht]; exact ⟨hP, hO⟩⟩, hS.F ht⟩) hS.2.2 dL_certified_16
set_option maxHeartbeats 4000000 in
set_option maxRecDepth 100000 in
/-- the law's auditBrings -/
theorem h_auditBrings (l : Launch) (hlf : l.stackTraces = false) (D : va_G) (cs : Cs) (ρ : Rf) {B : Nat} {σ : PS} (hI : InvS B σ) (hap : AptA ρ (sK σ)) (H0 : Heap) (o : Nat) (f : Nat → Int64) (ho : ¬ ownB ρ (sK σ) o) (a : Int32) : vx_Met l yL_auditBrings wsL_auditBrings ({ frames := 8, cells := 1, slots := 6, locals := 139 }) (va_Pc [.ref (r_h ρ), .int a, .ref o] (HBp D cs (fun X => X = H0 ∧ Soc D cs ρ σ X ∧ va_at D vwCl (outE cs o f) X))) (va_Qi (fun (r : Int32) (u : PS × (Nat → Int64)) => r = nI (rdO σ a (fun i => gainS σ i)).1 ∧ u.1 = σ ∧ ((rdO σ a (fun i => gainS σ i)).1 = 0 → u.2 0 = ((rdO σ a (fun i => gainS σ i)).2).toInt64)) (fun u t => Soc D cs ρ u.1 t.heap ∧ va_at D vwCl (outE cs o u.2) t.heap) (hlA ρ (sK σ) o H0)) (vx_X (fun _ : Unit => False) (fun _ _ _ => True) (fun _ => False)) 1 6 (hlA ρ (sK σ) o H0) := by
  refine vx_ofWH (cc := cL_auditBrings) (maxL := 4) (ret := (some .int)) (hh := [(0, 9, 12, 20)]) (by decide) rfl ?_
  intro p e s m args below meth c s₁ B0 hml hv
  obtain ⟨rfl, ⟨⟨⟨hH, hP, hO⟩, hK, hN⟩, hT⟩, hNc⟩ := hv
  subst hH
  have hx := B0.exec
  have hb := B0.bytes
  have hr := B0.returns
  have hts := atoms_spec (ws := wsL_auditBrings) B0.pre
  have htab := vx_table (x := yL_auditBrings) B0 (hts _ List.mem_cons_self)
  have hown : s.vm.findClass RL = some m.cls := findClass_of_methodNamed B0.named
  have hlocks := B0.notSynchronized
  have hS : va_S (hlA ρ (sK σ) o s.heap) s.heap s.heap [] := va_S.rf
  have hl := lv_entry ([.ref (r_h ρ), .int a, .ref o]) (n := 4) (Nat.le_of_ble_eq_true rfl)
  rw [lg_entry_eq]
  generalize (lg_sl ([.ref (r_h ρ), .int a, .ref o]) ++ List.replicate (4 - (lg_sl ([.ref (r_h ρ), .int a, .ref o])).length) Slot.unset).toArray = ls at hl ⊢
  have hl : lv_has ls 4 [(0, .ref (r_h ρ)), (1, .int a), (2, .ref o)] := hl
  refine lv_aload_n hx hb dL_auditBrings_0 rfl (lv_at hl 2 rfl) ?_
  refine lv_iconst (v := 0) hx hb dL_auditBrings_1 (by decide) ?_
  refine lv_aload_n hx hb dL_auditBrings_2 rfl (lv_at hl 0 rfl) ?_
  refine lv_iload_n hx hb dL_auditBrings_3 rfl (lv_at hl 1 rfl) ?_
  refine vx_calli (vx_runV (As := [.int a]) (rest := [.int 0, .ref o]) ⟨hx, hb, hml, hown, hts⟩ (x_X1_auditBrings l hlf D cs ρ hI hap s.heap a) (cwV 1 hts gL_auditBrings_X1_auditBrings rfl rfl rfl (by decide +kernel) ⟨Nat.le_of_ble_eq_true rfl, Nat.le_of_ble_eq_true rfl⟩) (tb_V hK hN ⟨rfl, hP⟩ hT (Nat.le_refl _) (fun _ _ => rfl) (va_recv hK (one_P hP.1) (ci := 2) (q0 := 0) rfl rfl)) rfl rfl hl.1 rfl (lv_room (Nat.le_of_ble_eq_true rfl)) dL_auditBrings_4 ⟨Nat.le_of_ble_eq_true rfl, Nat.le_of_ble_eq_true rfl⟩) hS (fun q _ h => Or.inl (Or.inr h)) (fun q h => Or.inl (Or.inr h)) (fun q _ h => Or.inl (Or.inr h)) (fun E ce q9 u t H1 locs ht hvm hu hB hz1 hk1 hS hce hcv hcl => ?_) (fun r u t H1 locs ht hvm hw hB hz1 hk1 hS => ?_)
  · have hP : Soc D cs ρ σ H1 := soc_kept hP (fun q _ h2 => hk1 q h2 (fun z => absurd z (Nat.not_le.mpr h2)))
    have hO : va_at D vwCl (outE cs o f) H1 := hO.kept (hk1 o hO.lt (fun z => absurd z (Nat.not_le.mpr hO.lt)))
    obtain ⟨rfl, hc⟩ := hB
    refine vx_catch hown [] ⟨0, 9, 12, 20⟩ [] (htab.trans rfl) (fun z hz => absurd hz List.not_mem_nil) (by decide) (by decide) (hts (.classLink RL 20 "java/lang/IndexOutOfBoundsException") (List.mem_of_getElem? (i := 1) (by decide +kernel))) (hN.use (w := .castable eIob eIob) (by decide +kernel)) hce hcv hcl ?_
    refine lv_astore_n (lv' := [(3, .ref q9), (0, .ref (r_h ρ)), (1, .int a), (2, .ref o)]) hx hb dL_auditBrings_12 rfl hl (by decide) rfl (fun ls hl => ?_)
    refine lv_iconst (v := 1) hx hb dL_auditBrings_13 (by decide) ?_
    refine vx_ret ?_
    refine W.widen (k := 1) (n := 6) (Nat.le_of_ble_eq_true rfl) (Nat.le_of_ble_eq_true rfl) ?_
    exact W.iret (v := 1) hx hb hr (fun t ht hW => ⟨⟨_, (σ, f), rfl, ⟨by rw [hc]; rfl, rfl, fun h9 => absurd (hc.symm.trans h9) (by decide)⟩, by show Soc D cs ρ _ t.heap ∧ va_at D vwCl _ t.heap; rw [ht]; exact ⟨hP, hO⟩⟩, hS.F ht⟩) hS.2.2 dL_auditBrings_14
  · have hH1 : H1 = s.heap := ht.symm.trans hB
    subst hH1
    have hku : sK σ = sK σ := rfl
    refine lv_i2l (v := (r).toInt64) hx hb dL_auditBrings_7 rfl ?_
    have hQ := P_cons hO (soc_P hP)
    have hQD : va_D (hlA ρ (sK σ) o s.heap) (outE cs o f :: socW cs ρ σ) := out_D hku hap ho
    refine va_last hx hb hK hQ hQD hS 0 2 rfl rfl (by unfold vp_in; decide) dL_auditBrings_8 (fun H locs hQ hQD hS => ?_)
    have hO : va_at D vwCl (outE cs o (vp_updL f 0 ((r).toInt64))) H := P_head hQ
    have hP : Soc D cs ρ σ H := P_soc (P_tail hQ)
    refine lv_goto (tgt := 15) hx hb dL_auditBrings_9 (by decide) ?_
    refine lv_iconst (v := 0) hx hb dL_auditBrings_15 (by decide) ?_
    refine vx_ret ?_
    refine W.widen (k := 1) (n := 6) (Nat.le_of_ble_eq_true rfl) (Nat.le_of_ble_eq_true rfl) ?_
    exact W.iret (v := 0) hx hb hr (fun t ht hW => ⟨⟨_, (σ, vp_updL f 0 ((r).toInt64)), rfl, ⟨by rw [hw]; rfl, rfl, fun _ => by rw [hw]; exact (pk_uLs (f := f) (k := 0) (x := (r).toInt64) :)⟩, by show Soc D cs ρ _ t.heap ∧ va_at D vwCl _ t.heap; rw [ht]; exact ⟨hP, hO⟩⟩, hS.F ht⟩) hS.2.2 dL_auditBrings_16
set_option maxHeartbeats 4000000 in
set_option maxRecDepth 100000 in
/-- the law's bestHat -/
theorem h_bestHat (l : Launch) (hlf : l.stackTraces = false) (D : va_G) (cs : Cs) (ρ : Rf) {B : Nat} {σ : PS} (hI : InvS B σ) (hap : AptA ρ (sK σ)) (H0 : Heap) (o : Nat) (f : Nat → Int64) (ho : ¬ ownB ρ (sK σ) o) (a : Int32) : vx_Met l yL_bestHat wsL_bestHat ({ frames := 8, cells := 1, slots := 6, locals := 126 }) (va_Pc [.ref (r_h ρ), .int a, .ref o] (HBp D cs (fun X => X = H0 ∧ Soc D cs ρ σ X ∧ va_at D vwCl (outE cs o f) X))) (va_Qi (fun (r : Int32) (u : PS × (Nat → Int64)) => r = nI (rdO σ a (fun i => bestS σ i)).1 ∧ u.1 = σ ∧ ((rdO σ a (fun i => bestS σ i)).1 = 0 → u.2 0 = ((rdO σ a (fun i => bestS σ i)).2).toInt64)) (fun u t => Soc D cs ρ u.1 t.heap ∧ va_at D vwCl (outE cs o u.2) t.heap) (hlA ρ (sK σ) o H0)) (vx_X (fun _ : Unit => False) (fun _ _ _ => True) (fun _ => False)) 1 6 (hlA ρ (sK σ) o H0) := by
  refine vx_ofWH (cc := cL_bestHat) (maxL := 4) (ret := (some .int)) (hh := [(0, 9, 12, 20)]) (by decide) rfl ?_
  intro p e s m args below meth c s₁ B0 hml hv
  obtain ⟨rfl, ⟨⟨⟨hH, hP, hO⟩, hK, hN⟩, hT⟩, hNc⟩ := hv
  subst hH
  have hx := B0.exec
  have hb := B0.bytes
  have hr := B0.returns
  have hts := atoms_spec (ws := wsL_bestHat) B0.pre
  have htab := vx_table (x := yL_bestHat) B0 (hts _ List.mem_cons_self)
  have hown : s.vm.findClass RL = some m.cls := findClass_of_methodNamed B0.named
  have hlocks := B0.notSynchronized
  have hS : va_S (hlA ρ (sK σ) o s.heap) s.heap s.heap [] := va_S.rf
  have hl := lv_entry ([.ref (r_h ρ), .int a, .ref o]) (n := 4) (Nat.le_of_ble_eq_true rfl)
  rw [lg_entry_eq]
  generalize (lg_sl ([.ref (r_h ρ), .int a, .ref o]) ++ List.replicate (4 - (lg_sl ([.ref (r_h ρ), .int a, .ref o])).length) Slot.unset).toArray = ls at hl ⊢
  have hl : lv_has ls 4 [(0, .ref (r_h ρ)), (1, .int a), (2, .ref o)] := hl
  refine lv_aload_n hx hb dL_bestHat_0 rfl (lv_at hl 2 rfl) ?_
  refine lv_iconst (v := 0) hx hb dL_bestHat_1 (by decide) ?_
  refine lv_aload_n hx hb dL_bestHat_2 rfl (lv_at hl 0 rfl) ?_
  refine lv_iload_n hx hb dL_bestHat_3 rfl (lv_at hl 1 rfl) ?_
  refine vx_calli (vx_runV (As := [.int a]) (rest := [.int 0, .ref o]) ⟨hx, hb, hml, hown, hts⟩ (x_X1_bestHat l hlf D cs ρ hI hap s.heap a) (cwV 1 hts gL_bestHat_X1_bestHat rfl rfl rfl (by decide +kernel) ⟨Nat.le_of_ble_eq_true rfl, Nat.le_of_ble_eq_true rfl⟩) (tb_V hK hN ⟨rfl, hP⟩ hT (Nat.le_refl _) (fun _ _ => rfl) (va_recv hK (one_P hP.1) (ci := 2) (q0 := 0) rfl rfl)) rfl rfl hl.1 rfl (lv_room (Nat.le_of_ble_eq_true rfl)) dL_bestHat_4 ⟨Nat.le_of_ble_eq_true rfl, Nat.le_of_ble_eq_true rfl⟩) hS (fun q _ h => Or.inl (Or.inr h)) (fun q h => Or.inl (Or.inr h)) (fun q _ h => Or.inl (Or.inr h)) (fun E ce q9 u t H1 locs ht hvm hu hB hz1 hk1 hS hce hcv hcl => ?_) (fun r u t H1 locs ht hvm hw hB hz1 hk1 hS => ?_)
  · have hP : Soc D cs ρ σ H1 := soc_kept hP (fun q _ h2 => hk1 q h2 (fun z => absurd z (Nat.not_le.mpr h2)))
    have hO : va_at D vwCl (outE cs o f) H1 := hO.kept (hk1 o hO.lt (fun z => absurd z (Nat.not_le.mpr hO.lt)))
    obtain ⟨rfl, hc⟩ := hB
    refine vx_catch hown [] ⟨0, 9, 12, 20⟩ [] (htab.trans rfl) (fun z hz => absurd hz List.not_mem_nil) (by decide) (by decide) (hts (.classLink RL 20 "java/lang/IndexOutOfBoundsException") (List.mem_of_getElem? (i := 1) (by decide +kernel))) (hN.use (w := .castable eIob eIob) (by decide +kernel)) hce hcv hcl ?_
    refine lv_astore_n (lv' := [(3, .ref q9), (0, .ref (r_h ρ)), (1, .int a), (2, .ref o)]) hx hb dL_bestHat_12 rfl hl (by decide) rfl (fun ls hl => ?_)
    refine lv_iconst (v := 1) hx hb dL_bestHat_13 (by decide) ?_
    refine vx_ret ?_
    refine W.widen (k := 1) (n := 6) (Nat.le_of_ble_eq_true rfl) (Nat.le_of_ble_eq_true rfl) ?_
    exact W.iret (v := 1) hx hb hr (fun t ht hW => ⟨⟨_, (σ, f), rfl, ⟨by rw [hc]; rfl, rfl, fun h9 => absurd (hc.symm.trans h9) (by decide)⟩, by show Soc D cs ρ _ t.heap ∧ va_at D vwCl _ t.heap; rw [ht]; exact ⟨hP, hO⟩⟩, hS.F ht⟩) hS.2.2 dL_bestHat_14
  · have hH1 : H1 = s.heap := ht.symm.trans hB
    subst hH1
    have hku : sK σ = sK σ := rfl
    refine lv_i2l (v := (r).toInt64) hx hb dL_bestHat_7 rfl ?_
    have hQ := P_cons hO (soc_P hP)
    have hQD : va_D (hlA ρ (sK σ) o s.heap) (outE cs o f :: socW cs ρ σ) := out_D hku hap ho
    refine va_last hx hb hK hQ hQD hS 0 2 rfl rfl (by unfold vp_in; decide) dL_bestHat_8 (fun H locs hQ hQD hS => ?_)
    have hO : va_at D vwCl (outE cs o (vp_updL f 0 ((r).toInt64))) H := P_head hQ
    have hP : Soc D cs ρ σ H := P_soc (P_tail hQ)
    refine lv_goto (tgt := 15) hx hb dL_bestHat_9 (by decide) ?_
    refine lv_iconst (v := 0) hx hb dL_bestHat_15 (by decide) ?_
    refine vx_ret ?_
    refine W.widen (k := 1) (n := 6) (Nat.le_of_ble_eq_true rfl) (Nat.le_of_ble_eq_true rfl) ?_
    exact W.iret (v := 0) hx hb hr (fun t ht hW => ⟨⟨_, (σ, vp_updL f 0 ((r).toInt64)), rfl, ⟨by rw [hw]; rfl, rfl, fun _ => by rw [hw]; exact (pk_uLs (f := f) (k := 0) (x := (r).toInt64) :)⟩, by show Soc D cs ρ _ t.heap ∧ va_at D vwCl _ t.heap; rw [ht]; exact ⟨hP, hO⟩⟩, hS.F ht⟩) hS.2.2 dL_bestHat_16
set_option maxHeartbeats 4000000 in
set_option maxRecDepth 100000 in
/-- the law's longestIn -/
theorem h_longestIn (l : Launch) (hlf : l.stackTraces = false) (D : va_G) (cs : Cs) (ρ : Rf) {B : Nat} {σ : PS} (hI : InvS B σ) (hap : AptA ρ (sK σ)) (H0 : Heap) (o : Nat) (f : Nat → Int64) (ho : ¬ ownB ρ (sK σ) o) (a : Int32) : vx_Met l yL_longestIn wsL_longestIn ({ frames := 8, cells := 1, slots := 6, locals := 127 }) (va_Pc [.ref (r_h ρ), .int a, .ref o] (HBp D cs (fun X => X = H0 ∧ Soc D cs ρ σ X ∧ va_at D vwCl (outE cs o f) X))) (va_Qi (fun (r : Int32) (u : PS × (Nat → Int64)) => r = nI (rdO σ a (fun i => longInS σ i)).1 ∧ u.1 = σ ∧ ((rdO σ a (fun i => longInS σ i)).1 = 0 → u.2 0 = ((rdO σ a (fun i => longInS σ i)).2).toInt64)) (fun u t => Soc D cs ρ u.1 t.heap ∧ va_at D vwCl (outE cs o u.2) t.heap) (hlA ρ (sK σ) o H0)) (vx_X (fun _ : Unit => False) (fun _ _ _ => True) (fun _ => False)) 1 6 (hlA ρ (sK σ) o H0) := by
  refine vx_ofWH (cc := cL_longestIn) (maxL := 4) (ret := (some .int)) (hh := [(0, 9, 12, 20)]) (by decide) rfl ?_
  intro p e s m args below meth c s₁ B0 hml hv
  obtain ⟨rfl, ⟨⟨⟨hH, hP, hO⟩, hK, hN⟩, hT⟩, hNc⟩ := hv
  subst hH
  have hx := B0.exec
  have hb := B0.bytes
  have hr := B0.returns
  have hts := atoms_spec (ws := wsL_longestIn) B0.pre
  have htab := vx_table (x := yL_longestIn) B0 (hts _ List.mem_cons_self)
  have hown : s.vm.findClass RL = some m.cls := findClass_of_methodNamed B0.named
  have hlocks := B0.notSynchronized
  have hS : va_S (hlA ρ (sK σ) o s.heap) s.heap s.heap [] := va_S.rf
  have hl := lv_entry ([.ref (r_h ρ), .int a, .ref o]) (n := 4) (Nat.le_of_ble_eq_true rfl)
  rw [lg_entry_eq]
  generalize (lg_sl ([.ref (r_h ρ), .int a, .ref o]) ++ List.replicate (4 - (lg_sl ([.ref (r_h ρ), .int a, .ref o])).length) Slot.unset).toArray = ls at hl ⊢
  have hl : lv_has ls 4 [(0, .ref (r_h ρ)), (1, .int a), (2, .ref o)] := hl
  refine lv_aload_n hx hb dL_longestIn_0 rfl (lv_at hl 2 rfl) ?_
  refine lv_iconst (v := 0) hx hb dL_longestIn_1 (by decide) ?_
  refine lv_aload_n hx hb dL_longestIn_2 rfl (lv_at hl 0 rfl) ?_
  refine lv_iload_n hx hb dL_longestIn_3 rfl (lv_at hl 1 rfl) ?_
  refine vx_calli (vx_runV (As := [.int a]) (rest := [.int 0, .ref o]) ⟨hx, hb, hml, hown, hts⟩ (x_X1_longestIn l hlf D cs ρ hI hap s.heap a) (cwV 1 hts gL_longestIn_X1_longestIn rfl rfl rfl (by decide +kernel) ⟨Nat.le_of_ble_eq_true rfl, Nat.le_of_ble_eq_true rfl⟩) (tb_V hK hN ⟨rfl, hP⟩ hT (Nat.le_refl _) (fun _ _ => rfl) (va_recv hK (one_P hP.1) (ci := 2) (q0 := 0) rfl rfl)) rfl rfl hl.1 rfl (lv_room (Nat.le_of_ble_eq_true rfl)) dL_longestIn_4 ⟨Nat.le_of_ble_eq_true rfl, Nat.le_of_ble_eq_true rfl⟩) hS (fun q _ h => Or.inl (Or.inr h)) (fun q h => Or.inl (Or.inr h)) (fun q _ h => Or.inl (Or.inr h)) (fun E ce q9 u t H1 locs ht hvm hu hB hz1 hk1 hS hce hcv hcl => ?_) (fun r u t H1 locs ht hvm hw hB hz1 hk1 hS => ?_)
  · have hP : Soc D cs ρ σ H1 := soc_kept hP (fun q _ h2 => hk1 q h2 (fun z => absurd z (Nat.not_le.mpr h2)))
    have hO : va_at D vwCl (outE cs o f) H1 := hO.kept (hk1 o hO.lt (fun z => absurd z (Nat.not_le.mpr hO.lt)))
    obtain ⟨rfl, hc⟩ := hB
    refine vx_catch hown [] ⟨0, 9, 12, 20⟩ [] (htab.trans rfl) (fun z hz => absurd hz List.not_mem_nil) (by decide) (by decide) (hts (.classLink RL 20 "java/lang/IndexOutOfBoundsException") (List.mem_of_getElem? (i := 1) (by decide +kernel))) (hN.use (w := .castable eIob eIob) (by decide +kernel)) hce hcv hcl ?_
    refine lv_astore_n (lv' := [(3, .ref q9), (0, .ref (r_h ρ)), (1, .int a), (2, .ref o)]) hx hb dL_longestIn_12 rfl hl (by decide) rfl (fun ls hl => ?_)
    refine lv_iconst (v := 1) hx hb dL_longestIn_13 (by decide) ?_
    refine vx_ret ?_
    refine W.widen (k := 1) (n := 6) (Nat.le_of_ble_eq_true rfl) (Nat.le_of_ble_eq_true rfl) ?_
    exact W.iret (v := 1) hx hb hr (fun t ht hW => ⟨⟨_, (σ, f), rfl, ⟨by rw [hc]; rfl, rfl, fun h9 => absurd (hc.symm.trans h9) (by decide)⟩, by show Soc D cs ρ _ t.heap ∧ va_at D vwCl _ t.heap; rw [ht]; exact ⟨hP, hO⟩⟩, hS.F ht⟩) hS.2.2 dL_longestIn_14
  · have hH1 : H1 = s.heap := ht.symm.trans hB
    subst hH1
    have hku : sK σ = sK σ := rfl
    refine lv_i2l (v := (r).toInt64) hx hb dL_longestIn_7 rfl ?_
    have hQ := P_cons hO (soc_P hP)
    have hQD : va_D (hlA ρ (sK σ) o s.heap) (outE cs o f :: socW cs ρ σ) := out_D hku hap ho
    refine va_last hx hb hK hQ hQD hS 0 2 rfl rfl (by unfold vp_in; decide) dL_longestIn_8 (fun H locs hQ hQD hS => ?_)
    have hO : va_at D vwCl (outE cs o (vp_updL f 0 ((r).toInt64))) H := P_head hQ
    have hP : Soc D cs ρ σ H := P_soc (P_tail hQ)
    refine lv_goto (tgt := 15) hx hb dL_longestIn_9 (by decide) ?_
    refine lv_iconst (v := 0) hx hb dL_longestIn_15 (by decide) ?_
    refine vx_ret ?_
    refine W.widen (k := 1) (n := 6) (Nat.le_of_ble_eq_true rfl) (Nat.le_of_ble_eq_true rfl) ?_
    exact W.iret (v := 0) hx hb hr (fun t ht hW => ⟨⟨_, (σ, vp_updL f 0 ((r).toInt64)), rfl, ⟨by rw [hw]; rfl, rfl, fun _ => by rw [hw]; exact (pk_uLs (f := f) (k := 0) (x := (r).toInt64) :)⟩, by show Soc D cs ρ _ t.heap ∧ va_at D vwCl _ t.heap; rw [ht]; exact ⟨hP, hO⟩⟩, hS.F ht⟩) hS.2.2 dL_longestIn_16
set_option maxHeartbeats 4000000 in
set_option maxRecDepth 100000 in
/-- the law's honestShadow -/
theorem h_honestShadow (l : Launch) (hlf : l.stackTraces = false) (D : va_G) (cs : Cs) (ρ : Rf) {B : Nat} {σ : PS} (hI : InvS B σ) (hap : AptA ρ (sK σ)) (H0 : Heap) (o : Nat) (f : Nat → Int64) (ho : ¬ ownB ρ (sK σ) o) (a b : Int32) : vx_Met l yL_honestShadow wsL_honestShadow ({ frames := 8, cells := 2, slots := 12, locals := 128 }) (va_Pc [.ref (r_h ρ), .int a, .int b, .ref o] (HBp D cs (fun X => X = H0 ∧ Soc D cs ρ σ X ∧ va_at D vwCl (outE cs o f) X))) (va_Qi (fun (r : Int32) (u : PS × (Nat → Int64)) => r = nI (honO σ a b).1 ∧ u.1 = σ ∧ ((honO σ a b).1 = 0 → u.2 0 = ((honO σ a b).2).toInt64)) (fun u t => Soc D cs ρ u.1 t.heap ∧ va_at D vwCl (outE cs o u.2) t.heap) (hlA ρ (sK σ) o H0)) (vx_X (fun _ : Unit => False) (fun _ _ _ => True) (fun _ => False)) 2 12 (hlA ρ (sK σ) o H0) := by
  refine vx_ofWH (cc := cL_honestShadow) (maxL := 5) (ret := (some .int)) (hh := [(0, 10, 13, 20)]) (by decide) rfl ?_
  intro p e s m args below meth c s₁ B0 hml hv
  obtain ⟨rfl, ⟨⟨⟨hH, hP, hO⟩, hK, hN⟩, hT⟩, hNc⟩ := hv
  subst hH
  have hx := B0.exec
  have hb := B0.bytes
  have hr := B0.returns
  have hts := atoms_spec (ws := wsL_honestShadow) B0.pre
  have htab := vx_table (x := yL_honestShadow) B0 (hts _ List.mem_cons_self)
  have hown : s.vm.findClass RL = some m.cls := findClass_of_methodNamed B0.named
  have hlocks := B0.notSynchronized
  have hS : va_S (hlA ρ (sK σ) o s.heap) s.heap s.heap [] := va_S.rf
  have hl := lv_entry ([.ref (r_h ρ), .int a, .int b, .ref o]) (n := 5) (Nat.le_of_ble_eq_true rfl)
  rw [lg_entry_eq]
  generalize (lg_sl ([.ref (r_h ρ), .int a, .int b, .ref o]) ++ List.replicate (5 - (lg_sl ([.ref (r_h ρ), .int a, .int b, .ref o])).length) Slot.unset).toArray = ls at hl ⊢
  have hl : lv_has ls 5 [(0, .ref (r_h ρ)), (1, .int a), (2, .int b), (3, .ref o)] := hl
  refine lv_aload_n hx hb dL_honestShadow_0 rfl (lv_at hl 3 rfl) ?_
  refine lv_iconst (v := 0) hx hb dL_honestShadow_1 (by decide) ?_
  refine lv_aload_n hx hb dL_honestShadow_2 rfl (lv_at hl 0 rfl) ?_
  refine lv_iload_n hx hb dL_honestShadow_3 rfl (lv_at hl 1 rfl) ?_
  refine lv_iload_n hx hb dL_honestShadow_4 rfl (lv_at hl 2 rfl) ?_
  refine vx_calli (vx_runV (As := [.int a, .int b]) (rest := [.int 0, .ref o]) ⟨hx, hb, hml, hown, hts⟩ (x_X1_honestShadow l hlf D cs ρ hI hap s.heap a b) (cwV 2 hts gL_honestShadow_X1_honestShadow rfl rfl rfl (by decide +kernel) ⟨Nat.le_of_ble_eq_true rfl, Nat.le_of_ble_eq_true rfl⟩) (tb_V hK hN ⟨rfl, hP⟩ hT (Nat.le_refl _) (fun _ _ => rfl) (va_recv hK (one_P hP.1) (ci := 2) (q0 := 0) rfl rfl)) rfl rfl hl.1 rfl (lv_room (Nat.le_of_ble_eq_true rfl)) dL_honestShadow_5 ⟨Nat.le_of_ble_eq_true rfl, Nat.le_of_ble_eq_true rfl⟩) hS (fun q _ h => Or.inl (Or.inr h)) (fun q h => Or.inl (Or.inr h)) (fun q _ h => Or.inl (Or.inr h)) (fun E ce q9 u t H1 locs ht hvm hu hB hz1 hk1 hS hce hcv hcl => ?_) (fun r u t H1 locs ht hvm hw hB hz1 hk1 hS => ?_)
  · have hP : Soc D cs ρ σ H1 := soc_kept hP (fun q _ h2 => hk1 q h2 (fun z => absurd z (Nat.not_le.mpr h2)))
    have hO : va_at D vwCl (outE cs o f) H1 := hO.kept (hk1 o hO.lt (fun z => absurd z (Nat.not_le.mpr hO.lt)))
    obtain ⟨rfl, hc⟩ := hB
    refine vx_catch hown [] ⟨0, 10, 13, 20⟩ [] (htab.trans rfl) (fun z hz => absurd hz List.not_mem_nil) (by decide) (by decide) (hts (.classLink RL 20 "java/lang/IndexOutOfBoundsException") (List.mem_of_getElem? (i := 1) (by decide +kernel))) (hN.use (w := .castable eIob eIob) (by decide +kernel)) hce hcv hcl ?_
    refine lv_astore (lv' := [(4, .ref q9), (0, .ref (r_h ρ)), (1, .int a), (2, .int b), (3, .ref o)]) hx hb dL_honestShadow_13 hl (by decide) rfl (fun ls hl => ?_)
    refine lv_iconst (v := 1) hx hb dL_honestShadow_15 (by decide) ?_
    refine vx_ret ?_
    refine W.widen (k := 2) (n := 12) (Nat.le_of_ble_eq_true rfl) (Nat.le_of_ble_eq_true rfl) ?_
    exact W.iret (v := 1) hx hb hr (fun t ht hW => ⟨⟨_, (σ, f), rfl, ⟨by rw [hc]; rfl, rfl, fun h9 => absurd (hc.symm.trans h9) (by decide)⟩, by show Soc D cs ρ _ t.heap ∧ va_at D vwCl _ t.heap; rw [ht]; exact ⟨hP, hO⟩⟩, hS.F ht⟩) hS.2.2 dL_honestShadow_16
  · have hH1 : H1 = s.heap := ht.symm.trans hB
    subst hH1
    have hku : sK σ = sK σ := rfl
    refine lv_i2l (v := (r).toInt64) hx hb dL_honestShadow_8 rfl ?_
    have hQ := P_cons hO (soc_P hP)
    have hQD : va_D (hlA ρ (sK σ) o s.heap) (outE cs o f :: socW cs ρ σ) := out_D hku hap ho
    refine va_last hx hb hK hQ hQD hS 0 2 rfl rfl (by unfold vp_in; decide) dL_honestShadow_9 (fun H locs hQ hQD hS => ?_)
    have hO : va_at D vwCl (outE cs o (vp_updL f 0 ((r).toInt64))) H := P_head hQ
    have hP : Soc D cs ρ σ H := P_soc (P_tail hQ)
    refine lv_goto (tgt := 17) hx hb dL_honestShadow_10 (by decide) ?_
    refine lv_iconst (v := 0) hx hb dL_honestShadow_17 (by decide) ?_
    refine vx_ret ?_
    refine W.widen (k := 2) (n := 12) (Nat.le_of_ble_eq_true rfl) (Nat.le_of_ble_eq_true rfl) ?_
    exact W.iret (v := 0) hx hb hr (fun t ht hW => ⟨⟨_, (σ, vp_updL f 0 ((r).toInt64)), rfl, ⟨by rw [hw]; rfl, rfl, fun _ => by rw [hw]; exact (pk_uLs (f := f) (k := 0) (x := (r).toInt64) :)⟩, by show Soc D cs ρ _ t.heap ∧ va_at D vwCl _ t.heap; rw [ht]; exact ⟨hP, hO⟩⟩, hS.F ht⟩) hS.2.2 dL_honestShadow_18
set_option maxHeartbeats 4000000 in
set_option maxRecDepth 100000 in
/-- the law's isHonest -/
theorem h_isHonest (l : Launch) (hlf : l.stackTraces = false) (D : va_G) (cs : Cs) (ρ : Rf) {B : Nat} {σ : PS} (hI : InvS B σ) (hap : AptA ρ (sK σ)) (H0 : Heap) (o : Nat) (f : Nat → Int64) (ho : ¬ ownB ρ (sK σ) o) (a : Int32) : vx_Met l yL_isHonest wsL_isHonest ({ frames := 8, cells := 2, slots := 12, locals := 127 }) (va_Pc [.ref (r_h ρ), .int a, .ref o] (HBp D cs (fun X => X = H0 ∧ Soc D cs ρ σ X ∧ va_at D vwCl (outE cs o f) X))) (va_Qi (fun (r : Int32) (u : PS × (Nat → Int64)) => r = nI (isHO σ a).1 ∧ u.1 = σ ∧ ((isHO σ a).1 = 0 → u.2 0 = zL ((isHO σ a).2))) (fun u t => Soc D cs ρ u.1 t.heap ∧ va_at D vwCl (outE cs o u.2) t.heap) (hlA ρ (sK σ) o H0)) (vx_X (fun _ : Unit => False) (fun _ _ _ => True) (fun _ => False)) 2 12 (hlA ρ (sK σ) o H0) := by
  refine vx_ofWH (cc := cL_isHonest) (maxL := 4) (ret := (some .int)) (hh := [(0, 16, 19, 20), (0, 16, 22, 15)]) (by decide) rfl ?_
  intro p e s m args below meth c s₁ B0 hml hv
  obtain ⟨rfl, ⟨⟨⟨hH, hP, hO⟩, hK, hN⟩, hT⟩, hNc⟩ := hv
  subst hH
  have hx := B0.exec
  have hb := B0.bytes
  have hr := B0.returns
  have hts := atoms_spec (ws := wsL_isHonest) B0.pre
  have htab := vx_table (x := yL_isHonest) B0 (hts _ List.mem_cons_self)
  have hown : s.vm.findClass RL = some m.cls := findClass_of_methodNamed B0.named
  have hlocks := B0.notSynchronized
  have hS : va_S (hlA ρ (sK σ) o s.heap) s.heap s.heap [] := va_S.rf
  have hl := lv_entry ([.ref (r_h ρ), .int a, .ref o]) (n := 4) (Nat.le_of_ble_eq_true rfl)
  rw [lg_entry_eq]
  generalize (lg_sl ([.ref (r_h ρ), .int a, .ref o]) ++ List.replicate (4 - (lg_sl ([.ref (r_h ρ), .int a, .ref o])).length) Slot.unset).toArray = ls at hl ⊢
  have hl : lv_has ls 4 [(0, .ref (r_h ρ)), (1, .int a), (2, .ref o)] := hl
  refine lv_aload_n hx hb dL_isHonest_0 rfl (lv_at hl 2 rfl) ?_
  refine lv_iconst (v := 0) hx hb dL_isHonest_1 (by decide) ?_
  refine lv_aload_n hx hb dL_isHonest_2 rfl (lv_at hl 0 rfl) ?_
  refine lv_iload_n hx hb dL_isHonest_3 rfl (lv_at hl 1 rfl) ?_
  refine vx_calli (vx_runV (As := [.int a]) (rest := [.int 0, .ref o]) ⟨hx, hb, hml, hown, hts⟩ (x_X1_isHonest l hlf D cs ρ hI hap s.heap a) (cwV 1 hts gL_isHonest_X1_isHonest rfl rfl rfl (by decide +kernel) ⟨Nat.le_of_ble_eq_true rfl, Nat.le_of_ble_eq_true rfl⟩) (tb_V hK hN ⟨rfl, hP⟩ hT (Nat.le_refl _) (fun _ _ => rfl) (va_recv hK (one_P hP.1) (ci := 2) (q0 := 0) rfl rfl)) rfl rfl hl.1 rfl (lv_room (Nat.le_of_ble_eq_true rfl)) dL_isHonest_4 ⟨Nat.le_of_ble_eq_true rfl, Nat.le_of_ble_eq_true rfl⟩) hS (fun q _ h => Or.inl (Or.inr h)) (fun q h => Or.inl (Or.inr h)) (fun q _ h => Or.inl (Or.inr h)) (fun E ce q9 u t H1 locs ht hvm hu hB hz1 hk1 hS hce hcv hcl => ?_) (fun r u t H1 locs ht hvm hw hB hz1 hk1 hS => ?_)
  · have hP : Soc D cs ρ σ H1 := soc_kept hP (fun q _ h2 => hk1 q h2 (fun z => absurd z (Nat.not_le.mpr h2)))
    have hO : va_at D vwCl (outE cs o f) H1 := hO.kept (hk1 o hO.lt (fun z => absurd z (Nat.not_le.mpr hO.lt)))
    rcases hB with ⟨rfl, hc⟩ | ⟨rfl, hc⟩
    · refine vx_catch hown [] ⟨0, 16, 19, 20⟩ [⟨0, 16, 22, 15⟩] (htab.trans rfl) (fun z hz => absurd hz List.not_mem_nil) (by decide) (by decide) (hts (.classLink RL 20 "java/lang/IndexOutOfBoundsException") (List.mem_of_getElem? (i := 1) (by decide +kernel))) (hN.use (w := .castable eIob eIob) (by decide +kernel)) hce hcv hcl ?_
      refine lv_astore_n (lv' := [(3, .ref q9), (0, .ref (r_h ρ)), (1, .int a), (2, .ref o)]) hx hb dL_isHonest_19 rfl hl (by decide) rfl (fun ls hl => ?_)
      refine lv_iconst (v := 1) hx hb dL_isHonest_20 (by decide) ?_
      refine vx_ret ?_
      refine W.widen (k := 2) (n := 12) (Nat.le_of_ble_eq_true rfl) (Nat.le_of_ble_eq_true rfl) ?_
      exact W.iret (v := 1) hx hb hr (fun t ht hW => ⟨⟨_, (σ, f), rfl, ⟨by rw [hc]; rfl, rfl, fun h9 => absurd (hc.symm.trans h9) (by decide)⟩, by show Soc D cs ρ _ t.heap ∧ va_at D vwCl _ t.heap; rw [ht]; exact ⟨hP, hO⟩⟩, hS.F ht⟩) hS.2.2 dL_isHonest_21
    · refine vx_catch hown [⟨0, 16, 19, 20⟩] ⟨0, 16, 22, 15⟩ [] (htab.trans rfl) (fun z hz => by rcases List.mem_singleton.mp hz with rfl; exact Or.inr ⟨by decide, _, hts (.classLink RL 20 "java/lang/IndexOutOfBoundsException") (List.mem_of_getElem? (i := 1) (by decide +kernel)), hNc.2.1⟩) (by decide) (by decide) (hts (.classLink RL 15 "java/lang/IllegalStateException") (List.mem_of_getElem? (i := 2) (by decide +kernel))) (hN.use (w := .castable eIse eIse) (by decide +kernel)) hce hcv hcl ?_
      refine lv_astore_n (lv' := [(3, .ref q9), (0, .ref (r_h ρ)), (1, .int a), (2, .ref o)]) hx hb dL_isHonest_22 rfl hl (by decide) rfl (fun ls hl => ?_)
      refine lv_iconst (v := 2) hx hb dL_isHonest_23 (by decide) ?_
      refine vx_ret ?_
      refine W.widen (k := 2) (n := 12) (Nat.le_of_ble_eq_true rfl) (Nat.le_of_ble_eq_true rfl) ?_
      exact W.iret (v := 2) hx hb hr (fun t ht hW => ⟨⟨_, (σ, f), rfl, ⟨by rw [hc]; rfl, rfl, fun h9 => absurd (hc.symm.trans h9) (by decide)⟩, by show Soc D cs ρ _ t.heap ∧ va_at D vwCl _ t.heap; rw [ht]; exact ⟨hP, hO⟩⟩, hS.F ht⟩) hS.2.2 dL_isHonest_24
  · have hH1 : H1 = s.heap := ht.symm.trans hB
    subst hH1
    have hku : sK σ = sK σ := rfl
    refine lv_if_eq (tgt := 14) hx hb dL_isHonest_7 (by decide) (fun c_1 => ?_) (fun c_1 => ?_)
    · refine lv_lconst (v := 0) hx hb dL_isHonest_14 (by decide) ?_
      have hQ := P_cons hO (soc_P hP)
      have hQD : va_D (hlA ρ (sK σ) o s.heap) (outE cs o f :: socW cs ρ σ) := out_D hku hap ho
      refine va_last hx hb hK hQ hQD hS 0 2 rfl rfl (by unfold vp_in; decide) dL_isHonest_15 (fun H locs hQ hQD hS => ?_)
      have hO : va_at D vwCl (outE cs o (vp_updL f 0 0)) H := P_head hQ
      have hP : Soc D cs ρ σ H := P_soc (P_tail hQ)
      refine lv_goto (tgt := 25) hx hb dL_isHonest_16 (by decide) ?_
      refine lv_iconst (v := 0) hx hb dL_isHonest_25 (by decide) ?_
      refine vx_ret ?_
      refine W.widen (k := 2) (n := 12) (Nat.le_of_ble_eq_true rfl) (Nat.le_of_ble_eq_true rfl) ?_
      exact W.iret (v := 0) hx hb hr (fun t ht hW => ⟨⟨_, (σ, vp_updL f 0 0), rfl, ⟨by rw [hw]; rfl, rfl, fun _ => by rw [hw]; exact ((pk_uLs (f := f) (k := 0) (x := 0)).trans (if_pos c_1 : (if r = 0 then (0 : Int64) else 1) = 0).symm :)⟩, by show Soc D cs ρ _ t.heap ∧ va_at D vwCl _ t.heap; rw [ht]; exact ⟨hP, hO⟩⟩, hS.F ht⟩) hS.2.2 dL_isHonest_26
    · refine lv_lconst (v := 1) hx hb dL_isHonest_10 (by decide) ?_
      refine lv_goto (tgt := 15) hx hb dL_isHonest_11 (by decide) ?_
      have hQ := P_cons hO (soc_P hP)
      have hQD : va_D (hlA ρ (sK σ) o s.heap) (outE cs o f :: socW cs ρ σ) := out_D hku hap ho
      refine va_last hx hb hK hQ hQD hS 0 2 rfl rfl (by unfold vp_in; decide) dL_isHonest_15 (fun H locs hQ hQD hS => ?_)
      have hO : va_at D vwCl (outE cs o (vp_updL f 0 1)) H := P_head hQ
      have hP : Soc D cs ρ σ H := P_soc (P_tail hQ)
      refine lv_goto (tgt := 25) hx hb dL_isHonest_16 (by decide) ?_
      refine lv_iconst (v := 0) hx hb dL_isHonest_25 (by decide) ?_
      refine vx_ret ?_
      refine W.widen (k := 2) (n := 12) (Nat.le_of_ble_eq_true rfl) (Nat.le_of_ble_eq_true rfl) ?_
      exact W.iret (v := 0) hx hb hr (fun t ht hW => ⟨⟨_, (σ, vp_updL f 0 1), rfl, ⟨by rw [hw]; rfl, rfl, fun _ => by rw [hw]; exact ((pk_uLs (f := f) (k := 0) (x := 1)).trans (if_neg c_1 : (if r = 0 then (0 : Int64) else 1) = 1).symm :)⟩, by show Soc D cs ρ _ t.heap ∧ va_at D vwCl _ t.heap; rw [ht]; exact ⟨hP, hO⟩⟩, hS.F ht⟩) hS.2.2 dL_isHonest_26
set_option maxHeartbeats 4000000 in
set_option maxRecDepth 100000 in
/-- the law's buyLamp -/
theorem h_buyLamp (l : Launch) (hlf : l.stackTraces = false) (D : va_G) (cs : Cs) (ρ : Rf) {B : Nat} {σ : PS} (hI : InvS B σ) (hap : AptA ρ (sK σ)) (H0 : Heap) (o : Nat) (f : Nat → Int64) (ho : ¬ ownB ρ (sK σ) o) (a b : Int32) : vx_Met l yL_buyLamp wsL_buyLamp ({ frames := 8, cells := 2, slots := 12, locals := 128 }) (va_Pc [.ref (r_h ρ), .int a, .int b, .ref o] (HBp D cs (fun X => X = H0 ∧ Soc D cs ρ σ X ∧ va_at D vwCl (outE cs o f) X))) (va_Qi (fun (r : Int32) (u : PS × (Nat → Int64)) => r = nI (buyO σ a b).1 ∧ u.1 = (buyO σ a b).2.2 ∧ ((buyO σ a b).1 = 0 → u.2 0 = ((buyO σ a b).2.1).toInt64)) (fun u t => Soc D cs ρ u.1 t.heap ∧ va_at D vwCl (outE cs o u.2) t.heap) (hlA ρ (sK σ) o H0)) (vx_X (fun _ : Unit => False) (fun _ _ _ => True) (fun _ => False)) 2 12 (hlA ρ (sK σ) o H0) := by
  refine vx_ofWH (cc := cL_buyLamp) (maxL := 5) (ret := (some .int)) (hh := [(0, 10, 13, 20), (0, 10, 17, 13), (0, 10, 21, 15)]) (by decide) rfl ?_
  intro p e s m args below meth c s₁ B0 hml hv
  obtain ⟨rfl, ⟨⟨⟨hH, hP, hO⟩, hK, hN⟩, hT⟩, hNc⟩ := hv
  subst hH
  have hx := B0.exec
  have hb := B0.bytes
  have hr := B0.returns
  have hts := atoms_spec (ws := wsL_buyLamp) B0.pre
  have htab := vx_table (x := yL_buyLamp) B0 (hts _ List.mem_cons_self)
  have hown : s.vm.findClass RL = some m.cls := findClass_of_methodNamed B0.named
  have hlocks := B0.notSynchronized
  have hS : va_S (hlA ρ (sK σ) o s.heap) s.heap s.heap [] := va_S.rf
  have hl := lv_entry ([.ref (r_h ρ), .int a, .int b, .ref o]) (n := 5) (Nat.le_of_ble_eq_true rfl)
  rw [lg_entry_eq]
  generalize (lg_sl ([.ref (r_h ρ), .int a, .int b, .ref o]) ++ List.replicate (5 - (lg_sl ([.ref (r_h ρ), .int a, .int b, .ref o])).length) Slot.unset).toArray = ls at hl ⊢
  have hl : lv_has ls 5 [(0, .ref (r_h ρ)), (1, .int a), (2, .int b), (3, .ref o)] := hl
  refine lv_aload_n hx hb dL_buyLamp_0 rfl (lv_at hl 3 rfl) ?_
  refine lv_iconst (v := 0) hx hb dL_buyLamp_1 (by decide) ?_
  refine lv_aload_n hx hb dL_buyLamp_2 rfl (lv_at hl 0 rfl) ?_
  refine lv_iload_n hx hb dL_buyLamp_3 rfl (lv_at hl 1 rfl) ?_
  refine lv_iload_n hx hb dL_buyLamp_4 rfl (lv_at hl 2 rfl) ?_
  refine vx_calli (vx_runV (As := [.int a, .int b]) (rest := [.int 0, .ref o]) ⟨hx, hb, hml, hown, hts⟩ (x_X1_buyLamp l hlf D cs ρ hI hap s.heap a b) (cwV 2 hts gL_buyLamp_X1_buyLamp rfl rfl rfl (by decide +kernel) ⟨Nat.le_of_ble_eq_true rfl, Nat.le_of_ble_eq_true rfl⟩) (tb_V hK hN ⟨rfl, hP⟩ hT (Nat.le_refl _) (fun _ _ => rfl) (va_recv hK (one_P hP.1) (ci := 2) (q0 := 0) rfl rfl)) rfl rfl hl.1 rfl (lv_room (Nat.le_of_ble_eq_true rfl)) dL_buyLamp_5 ⟨Nat.le_of_ble_eq_true rfl, Nat.le_of_ble_eq_true rfl⟩) hS (fun q _ h => Or.inl h) (fun q h => Or.inl h) (fun q _ h => Or.inl (Or.inr h)) (fun E ce q9 u t H1 locs ht hvm hu hB hz1 hk1 hS hce hcv hcl => ?_) (fun r u t H1 locs ht hvm hw hB hz1 hk1 hS => ?_)
  · have hP : Soc D cs ρ σ H1 := soc_kept hP (fun q _ h2 => hk1 q h2 (fun z => absurd z (Nat.not_le.mpr h2)))
    have hO : va_at D vwCl (outE cs o f) H1 := hO.kept (hk1 o hO.lt (fun z => absurd z (Nat.not_le.mpr hO.lt)))
    rcases hB with ⟨rfl, hc⟩ | ⟨rfl, hc⟩ | ⟨rfl, hc⟩
    · refine vx_catch hown [] ⟨0, 10, 13, 20⟩ [⟨0, 10, 17, 13⟩, ⟨0, 10, 21, 15⟩] (htab.trans rfl) (fun z hz => absurd hz List.not_mem_nil) (by decide) (by decide) (hts (.classLink RL 20 "java/lang/IndexOutOfBoundsException") (List.mem_of_getElem? (i := 1) (by decide +kernel))) (hN.use (w := .castable eIob eIob) (by decide +kernel)) hce hcv hcl ?_
      refine lv_astore (lv' := [(4, .ref q9), (0, .ref (r_h ρ)), (1, .int a), (2, .int b), (3, .ref o)]) hx hb dL_buyLamp_13 hl (by decide) rfl (fun ls hl => ?_)
      refine lv_iconst (v := 1) hx hb dL_buyLamp_15 (by decide) ?_
      refine vx_ret ?_
      refine W.widen (k := 2) (n := 12) (Nat.le_of_ble_eq_true rfl) (Nat.le_of_ble_eq_true rfl) ?_
      exact W.iret (v := 1) hx hb hr (fun t ht hW => ⟨⟨_, (σ, f), rfl, ⟨by rw [hc]; rfl, (buy_e (by rw [hc]; decide)).symm, fun h9 => absurd (hc.symm.trans h9) (by decide)⟩, by show Soc D cs ρ _ t.heap ∧ va_at D vwCl _ t.heap; rw [ht]; exact ⟨hP, hO⟩⟩, hS.F ht⟩) hS.2.2 dL_buyLamp_16
    · refine vx_catch hown [⟨0, 10, 13, 20⟩] ⟨0, 10, 17, 13⟩ [⟨0, 10, 21, 15⟩] (htab.trans rfl) (fun z hz => by rcases List.mem_singleton.mp hz with rfl; exact Or.inr ⟨by decide, _, hts (.classLink RL 20 "java/lang/IndexOutOfBoundsException") (List.mem_of_getElem? (i := 1) (by decide +kernel)), hNc.1⟩) (by decide) (by decide) (hts (.classLink RL 13 "java/lang/IllegalArgumentException") (List.mem_of_getElem? (i := 2) (by decide +kernel))) (hN.use (w := .castable eIae eIae) (by decide +kernel)) hce hcv hcl ?_
      refine lv_astore (lv' := [(4, .ref q9), (0, .ref (r_h ρ)), (1, .int a), (2, .int b), (3, .ref o)]) hx hb dL_buyLamp_17 hl (by decide) rfl (fun ls hl => ?_)
      refine lv_iconst (v := 2) hx hb dL_buyLamp_19 (by decide) ?_
      refine vx_ret ?_
      refine W.widen (k := 2) (n := 12) (Nat.le_of_ble_eq_true rfl) (Nat.le_of_ble_eq_true rfl) ?_
      exact W.iret (v := 2) hx hb hr (fun t ht hW => ⟨⟨_, (σ, f), rfl, ⟨by rw [hc]; rfl, (buy_e (by rw [hc]; decide)).symm, fun h9 => absurd (hc.symm.trans h9) (by decide)⟩, by show Soc D cs ρ _ t.heap ∧ va_at D vwCl _ t.heap; rw [ht]; exact ⟨hP, hO⟩⟩, hS.F ht⟩) hS.2.2 dL_buyLamp_20
    · refine vx_catch hown [⟨0, 10, 13, 20⟩, ⟨0, 10, 17, 13⟩] ⟨0, 10, 21, 15⟩ [] (htab.trans rfl) (fun z hz => by rcases List.mem_cons.mp hz with rfl | hz; (exact Or.inr ⟨by decide, _, hts (.classLink RL 20 "java/lang/IndexOutOfBoundsException") (List.mem_of_getElem? (i := 1) (by decide +kernel)), hNc.2.1⟩); rcases List.mem_singleton.mp hz with rfl; exact Or.inr ⟨by decide, _, hts (.classLink RL 13 "java/lang/IllegalArgumentException") (List.mem_of_getElem? (i := 2) (by decide +kernel)), hNc.2.2⟩) (by decide) (by decide) (hts (.classLink RL 15 "java/lang/IllegalStateException") (List.mem_of_getElem? (i := 3) (by decide +kernel))) (hN.use (w := .castable eIse eIse) (by decide +kernel)) hce hcv hcl ?_
      refine lv_astore (lv' := [(4, .ref q9), (0, .ref (r_h ρ)), (1, .int a), (2, .int b), (3, .ref o)]) hx hb dL_buyLamp_21 hl (by decide) rfl (fun ls hl => ?_)
      refine lv_iconst (v := 3) hx hb dL_buyLamp_23 (by decide) ?_
      refine vx_ret ?_
      refine W.widen (k := 2) (n := 12) (Nat.le_of_ble_eq_true rfl) (Nat.le_of_ble_eq_true rfl) ?_
      exact W.iret (v := 3) hx hb hr (fun t ht hW => ⟨⟨_, (σ, f), rfl, ⟨by rw [hc]; rfl, (buy_e (by rw [hc]; decide)).symm, fun h9 => absurd (hc.symm.trans h9) (by decide)⟩, by show Soc D cs ρ _ t.heap ∧ va_at D vwCl _ t.heap; rw [ht]; exact ⟨hP, hO⟩⟩, hS.F ht⟩) hS.2.2 dL_buyLamp_24
  · rw [ht] at hB
    have hku : sK u = sK σ := by have h9 := buy_k (σ := σ) (a := a) (b := b); rw [hw] at h9; exact h9
    have hO : va_at D vwCl (outE cs o f) H1 := hO.kept (hk1 o hO.lt (fun z => z.elim ho (fun z => absurd z (Nat.not_le.mpr hO.lt))))
    have hP : Soc D cs ρ u H1 := hB
    refine lv_i2l (v := (r).toInt64) hx hb dL_buyLamp_8 rfl ?_
    have hQ := P_cons hO (soc_P hP)
    have hQD : va_D (hlA ρ (sK σ) o s.heap) (outE cs o f :: socW cs ρ u) := out_D hku hap ho
    refine va_last hx hb hK hQ hQD hS 0 2 rfl rfl (by unfold vp_in; decide) dL_buyLamp_9 (fun H locs hQ hQD hS => ?_)
    have hO : va_at D vwCl (outE cs o (vp_updL f 0 ((r).toInt64))) H := P_head hQ
    have hP : Soc D cs ρ u H := P_soc (P_tail hQ)
    refine lv_goto (tgt := 25) hx hb dL_buyLamp_10 (by decide) ?_
    refine lv_iconst (v := 0) hx hb dL_buyLamp_25 (by decide) ?_
    refine vx_ret ?_
    refine W.widen (k := 2) (n := 12) (Nat.le_of_ble_eq_true rfl) (Nat.le_of_ble_eq_true rfl) ?_
    exact W.iret (v := 0) hx hb hr (fun t ht hW => ⟨⟨_, (u, vp_updL f 0 ((r).toInt64)), rfl, ⟨by rw [hw]; rfl, by rw [hw], fun _ => by rw [hw]; exact (pk_uLs (f := f) (k := 0) (x := (r).toInt64) :)⟩, by show Soc D cs ρ _ t.heap ∧ va_at D vwCl _ t.heap; rw [ht]; exact ⟨hP, hO⟩⟩, hS.F ht⟩) hS.2.2 dL_buyLamp_26
set_option maxHeartbeats 4000000 in
set_option maxRecDepth 100000 in
/-- the law's dropLamp -/
theorem h_dropLamp (l : Launch) (hlf : l.stackTraces = false) (D : va_G) (cs : Cs) (ρ : Rf) {B : Nat} {σ : PS} (hI : InvS B σ) (hap : AptA ρ (sK σ)) (H0 : Heap) (o : Nat) (f : Nat → Int64) (ho : ¬ ownB ρ (sK σ) o) (a : Int32) : vx_Met l yL_dropLamp wsL_dropLamp ({ frames := 8, cells := 2, slots := 12, locals := 128 }) (va_Pc [.ref (r_h ρ), .int a, .ref o] (HBp D cs (fun X => X = H0 ∧ Soc D cs ρ σ X ∧ va_at D vwCl (outE cs o f) X))) (va_Qi (fun (r : Int32) (u : PS × (Nat → Int64)) => r = nI (dropO σ a).1 ∧ u.1 = (dropO σ a).2.2 ∧ ((dropO σ a).1 = 0 → u.2 0 = ((dropO σ a).2.1).toInt64)) (fun u t => Soc D cs ρ u.1 t.heap ∧ va_at D vwCl (outE cs o u.2) t.heap) (hlA ρ (sK σ) o H0)) (vx_X (fun _ : Unit => False) (fun _ _ _ => True) (fun _ => False)) 2 12 (hlA ρ (sK σ) o H0) := by
  refine vx_ofWH (cc := cL_dropLamp) (maxL := 4) (ret := (some .int)) (hh := [(0, 9, 12, 20), (0, 9, 15, 15)]) (by decide) rfl ?_
  intro p e s m args below meth c s₁ B0 hml hv
  obtain ⟨rfl, ⟨⟨⟨hH, hP, hO⟩, hK, hN⟩, hT⟩, hNc⟩ := hv
  subst hH
  have hx := B0.exec
  have hb := B0.bytes
  have hr := B0.returns
  have hts := atoms_spec (ws := wsL_dropLamp) B0.pre
  have htab := vx_table (x := yL_dropLamp) B0 (hts _ List.mem_cons_self)
  have hown : s.vm.findClass RL = some m.cls := findClass_of_methodNamed B0.named
  have hlocks := B0.notSynchronized
  have hS : va_S (hlA ρ (sK σ) o s.heap) s.heap s.heap [] := va_S.rf
  have hl := lv_entry ([.ref (r_h ρ), .int a, .ref o]) (n := 4) (Nat.le_of_ble_eq_true rfl)
  rw [lg_entry_eq]
  generalize (lg_sl ([.ref (r_h ρ), .int a, .ref o]) ++ List.replicate (4 - (lg_sl ([.ref (r_h ρ), .int a, .ref o])).length) Slot.unset).toArray = ls at hl ⊢
  have hl : lv_has ls 4 [(0, .ref (r_h ρ)), (1, .int a), (2, .ref o)] := hl
  refine lv_aload_n hx hb dL_dropLamp_0 rfl (lv_at hl 2 rfl) ?_
  refine lv_iconst (v := 0) hx hb dL_dropLamp_1 (by decide) ?_
  refine lv_aload_n hx hb dL_dropLamp_2 rfl (lv_at hl 0 rfl) ?_
  refine lv_iload_n hx hb dL_dropLamp_3 rfl (lv_at hl 1 rfl) ?_
  refine vx_calli (vx_runV (As := [.int a]) (rest := [.int 0, .ref o]) ⟨hx, hb, hml, hown, hts⟩ (x_X1_dropLamp l hlf D cs ρ hI hap s.heap a) (cwV 1 hts gL_dropLamp_X1_dropLamp rfl rfl rfl (by decide +kernel) ⟨Nat.le_of_ble_eq_true rfl, Nat.le_of_ble_eq_true rfl⟩) (tb_V hK hN ⟨rfl, hP⟩ hT (Nat.le_refl _) (fun _ _ => rfl) (va_recv hK (one_P hP.1) (ci := 2) (q0 := 0) rfl rfl)) rfl rfl hl.1 rfl (lv_room (Nat.le_of_ble_eq_true rfl)) dL_dropLamp_4 ⟨Nat.le_of_ble_eq_true rfl, Nat.le_of_ble_eq_true rfl⟩) hS (fun q _ h => Or.inl h) (fun q h => Or.inl h) (fun q _ h => Or.inl (Or.inr h)) (fun E ce q9 u t H1 locs ht hvm hu hB hz1 hk1 hS hce hcv hcl => ?_) (fun r u t H1 locs ht hvm hw hB hz1 hk1 hS => ?_)
  · have hP : Soc D cs ρ σ H1 := soc_kept hP (fun q _ h2 => hk1 q h2 (fun z => absurd z (Nat.not_le.mpr h2)))
    have hO : va_at D vwCl (outE cs o f) H1 := hO.kept (hk1 o hO.lt (fun z => absurd z (Nat.not_le.mpr hO.lt)))
    rcases hB with ⟨rfl, hc⟩ | ⟨rfl, hc⟩
    · refine vx_catch hown [] ⟨0, 9, 12, 20⟩ [⟨0, 9, 15, 15⟩] (htab.trans rfl) (fun z hz => absurd hz List.not_mem_nil) (by decide) (by decide) (hts (.classLink RL 20 "java/lang/IndexOutOfBoundsException") (List.mem_of_getElem? (i := 1) (by decide +kernel))) (hN.use (w := .castable eIob eIob) (by decide +kernel)) hce hcv hcl ?_
      refine lv_astore_n (lv' := [(3, .ref q9), (0, .ref (r_h ρ)), (1, .int a), (2, .ref o)]) hx hb dL_dropLamp_12 rfl hl (by decide) rfl (fun ls hl => ?_)
      refine lv_iconst (v := 1) hx hb dL_dropLamp_13 (by decide) ?_
      refine vx_ret ?_
      refine W.widen (k := 2) (n := 12) (Nat.le_of_ble_eq_true rfl) (Nat.le_of_ble_eq_true rfl) ?_
      exact W.iret (v := 1) hx hb hr (fun t ht hW => ⟨⟨_, (σ, f), rfl, ⟨by rw [hc]; rfl, (drop_e (by rw [hc]; decide)).symm, fun h9 => absurd (hc.symm.trans h9) (by decide)⟩, by show Soc D cs ρ _ t.heap ∧ va_at D vwCl _ t.heap; rw [ht]; exact ⟨hP, hO⟩⟩, hS.F ht⟩) hS.2.2 dL_dropLamp_14
    · refine vx_catch hown [⟨0, 9, 12, 20⟩] ⟨0, 9, 15, 15⟩ [] (htab.trans rfl) (fun z hz => by rcases List.mem_singleton.mp hz with rfl; exact Or.inr ⟨by decide, _, hts (.classLink RL 20 "java/lang/IndexOutOfBoundsException") (List.mem_of_getElem? (i := 1) (by decide +kernel)), hNc.2.1⟩) (by decide) (by decide) (hts (.classLink RL 15 "java/lang/IllegalStateException") (List.mem_of_getElem? (i := 2) (by decide +kernel))) (hN.use (w := .castable eIse eIse) (by decide +kernel)) hce hcv hcl ?_
      refine lv_astore_n (lv' := [(3, .ref q9), (0, .ref (r_h ρ)), (1, .int a), (2, .ref o)]) hx hb dL_dropLamp_15 rfl hl (by decide) rfl (fun ls hl => ?_)
      refine lv_iconst (v := 2) hx hb dL_dropLamp_16 (by decide) ?_
      refine vx_ret ?_
      refine W.widen (k := 2) (n := 12) (Nat.le_of_ble_eq_true rfl) (Nat.le_of_ble_eq_true rfl) ?_
      exact W.iret (v := 2) hx hb hr (fun t ht hW => ⟨⟨_, (σ, f), rfl, ⟨by rw [hc]; rfl, (drop_e (by rw [hc]; decide)).symm, fun h9 => absurd (hc.symm.trans h9) (by decide)⟩, by show Soc D cs ρ _ t.heap ∧ va_at D vwCl _ t.heap; rw [ht]; exact ⟨hP, hO⟩⟩, hS.F ht⟩) hS.2.2 dL_dropLamp_17
  · rw [ht] at hB
    have hku : sK u = sK σ := by have h9 := drop_k (σ := σ) (a := a); rw [hw] at h9; exact h9
    have hO : va_at D vwCl (outE cs o f) H1 := hO.kept (hk1 o hO.lt (fun z => z.elim ho (fun z => absurd z (Nat.not_le.mpr hO.lt))))
    have hP : Soc D cs ρ u H1 := hB
    refine lv_i2l (v := (r).toInt64) hx hb dL_dropLamp_7 rfl ?_
    have hQ := P_cons hO (soc_P hP)
    have hQD : va_D (hlA ρ (sK σ) o s.heap) (outE cs o f :: socW cs ρ u) := out_D hku hap ho
    refine va_last hx hb hK hQ hQD hS 0 2 rfl rfl (by unfold vp_in; decide) dL_dropLamp_8 (fun H locs hQ hQD hS => ?_)
    have hO : va_at D vwCl (outE cs o (vp_updL f 0 ((r).toInt64))) H := P_head hQ
    have hP : Soc D cs ρ u H := P_soc (P_tail hQ)
    refine lv_goto (tgt := 18) hx hb dL_dropLamp_9 (by decide) ?_
    refine lv_iconst (v := 0) hx hb dL_dropLamp_18 (by decide) ?_
    refine vx_ret ?_
    refine W.widen (k := 2) (n := 12) (Nat.le_of_ble_eq_true rfl) (Nat.le_of_ble_eq_true rfl) ?_
    exact W.iret (v := 0) hx hb hr (fun t ht hW => ⟨⟨_, (u, vp_updL f 0 ((r).toInt64)), rfl, ⟨by rw [hw]; rfl, by rw [hw], fun _ => by rw [hw]; exact (pk_uLs (f := f) (k := 0) (x := (r).toInt64) :)⟩, by show Soc D cs ρ _ t.heap ∧ va_at D vwCl _ t.heap; rw [ht]; exact ⟨hP, hO⟩⟩, hS.F ht⟩) hS.2.2 dL_dropLamp_19
set_option maxHeartbeats 4000000 in
set_option maxRecDepth 100000 in
/-- the law's borrow -/
theorem h_borrow (l : Launch) (hlf : l.stackTraces = false) (D : va_G) (cs : Cs) (ρ : Rf) {B : Nat} {σ : PS} (hI : InvS B σ) (hap : AptA ρ (sK σ)) (H0 : Heap) (o : Nat) (f : Nat → Int64) (ho : ¬ ownB ρ (sK σ) o) (a b : Int32) : vx_Met l yL_borrow wsL_borrow ({ frames := 8, cells := 3, slots := 18, locals := 129 }) (va_Pc [.ref (r_h ρ), .int a, .int b, .ref o] (HBp D cs (fun X => X = H0 ∧ Soc D cs ρ σ X ∧ va_at D vwCl (outE cs o f) X))) (va_Qi (fun (r : Int32) (u : PS × (Nat → Int64)) => r = nI (borrO σ a b).1 ∧ u.1 = (borrO σ a b).2.2 ∧ ((borrO σ a b).1 = 0 → u.2 0 = ((borrO σ a b).2.1).toInt64)) (fun u t => Soc D cs ρ u.1 t.heap ∧ va_at D vwCl (outE cs o u.2) t.heap) (hlA ρ (sK σ) o H0)) (vx_X (fun _ : Unit => False) (fun _ _ _ => True) (fun _ => False)) 3 18 (hlA ρ (sK σ) o H0) := by
  refine vx_ofWH (cc := cL_borrow) (maxL := 5) (ret := (some .int)) (hh := [(0, 10, 13, 20), (0, 10, 17, 13), (0, 10, 21, 15)]) (by decide) rfl ?_
  intro p e s m args below meth c s₁ B0 hml hv
  obtain ⟨rfl, ⟨⟨⟨hH, hP, hO⟩, hK, hN⟩, hT⟩, hNc⟩ := hv
  subst hH
  have hx := B0.exec
  have hb := B0.bytes
  have hr := B0.returns
  have hts := atoms_spec (ws := wsL_borrow) B0.pre
  have htab := vx_table (x := yL_borrow) B0 (hts _ List.mem_cons_self)
  have hown : s.vm.findClass RL = some m.cls := findClass_of_methodNamed B0.named
  have hlocks := B0.notSynchronized
  have hS : va_S (hlA ρ (sK σ) o s.heap) s.heap s.heap [] := va_S.rf
  have hl := lv_entry ([.ref (r_h ρ), .int a, .int b, .ref o]) (n := 5) (Nat.le_of_ble_eq_true rfl)
  rw [lg_entry_eq]
  generalize (lg_sl ([.ref (r_h ρ), .int a, .int b, .ref o]) ++ List.replicate (5 - (lg_sl ([.ref (r_h ρ), .int a, .int b, .ref o])).length) Slot.unset).toArray = ls at hl ⊢
  have hl : lv_has ls 5 [(0, .ref (r_h ρ)), (1, .int a), (2, .int b), (3, .ref o)] := hl
  refine lv_aload_n hx hb dL_borrow_0 rfl (lv_at hl 3 rfl) ?_
  refine lv_iconst (v := 0) hx hb dL_borrow_1 (by decide) ?_
  refine lv_aload_n hx hb dL_borrow_2 rfl (lv_at hl 0 rfl) ?_
  refine lv_iload_n hx hb dL_borrow_3 rfl (lv_at hl 1 rfl) ?_
  refine lv_iload_n hx hb dL_borrow_4 rfl (lv_at hl 2 rfl) ?_
  refine vx_calli (vx_runV (As := [.int a, .int b]) (rest := [.int 0, .ref o]) ⟨hx, hb, hml, hown, hts⟩ (x_X1_borrow l hlf D cs ρ hI hap s.heap a b) (cwV 2 hts gL_borrow_X1_borrow rfl rfl rfl (by decide +kernel) ⟨Nat.le_of_ble_eq_true rfl, Nat.le_of_ble_eq_true rfl⟩) (tb_V hK hN ⟨rfl, hP⟩ hT (Nat.le_refl _) (fun _ _ => rfl) (va_recv hK (one_P hP.1) (ci := 2) (q0 := 0) rfl rfl)) rfl rfl hl.1 rfl (lv_room (Nat.le_of_ble_eq_true rfl)) dL_borrow_5 ⟨Nat.le_of_ble_eq_true rfl, Nat.le_of_ble_eq_true rfl⟩) hS (fun q _ h => Or.inl h) (fun q h => Or.inl h) (fun q _ h => Or.inl (Or.inr h)) (fun E ce q9 u t H1 locs ht hvm hu hB hz1 hk1 hS hce hcv hcl => ?_) (fun r u t H1 locs ht hvm hw hB hz1 hk1 hS => ?_)
  · have hP : Soc D cs ρ σ H1 := soc_kept hP (fun q _ h2 => hk1 q h2 (fun z => absurd z (Nat.not_le.mpr h2)))
    have hO : va_at D vwCl (outE cs o f) H1 := hO.kept (hk1 o hO.lt (fun z => absurd z (Nat.not_le.mpr hO.lt)))
    rcases hB with ⟨rfl, hc⟩ | ⟨rfl, hc⟩ | ⟨rfl, hc⟩
    · refine vx_catch hown [] ⟨0, 10, 13, 20⟩ [⟨0, 10, 17, 13⟩, ⟨0, 10, 21, 15⟩] (htab.trans rfl) (fun z hz => absurd hz List.not_mem_nil) (by decide) (by decide) (hts (.classLink RL 20 "java/lang/IndexOutOfBoundsException") (List.mem_of_getElem? (i := 1) (by decide +kernel))) (hN.use (w := .castable eIob eIob) (by decide +kernel)) hce hcv hcl ?_
      refine lv_astore (lv' := [(4, .ref q9), (0, .ref (r_h ρ)), (1, .int a), (2, .int b), (3, .ref o)]) hx hb dL_borrow_13 hl (by decide) rfl (fun ls hl => ?_)
      refine lv_iconst (v := 1) hx hb dL_borrow_15 (by decide) ?_
      refine vx_ret ?_
      refine W.widen (k := 3) (n := 18) (Nat.le_of_ble_eq_true rfl) (Nat.le_of_ble_eq_true rfl) ?_
      exact W.iret (v := 1) hx hb hr (fun t ht hW => ⟨⟨_, (σ, f), rfl, ⟨by rw [hc]; rfl, (borr_e (by rw [hc]; decide)).symm, fun h9 => absurd (hc.symm.trans h9) (by decide)⟩, by show Soc D cs ρ _ t.heap ∧ va_at D vwCl _ t.heap; rw [ht]; exact ⟨hP, hO⟩⟩, hS.F ht⟩) hS.2.2 dL_borrow_16
    · refine vx_catch hown [⟨0, 10, 13, 20⟩] ⟨0, 10, 17, 13⟩ [⟨0, 10, 21, 15⟩] (htab.trans rfl) (fun z hz => by rcases List.mem_singleton.mp hz with rfl; exact Or.inr ⟨by decide, _, hts (.classLink RL 20 "java/lang/IndexOutOfBoundsException") (List.mem_of_getElem? (i := 1) (by decide +kernel)), hNc.1⟩) (by decide) (by decide) (hts (.classLink RL 13 "java/lang/IllegalArgumentException") (List.mem_of_getElem? (i := 2) (by decide +kernel))) (hN.use (w := .castable eIae eIae) (by decide +kernel)) hce hcv hcl ?_
      refine lv_astore (lv' := [(4, .ref q9), (0, .ref (r_h ρ)), (1, .int a), (2, .int b), (3, .ref o)]) hx hb dL_borrow_17 hl (by decide) rfl (fun ls hl => ?_)
      refine lv_iconst (v := 2) hx hb dL_borrow_19 (by decide) ?_
      refine vx_ret ?_
      refine W.widen (k := 3) (n := 18) (Nat.le_of_ble_eq_true rfl) (Nat.le_of_ble_eq_true rfl) ?_
      exact W.iret (v := 2) hx hb hr (fun t ht hW => ⟨⟨_, (σ, f), rfl, ⟨by rw [hc]; rfl, (borr_e (by rw [hc]; decide)).symm, fun h9 => absurd (hc.symm.trans h9) (by decide)⟩, by show Soc D cs ρ _ t.heap ∧ va_at D vwCl _ t.heap; rw [ht]; exact ⟨hP, hO⟩⟩, hS.F ht⟩) hS.2.2 dL_borrow_20
    · refine vx_catch hown [⟨0, 10, 13, 20⟩, ⟨0, 10, 17, 13⟩] ⟨0, 10, 21, 15⟩ [] (htab.trans rfl) (fun z hz => by rcases List.mem_cons.mp hz with rfl | hz; (exact Or.inr ⟨by decide, _, hts (.classLink RL 20 "java/lang/IndexOutOfBoundsException") (List.mem_of_getElem? (i := 1) (by decide +kernel)), hNc.2.1⟩); rcases List.mem_singleton.mp hz with rfl; exact Or.inr ⟨by decide, _, hts (.classLink RL 13 "java/lang/IllegalArgumentException") (List.mem_of_getElem? (i := 2) (by decide +kernel)), hNc.2.2⟩) (by decide) (by decide) (hts (.classLink RL 15 "java/lang/IllegalStateException") (List.mem_of_getElem? (i := 3) (by decide +kernel))) (hN.use (w := .castable eIse eIse) (by decide +kernel)) hce hcv hcl ?_
      refine lv_astore (lv' := [(4, .ref q9), (0, .ref (r_h ρ)), (1, .int a), (2, .int b), (3, .ref o)]) hx hb dL_borrow_21 hl (by decide) rfl (fun ls hl => ?_)
      refine lv_iconst (v := 3) hx hb dL_borrow_23 (by decide) ?_
      refine vx_ret ?_
      refine W.widen (k := 3) (n := 18) (Nat.le_of_ble_eq_true rfl) (Nat.le_of_ble_eq_true rfl) ?_
      exact W.iret (v := 3) hx hb hr (fun t ht hW => ⟨⟨_, (σ, f), rfl, ⟨by rw [hc]; rfl, (borr_e (by rw [hc]; decide)).symm, fun h9 => absurd (hc.symm.trans h9) (by decide)⟩, by show Soc D cs ρ _ t.heap ∧ va_at D vwCl _ t.heap; rw [ht]; exact ⟨hP, hO⟩⟩, hS.F ht⟩) hS.2.2 dL_borrow_24
  · rw [ht] at hB
    have hku : sK u = sK σ := by have h9 := borr_k (σ := σ) (a := a) (b := b); rw [hw] at h9; exact h9
    have hO : va_at D vwCl (outE cs o f) H1 := hO.kept (hk1 o hO.lt (fun z => z.elim ho (fun z => absurd z (Nat.not_le.mpr hO.lt))))
    have hP : Soc D cs ρ u H1 := hB
    refine lv_i2l (v := (r).toInt64) hx hb dL_borrow_8 rfl ?_
    have hQ := P_cons hO (soc_P hP)
    have hQD : va_D (hlA ρ (sK σ) o s.heap) (outE cs o f :: socW cs ρ u) := out_D hku hap ho
    refine va_last hx hb hK hQ hQD hS 0 2 rfl rfl (by unfold vp_in; decide) dL_borrow_9 (fun H locs hQ hQD hS => ?_)
    have hO : va_at D vwCl (outE cs o (vp_updL f 0 ((r).toInt64))) H := P_head hQ
    have hP : Soc D cs ρ u H := P_soc (P_tail hQ)
    refine lv_goto (tgt := 25) hx hb dL_borrow_10 (by decide) ?_
    refine lv_iconst (v := 0) hx hb dL_borrow_25 (by decide) ?_
    refine vx_ret ?_
    refine W.widen (k := 3) (n := 18) (Nat.le_of_ble_eq_true rfl) (Nat.le_of_ble_eq_true rfl) ?_
    exact W.iret (v := 0) hx hb hr (fun t ht hW => ⟨⟨_, (u, vp_updL f 0 ((r).toInt64)), rfl, ⟨by rw [hw]; rfl, by rw [hw], fun _ => by rw [hw]; exact (pk_uLs (f := f) (k := 0) (x := (r).toInt64) :)⟩, by show Soc D cs ρ _ t.heap ∧ va_at D vwCl _ t.heap; rw [ht]; exact ⟨hP, hO⟩⟩, hS.F ht⟩) hS.2.2 dL_borrow_26
set_option maxHeartbeats 4000000 in
set_option maxRecDepth 100000 in
/-- the law's giveBack -/
theorem h_giveBack (l : Launch) (hlf : l.stackTraces = false) (D : va_G) (cs : Cs) (ρ : Rf) {B : Nat} {σ : PS} (hT0 : InvT B σ) (hap : AptA ρ (sK σ)) (H0 : Heap) (o : Nat) (f : Nat → Int64) (ho : ¬ ownB ρ (sK σ) o) (a : Int32) : vx_Met l yL_giveBack wsL_giveBack ({ frames := 8, cells := 2, slots := 12, locals := 128 }) (va_Pc [.ref (r_h ρ), .int a, .ref o] (HBp D cs (fun X => X = H0 ∧ Soc D cs ρ σ X ∧ va_at D vwCl (outE cs o f) X))) (va_Qi (fun (r : Int32) (u : PS × (Nat → Int64)) => r = nI (giveO σ a).1 ∧ u.1 = (giveO σ a).2.2 ∧ ((giveO σ a).1 = 0 → u.2 0 = ((giveO σ a).2.1).toInt64)) (fun u t => Soc D cs ρ u.1 t.heap ∧ va_at D vwCl (outE cs o u.2) t.heap) (hlA ρ (sK σ) o H0)) (vx_X (fun _ : Unit => False) (fun _ _ _ => True) (fun _ => False)) 2 12 (hlA ρ (sK σ) o H0) := by
  refine vx_ofWH (cc := cL_giveBack) (maxL := 4) (ret := (some .int)) (hh := [(0, 9, 12, 20), (0, 9, 15, 15)]) (by decide) rfl ?_
  intro p e s m args below meth c s₁ B0 hml hv
  obtain ⟨rfl, ⟨⟨⟨hH, hP, hO⟩, hK, hN⟩, hT⟩, hNc⟩ := hv
  subst hH
  have hx := B0.exec
  have hb := B0.bytes
  have hr := B0.returns
  have hts := atoms_spec (ws := wsL_giveBack) B0.pre
  have htab := vx_table (x := yL_giveBack) B0 (hts _ List.mem_cons_self)
  have hown : s.vm.findClass RL = some m.cls := findClass_of_methodNamed B0.named
  have hlocks := B0.notSynchronized
  have hS : va_S (hlA ρ (sK σ) o s.heap) s.heap s.heap [] := va_S.rf
  have hI := hT0.1
  have hl := lv_entry ([.ref (r_h ρ), .int a, .ref o]) (n := 4) (Nat.le_of_ble_eq_true rfl)
  rw [lg_entry_eq]
  generalize (lg_sl ([.ref (r_h ρ), .int a, .ref o]) ++ List.replicate (4 - (lg_sl ([.ref (r_h ρ), .int a, .ref o])).length) Slot.unset).toArray = ls at hl ⊢
  have hl : lv_has ls 4 [(0, .ref (r_h ρ)), (1, .int a), (2, .ref o)] := hl
  refine lv_aload_n hx hb dL_giveBack_0 rfl (lv_at hl 2 rfl) ?_
  refine lv_iconst (v := 0) hx hb dL_giveBack_1 (by decide) ?_
  refine lv_aload_n hx hb dL_giveBack_2 rfl (lv_at hl 0 rfl) ?_
  refine lv_iload_n hx hb dL_giveBack_3 rfl (lv_at hl 1 rfl) ?_
  refine vx_calli (vx_runV (As := [.int a]) (rest := [.int 0, .ref o]) ⟨hx, hb, hml, hown, hts⟩ (x_X1_giveBack l hlf D cs ρ hI hap s.heap hT0 a) (cwV 1 hts gL_giveBack_X1_giveBack rfl rfl rfl (by decide +kernel) ⟨Nat.le_of_ble_eq_true rfl, Nat.le_of_ble_eq_true rfl⟩) (tb_V hK hN ⟨rfl, hP⟩ hT (Nat.le_refl _) (fun _ _ => rfl) (va_recv hK (one_P hP.1) (ci := 2) (q0 := 0) rfl rfl)) rfl rfl hl.1 rfl (lv_room (Nat.le_of_ble_eq_true rfl)) dL_giveBack_4 ⟨Nat.le_of_ble_eq_true rfl, Nat.le_of_ble_eq_true rfl⟩) hS (fun q _ h => Or.inl h) (fun q h => Or.inl h) (fun q _ h => Or.inl (Or.inr h)) (fun E ce q9 u t H1 locs ht hvm hu hB hz1 hk1 hS hce hcv hcl => ?_) (fun r u t H1 locs ht hvm hw hB hz1 hk1 hS => ?_)
  · have hP : Soc D cs ρ σ H1 := soc_kept hP (fun q _ h2 => hk1 q h2 (fun z => absurd z (Nat.not_le.mpr h2)))
    have hO : va_at D vwCl (outE cs o f) H1 := hO.kept (hk1 o hO.lt (fun z => absurd z (Nat.not_le.mpr hO.lt)))
    rcases hB with ⟨rfl, hc⟩ | ⟨rfl, hc⟩
    · refine vx_catch hown [] ⟨0, 9, 12, 20⟩ [⟨0, 9, 15, 15⟩] (htab.trans rfl) (fun z hz => absurd hz List.not_mem_nil) (by decide) (by decide) (hts (.classLink RL 20 "java/lang/IndexOutOfBoundsException") (List.mem_of_getElem? (i := 1) (by decide +kernel))) (hN.use (w := .castable eIob eIob) (by decide +kernel)) hce hcv hcl ?_
      refine lv_astore_n (lv' := [(3, .ref q9), (0, .ref (r_h ρ)), (1, .int a), (2, .ref o)]) hx hb dL_giveBack_12 rfl hl (by decide) rfl (fun ls hl => ?_)
      refine lv_iconst (v := 1) hx hb dL_giveBack_13 (by decide) ?_
      refine vx_ret ?_
      refine W.widen (k := 2) (n := 12) (Nat.le_of_ble_eq_true rfl) (Nat.le_of_ble_eq_true rfl) ?_
      exact W.iret (v := 1) hx hb hr (fun t ht hW => ⟨⟨_, (σ, f), rfl, ⟨by rw [hc]; rfl, (give_e (by rw [hc]; decide)).symm, fun h9 => absurd (hc.symm.trans h9) (by decide)⟩, by show Soc D cs ρ _ t.heap ∧ va_at D vwCl _ t.heap; rw [ht]; exact ⟨hP, hO⟩⟩, hS.F ht⟩) hS.2.2 dL_giveBack_14
    · refine vx_catch hown [⟨0, 9, 12, 20⟩] ⟨0, 9, 15, 15⟩ [] (htab.trans rfl) (fun z hz => by rcases List.mem_singleton.mp hz with rfl; exact Or.inr ⟨by decide, _, hts (.classLink RL 20 "java/lang/IndexOutOfBoundsException") (List.mem_of_getElem? (i := 1) (by decide +kernel)), hNc.2.1⟩) (by decide) (by decide) (hts (.classLink RL 15 "java/lang/IllegalStateException") (List.mem_of_getElem? (i := 2) (by decide +kernel))) (hN.use (w := .castable eIse eIse) (by decide +kernel)) hce hcv hcl ?_
      refine lv_astore_n (lv' := [(3, .ref q9), (0, .ref (r_h ρ)), (1, .int a), (2, .ref o)]) hx hb dL_giveBack_15 rfl hl (by decide) rfl (fun ls hl => ?_)
      refine lv_iconst (v := 2) hx hb dL_giveBack_16 (by decide) ?_
      refine vx_ret ?_
      refine W.widen (k := 2) (n := 12) (Nat.le_of_ble_eq_true rfl) (Nat.le_of_ble_eq_true rfl) ?_
      exact W.iret (v := 2) hx hb hr (fun t ht hW => ⟨⟨_, (σ, f), rfl, ⟨by rw [hc]; rfl, (give_e (by rw [hc]; decide)).symm, fun h9 => absurd (hc.symm.trans h9) (by decide)⟩, by show Soc D cs ρ _ t.heap ∧ va_at D vwCl _ t.heap; rw [ht]; exact ⟨hP, hO⟩⟩, hS.F ht⟩) hS.2.2 dL_giveBack_17
  · rw [ht] at hB
    have hku : sK u = sK σ := by have h9 := give_k (σ := σ) (a := a); rw [hw] at h9; exact h9
    have hO : va_at D vwCl (outE cs o f) H1 := hO.kept (hk1 o hO.lt (fun z => z.elim ho (fun z => absurd z (Nat.not_le.mpr hO.lt))))
    have hP : Soc D cs ρ u H1 := hB
    refine lv_i2l (v := (r).toInt64) hx hb dL_giveBack_7 rfl ?_
    have hQ := P_cons hO (soc_P hP)
    have hQD : va_D (hlA ρ (sK σ) o s.heap) (outE cs o f :: socW cs ρ u) := out_D hku hap ho
    refine va_last hx hb hK hQ hQD hS 0 2 rfl rfl (by unfold vp_in; decide) dL_giveBack_8 (fun H locs hQ hQD hS => ?_)
    have hO : va_at D vwCl (outE cs o (vp_updL f 0 ((r).toInt64))) H := P_head hQ
    have hP : Soc D cs ρ u H := P_soc (P_tail hQ)
    refine lv_goto (tgt := 18) hx hb dL_giveBack_9 (by decide) ?_
    refine lv_iconst (v := 0) hx hb dL_giveBack_18 (by decide) ?_
    refine vx_ret ?_
    refine W.widen (k := 2) (n := 12) (Nat.le_of_ble_eq_true rfl) (Nat.le_of_ble_eq_true rfl) ?_
    exact W.iret (v := 0) hx hb hr (fun t ht hW => ⟨⟨_, (u, vp_updL f 0 ((r).toInt64)), rfl, ⟨by rw [hw]; rfl, by rw [hw], fun _ => by rw [hw]; exact (pk_uLs (f := f) (k := 0) (x := (r).toInt64) :)⟩, by show Soc D cs ρ _ t.heap ∧ va_at D vwCl _ t.heap; rw [ht]; exact ⟨hP, hO⟩⟩, hS.F ht⟩) hS.2.2 dL_giveBack_19
set_option maxHeartbeats 4000000 in
set_option maxRecDepth 100000 in
/-- the law's certify -/
theorem h_certify (l : Launch) (hlf : l.stackTraces = false) (D : va_G) (cs : Cs) (ρ : Rf) {B : Nat} {σ : PS} (hI : InvS B σ) (hap : AptA ρ (sK σ)) (H0 : Heap) (o : Nat) (f : Nat → Int64) (ho : ¬ ownB ρ (sK σ) o) (a : Int32) : vx_Met l yL_certify wsL_certify ({ frames := 8, cells := 2, slots := 12, locals := 127 }) (va_Pc [.ref (r_h ρ), .int a, .ref o] (HBp D cs (fun X => X = H0 ∧ Soc D cs ρ σ X ∧ va_at D vwCl (outE cs o f) X))) (va_Qi (fun (r : Int32) (u : PS × (Nat → Int64)) => r = nI (certO σ a).1 ∧ u.1 = (certO σ a).2.2 ∧ ((certO σ a).1 = 0 → u.2 0 = ((certO σ a).2.1).toInt64)) (fun u t => Soc D cs ρ u.1 t.heap ∧ va_at D vwCl (outE cs o u.2) t.heap) (hlA ρ (sK σ) o H0)) (vx_X (fun _ : Unit => False) (fun _ _ _ => True) (fun _ => False)) 2 12 (hlA ρ (sK σ) o H0) := by
  refine vx_ofWH (cc := cL_certify) (maxL := 4) (ret := (some .int)) (hh := [(0, 9, 12, 20), (0, 9, 15, 15)]) (by decide) rfl ?_
  intro p e s m args below meth c s₁ B0 hml hv
  obtain ⟨rfl, ⟨⟨⟨hH, hP, hO⟩, hK, hN⟩, hT⟩, hNc⟩ := hv
  subst hH
  have hx := B0.exec
  have hb := B0.bytes
  have hr := B0.returns
  have hts := atoms_spec (ws := wsL_certify) B0.pre
  have htab := vx_table (x := yL_certify) B0 (hts _ List.mem_cons_self)
  have hown : s.vm.findClass RL = some m.cls := findClass_of_methodNamed B0.named
  have hlocks := B0.notSynchronized
  have hS : va_S (hlA ρ (sK σ) o s.heap) s.heap s.heap [] := va_S.rf
  have hl := lv_entry ([.ref (r_h ρ), .int a, .ref o]) (n := 4) (Nat.le_of_ble_eq_true rfl)
  rw [lg_entry_eq]
  generalize (lg_sl ([.ref (r_h ρ), .int a, .ref o]) ++ List.replicate (4 - (lg_sl ([.ref (r_h ρ), .int a, .ref o])).length) Slot.unset).toArray = ls at hl ⊢
  have hl : lv_has ls 4 [(0, .ref (r_h ρ)), (1, .int a), (2, .ref o)] := hl
  refine lv_aload_n hx hb dL_certify_0 rfl (lv_at hl 2 rfl) ?_
  refine lv_iconst (v := 0) hx hb dL_certify_1 (by decide) ?_
  refine lv_aload_n hx hb dL_certify_2 rfl (lv_at hl 0 rfl) ?_
  refine lv_iload_n hx hb dL_certify_3 rfl (lv_at hl 1 rfl) ?_
  refine vx_calli (vx_runV (As := [.int a]) (rest := [.int 0, .ref o]) ⟨hx, hb, hml, hown, hts⟩ (x_X1_certify l hlf D cs ρ hI hap s.heap a) (cwV 1 hts gL_certify_X1_certify rfl rfl rfl (by decide +kernel) ⟨Nat.le_of_ble_eq_true rfl, Nat.le_of_ble_eq_true rfl⟩) (tb_V hK hN ⟨rfl, hP⟩ hT (Nat.le_refl _) (fun _ _ => rfl) (va_recv hK (one_P hP.1) (ci := 2) (q0 := 0) rfl rfl)) rfl rfl hl.1 rfl (lv_room (Nat.le_of_ble_eq_true rfl)) dL_certify_4 ⟨Nat.le_of_ble_eq_true rfl, Nat.le_of_ble_eq_true rfl⟩) hS (fun q _ h => Or.inl h) (fun q h => Or.inl h) (fun q _ h => Or.inl (Or.inr h)) (fun E ce q9 u t H1 locs ht hvm hu hB hz1 hk1 hS hce hcv hcl => ?_) (fun r u t H1 locs ht hvm hw hB hz1 hk1 hS => ?_)
  · have hP : Soc D cs ρ σ H1 := soc_kept hP (fun q _ h2 => hk1 q h2 (fun z => absurd z (Nat.not_le.mpr h2)))
    have hO : va_at D vwCl (outE cs o f) H1 := hO.kept (hk1 o hO.lt (fun z => absurd z (Nat.not_le.mpr hO.lt)))
    rcases hB with ⟨rfl, hc⟩ | ⟨rfl, hc⟩
    · refine vx_catch hown [] ⟨0, 9, 12, 20⟩ [⟨0, 9, 15, 15⟩] (htab.trans rfl) (fun z hz => absurd hz List.not_mem_nil) (by decide) (by decide) (hts (.classLink RL 20 "java/lang/IndexOutOfBoundsException") (List.mem_of_getElem? (i := 1) (by decide +kernel))) (hN.use (w := .castable eIob eIob) (by decide +kernel)) hce hcv hcl ?_
      refine lv_astore_n (lv' := [(3, .ref q9), (0, .ref (r_h ρ)), (1, .int a), (2, .ref o)]) hx hb dL_certify_12 rfl hl (by decide) rfl (fun ls hl => ?_)
      refine lv_iconst (v := 1) hx hb dL_certify_13 (by decide) ?_
      refine vx_ret ?_
      refine W.widen (k := 2) (n := 12) (Nat.le_of_ble_eq_true rfl) (Nat.le_of_ble_eq_true rfl) ?_
      exact W.iret (v := 1) hx hb hr (fun t ht hW => ⟨⟨_, (σ, f), rfl, ⟨by rw [hc]; rfl, (cert_e (by rw [hc]; decide)).symm, fun h9 => absurd (hc.symm.trans h9) (by decide)⟩, by show Soc D cs ρ _ t.heap ∧ va_at D vwCl _ t.heap; rw [ht]; exact ⟨hP, hO⟩⟩, hS.F ht⟩) hS.2.2 dL_certify_14
    · refine vx_catch hown [⟨0, 9, 12, 20⟩] ⟨0, 9, 15, 15⟩ [] (htab.trans rfl) (fun z hz => by rcases List.mem_singleton.mp hz with rfl; exact Or.inr ⟨by decide, _, hts (.classLink RL 20 "java/lang/IndexOutOfBoundsException") (List.mem_of_getElem? (i := 1) (by decide +kernel)), hNc.2.1⟩) (by decide) (by decide) (hts (.classLink RL 15 "java/lang/IllegalStateException") (List.mem_of_getElem? (i := 2) (by decide +kernel))) (hN.use (w := .castable eIse eIse) (by decide +kernel)) hce hcv hcl ?_
      refine lv_astore_n (lv' := [(3, .ref q9), (0, .ref (r_h ρ)), (1, .int a), (2, .ref o)]) hx hb dL_certify_15 rfl hl (by decide) rfl (fun ls hl => ?_)
      refine lv_iconst (v := 2) hx hb dL_certify_16 (by decide) ?_
      refine vx_ret ?_
      refine W.widen (k := 2) (n := 12) (Nat.le_of_ble_eq_true rfl) (Nat.le_of_ble_eq_true rfl) ?_
      exact W.iret (v := 2) hx hb hr (fun t ht hW => ⟨⟨_, (σ, f), rfl, ⟨by rw [hc]; rfl, (cert_e (by rw [hc]; decide)).symm, fun h9 => absurd (hc.symm.trans h9) (by decide)⟩, by show Soc D cs ρ _ t.heap ∧ va_at D vwCl _ t.heap; rw [ht]; exact ⟨hP, hO⟩⟩, hS.F ht⟩) hS.2.2 dL_certify_17
  · rw [ht] at hB
    have hku : sK u = sK σ := by have h9 := cert_k (σ := σ) (a := a); rw [hw] at h9; exact h9
    have hO : va_at D vwCl (outE cs o f) H1 := hO.kept (hk1 o hO.lt (fun z => z.elim ho (fun z => absurd z (Nat.not_le.mpr hO.lt))))
    have hP : Soc D cs ρ u H1 := hB
    refine lv_i2l (v := (r).toInt64) hx hb dL_certify_7 rfl ?_
    have hQ := P_cons hO (soc_P hP)
    have hQD : va_D (hlA ρ (sK σ) o s.heap) (outE cs o f :: socW cs ρ u) := out_D hku hap ho
    refine va_last hx hb hK hQ hQD hS 0 2 rfl rfl (by unfold vp_in; decide) dL_certify_8 (fun H locs hQ hQD hS => ?_)
    have hO : va_at D vwCl (outE cs o (vp_updL f 0 ((r).toInt64))) H := P_head hQ
    have hP : Soc D cs ρ u H := P_soc (P_tail hQ)
    refine lv_goto (tgt := 18) hx hb dL_certify_9 (by decide) ?_
    refine lv_iconst (v := 0) hx hb dL_certify_18 (by decide) ?_
    refine vx_ret ?_
    refine W.widen (k := 2) (n := 12) (Nat.le_of_ble_eq_true rfl) (Nat.le_of_ble_eq_true rfl) ?_
    exact W.iret (v := 0) hx hb hr (fun t ht hW => ⟨⟨_, (u, vp_updL f 0 ((r).toInt64)), rfl, ⟨by rw [hw]; rfl, by rw [hw], fun _ => by rw [hw]; exact (pk_uLs (f := f) (k := 0) (x := (r).toInt64) :)⟩, by show Soc D cs ρ _ t.heap ∧ va_at D vwCl _ t.heap; rw [ht]; exact ⟨hP, hO⟩⟩, hS.F ht⟩) hS.2.2 dL_certify_19
set_option maxHeartbeats 4000000 in
set_option maxRecDepth 100000 in
/-- the law's pass -/
theorem h_pass (l : Launch) (hlf : l.stackTraces = false) (D : va_G) (cs : Cs) (ρ : Rf) {B : Nat} {σ : PS} (hI : InvS B σ) (hap : AptA ρ (sK σ)) (H0 : Heap) (o : Nat) (f : Nat → Int64) (ho : ¬ ownB ρ (sK σ) o) (hB9 : B + 72 ≤ 40000) (a : Int32) : vx_Met l yL_pass wsL_pass ({ frames := 8, cells := 1, slots := 6, locals := 164 }) (va_Pc [.ref (r_h ρ), .int a, .ref o] (HBp D cs (fun X => X = H0 ∧ Soc D cs ρ σ X ∧ va_at D vwCl (outE cs o f) X))) (va_Qi (fun (r : Int32) (u : PS × (Nat → Int64)) => r = nI (passO σ a).1 ∧ u.1 = (passO σ a).2.2 ∧ ((passO σ a).1 = 0 → u.2 0 = ((passO σ a).2.1).toInt64)) (fun u t => Soc D cs ρ u.1 t.heap ∧ va_at D vwCl (outE cs o u.2) t.heap) (hlA ρ (sK σ) o H0)) (vx_X (fun _ : Unit => False) (fun _ _ _ => True) (fun _ => False)) 1 6 (hlA ρ (sK σ) o H0) := by
  refine vx_ofWH (cc := cL_pass) (maxL := 4) (ret := (some .int)) (hh := [(0, 9, 12, 13)]) (by decide) rfl ?_
  intro p e s m args below meth c s₁ B0 hml hv
  obtain ⟨rfl, ⟨⟨⟨hH, hP, hO⟩, hK, hN⟩, hT⟩, hNc⟩ := hv
  subst hH
  have hx := B0.exec
  have hb := B0.bytes
  have hr := B0.returns
  have hts := atoms_spec (ws := wsL_pass) B0.pre
  have htab := vx_table (x := yL_pass) B0 (hts _ List.mem_cons_self)
  have hown : s.vm.findClass RL = some m.cls := findClass_of_methodNamed B0.named
  have hlocks := B0.notSynchronized
  have hS : va_S (hlA ρ (sK σ) o s.heap) s.heap s.heap [] := va_S.rf
  have hl := lv_entry ([.ref (r_h ρ), .int a, .ref o]) (n := 4) (Nat.le_of_ble_eq_true rfl)
  rw [lg_entry_eq]
  generalize (lg_sl ([.ref (r_h ρ), .int a, .ref o]) ++ List.replicate (4 - (lg_sl ([.ref (r_h ρ), .int a, .ref o])).length) Slot.unset).toArray = ls at hl ⊢
  have hl : lv_has ls 4 [(0, .ref (r_h ρ)), (1, .int a), (2, .ref o)] := hl
  refine lv_aload_n hx hb dL_pass_0 rfl (lv_at hl 2 rfl) ?_
  refine lv_iconst (v := 0) hx hb dL_pass_1 (by decide) ?_
  refine lv_aload_n hx hb dL_pass_2 rfl (lv_at hl 0 rfl) ?_
  refine lv_iload_n hx hb dL_pass_3 rfl (lv_at hl 1 rfl) ?_
  refine vx_calli (vx_runV (As := [.int a]) (rest := [.int 0, .ref o]) ⟨hx, hb, hml, hown, hts⟩ (x_X1_pass l hlf D cs ρ hI hap s.heap hB9 a) (cwV 1 hts gL_pass_X1_pass rfl rfl rfl (by decide +kernel) ⟨Nat.le_of_ble_eq_true rfl, Nat.le_of_ble_eq_true rfl⟩) (tb_V hK hN ⟨rfl, hP⟩ hT (Nat.le_refl _) (fun _ _ => rfl) (va_recv hK (one_P hP.1) (ci := 2) (q0 := 0) rfl rfl)) rfl rfl hl.1 rfl (lv_room (Nat.le_of_ble_eq_true rfl)) dL_pass_4 ⟨Nat.le_of_ble_eq_true rfl, Nat.le_of_ble_eq_true rfl⟩) hS (fun q _ h => Or.inl h) (fun q h => Or.inl h) (fun q _ h => Or.inl (Or.inr h)) (fun E ce q9 u t H1 locs ht hvm hu hB hz1 hk1 hS hce hcv hcl => ?_) (fun r u t H1 locs ht hvm hw hB hz1 hk1 hS => ?_)
  · have hP : Soc D cs ρ σ H1 := soc_kept hP (fun q _ h2 => hk1 q h2 (fun z => absurd z (Nat.not_le.mpr h2)))
    have hO : va_at D vwCl (outE cs o f) H1 := hO.kept (hk1 o hO.lt (fun z => absurd z (Nat.not_le.mpr hO.lt)))
    obtain ⟨rfl, hc⟩ := hB
    refine vx_catch hown [] ⟨0, 9, 12, 13⟩ [] (htab.trans rfl) (fun z hz => absurd hz List.not_mem_nil) (by decide) (by decide) (hts (.classLink RL 13 "java/lang/IllegalArgumentException") (List.mem_of_getElem? (i := 1) (by decide +kernel))) (hN.use (w := .castable eIae eIae) (by decide +kernel)) hce hcv hcl ?_
    refine lv_astore_n (lv' := [(3, .ref q9), (0, .ref (r_h ρ)), (1, .int a), (2, .ref o)]) hx hb dL_pass_12 rfl hl (by decide) rfl (fun ls hl => ?_)
    refine lv_iconst (v := 1) hx hb dL_pass_13 (by decide) ?_
    refine vx_ret ?_
    refine W.widen (k := 1) (n := 6) (Nat.le_of_ble_eq_true rfl) (Nat.le_of_ble_eq_true rfl) ?_
    exact W.iret (v := 1) hx hb hr (fun t ht hW => ⟨⟨_, (σ, f), rfl, ⟨by rw [hc]; rfl, (pass_e (by rw [hc]; decide)).symm, fun h9 => absurd (hc.symm.trans h9) (by decide)⟩, by show Soc D cs ρ _ t.heap ∧ va_at D vwCl _ t.heap; rw [ht]; exact ⟨hP, hO⟩⟩, hS.F ht⟩) hS.2.2 dL_pass_14
  · rw [ht] at hB
    have hku : sK u = sK σ := by have h9 := pass_k (σ := σ) (a := a); rw [hw] at h9; exact h9
    have hO : va_at D vwCl (outE cs o f) H1 := hO.kept (hk1 o hO.lt (fun z => z.elim ho (fun z => absurd z (Nat.not_le.mpr hO.lt))))
    have hP : Soc D cs ρ u H1 := hB
    refine lv_i2l (v := (r).toInt64) hx hb dL_pass_7 rfl ?_
    have hQ := P_cons hO (soc_P hP)
    have hQD : va_D (hlA ρ (sK σ) o s.heap) (outE cs o f :: socW cs ρ u) := out_D hku hap ho
    refine va_last hx hb hK hQ hQD hS 0 2 rfl rfl (by unfold vp_in; decide) dL_pass_8 (fun H locs hQ hQD hS => ?_)
    have hO : va_at D vwCl (outE cs o (vp_updL f 0 ((r).toInt64))) H := P_head hQ
    have hP : Soc D cs ρ u H := P_soc (P_tail hQ)
    refine lv_goto (tgt := 15) hx hb dL_pass_9 (by decide) ?_
    refine lv_iconst (v := 0) hx hb dL_pass_15 (by decide) ?_
    refine vx_ret ?_
    refine W.widen (k := 1) (n := 6) (Nat.le_of_ble_eq_true rfl) (Nat.le_of_ble_eq_true rfl) ?_
    exact W.iret (v := 0) hx hb hr (fun t ht hW => ⟨⟨_, (u, vp_updL f 0 ((r).toInt64)), rfl, ⟨by rw [hw]; rfl, by rw [hw], fun _ => by rw [hw]; exact (pk_uLs (f := f) (k := 0) (x := (r).toInt64) :)⟩, by show Soc D cs ρ _ t.heap ∧ va_at D vwCl _ t.heap; rw [ht]; exact ⟨hP, hO⟩⟩, hS.F ht⟩) hS.2.2 dL_pass_16
