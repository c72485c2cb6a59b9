/-! THE LAW'S JOIN (laid by wip/whole/gen/helpers.py) -/
set_option maxHeartbeats 4000000 in
set_option maxRecDepth 100000 in
/-- the law's join -/
theorem h_join (l : Launch) (hlf : l.stackTraces = false) (D : va_G) (cs : Cs) (ρ : Rf) {B : Nat} {σ : PS} (hT0 : InvT B σ) (hap : AptA ρ (sK σ)) (H0 : Heap) (o : Nat) (f : Nat → Int64) (ho : ¬ ownB ρ (sK σ) o) (e0 : Nat) (he0 : sK σ = 0 → r_e ρ = e0) (a b : Int32) : vx_Met l yL_join wsL_join ({ frames := 7, cells := 3, slots := 30, locals := 126 }) (va_Pc [.ref (r_h ρ), .int a, .int b, .ref o] (fun U => HBp D cs (fun X => X = H0 ∧ Soc D cs ρ σ X ∧ va_at D vwCl (outE cs o f) X) U ∧ DefP (ownA ρ (sK σ) H0) e0 U)) (va_Qi (fun (r : Int32) (u : (PS × Rf) × (Nat → Int64)) => r = nI (joinO σ a b).1 ∧ u.1.1 = (joinO σ a b).2.2 ∧ ((joinO σ a b).1 = 0 → u.2 0 = ((joinO σ a b).2.1).toInt64)) (fun u t => Soc D cs u.1.2 u.1.1 t.heap ∧ va_at D vwCl (outE cs o u.2) t.heap ∧ AptA u.1.2 (sK u.1.1) ∧ r_h u.1.2 = r_h ρ ∧ (0 < sK u.1.1 ∨ u.1.1 = σ ∧ u.1.2 = ρ) ∧ (∀ q, ownB u.1.2 (sK u.1.1) q → ownB ρ (sK σ) q ∨ H0.size ≤ q)) (hlA ρ (sK σ) o H0)) (vx_X (fun _ : Unit => False) (fun _ _ _ => True) (fun _ => False)) 3 30 (hlA ρ (sK σ) o H0) := by
  refine vx_ofWH (cc := cL_join) (maxL := 5) (ret := (some .int)) (hh := [(0, 10, 13, 13), (0, 10, 17, 15)]) (by decide) rfl ?_
  intro p e s m args below meth c s₁ B0 hml hv
  obtain ⟨rfl, ⟨⟨⟨⟨hH, hP, hO⟩, hK, hN⟩, hT⟩, hNc⟩, hE⟩ := hv
  subst hH
  have hx := B0.exec
  have hb := B0.bytes
  have hr := B0.returns
  have hts := atoms_spec (ws := wsL_join) B0.pre
  have htab := vx_table (x := yL_join) B0 (hts _ List.mem_cons_self)
  have hown : s.vm.findClass RL = some m.cls := findClass_of_methodNamed B0.named
  have hlocks := B0.notSynchronized
  have hS : va_S (hlA ρ (sK σ) o s.heap) s.heap s.heap [] := va_S.rf
  have hI := hT0.1
  have hl := lv_entry ([.ref (r_h ρ), .int a, .int b, .ref o]) (n := 5) (Nat.le_of_ble_eq_true rfl)
  rw [lg_entry_eq]
  generalize (lg_sl ([.ref (r_h ρ), .int a, .int b, .ref o]) ++ List.replicate (5 - (lg_sl ([.ref (r_h ρ), .int a, .int b, .ref o])).length) Slot.unset).toArray = ls at hl ⊢
  have hl : lv_has ls 5 [(0, .ref (r_h ρ)), (1, .int a), (2, .int b), (3, .ref o)] := hl
  refine lv_aload_n hx hb dL_join_0 rfl (lv_at hl 3 rfl) ?_
  refine lv_iconst (v := 0) hx hb dL_join_1 (by decide) ?_
  refine lv_aload_n hx hb dL_join_2 rfl (lv_at hl 0 rfl) ?_
  refine lv_iload_n hx hb dL_join_3 rfl (lv_at hl 1 rfl) ?_
  refine lv_iload_n hx hb dL_join_4 rfl (lv_at hl 2 rfl) ?_
  refine vx_calli (vx_runV (As := [.int a, .int b]) (rest := [.int 0, .ref o]) ⟨hx, hb, hml, hown, hts⟩ (x_X1_join l hlf D cs ρ hT0 hap e0 he0 s.heap a b) (cwV 2 hts gL_join_X1_join rfl rfl rfl (by decide +kernel) ⟨Nat.le_of_ble_eq_true rfl, Nat.le_of_ble_eq_true rfl⟩) (tj_V hK hN ⟨rfl, hP⟩ hT hE (Nat.le_refl _) (fun _ _ => rfl) (va_recv hK (one_P hP.1) (ci := 2) (q0 := 0) rfl rfl)) rfl rfl hl.1 rfl (lv_room (Nat.le_of_ble_eq_true rfl)) dL_join_5 ⟨Nat.le_of_ble_eq_true rfl, Nat.le_of_ble_eq_true rfl⟩) hS (fun q _ h => Or.inl h) (fun q h => Or.inl h) (fun q _ h => Or.inl (Or.inr h)) (fun E ce q9 u t H1 locs ht hvm hu hB hz1 hk1 hS hce hcv hcl => ?_) (fun r u t H1 locs ht hvm hw hB hz1 hk1 hS => ?_)
  · have hP : Soc D cs ρ σ H1 := soc_kept hP (fun q _ h2 => hk1 q h2 (fun z => absurd z (Nat.not_le.mpr h2)))
    have hO : va_at D vwCl (outE cs o f) H1 := hO.kept (hk1 o hO.lt (fun z => absurd z (Nat.not_le.mpr hO.lt)))
    have hJJ : AptA ρ (sK σ) ∧ r_h ρ = r_h ρ ∧ (0 < sK σ ∨ σ = σ ∧ ρ = ρ) ∧ (∀ q, ownB ρ (sK σ) q → ownB ρ (sK σ) q ∨ s.heap.size ≤ q) := ⟨hap, rfl, Or.inr ⟨rfl, rfl⟩, fun q h => Or.inl h⟩
    rcases hB with ⟨rfl, hc⟩ | ⟨rfl, hc⟩
    · refine vx_catch hown [] ⟨0, 10, 13, 13⟩ [⟨0, 10, 17, 15⟩] (htab.trans rfl) (fun z hz => absurd hz List.not_mem_nil) (by decide) (by decide) (hts (.classLink RL 13 "java/lang/IllegalArgumentException") (List.mem_of_getElem? (i := 1) (by decide +kernel))) (hN.use (w := .castable eIae eIae) (by decide +kernel)) hce hcv hcl ?_
      refine lv_astore (lv' := [(4, .ref q9), (0, .ref (r_h ρ)), (1, .int a), (2, .int b), (3, .ref o)]) hx hb dL_join_13 hl (by decide) rfl (fun ls hl => ?_)
      refine lv_iconst (v := 1) hx hb dL_join_15 (by decide) ?_
      refine vx_ret ?_
      refine W.widen (k := 3) (n := 30) (Nat.le_of_ble_eq_true rfl) (Nat.le_of_ble_eq_true rfl) ?_
      exact W.iret (v := 1) hx hb hr (fun t ht hW => ⟨⟨_, ((σ, ρ), f), rfl, ⟨by rw [hc]; rfl, (join_e (by rw [hc]; decide)).symm, fun h9 => absurd (hc.symm.trans h9) (by decide)⟩, by show Soc D cs _ _ t.heap ∧ va_at D vwCl _ t.heap ∧ _; rw [ht]; exact ⟨hP, hO, hJJ⟩⟩, hS.F ht⟩) hS.2.2 dL_join_16
    · refine vx_catch hown [⟨0, 10, 13, 13⟩] ⟨0, 10, 17, 15⟩ [] (htab.trans rfl) (fun z hz => by rcases List.mem_singleton.mp hz with rfl; exact Or.inr ⟨by decide, _, hts (.classLink RL 13 "java/lang/IllegalArgumentException") (List.mem_of_getElem? (i := 1) (by decide +kernel)), hNc.2.2⟩) (by decide) (by decide) (hts (.classLink RL 15 "java/lang/IllegalStateException") (List.mem_of_getElem? (i := 2) (by decide +kernel))) (hN.use (w := .castable eIse eIse) (by decide +kernel)) hce hcv hcl ?_
      refine lv_astore (lv' := [(4, .ref q9), (0, .ref (r_h ρ)), (1, .int a), (2, .int b), (3, .ref o)]) hx hb dL_join_17 hl (by decide) rfl (fun ls hl => ?_)
      refine lv_iconst (v := 2) hx hb dL_join_19 (by decide) ?_
      refine vx_ret ?_
      refine W.widen (k := 3) (n := 30) (Nat.le_of_ble_eq_true rfl) (Nat.le_of_ble_eq_true rfl) ?_
      exact W.iret (v := 2) hx hb hr (fun t ht hW => ⟨⟨_, ((σ, ρ), f), rfl, ⟨by rw [hc]; rfl, (join_e (by rw [hc]; decide)).symm, fun h9 => absurd (hc.symm.trans h9) (by decide)⟩, by show Soc D cs _ _ t.heap ∧ va_at D vwCl _ t.heap ∧ _; rw [ht]; exact ⟨hP, hO, hJJ⟩⟩, hS.F ht⟩) hS.2.2 dL_join_20
  · rw [ht] at hB
    obtain ⟨hP, hap2, hrh, hk2, hown2⟩ := hB
    have hol : o < s.heap.size := hO.lt
    have hO : va_at D vwCl (outE cs o f) H1 := hO.kept (hk1 o hO.lt (fun z => z.elim ho (fun z => absurd z (Nat.not_le.mpr hO.lt))))
    have hJJ : AptA u.2 (sK u.1) ∧ r_h u.2 = r_h ρ ∧ (0 < sK u.1 ∨ u.1 = σ ∧ u.2 = ρ) ∧ (∀ q, ownB u.2 (sK u.1) q → ownB ρ (sK σ) q ∨ s.heap.size ≤ q) := ⟨hap2, hrh, Or.inl hk2, hown2⟩
    refine lv_i2l (v := (r).toInt64) hx hb dL_join_8 rfl ?_
    have hQ := P_cons hO (soc_P hP)
    have hQD : va_D (hlA ρ (sK σ) o s.heap) (outE cs o f :: socW cs u.2 u.1) := out_D2 hap2 hown2 ho hol
    refine va_last hx hb hK hQ hQD hS 0 2 rfl rfl (by unfold vp_in; decide) dL_join_9 (fun H locs hQ hQD hS => ?_)
    have hO : va_at D vwCl (outE cs o (vp_updL f 0 ((r).toInt64))) H := P_head hQ
    have hP : Soc D cs u.2 u.1 H := P_soc (P_tail hQ)
    refine lv_goto (tgt := 21) hx hb dL_join_10 (by decide) ?_
    refine lv_iconst (v := 0) hx hb dL_join_21 (by decide) ?_
    refine vx_ret ?_
    refine W.widen (k := 3) (n := 30) (Nat.le_of_ble_eq_true rfl) (Nat.le_of_ble_eq_true rfl) ?_
    exact W.iret (v := 0) hx hb hr (fun t ht hW => ⟨⟨_, (u, vp_updL f 0 ((r).toInt64)), rfl, ⟨by rw [hw]; rfl, by rw [hw], fun _ => by rw [hw]; exact (pk_uLs (f := f) (k := 0) (x := (r).toInt64) :)⟩, by show Soc D cs _ _ t.heap ∧ va_at D vwCl _ t.heap ∧ _; rw [ht]; exact ⟨hP, hO, hJJ⟩⟩, hS.F ht⟩) hS.2.2 dL_join_22
