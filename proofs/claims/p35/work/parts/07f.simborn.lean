/-! THE LAW'S OWN SOCIETY: made, copied -/
theorem ao_blind {av : List Value} {D : va_G} {cs : Cs} {P : Heap → Prop} : FrameBlind (va_Pc av (fun U => RBp D cs P U ∧ AoI U)) :=
  fun a U g mk q => ⟨q.1, (rb_blind (av := av) a U g mk ⟨q.1, q.2.1⟩).2, AoI.call U g mk a q.2.2⟩
theorem ao_S {s : State} {H : Heap} {As : List Value} {D : va_G} {cs : Cs} {P : Heap → Prop} (hK : va_K D vwCl (tyz cs) s) (hN : Nst s) (hO : AoI s) (hP : P H) : PreS s H (va_Pc As (fun U => RBp D cs P U ∧ AoI U)) As :=
  ⟨ao_blind, fun U hU hW => ⟨rfl, ⟨by rw [hU]; exact hP, va_K.moved hW.alike hK, Nst.warm hW hN⟩, AoI.moved hW.alike hO⟩⟩
theorem ao_V {s : State} {H : Heap} {C : String} {b : Addr} {As : List Value} {D : va_G} {cs : Cs} {P : Heap → Prop} (hK : va_K D vwCl (tyz cs) s) (hN : Nst s) (hO : AoI s) (hP : P H) (hr : ∃ cell : Cell, H[b]? = some cell ∧ cell.vm.isStatics = false ∧ s.vm.findClass C = some cell.cls) : PreV s H C b (va_Pc (.ref b :: As) (fun U => RBp D cs P U ∧ AoI U)) As :=
  ⟨ao_blind, hr, fun U hU hW => ⟨rfl, ⟨by rw [hU]; exact hP, va_K.moved hW.alike hK, Nst.warm hW hN⟩, AoI.moved hW.alike hO⟩⟩
theorem lv_forC {p : Program} {l : Launch} {e : Env} {R : Room} {s : State} {m : MethodId} {args : Array Value} {below : List Frame} {meth : Method} {c : Code} {H : Heap} {locs : List Loc} {cells slots : Nat} {Q : State → Prop} {A : Nat → Prop} {H0 : Heap} {nL : Nat} {ls : Array Slot} (a b N : Nat) (g : Array Slot → JFrame) (L : Nat → List (Nat × Value)) (J : Nat → Heap → Prop) (hl : lv_has ls nL (L 0)) (h0 : J 0 H) (hS : va_S A H0 H locs)
    (step : ∀ (i : Nat) (ls : Array Slot) (H : Heap) (locs : List Loc), i < N → J i H → va_S A H0 H locs → lv_has ls nL (L i) → (∀ (ls' : Array Slot) (H' : Heap) (locs' : List Loc), J (i + 1) H' → va_S A H0 H' locs' → lv_has ls' nL (L (i + 1)) → W p l e R s m args below meth c H' locs' (cells + (i + 1) * a) (slots + (i + 1) * b) Q (g ls')) → W p l e R s m args below meth c H locs (cells + i * a) (slots + i * b) Q (g ls))
    (fin : ∀ (ls : Array Slot) (H : Heap) (locs : List Loc), J N H → va_S A H0 H locs → lv_has ls nL (L N) → W p l e R s m args below meth c H locs (cells + N * a) (slots + N * b) Q (g ls)) : W p l e R s m args below meth c H locs cells slots Q (g ls) := by
  have key : ∀ (n i : Nat), i + n = N → ∀ (ls : Array Slot) (H : Heap) (locs : List Loc), J i H → va_S A H0 H locs → lv_has ls nL (L i) → W p l e R s m args below meth c H locs (cells + i * a) (slots + i * b) Q (g ls) := by
    intro n
    induction n with
    | zero =>
      intro i hi ls H locs hJ hS h
      rw [Nat.add_zero] at hi
      subst hi
      exact fin ls H locs hJ hS h
    | succ n ih =>
      intro i hi ls H locs hJ hS h
      exact step i ls H locs (by omega) hJ hS h (fun ls' H' locs' hJ' hS' h' => ih (i + 1) (by omega) ls' H' locs' hJ' hS' h')
  have k := key N 0 (Nat.zero_add N) ls H locs h0 hS hl
  rw [Nat.zero_mul, Nat.zero_mul, Nat.add_zero, Nat.add_zero] at k
  exact k
abbrev bornW (x : Nat) : va_W := [(x, .inr (3, [.int 0, .int 0, .int 0, .null]))]
abbrev bornV (cs : Cs) (x a : Nat) : va_W := [(x, .inr (3, [.int 0, .int 0, .int 0, .ref a])), (a, .inl (cs.2.2.1, 0, .inr (.inr (.inr (.inr (fun _ => none))))))]
theorem in_X2_init_X2 : ∀ w ∈ wsX20, w ∈ wsX2_init := by decide +kernel
set_option maxHeartbeats 4000000 in
set_option maxRecDepth 100000 in
/-- a society by hand, without members -/
theorem c_X2_init (l : Launch) (D : va_G) (cs : Cs) (H0 : Heap) (x : Nat) : Met l yX2_init wsX2_init ({ frames := 1, cells := 1, slots := 0, locals := 12 }) (va_Pc [.ref x] (LBp D cs (bornW x) H0 AoI)) (va_Qv (fun _ : Nat => True) (fun a t => va_P D vwCl (bornV cs x a) t.heap ∧ va_D (va_A (bornW x) H0.size) (bornV cs x a)) (va_A (bornW x) H0.size)) 1 0 (va_A (bornW x) H0.size) := by
  refine Met.ofW (cc := cX2_init) (maxL := 1) (ret := none) (by decide) rfl ?_
  intro p e s m args below meth c s₁ B0 hml hv
  obtain ⟨rfl, ⟨⟨hH, hP, hD0⟩, hK, hN⟩, hO⟩ := hv
  subst hH
  have hx := B0.exec
  have hb := B0.bytes
  have hr := B0.returns
  have hts := atoms_spec (ws := wsX2_init) B0.pre
  have hown : s.vm.findClass RX2 = some m.cls := findClass_of_methodNamed B0.named
  have hlocks := B0.notSynchronized
  have hD := hD0.self (sz := s.heap.size)
  generalize hAe : va_A (bornW x) s.heap.size = A at hD ⊢
  have hA : ∀ q : Nat, s.heap.size ≤ q → A q := fun q h => by rw [← hAe]; exact Or.inr h
  have hS : va_S A s.heap s.heap [] := va_S.rf
  have hl := lv_entry ([.ref x]) (n := 1) (Nat.le_of_ble_eq_true rfl)
  rw [lg_entry_eq]
  generalize (lg_sl ([.ref x]) ++ List.replicate (1 - (lg_sl ([.ref x])).length) Slot.unset).toArray = ls at hl ⊢
  have hl : lv_has ls 1 [(0, .ref x)] := hl
  refine lv_aload_n hx hb dX2_init_0 rfl (lv_at hl 0 rfl) ?_
  refine W.objInit hx hb hown (hts (.methodLink RX2 1 objectInit) (List.mem_of_getElem? (i := 1) (by decide +kernel))) (hts (.instanceMethod objectInit) (List.mem_of_getElem? (i := 2) (by decide +kernel))) (hts (.code objectInit ⟨#[0xb1]⟩ 1 none) (List.mem_of_getElem? (i := 3) (by decide +kernel))) rfl (by rw [hml]; exact hl.1) rfl dX2_init_1 (Nat.le_of_ble_eq_true rfl) (Nat.le_of_ble_eq_true rfl) ?_
  refine W.eq (g2 := F0 m 4 ls []) rfl ?_
  refine lv_aload_n hx hb dX2_init_4 rfl (lv_at hl 0 rfl) ?_
  refine lv_iconst (v := 0) hx hb dX2_init_5 (by decide) ?_
  refine va_newA hx hb hown (hts (.classLink RX2 7 "[I") (List.mem_of_getElem? (i := 4) (by decide +kernel))) hO hK 2 rfl hP hD hS hA (N' := 0) (by decide) (by decide) (by decide) (Nat.le_of_ble_eq_true rfl) (Nat.le_of_ble_eq_true rfl) dX2_init_6 (fun a H hP hD hS hz hk => ?_)
  have hP : va_P D vwCl [(x, .inr (3, [.int 0, .int 0, .int 0, .null])), (a, .inl (cs.2.2.1, 0, .inr (.inr (.inr (.inr (fun _ => none))))))] H := hP
  have hD : va_D A [(x, .inr (3, [.int 0, .int 0, .int 0, .null])), (a, .inl (cs.2.2.1, 0, .inr (.inr (.inr (.inr (fun _ => none))))))] := hD
  refine va_put (D := D) (ci := 3) (v := .ref a) (ty := (.array (.array .int))) (C := RX2) (T := TX2) (N := 4) hx hb hts in_X2_init_X2 tyX2 tyX2_ok nmX2 hown hK hP hD hS 0 rfl rfl 3 (by decide) (hts (.fieldLink RX2 9 "ShadowSocietyLaw$Sim" "members" "[[I") (List.mem_of_getElem? (i := 5) (by decide +kernel))) (fun _ h9 => h9) rfl (by decide +kernel) rfl rfl (Nat.le_of_ble_eq_true rfl) dX2_init_9 (fun H locs hP hD hS => ?_)
  have hP : va_P D vwCl (bornV cs x a) H := hP
  have hD : va_D A (bornV cs x a) := hD
  refine W.widen (k := 1) (n := 0) (Nat.le_of_ble_eq_true rfl) (Nat.le_of_ble_eq_true rfl) ?_
  exact W.vret hx hb hr (fun t ht hW => ⟨⟨a, rfl, trivial, by rw [ht]; exact hP, hD⟩, hS.F ht⟩) hS.2.2 dX2_init_12
abbrev cutS (σ : PS) (n : Nat) : PS := (n, σ.2)
theorem fit_int {cA : ClassId} {n : Nat} {f : Nat → Int32} : ∀ (i : Nat) (v : Value), (vp_cell cA (n, .inl f)).slots[i]? = some v → fits .int v = true := by
  intro i v hv
  rw [vp_cell_i] at hv
  have h2 : (Array.ofFn (n := n) fun j => Value.int (f j.val))[i]? = some v := hv
  rw [Array.getElem?_ofFn] at h2
  split at h2
  · cases h2
    rfl
  · cases h2
theorem vs_back {A : Nat → Prop} {D : va_G} {cl : List vw_C} {H0 H1 : Heap} {locs : List Loc} {a : Nat} {e : ClassId × vp_A} (hS : va_S (fun q => q = a ∨ A q) H0 H1 locs) (h0 : va_at D cl (a, .inl e) H0) (h1 : va_at D cl (a, .inl e) H1) (hl : ∀ l ∈ locs, A l.base) : va_S A H0 H1 locs := by
  refine ⟨hS.1, fun q hq hn => ?_, hl⟩
  by_cases c : q = a
  · subst c
    exact (show H1[q]? = some (vp_cell e.1 e.2) from h1).trans (show H0[q]? = some (vp_cell e.1 e.2) from h0).symm
  · exact hS.2.1 q hq (fun z => z.elim c hn)
theorem P_appR {D : va_G} {cl : List vw_C} {a : va_W} {x : Nat × va_E} {H : Heap} (h : va_P D cl (a ++ [x]) H) : va_at D cl x H := h a.length x (by simp)
theorem D_appR {A : Nat → Prop} {a : va_W} {x : Nat × va_E} (h : va_D A (a ++ [x])) : A x.1 ∧ ∀ (k : Nat) (q : Nat × va_E), a[k]? = some q → q.1 ≠ x.1 := by
  refine ⟨h.2 a.length x (by simp), fun k q hk e => ?_⟩
  have hlt := (List.getElem?_eq_some_iff.mp hk).1
  have := h.1 k a.length q x (by rw [List.getElem?_append_left hlt]; exact hk) (by simp) e
  omega
theorem own_in {cs : Cs} {M : Mf} {σ : PS} {q : Nat} (h : ownS M (sK σ) q) : ∃ (k : Nat) (y : Nat × va_E), (simW cs M σ)[k]? = some y ∧ y.1 = q := by
  rcases h with h | h | ⟨i, hi, h⟩
  · exact ⟨0, _, rfl, h.symm⟩
  · exact ⟨1, _, rfl, h.symm⟩
  · exact ⟨_, _, simW_at hi, h.symm⟩
theorem in_X2_copy_X2 : ∀ w ∈ wsX20, w ∈ wsX2_copy := by decide +kernel
set_option maxHeartbeats 4000000 in
set_option maxRecDepth 100000 in
/-- a copy -/
theorem c_X2_copy (l : Launch) (D : va_G) (cs : Cs) (M : Mf) {B : Nat} {σ : PS} (hI : InvS B σ) (H0 : Heap) : Met l yX2_copy wsX2_copy ({ frames := 2, cells := 22, slots := 194, locals := 40 }) (va_Pc [.ref M.1] (fun U => RBp D cs (fun X => X = H0 ∧ va_P D vwCl (simW cs M σ) X) U ∧ AoI U)) (va_Qr (fun _ : Nat × (Nat → Nat) => True) (fun u a t => va_P D vwCl (simW cs (a, u) σ) t.heap ∧ AptS (a, u) (sK σ) ∧ ∀ q, ownS (a, u) (sK σ) q → H0.size ≤ q) (fun q => H0.size ≤ q)) 22 194 (fun q => H0.size ≤ q) := by
  refine Met.ofW (cc := cX2_copy) (maxL := 6) (ret := (some (.object "ShadowSocietyLaw$Sim"))) (by decide) rfl ?_
  intro p e s m args below meth c s₁ B0 hml hv
  obtain ⟨rfl, ⟨⟨hH, hM0⟩, hK, hN⟩, hO⟩ := hv
  subst hH
  have hx := B0.exec
  have hb := B0.bytes
  have hr := B0.returns
  have hts := atoms_spec (ws := wsX2_copy) B0.pre
  have hown : s.vm.findClass RX2 = some m.cls := findClass_of_methodNamed B0.named
  have hlocks := B0.notSynchronized
  have h10 := hI.1
  have hA : ∀ q : Nat, s.heap.size ≤ q → (fun q : Nat => s.heap.size ≤ q) q := fun _ h => h
  have hS : va_S (fun q : Nat => s.heap.size ≤ q) s.heap s.heap [] := va_S.rf
  have hP : va_P D vwCl [] s.heap := fun k q h => by simp at h
  have hD : va_D (fun q : Nat => s.heap.size ≤ q) [] := ⟨fun i j p q h => by simp at h, fun k q h => by simp at h⟩
  have hMk : ∀ (H : Heap) (locs : List Loc), va_S (fun q : Nat => s.heap.size ≤ q) s.heap H locs → va_P D vwCl (simW cs M σ) H := fun H locs hS => sim_kept hM0 (fun q _ h => hS.2.1 q h (Nat.not_le.mpr h))
  have hl := lv_entry ([.ref M.1]) (n := 6) (Nat.le_of_ble_eq_true rfl)
  rw [lg_entry_eq]
  generalize (lg_sl ([.ref M.1]) ++ List.replicate (6 - (lg_sl ([.ref M.1])).length) Slot.unset).toArray = ls at hl ⊢
  have hl : lv_has ls 6 [(0, .ref M.1)] := hl
  refine va_new (ci := 3) (fs := [.int 0, .int 0, .int 0, .null]) (C := RX2) (T := TX2) (N := 4) hx hb hts in_X2_copy_X2 tyX2 tyX2_ok hown (hts (.classLink RX2 10 RX2) (List.mem_of_getElem? (i := 1) (by decide +kernel))) (hts (.instantiable RX2 4) (List.mem_of_getElem? (i := 2) (by decide +kernel))) (hts (.initialized RX2) (List.mem_of_getElem? (i := 3) (by decide +kernel))) hK hP hD hS hA rfl (fun j hj => by rcases (show j = 0 ∨ j = 1 ∨ j = 2 ∨ j = 3 by omega) with rfl | rfl | rfl | rfl <;> rfl) (Nat.le_of_ble_eq_true rfl) (Nat.le_of_ble_eq_true rfl) dX2_copy_0 (fun x H hP hD hS => ?_)
  have hP : va_P D vwCl (bornW x) H := hP
  have hD : va_D (fun q : Nat => s.heap.size ≤ q) (bornW x) := hD
  refine lv_dup hx hb dX2_copy_3 rfl ?_
  have hPc := hP.sub (ws' := bornW x) [0] rfl
  have hDc := hD.sub (ws' := bornW x) [0] (by decide) rfl
  have hFc := va_free (wc := bornW x) hD hS hA [0] rfl
  refine va_callv (va_runI (As := []) (rest := [.ref x]) ⟨hx, hb, hml, hown, hts⟩ (c_X2_init l D cs H x) (cwI 0 hts gX2_copy_X2_init rfl rfl rfl (hts (.initialized RX2) (List.mem_of_getElem? (i := 3) (by decide +kernel))) (hts (.methodLink RX2 15 yX2_init) (by decide +kernel)) (hts (.instanceMethod yX2_init) (by decide +kernel)) rfl (by decide +kernel) ⟨Nat.le_of_ble_eq_true rfl, Nat.le_of_ble_eq_true rfl⟩) (lb_I hK hN hPc hDc AoI.call (fun U hU hW => AoI.moved hW.alike hO)) rfl rfl hl.1 rfl (lv_room (Nat.le_of_ble_eq_true rfl)) dX2_copy_4 ⟨Nat.le_of_ble_eq_true rfl, Nat.le_of_ble_eq_true rfl⟩) hS (fun q _ h => hFc q h) hFc (fun a t H1 locs ht hvm hw hB hz1 hk1 hS => ?_)
  rw [ht] at hB
  obtain ⟨hP, hD⟩ := va_join (wr := []) (w1 := bornV cs x a) hP hD [0] [] rfl rfl (by decide) (by decide) hk1 hFc hB.1 hB.2
  generalize H1 = H at hP hS ⊢
  have hP : va_P D vwCl (bornV cs x a) H := hP
  have hD : va_D (fun q : Nat => s.heap.size ≤ q) (bornV cs x a) := hD
  refine lv_astore_n (lv' := [(1, .ref x), (0, .ref M.1)]) hx hb dX2_copy_7 rfl hl (by decide) rfl (fun ls hl => ?_)
  refine lv_aload_n hx hb dX2_copy_8 rfl (lv_at hl 0 rfl) ?_
  refine lv_aload_n hx hb dX2_copy_9 rfl (lv_at hl 1 rfl) ?_
  refine va_get (D := D) (ci := 3) (v := .int (sHr σ)) (C := RX2) (T := TX2) (N := 4) hx hb hts in_X2_copy_X2 hown hK (hMk _ _ hS) 0 rfl rfl 0 (by decide) (hts (.fieldLink RX2 16 "ShadowSocietyLaw$Sim" "hour" "I") (by decide +kernel)) (fun _ h9 => h9) rfl dX2_copy_10 ?_
  refine va_put (D := D) (ci := 3) (v := .int (sHr σ)) (ty := .int) (C := RX2) (T := TX2) (N := 4) hx hb hts in_X2_copy_X2 tyX2 tyX2_ok nmX2 hown hK hP hD hS 0 rfl rfl 0 (by decide) (hts (.fieldLink RX2 16 "ShadowSocietyLaw$Sim" "hour" "I") (by decide +kernel)) (fun _ h9 => h9) rfl (by decide +kernel) rfl rfl (Nat.le_of_ble_eq_true rfl) dX2_copy_13 (fun H locs hP hD hS => ?_)
  refine lv_aload_n hx hb dX2_copy_16 rfl (lv_at hl 0 rfl) ?_
  refine lv_aload_n hx hb dX2_copy_17 rfl (lv_at hl 1 rfl) ?_
  refine va_get (D := D) (ci := 3) (v := .int (sSz σ)) (C := RX2) (T := TX2) (N := 4) hx hb hts in_X2_copy_X2 hown hK (hMk _ _ hS) 0 rfl rfl 1 (by decide) (hts (.fieldLink RX2 20 "ShadowSocietyLaw$Sim" "seized" "I") (by decide +kernel)) (fun _ h9 => h9) rfl dX2_copy_18 ?_
  refine va_put (D := D) (ci := 3) (v := .int (sSz σ)) (ty := .int) (C := RX2) (T := TX2) (N := 4) hx hb hts in_X2_copy_X2 tyX2 tyX2_ok nmX2 hown hK hP hD hS 0 rfl rfl 1 (by decide) (hts (.fieldLink RX2 20 "ShadowSocietyLaw$Sim" "seized" "I") (by decide +kernel)) (fun _ h9 => h9) rfl (by decide +kernel) rfl rfl (Nat.le_of_ble_eq_true rfl) dX2_copy_21 (fun H locs hP hD hS => ?_)
  refine lv_aload_n hx hb dX2_copy_24 rfl (lv_at hl 0 rfl) ?_
  refine lv_aload_n hx hb dX2_copy_25 rfl (lv_at hl 1 rfl) ?_
  refine va_get (D := D) (ci := 3) (v := .int (sRv σ)) (C := RX2) (T := TX2) (N := 4) hx hb hts in_X2_copy_X2 hown hK (hMk _ _ hS) 0 rfl rfl 2 (by decide) (hts (.fieldLink RX2 23 "ShadowSocietyLaw$Sim" "revoked" "I") (by decide +kernel)) (fun _ h9 => h9) rfl dX2_copy_26 ?_
  refine va_put (D := D) (ci := 3) (v := .int (sRv σ)) (ty := .int) (C := RX2) (T := TX2) (N := 4) hx hb hts in_X2_copy_X2 tyX2 tyX2_ok nmX2 hown hK hP hD hS 0 rfl rfl 2 (by decide) (hts (.fieldLink RX2 23 "ShadowSocietyLaw$Sim" "revoked" "I") (by decide +kernel)) (fun _ h9 => h9) rfl (by decide +kernel) rfl rfl (Nat.le_of_ble_eq_true rfl) dX2_copy_29 (fun H locs hP hD hS => ?_)
  have hP : va_P D vwCl (simW cs (x, a, fun _ => 0) (cutS σ 0)) H := by
    refine P_cons (P_head hP) (P_cons ?_ (fun k q h => by have h : ([] : va_W)[k]? = some q := h; simp at h))
    show va_at D vwCl (a, .inl (cs.2.2.1, 0, .inr (.inr (.inr (.inr (elm (fun _ => 0) 0)))))) H
    rw [elm_0]
    exact P_head (P_tail hP)
  have hne : x ≠ a := fun q => absurd (hD.1 0 1 _ _ rfl rfl q) (by decide)
  have hxz : s.heap.size ≤ x := hD.2 0 _ rfl
  have haz : s.heap.size ≤ a := hD.2 1 _ rfl
  refine lv_aload_n hx hb dX2_copy_32 rfl (lv_at hl 1 rfl) ?_
  refine va_get (D := D) (ci := 3) (v := .ref M.2.1) (C := RX2) (T := TX2) (N := 4) hx hb hts in_X2_copy_X2 hown hK (hMk _ _ hS) 0 rfl rfl 3 (by decide) (hts (.fieldLink RX2 9 "ShadowSocietyLaw$Sim" "members" "[[I") (by decide +kernel)) (fun _ h9 => h9) rfl dX2_copy_33 ?_
  refine lv_astore_n (lv' := [(2, .ref M.2.1), (1, .ref x), (0, .ref M.1)]) hx hb dX2_copy_36 rfl hl (by decide) rfl (fun ls hl => ?_)
  refine lv_aload_n hx hb dX2_copy_37 rfl (lv_at hl 0 rfl) ?_
  refine va_alen hx hb hK (hMk _ _ hS) 1 2 rfl rfl (v := nI (sK σ)) rfl dX2_copy_38 ?_
  refine lv_istore_n (lv' := [(3, .int (nI (sK σ))), (2, .ref M.2.1), (1, .ref x), (0, .ref M.1)]) hx hb dX2_copy_39 rfl hl (by decide) rfl (fun ls hl => ?_)
  refine lv_iconst (v := 0) hx hb dX2_copy_40 (by decide) ?_
  refine lv_istore (lv' := [(4, .int 0), (3, .int (nI (sK σ))), (2, .ref M.2.1), (1, .ref x), (0, .ref M.1)]) hx hb dX2_copy_41 hl (by decide) rfl (fun ls hl => ?_)
  refine lv_forC (A := fun q : Nat => s.heap.size ≤ q) 2 19 (sK σ) (fun ls => F0 m 43 ls []) (fun n => [(4, .int (nI n)), (3, .int (nI (sK σ))), (2, .ref M.2.1), (1, .ref x), (0, .ref M.1)]) (fun n X => ∃ (a : Nat) (ad : Nat → Nat), va_P D vwCl (simW cs (x, a, ad) (cutS σ n)) X ∧ AptS (x, a, ad) n ∧ ∀ q, ownS (x, a, ad) n q → s.heap.size ≤ q) hl ⟨a, fun _ => 0, hP, ⟨fun i j h => absurd h (Nat.not_lt_zero i), hne, fun i h => absurd h (Nat.not_lt_zero i)⟩, fun q h => by
    rcases h with h | h | ⟨i, hi, _⟩
    · rw [h]; exact hxz
    · rw [h]; exact haz
    · exact absurd hi (Nat.not_lt_zero i)⟩ hS (fun n ls H locs hn hJ hS hl K9 => ?_) (fun ls H locs hJ hS hl => ?_)
  · obtain ⟨a, ad, hP, hap, hown9⟩ := hJ
    have hl : lv_has ls 6 [(4, .int (nI n)), (3, .int (nI (sK σ))), (2, .ref M.2.1), (1, .ref x), (0, .ref M.1)] := hl
    refine lv_iload hx hb dX2_copy_43 (lv_at hl 0 rfl) ?_
    refine lv_iload_n hx hb dX2_copy_45 rfl (lv_at hl 1 rfl) ?_
    refine lv_icmp_ge (tgt := 80) hx hb dX2_copy_46 (by decide) (fun c9 => absurd c9 (nI_ge hn (by omega))) (fun _ => ?_)
    refine lv_aload_n hx hb dX2_copy_49 rfl (lv_at hl 2 rfl) ?_
    refine lv_iload hx hb dX2_copy_50 (lv_at hl 0 rfl) ?_
    refine va_aldA hx hb hK (hMk _ _ hS) 1 2 rfl rfl (vp_in_nI hn (by omega)) (elm_at hn h10) dX2_copy_52 ?_
    refine lv_astore (lv' := [(5, .ref (M.2.2 n)), (4, .int (nI n)), (3, .int (nI (sK σ))), (2, .ref M.2.1), (1, .ref x), (0, .ref M.1)]) hx hb dX2_copy_53 hl (by decide) rfl (fun ls hl => ?_)
    refine lv_aload_n hx hb dX2_copy_55 rfl (lv_at hl 4 rfl) ?_
    refine lv_aload_n hx hb dX2_copy_56 rfl (lv_at hl 4 rfl) ?_
    refine va_get (D := D) (ci := 3) (v := .ref a) (C := RX2) (T := TX2) (N := 4) hx hb hts in_X2_copy_X2 hown hK hP 0 rfl rfl 3 (by decide) (hts (.fieldLink RX2 9 "ShadowSocietyLaw$Sim" "members" "[[I") (by decide +kernel)) (fun _ h9 => h9) rfl dX2_copy_57 ?_
    refine lv_aload hx hb dX2_copy_60 (lv_at hl 0 rfl) ?_
    have hrow : va_at D vwCl (M.2.2 n, .inl (cs.1, 8, .inl (rowF σ n))) H := hMk _ _ hS _ _ (simW_at hn)
    have hrow0 : va_at D vwCl (M.2.2 n, .inl (cs.1, 8, .inl (rowF σ n))) s.heap := hM0 _ _ (simW_at hn)
    have hPx : va_P D vwCl ((M.2.2 n, .inl (cs.1, 8, .inl (rowF σ n))) :: simW cs (x, a, ad) (cutS σ n)) H := P_cons hrow hP
    have hD9 : va_D (fun q : Nat => s.heap.size ≤ q) (simW cs (x, a, ad) (cutS σ n)) := sim_D hap hown9
    have hDx : va_D (fun q : Nat => q = M.2.2 n ∨ s.heap.size ≤ q) ((M.2.2 n, .inl (cs.1, 8, .inl (rowF σ n))) :: simW cs (x, a, ad) (cutS σ n)) := D_cons (Or.inl rfl) (hD9.weaken (fun _ _ _ h => Or.inr h)) (fun k q hk e => by
      have h1 := hD9.2 k q hk
      have h2 := hrow0.lt
      rw [e] at h1
      exact absurd h2 (Nat.not_lt.mpr h1))
    refine va_clone hx hb (by rw [hml]; exact hl.1.symm) hown (hts (.methodLink RX2 26 ⟨"[I", "clone", "()Ljava/lang/Object;"⟩) (by decide +kernel)) (hts (.sameMethod "[I" "java/lang/Object" "clone" "()Ljava/lang/Object;") (by decide +kernel)) (hts (.native ⟨"java/lang/Object", "clone", "()Ljava/lang/Object;"⟩) (by decide +kernel)) (hts (.instanceMethod ⟨"java/lang/Object", "clone", "()Ljava/lang/Object;"⟩) (by decide +kernel)) (hts (.selects "[I" ⟨"[I", "clone", "()Ljava/lang/Object;"⟩ ⟨"java/lang/Object", "clone", "()Ljava/lang/Object;"⟩) (by decide +kernel)) (hN (.castable "[I" "java/lang/Cloneable") (by decide +kernel)) hK hPx hDx (vs_up hS (fun q h => Or.inr h)) (fun q h => Or.inr h) 0 0 rfl rfl (hK.2 0 _ rfl).2 fit_int (Nat.le_of_ble_eq_true rfl) (Nat.le_of_ble_eq_true rfl) (by show _ ≤ 22; omega) (by show _ ≤ 194; show _ + 8 ≤ 194; omega) dX2_copy_62 (fun cq H2 _ hP2 hD2 hS2 => ?_)
    have hcl : va_at D vwCl (cq, .inl (cs.1, 8, .inl (rowF σ n))) H2 := P_appR hP2
    have hPn : va_P D vwCl (simW cs (x, a, ad) (cutS σ n)) H2 := P_tail (P_appL hP2)
    obtain ⟨hcA, hcn⟩ := D_appR hD2
    have hS2 : va_S (fun q : Nat => s.heap.size ≤ q) s.heap H2 locs := vs_back hS2 hrow0 (P_head (P_appL hP2)) hS.2.2
    have hcz : s.heap.size ≤ cq := hcA.elim (fun z => absurd z.symm (hcn 0 _ rfl)) id
    have hcn2 : ∀ q, ownS (x, a, ad) n q → q ≠ cq := fun q h => by
      obtain ⟨k, y, hk, e⟩ := own_in (cs := cs) (σ := cutS σ n) h
      rw [← e]
      exact hcn (k + 1) y hk
    refine va_castA hx hb hown (hts (.classLink RX2 7 "[I") (by decide +kernel)) (one_P hcl) 0 rfl (hK.2 0 _ rfl).2 dX2_copy_65 ?_
    have hAx : ∀ q : Nat, H2.size ≤ q → s.heap.size ≤ q := fun q h => Nat.le_trans hS2.1 h
    refine va_callr (va_runS (As := [.ref a, .ref cq]) (rest := [.ref x]) ⟨hx, hb, hml, hown, hts⟩ (c_X2_with l D cs H2 a cq n (by omega) ad (fun i => rowF σ i) (rowF σ n)) (va_cwS 2 hts gX2_copy_X2_with rfl rfl rfl (by decide +kernel) ⟨Nat.le_of_ble_eq_true rfl, Nat.le_of_ble_eq_true rfl⟩) (ao_S hK hN hO ⟨rfl, hPn 1 _ rfl, fun i hi => hPn _ _ (simW_at (σ := cutS σ n) hi), hcl⟩) rfl rfl hl.1 rfl (lv_room (Nat.le_of_ble_eq_true rfl)) dX2_copy_68 ⟨by show _ ≤ 22; omega, by show _ ≤ 194; show _ + 8 + 11 ≤ 194; omega⟩) hS2 (fun q _ h => hAx q h) hAx (fun u N t H3 locs ht hvm hw hB hz1 hk1 hS => ?_)
    rw [ht] at hB
    obtain ⟨hNz, hNa⟩ := hB
    obtain ⟨hPv, hap3, hown3⟩ := sim_grow (τ := cutS σ (n + 1)) hPn hap hcl hcn2 hNa hNz (fun q h => hk1 q h (Nat.not_le.mpr h)) rfl rfl (fun _ _ => rfl)
    have hown4 : ∀ q, ownS (x, N, va_up ad n cq) (n + 1) q → s.heap.size ≤ q := fun q h => by
      rcases hown3 q h with h | h | h
      · exact hown9 q h
      · rw [h]; exact hcz
      · rw [h]; exact hAx N hNz
    refine va_put (D := D) (ci := 3) (v := .ref N) (ty := (.array (.array .int))) (C := RX2) (T := TX2) (N := 4) hx hb hts in_X2_copy_X2 tyX2 tyX2_ok nmX2 hown hK hPv (simV_D hap3 hown4) hS 0 rfl rfl 3 (by decide) (hts (.fieldLink RX2 9 "ShadowSocietyLaw$Sim" "members" "[[I") (by decide +kernel)) (fun _ h9 => h9) rfl (by decide +kernel) rfl rfl (Nat.le_of_ble_eq_true rfl) dX2_copy_71 (fun H locs hP hD hS => ?_)
    have hP : va_P D vwCl (simW cs (x, N, va_up ad n cq) (cutS σ (n + 1))) H := hP
    refine lv_iinc (v := nI (n + 1)) (lv' := [(4, .int (nI (n + 1))), (5, .ref (M.2.2 n)), (3, .int (nI (sK σ))), (2, .ref M.2.1), (1, .ref x), (0, .ref M.1)]) hx hb dX2_copy_74 hl (k := 1) rfl (nI_add _ 1) (by decide) rfl (fun ls hl => ?_)
    refine lv_goto (tgt := 43) hx hb dX2_copy_77 (by decide) ?_
    refine W.widen (k := 0 + 1 + 1 + (n + 1) * 2) (n := 0 + 4 + 0 + (n + 1) * 19) (by omega) (by show _ + 8 + 11 ≤ _; omega) ?_
    exact K9 ls H locs ⟨N, va_up ad n cq, hP, hap3, hown4⟩ hS (lv_sub hl [0, 2, 3, 4, 5] rfl)
  · obtain ⟨a, ad, hP, hap, hown9⟩ := hJ
    have hl : lv_has ls 6 [(4, .int (nI (sK σ))), (3, .int (nI (sK σ))), (2, .ref M.2.1), (1, .ref x), (0, .ref M.1)] := hl
    refine lv_iload hx hb dX2_copy_43 (lv_at hl 0 rfl) ?_
    refine lv_iload_n hx hb dX2_copy_45 rfl (lv_at hl 1 rfl) ?_
    refine lv_icmp_ge (tgt := 80) hx hb dX2_copy_46 (by decide) (fun _ => ?_) (fun c9 => absurd (nI_le (Nat.le_refl _) (by omega)) c9)
    refine lv_aload_n hx hb dX2_copy_80 rfl (lv_at hl 3 rfl) ?_
    refine W.widen (k := 22) (n := 194) (by omega) (by omega) ?_
    exact W.aret (v := .ref x) (rt := .object "ShadowSocietyLaw$Sim") hx hb hr (Or.inl ⟨_, rfl⟩) (Or.inr ⟨_, rfl⟩) (fun t ht hW => ⟨⟨(a, ad), x, rfl, trivial, by rw [ht]; exact hP, hap, hown9⟩, hS.F ht⟩) hS.2.2 dX2_copy_81
