/-! THE LAW'S SOCIETIES ARE BUILT (laid by wip/p35/gen/build.py) -/
abbrev ps0 : PS := (0, (0, 0, 0), fun _ => 0, fun _ => 0, fun _ => 0, fun _ => 0, fun _ => 0, fun _ => 0, fun _ => 0, fun _ => 0)
theorem invQ_0 : InvQ 0 ps0 :=
  ⟨⟨⟨Nat.zero_le _, Nat.zero_le _, ⟨0, Nat.le_refl _, rfl⟩, fun i h => absurd h (Nat.not_lt_zero i)⟩, fun i h => absurd h (Nat.not_lt_zero i), fun i j h => absurd h (Nat.not_lt_zero i), fun i j h => absurd h (Nat.not_lt_zero i), fun _ _ => ⟨rfl, rfl, rfl⟩⟩,
    fun i h => absurd h (Nat.not_lt_zero i), fun i h => absurd h (Nat.not_lt_zero i), fun i h => absurd h (Nat.not_lt_zero i)⟩
/-- both societies, at h and x, alike; all their cells from Z on; c: what is known of there being members -/
def LJ (D : va_G) (cs : Cs) (h x e0 Z B : Nat) (c : Prop) (X : Heap) : Prop := ∃ (σ : PS) (ρ : Rf) (M : Mf), Soc D cs ρ σ X ∧ va_P D vwCl (simW cs M σ) X ∧ AptJ ρ M (sK σ) ∧ r_h ρ = h ∧ M.1 = x ∧ InvQ B σ ∧ (sK σ = 0 → r_e ρ = e0) ∧ (∀ q, ownJ ρ M (sK σ) q → Z ≤ q) ∧ (c → 0 < sK σ)
/-- a start of what builds -/
def BBp (D : va_G) (cs : Cs) (ρ : Rf) (e0 Z b L : Nat) (xs : Nat → Int32) (H0 : Heap) (U : State) : Prop := RBp D cs (fun X => X = H0 ∧ Soc D cs ρ ps0 X) U ∧ AoI U ∧ ThrA (fun q => Z ≤ q) U ∧ DefP (fun q => Z ≤ q) e0 U ∧ va_X b L xs U U.heap
theorem bb_blind {av : List Value} {D : va_G} {cs : Cs} {ρ : Rf} {e0 Z b L : Nat} {xs : Nat → Int32} {H0 : Heap} : FrameBlind (va_Pc av (BBp D cs ρ e0 Z b L xs H0)) :=
  fun a U g mk q => ⟨q.1, (rb_blind (av := av) a U g mk ⟨q.1, q.2.1⟩).2, AoI.call U g mk a q.2.2.1, ThrA.call q.2.2.2.1, DefP_b U g mk a q.2.2.2.2.1, va_X.moved (u := U) (U := U.calling g mk a) (Vm.Alike.refl U.vm) q.2.2.2.2.2⟩
theorem bb_S {s : State} {H : Heap} {As : List Value} {D : va_G} {cs : Cs} {ρ : Rf} {e0 Z b L : Nat} {xs : Nat → Int32} {A : Nat → Prop} {locs : List Loc} (hK : va_K D vwCl (tyz cs) s) (hN : Nst s) (hP : Soc D cs ρ ps0 H) (hO : AoI s) (hT : ThrA A s) (hE : DefP A e0 s) (hX : va_X b L xs s H) (hS : va_S A s.heap H locs) (hA : ∀ q, Z ≤ q → A q) : PreS s H (va_Pc As (BBp D cs ρ e0 Z b L xs H)) As :=
  ⟨bb_blind, fun U hU hW => ⟨rfl, ⟨⟨hU, by rw [hU]; exact hP⟩, va_K.moved hW.alike hK, Nst.warm hW hN⟩, AoI.moved hW.alike hO, hT.move hW (fun q h1 h2 => by rw [hU]; exact hS.2.1 q h1 h2) hA, hE.move hW.alike (fun q h1 h2 => by rw [hU]; exact hS.2.1 q h1 h2) hA, by rw [hU]; exact va_X.moved hW.alike hX⟩⟩
theorem in_L_build_X2 : ∀ w ∈ wsX20, w ∈ wsL_build := by decide +kernel
set_option maxHeartbeats 4000000 in
set_option maxRecDepth 100000 in
/-- a society that cells choose -/
theorem c_L_build (l : Launch) (hlf : l.stackTraces = false) (D : va_G) (cs : Cs) (ρ : Rf) (e0 Z b L : Nat) (xs : Nat → Int32) (hL : L ≤ 260) (H0 : Heap) (hZ0 : Z ≤ H0.size) (hbZ : b < Z) (hap0 : AptA ρ 0) (he00 : r_e ρ = e0) (hZ1 : ∀ q, ownB ρ 0 q → Z ≤ q) : Met l yL_build wsL_build ({ frames := 11, cells := 146, slots := 1444, locals := 240 }) (va_Pc [.ref (r_h ρ), .ref b] (BBp D cs ρ e0 Z b L xs H0)) (va_Qr (fun _ : Unit => True) (fun _ x t => LJ D cs (r_h ρ) x e0 Z 1728 True t.heap) (fun q => Z ≤ q)) 146 1444 (fun q => Z ≤ q) := by
  refine Met.ofW (cc := cL_build) (maxL := 5) (ret := (some (.object "ShadowSocietyLaw$Sim"))) (by decide) rfl ?_
  intro p e s m args below meth c s₁ B0 hml hv
  obtain ⟨rfl, ⟨⟨hH, hP0⟩, hK, hN⟩, hO, hT, hE, hX⟩ := hv
  subst hH
  have hx := B0.exec
  have hb := B0.bytes
  have hr := B0.returns
  have hts := atoms_spec (ws := wsL_build) B0.pre
  have hown : s.vm.findClass RL = some m.cls := findClass_of_methodNamed B0.named
  have hlocks := B0.notSynchronized
  have hA : ∀ q : Nat, s.heap.size ≤ q → (fun q : Nat => Z ≤ q) q := fun _ h => Nat.le_trans hZ0 h
  have hbl : b < s.heap.size := Nat.lt_of_lt_of_le hbZ hZ0
  have hXk : ∀ (H : Heap) (locs : List Loc), va_S (fun q : Nat => Z ≤ q) s.heap H locs → va_X b L xs s H := fun H locs hS => hX.kept (hS.2.1 b hbl (Nat.not_le.mpr hbZ))
  have hS : va_S (fun q : Nat => Z ≤ q) s.heap s.heap [] := va_S.rf
  have hPe : va_P D vwCl [] s.heap := fun k q h => by simp at h
  have hDe : va_D (fun q : Nat => Z ≤ q) [] := ⟨fun i j p q h => by simp at h, fun k q h => by simp at h⟩
  have hl := lv_entry ([.ref (r_h ρ), .ref b]) (n := 5) (Nat.le_of_ble_eq_true rfl)
  rw [lg_entry_eq]
  generalize (lg_sl ([.ref (r_h ρ), .ref b]) ++ List.replicate (5 - (lg_sl ([.ref (r_h ρ), .ref b])).length) Slot.unset).toArray = ls at hl ⊢
  have hl : lv_has ls 5 [(0, .ref (r_h ρ)), (1, .ref b)] := hl
  refine va_new (ci := 3) (fs := [.int 0, .int 0, .int 0, .null]) (C := RX2) (T := TX2) (N := 4) hx hb hts in_L_build_X2 tyX2 tyX2_ok hown (hts (.classLink RL 10 RX2) (by decide +kernel)) (hts (.instantiable RX2 4) (by decide +kernel)) (hts (.initialized RX2) (by decide +kernel)) hK (P_app hPe (soc_P hP0)) (D_app hDe (soc_D hap0 hZ1) (fun i j x y h => by simp at h)) hS hA rfl (fun j hj => by rcases (show j = 0 ∨ j = 1 ∨ j = 2 ∨ j = 3 by omega) with rfl | rfl | rfl | rfl <;> rfl) (Nat.le_of_ble_eq_true rfl) (Nat.le_of_ble_eq_true rfl) dL_build_0 (fun x H hJ hDJ hS => ?_)
  have hJ : va_P D vwCl (socW cs ρ ps0 ++ [(x, .inr (3, [.int 0, .int 0, .int 0, .null]))]) H := hJ
  obtain ⟨hxA, hxn⟩ := D_appR (a := socW cs ρ ps0) (x := (x, .inr (3, [.int 0, .int 0, .int 0, .null]))) hDJ
  have hP : Soc D cs ρ ps0 H := P_soc (P_appL hJ)
  have hB1 : va_P D vwCl (bornW x) H := one_P (P_appR hJ)
  have hPz := soc_own_lt hP
  have hxH : x < H.size := (P_appR hJ).lt
  have hxo : ∀ q, ownB ρ 0 q → q ≠ x := fun q h => by
    obtain ⟨k, y, hk, e⟩ := own_at (cs := cs) (σ := ps0) h
    rw [← e]
    exact hxn k y hk
  refine lv_dup hx hb dL_build_3 rfl ?_
  refine va_callv (va_runIN (As := []) (rest := [.ref x]) ⟨hx, hb, hml, hown, hts⟩ (c_X2_init l D cs H x) ⟨va_cnB 0 hts gL_build_X2_init_n67 rfl rfl rfl (hN (.methodLinkNest "ShadowSocietyLaw" 67 ⟨"ShadowSocietyLaw$Sim", "<init>", "()V"⟩ "ShadowSocietyLaw") (by decide +kernel)) (hts (.initialized RX2) (by decide +kernel)) (by decide +kernel) ⟨Nat.le_of_ble_eq_true rfl, Nat.le_of_ble_eq_true rfl⟩, rfl, hts (.instanceMethod yX2_init) (by decide +kernel)⟩ (lb_I hK hN hB1 (one_D (A := fun _ => True) trivial) AoI.call (fun U hU hW => AoI.moved hW.alike hO)) rfl rfl hl.1 rfl (lv_room (Nat.le_of_ble_eq_true rfl)) dL_build_4 ⟨Nat.le_of_ble_eq_true rfl, Nat.le_of_ble_eq_true rfl⟩) hS (fun q _ h => (one_A h).elim (fun e => e ▸ hxA) (fun h => Nat.le_trans (Nat.le_trans hZ0 hS.1) h)) (fun q h => (one_A h).elim (fun e => e ▸ hxA) (fun h => Nat.le_trans (Nat.le_trans hZ0 hS.1) h)) (fun a t H1 locs ht hvm hw hB hz1 hk1 hS1 => ?_)
  rw [ht] at hB
  have hSz : s.heap.size ≤ H.size := hS.1
  have hP : Soc D cs ρ ps0 H1 := soc_kept hP (fun q h h2 => hk1 q h2 (fun z => (one_A z).elim (fun e => hxo q h e) (fun z => absurd z (Nat.not_le.mpr h2))))
  have haz : H.size ≤ a := (one_A (hB.2.2 1 _ rfl)).elim (fun e => absurd (hB.2.1 0 1 _ _ rfl rfl e.symm) (by decide)) id
  have hM : va_P D vwCl (simW cs (x, a, fun _ => 0) ps0) H1 := by
    refine P_cons (P_head hB.1) (P_cons ?_ (fun k q h => by have h : ([] : va_W)[k]? = some q := h; simp at h))
    show va_at D vwCl (a, .inl (cs.2.2.1, 0, .inr (.inr (.inr (.inr (elm (fun _ => 0) 0)))))) H1
    rw [elm_0]
    exact P_head (P_tail hB.1)
  have hJ : LJ D cs (r_h ρ) x e0 Z 0 (0 < 0) H1 := by
    refine ⟨ps0, ρ, (x, a, fun _ => 0), hP, hM, ⟨hap0, ⟨fun i j h => absurd h (Nat.not_lt_zero i), by show x ≠ a; omega, fun i h => absurd h (Nat.not_lt_zero i)⟩, fun q h1 h2 => ?_⟩, rfl, rfl, invQ_0, fun _ => he00, fun q h => ?_, fun h => absurd h (Nat.lt_irrefl 0)⟩
    · rcases h2 with h | h | ⟨i, hi, _⟩
      · exact hxo q h1 h
      · have := hPz q h1
        have h : q = a := h
        omega
      · exact absurd hi (Nat.not_lt_zero i)
    · rcases h with h | h | h | ⟨i, hi, _⟩
      · exact hZ1 q h
      · rw [h]; exact hxA
      · rw [h]; exact Nat.le_trans (Nat.le_trans hZ0 hSz) haz
      · exact absurd hi (Nat.not_lt_zero i)
  clear hM hB hB1
  generalize H1 = H at hJ hS1 ⊢
  have hS := hS1
  have hhg : ∃ h : Nat, h = r_h ρ := ⟨_, rfl⟩
  obtain ⟨h, hh⟩ := hhg
  rw [← hh] at hJ hl
  refine lv_astore_n (lv' := [(2, .ref x), (0, .ref h), (1, .ref b)]) hx hb dL_build_7 rfl hl (by decide) rfl (fun ls hl => ?_)
  refine lv_iconst (v := 1) hx hb dL_build_8 (by decide) ?_
  refine lv_aload_n hx hb dL_build_9 rfl (lv_at hl 2 rfl) ?_
  refine lv_iconst (v := 0) hx hb dL_build_10 (by decide) ?_
  refine vp_callSi (va_Run.run (va_runS (As := [.ref b, .int (nI 0)]) (rest := [.int 1]) ⟨hx, hb, hml, hown, hts⟩ (c_L_cell l b L xs 0 (by omega) hL) (va_cwS 2 hts gL_build_L_cell rfl rfl rfl (by decide +kernel) ⟨Nat.le_of_ble_eq_true rfl, Nat.le_of_ble_eq_true rfl⟩) (xx_S (hXk _ _ hS)) rfl rfl hl.1 rfl (lv_room (Nat.le_of_ble_eq_true rfl)) dL_build_11 ⟨(by show _ ≤ 146; omega), (by show _ ≤ 1444; omega)⟩)) (fun v1 _ => ?_)
  refine lv_bipush (v := 10) hx hb dL_build_14 (by decide) ?_
  refine vp_callSi (va_Run.run (va_runS (As := [.int v1, .int (nI 10)]) (rest := [.int 1]) ⟨hx, hb, hml, hown, hts⟩ (c_L_below l D cs v1 10 (by decide) (by decide)) (va_cwS 2 hts gL_build_L_below rfl rfl rfl (by decide +kernel) ⟨Nat.le_of_ble_eq_true rfl, Nat.le_of_ble_eq_true rfl⟩) (rb_S hK hN trivial) rfl rfl hl.1 rfl (lv_room (Nat.le_of_ble_eq_true rfl)) dL_build_16 ⟨Nat.le_of_ble_eq_true rfl, Nat.le_of_ble_eq_true rfl⟩)) (fun r hr9 => ?_)
  obtain ⟨j, hj, e9⟩ := hr9
  rw [e9]
  refine lv_iadd hx hb dL_build_19 ?_
  refine W.eq (g2 := F0 m 20 ls [.int (nI (1 + j))]) (by rw [nI_1add]) ?_
  refine lv_istore_n (lv' := [(3, .int (nI (1 + j))), (2, .ref x), (0, .ref h), (1, .ref b)]) hx hb dL_build_20 rfl hl (by decide) rfl (fun ls hl => ?_)
  refine lv_iconst (v := 0) hx hb dL_build_21 (by decide) ?_
  refine lv_istore (lv' := [(4, .int 0), (3, .int (nI (1 + j))), (2, .ref x), (0, .ref h), (1, .ref b)]) hx hb dL_build_22 hl (by decide) rfl (fun ls hl => ?_)
  refine lv_forC (A := fun q : Nat => Z ≤ q) 6 60 (1 + j) (fun ls => F0 m 24 ls []) (fun n => [(4, .int (nI n)), (3, .int (nI (1 + j))), (2, .ref x), (0, .ref h), (1, .ref b)]) (fun n X => LJ D cs h x e0 Z (72 * n) (0 < n) X) hl hJ hS (fun n ls H locs hn hJ hS hl K9 => ?_) (fun ls H locs hJ hS hl => ?_)
  · have hl : lv_has ls 5 [(4, .int (nI n)), (3, .int (nI (1 + j))), (2, .ref x), (0, .ref h), (1, .ref b)] := hl
    refine lv_iload hx hb dL_build_24 (lv_at hl 0 rfl) ?_
    refine lv_iload_n hx hb dL_build_26 rfl (lv_at hl 1 rfl) ?_
    refine lv_icmp_ge (tgt := 62) hx hb dL_build_27 (by decide) (fun c9 => absurd c9 (nI_ge hn (by omega))) (fun _ => ?_)
    refine lv_aload_n hx hb dL_build_30 rfl (lv_at hl 3 rfl) ?_
    refine lv_aload_n hx hb dL_build_31 rfl (lv_at hl 2 rfl) ?_
    refine lv_bipush (v := 15) hx hb dL_build_32 (by decide) ?_
    refine lv_aload_n hx hb dL_build_34 rfl (lv_at hl 4 rfl) ?_
    refine lv_iconst (v := 1) hx hb dL_build_35 (by decide) ?_
    refine lv_iload hx hb dL_build_36 (lv_at hl 0 rfl) ?_
    refine lv_iadd hx hb dL_build_38 ?_
    refine W.eq (g2 := F0 m 39 ls [.int (nI (1 + n)), .ref b, .int 15, .ref x, .ref h]) (by rw [nI_1add]) ?_
    refine vp_callSi (va_Run.run (va_runS (As := [.ref b, .int (nI (1 + n))]) (rest := [.int 15, .ref x, .ref h]) ⟨hx, hb, hml, hown, hts⟩ (c_L_cell l b L xs (1 + n) (by omega) hL) (va_cwS 2 hts gL_build_L_cell rfl rfl rfl (by decide +kernel) ⟨Nat.le_of_ble_eq_true rfl, Nat.le_of_ble_eq_true rfl⟩) (xx_S (hXk _ _ hS)) rfl rfl hl.1 rfl (lv_room (Nat.le_of_ble_eq_true rfl)) dL_build_39 ⟨(by show _ ≤ 146; omega), (by show _ ≤ 1444; omega)⟩)) (fun v2 _ => ?_)
    refine lv_iconst (v := 5) hx hb dL_build_42 (by decide) ?_
    refine lv_ishr hx hb dL_build_43 ?_
    refine lv_ldc (v := 16777215) hx hb hown (hts (.constant RL 72 (16777215)) (by decide +kernel)) dL_build_44 ?_
    refine lv_iand hx hb dL_build_46 ?_
    refine lv_imul hx hb dL_build_47 ?_
    refine lv_topi (fun v3 _ => ?_)
    obtain ⟨σ, ρ, M, hP, hM, hap, hrh, hmx, hQ, he0, hZo, hck⟩ := hJ
    subst hrh
    subst hmx
    have hSz : s.heap.size ≤ H.size := hS.1
    have hA9 : ∀ q, jA ρ M (sK σ) H q → Z ≤ q := fun q h => h.elim (hZo q) (fun h => Nat.le_trans (Nat.le_trans hZ0 hSz) h)
    refine vx_calli (vx_runSX (As := [.ref (r_h ρ), .ref M.1, .int v3]) (rest := []) ⟨hx, hb, hml, hown, hts⟩ (c_L_act l hlf D cs ρ M hQ (by omega) hap e0 he0 H v3) (vx_cwSW 3 hts gL_build_L_act rfl rfl rfl (by decide +kernel) ⟨Nat.le_of_ble_eq_true rfl, Nat.le_of_ble_eq_true rfl⟩) (jb_S hK hN hP hM hO hT hE hS hA9) rfl rfl hl.1 rfl (lv_room (Nat.le_of_ble_eq_true rfl)) dL_build_48 ⟨(by show _ ≤ 146; omega), (by show _ ≤ 1444; omega)⟩) hS (fun q _ h => hA9 q h) hA9 (fun q _ h => h.elim) (fun E ce q9 u t H locs ht hvm hu _ _ _ _ _ _ _ => hu.elim) (fun r u t H locs ht hvm hw hB hz1 hk1 hS => ?_)
    obtain ⟨hr1, hQ2, hk2⟩ := hw
    rw [hr1]
    rw [ht] at hB
    obtain ⟨hP2, hM2, hap2, hrh2, hmx2, hown2⟩ := hB
    have hJ2 : LJ D cs (r_h ρ) M.1 e0 Z (72 * (n + 1)) (0 < n + 1) H := ⟨u.1, u.2.1, u.2.2, hP2, hM2, hap2, hrh2, hmx2, (by rw [show 72 * (n + 1) = 72 * n + 72 by omega]; exact hQ2), fun z => absurd z (Nat.ne_of_gt hk2), fun q h => (hown2 q h).elim (hZo q) (fun h => Nat.le_trans (Nat.le_trans hZ0 hSz) h), fun _ => hk2⟩
    refine lv_if_ne (tgt := 56) hx hb dL_build_51 (by decide) (fun _ => ?_) (fun c9 => absurd c9 (by decide))
    refine lv_iinc (v := nI (n + 1)) (lv' := [(4, .int (nI (n + 1))), (3, .int (nI (1 + j))), (2, .ref M.1), (0, .ref (r_h ρ)), (1, .ref b)]) hx hb dL_build_56 hl (k := 0) rfl (nI_add _ 1) (by decide) rfl (fun ls hl => ?_)
    refine lv_goto (tgt := 24) hx hb dL_build_59 (by decide) ?_
    refine W.widen (k := 0 + 1 + 1 + (n + 1) * 6) (n := 0 + 4 + 0 + (n + 1) * 60) (by omega) (by omega) ?_
    exact K9 ls H locs hJ2 hS hl
  · have hl : lv_has ls 5 [(4, .int (nI (1 + j))), (3, .int (nI (1 + j))), (2, .ref x), (0, .ref h), (1, .ref b)] := hl
    refine lv_iload hx hb dL_build_24 (lv_at hl 0 rfl) ?_
    refine lv_iload_n hx hb dL_build_26 rfl (lv_at hl 1 rfl) ?_
    refine lv_icmp_ge (tgt := 62) hx hb dL_build_27 (by decide) (fun _ => ?_) (fun c9 => absurd (nI_le (Nat.le_refl _) (by omega)) c9)
    have hJ : LJ D cs h x e0 Z (720 + 72 * 0) True H := by
      obtain ⟨σ, ρ, M, hP, hM, hap, hrh, hmx, hQ, he0, hZo, hck⟩ := hJ
      exact ⟨σ, ρ, M, hP, hM, hap, hrh, hmx, invQ_le hQ (by omega) (by omega), he0, hZo, fun _ => hck (by omega)⟩
    refine lv_iconst (v := 0) hx hb dL_build_62 (by decide) ?_
    refine lv_istore (lv' := [(4, .int 0), (3, .int (nI (1 + j))), (2, .ref x), (0, .ref h), (1, .ref b)]) hx hb dL_build_63 hl (by decide) rfl (fun ls hl => ?_)
    refine W.widen (k := 62) (n := 604) (by omega) (by omega) ?_
    refine lv_forC (A := fun q : Nat => Z ≤ q) 6 60 14 (fun ls => F0 m 65 ls []) (fun n => [(4, .int (nI n)), (3, .int (nI (1 + j))), (2, .ref x), (0, .ref h), (1, .ref b)]) (fun n X => LJ D cs h x e0 Z (720 + 72 * n) True X) hl hJ hS (fun n ls H locs hn hJ hS hl K9 => ?_) (fun ls H locs hJ hS hl => ?_)
    · have hl : lv_has ls 5 [(4, .int (nI n)), (3, .int (nI (1 + j))), (2, .ref x), (0, .ref h), (1, .ref b)] := hl
      refine lv_iload hx hb dL_build_65 (lv_at hl 0 rfl) ?_
      refine lv_bipush (v := 14) hx hb dL_build_67 (by decide) ?_
      refine lv_icmp_ge (tgt := 102) hx hb dL_build_69 (by decide) (fun c9 => absurd c9 (nI_ge (b := 14) hn (by omega))) (fun _ => ?_)
      refine lv_aload_n hx hb dL_build_72 rfl (lv_at hl 3 rfl) ?_
      refine lv_aload_n hx hb dL_build_73 rfl (lv_at hl 2 rfl) ?_
      refine lv_aload_n hx hb dL_build_74 rfl (lv_at hl 4 rfl) ?_
      refine lv_iload hx hb dL_build_75 (lv_at hl 0 rfl) ?_
      refine vp_callSi (va_Run.run (va_runS (As := [.ref b, .int (nI n)]) (rest := [.ref x, .ref h]) ⟨hx, hb, hml, hown, hts⟩ (c_L_cell l b L xs n (by omega) hL) (va_cwS 2 hts gL_build_L_cell rfl rfl rfl (by decide +kernel) ⟨Nat.le_of_ble_eq_true rfl, Nat.le_of_ble_eq_true rfl⟩) (xx_S (hXk _ _ hS)) rfl rfl hl.1 rfl (lv_room (Nat.le_of_ble_eq_true rfl)) dL_build_77 ⟨(by show _ ≤ 146; omega), (by show _ ≤ 1444; omega)⟩)) (fun v2 _ => ?_)
      refine lv_iconst (v := 2) hx hb dL_build_80 (by decide) ?_
      refine lv_ishr hx hb dL_build_81 ?_
      refine lv_bipush (v := 41) hx hb dL_build_82 (by decide) ?_
      refine lv_iload hx hb dL_build_84 (lv_at hl 0 rfl) ?_
      refine lv_imul hx hb dL_build_86 ?_
      refine lv_iadd hx hb dL_build_87 ?_
      refine lv_topi (fun v3 _ => ?_)
      obtain ⟨σ, ρ, M, hP, hM, hap, hrh, hmx, hQ, he0, hZo, hck⟩ := hJ
      subst hrh
      subst hmx
      have hSz : s.heap.size ≤ H.size := hS.1
      have hA9 : ∀ q, jA ρ M (sK σ) H q → Z ≤ q := fun q h => h.elim (hZo q) (fun h => Nat.le_trans (Nat.le_trans hZ0 hSz) h)
      refine vx_calli (vx_runSX (As := [.ref (r_h ρ), .ref M.1, .int v3]) (rest := []) ⟨hx, hb, hml, hown, hts⟩ (c_L_act l hlf D cs ρ M hQ (by omega) hap e0 he0 H v3) (vx_cwSW 3 hts gL_build_L_act rfl rfl rfl (by decide +kernel) ⟨Nat.le_of_ble_eq_true rfl, Nat.le_of_ble_eq_true rfl⟩) (jb_S hK hN hP hM hO hT hE hS hA9) rfl rfl hl.1 rfl (lv_room (Nat.le_of_ble_eq_true rfl)) dL_build_88 ⟨(by show _ ≤ 146; omega), (by show _ ≤ 1444; omega)⟩) hS (fun q _ h => hA9 q h) hA9 (fun q _ h => h.elim) (fun E ce q9 u t H locs ht hvm hu _ _ _ _ _ _ _ => hu.elim) (fun r u t H locs ht hvm hw hB hz1 hk1 hS => ?_)
      obtain ⟨hr1, hQ2, hk2⟩ := hw
      rw [hr1]
      rw [ht] at hB
      obtain ⟨hP2, hM2, hap2, hrh2, hmx2, hown2⟩ := hB
      have hJ2 : LJ D cs (r_h ρ) M.1 e0 Z (720 + 72 * (n + 1)) (0 < 1) H := ⟨u.1, u.2.1, u.2.2, hP2, hM2, hap2, hrh2, hmx2, (by rw [show 720 + 72 * (n + 1) = 720 + 72 * n + 72 by omega]; exact hQ2), fun z => absurd z (Nat.ne_of_gt hk2), fun q h => (hown2 q h).elim (hZo q) (fun h => Nat.le_trans (Nat.le_trans hZ0 hSz) h), fun _ => hk2⟩
      have hJ2 : LJ D cs (r_h ρ) M.1 e0 Z (720 + 72 * (n + 1)) True H := by
        obtain ⟨σ, ρ, M, hP, hM, hap, hrh, hmx, hQ, he0, hZo, hck⟩ := hJ2
        exact ⟨σ, ρ, M, hP, hM, hap, hrh, hmx, hQ, he0, hZo, fun _ => hck (by decide)⟩
      refine lv_if_ne (tgt := 96) hx hb dL_build_91 (by decide) (fun _ => ?_) (fun c9 => absurd c9 (by decide))
      refine lv_iinc (v := nI (n + 1)) (lv' := [(4, .int (nI (n + 1))), (3, .int (nI (1 + j))), (2, .ref M.1), (0, .ref (r_h ρ)), (1, .ref b)]) hx hb dL_build_96 hl (k := 0) rfl (nI_add _ 1) (by decide) rfl (fun ls hl => ?_)
      refine lv_goto (tgt := 65) hx hb dL_build_99 (by decide) ?_
      refine W.widen (k := 62 + (n + 1) * 6) (n := 604 + (n + 1) * 60) (by omega) (by omega) ?_
      exact K9 ls H locs hJ2 hS hl
    · have hl : lv_has ls 5 [(4, .int (nI 14)), (3, .int (nI (1 + j))), (2, .ref x), (0, .ref h), (1, .ref b)] := hl
      refine lv_iload hx hb dL_build_65 (lv_at hl 0 rfl) ?_
      refine lv_bipush (v := 14) hx hb dL_build_67 (by decide) ?_
      refine lv_icmp_ge (tgt := 102) hx hb dL_build_69 (by decide) (fun _ => ?_) (fun c9 => absurd (nI_le (Nat.le_refl 14) (by omega)) c9)
      refine lv_aload_n hx hb dL_build_102 rfl (lv_at hl 2 rfl) ?_
      refine W.widen (k := 146) (n := 1444) (by omega) (by omega) ?_
      rw [hh] at hJ
      exact W.aret (v := .ref x) (rt := .object "ShadowSocietyLaw$Sim") hx hb hr (Or.inl ⟨_, rfl⟩) (Or.inr ⟨_, rfl⟩) (fun t ht hW => ⟨⟨(), x, rfl, trivial, by show LJ D cs (r_h ρ) x e0 Z 1728 True t.heap; rw [ht]; exact hJ⟩, hS.F ht⟩) hS.2.2 dL_build_103
