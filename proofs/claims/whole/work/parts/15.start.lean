/-! THE LAW'S START: what the Statement gives; the three objects; then the loop -/
theorem RAl_eq {s : State} {a b : ClassId} (h1 : va_RA s a .long) (h2 : va_RA s b .long) : a = b := Option.some.inj (h1.symm.trans h2)
theorem law_known {s : State} {A : Array Value} (hts : ∀ w ∈ wsL_law, w.before A s = true) : ∃ D : va_G, ∀ (k : Nat) (q : vw_C), vwCl[k]? = some q → u_Kn s q.1 q.2.1 q.2.2 (D.1 k) (D.2 k) := by
  obtain ⟨c0, i0, h0⟩ := u_known (C := RJx4a65c) (T := TJx4a65c) (N := 3) (n := 3) hts inlJx4a65c (hts (.instantiable RJx4a65c 3) (by decide +kernel))
  obtain ⟨c1, i1, h1⟩ := u_known (C := RX0) (T := TX0) (N := 9) (n := 9) hts inlX0 (hts (.instantiable RX0 9) (by decide +kernel))
  obtain ⟨c2, i2, h2⟩ := u_known (C := RX1) (T := TX1) (N := 4) (n := 4) hts inlX1 (hts (.instantiable RX1 4) (by decide +kernel))
  obtain ⟨c3, i3, h3⟩ := u_known (C := RX2) (T := TX2) (N := 13) (n := 13) hts inlX2 (hts (.instantiable RX2 13) (by decide +kernel))
  refine ⟨(fun k => if k = 0 then c0 else if k = 1 then c1 else if k = 2 then c2 else c3, fun k => if k = 0 then i0 else if k = 1 then i1 else if k = 2 then i2 else i3), ?_⟩
  intro k q hq
  match k, hq with
  | 0, hq => cases hq; exact h0
  | 1, hq => cases hq; exact h1
  | 2, hq => cases hq; exact h2
  | 3, hq => cases hq; exact h3
  | k + 4, hq => simp [vwCl] at hq
theorem law_arr {s : State} {A : Array Value} (h1 : (Cond.arrayClass .int).before A s = true) (h2 : (Cond.arrayOver (.object "java/lang/Object")).before A s = true) (h3 : (Cond.arrayClass .long).before A s = true) : ∃ cs : Cs, ∀ (k : Nat) (q : ClassId × FieldType), (tyz cs)[k]? = some q → ArrOfT s q.1 q.2 ∧ va_RA s q.1 q.2 := by
  obtain ⟨c1, k1, p1, a1, a2, a3⟩ := Cond.arrayClass_spec h1
  obtain ⟨p2, c2, k2, b1, -, b3, b4, b5⟩ := Cond.arrayOver_spec h2
  obtain ⟨c3, k3, p3, d1, d2, d3⟩ := Cond.arrayClass_spec h3
  refine ⟨(c1, c2, c3), fun k q hq => ?_⟩
  match k, hq with
  | 0, hq => cases hq; exact ⟨fun n z => ⟨fun k h => (by cases h), k1, a2, p1, a3⟩, a1⟩
  | 1, hq => cases hq; exact ⟨fun n z => ⟨fun k h => (by cases h), k2, b3, p2, b4⟩, k2, p2, b3, b4, b1, b5⟩
  | 2, hq => cases hq; exact ⟨fun n z => ⟨fun k h => (by cases h), k3, d2, p3, d3⟩, d1⟩
  | k + 3, hq => simp [tyz] at hq
theorem txW_in : ∀ q ∈ txW, Cond.stringRef RX1 q.1 q.2 ∈ lw_tbl := by decide +kernel
theorem law_str {s : State} {A : Array Value} {own tx : String} {k : Nat} (h1 : (Cond.stringRef own k tx).before A s = true) : ∃ sa : Nat, vk_R own k tx sa s := by
  have hcur : ∃ cur, s.vm.findClass own = some cur := by
    have h2 := h1
    simp only [Cond.before, Cond.holds, Cond.value] at h2
    cases hc : s.vm.findClass own with
    | none => simp [hc] at h2
    | some cur => exact ⟨cur, rfl⟩
  obtain ⟨cur, hcur⟩ := hcur
  obtain ⟨k2, cf, i, a, -, -, -, -, -, hev⟩ := Cond.stringRef_spec hcur h1
  exact ⟨a, vk_R.of h1 hev⟩
theorem nw_a : Cond.isRef (.static Bundle.tN "UNASSIGNED_STACK" Bundle.steD) ∈ flatC (Jvm.Cond.and given_1 narrow_1) := by decide +kernel
theorem nw_b : Cond.isRef (.static Bundle.tN "SUPPRESSED_SENTINEL" Bundle.listD) ∈ flatC (Jvm.Cond.and given_1 narrow_1) := by decide +kernel
theorem nw_c : Cond.arrayOf (.static "java/util/ArrayList" "DEFAULTCAPACITY_EMPTY_ELEMENTDATA" "[Ljava/lang/Object;") (.object "java/lang/Object") ∈ flatC (Jvm.Cond.and given_1 narrow_1) := by decide +kernel
theorem nw_d : Cond.eq (.length (.static "java/util/ArrayList" "DEFAULTCAPACITY_EMPTY_ELEMENTDATA" "[Ljava/lang/Object;")) (.int 0) ∈ flatC (Jvm.Cond.and given_1 narrow_1) := by decide +kernel
theorem nw_e : Cond.not (.castable eIae eIob) ∈ flatC (Jvm.Cond.and given_1 narrow_1) := by decide +kernel
theorem nw_f : Cond.not (.castable eIse eIob) ∈ flatC (Jvm.Cond.and given_1 narrow_1) := by decide +kernel
theorem nw_g : Cond.not (.castable eIse eIae) ∈ flatC (Jvm.Cond.and given_1 narrow_1) := by decide +kernel
theorem lt_a : Cond.laysStatic Bundle.tN "UNASSIGNED_STACK" Bundle.steD ∈ lw_tbl := by decide +kernel
theorem lt_b : Cond.laysStatic Bundle.tN "SUPPRESSED_SENTINEL" Bundle.listD ∈ lw_tbl := by decide +kernel
theorem lt_c : Cond.initialized Bundle.tN ∈ lw_tbl := by decide +kernel
theorem lt_d : Cond.laysStatic "java/util/ArrayList" "DEFAULTCAPACITY_EMPTY_ELEMENTDATA" "[Ljava/lang/Object;" ∈ lw_tbl := by decide +kernel
theorem lt_e : Cond.initialized "java/util/ArrayList" ∈ lw_tbl := by decide +kernel
theorem lt_f : Cond.arrayOver (.object "java/lang/Object") ∈ lw_tbl := by decide +kernel
theorem lt_g : Cond.arrayClass .int ∈ lw_tbl := by decide +kernel
theorem lt_h : Cond.arrayClass .long ∈ lw_tbl := by decide +kernel
theorem law_thr {s : State} {A : Array Value} (hts : ∀ w ∈ lw_tbl, w.before A s = true) (hgv : (Jvm.Cond.and given_1 narrow_1).before A s = true) : ThrP s :=
  ⟨fun q hq => law_str (hts _ (txW_in q hq)), vx_Zqof (hts _ lt_a) (hts _ lt_c) (flat_of_before _ hgv _ nw_a) (fun _ h => Nat.not_le.mpr h), vx_Zqof (hts _ lt_b) (hts _ lt_c) (flat_of_before _ hgv _ nw_b) (fun _ h => Nat.not_le.mpr h)⟩
theorem law_nc {s : State} {A : Array Value} (hgv : (Jvm.Cond.and given_1 narrow_1).before A s = true) : NcP s :=
  ⟨va_Nc.of (flat_of_before _ hgv _ nw_e), va_Nc.of (flat_of_before _ hgv _ nw_f), va_Nc.of (flat_of_before _ hgv _ nw_g)⟩
theorem law_def {s : State} {A : Array Value} (hts : ∀ w ∈ lw_tbl, w.before A s = true) (hgv : (Jvm.Cond.and given_1 narrow_1).before A s = true) : ∃ e0 : Nat, DefP (fun q => s.heap.size ≤ q) e0 s := by
  have hA : ∀ a : Nat, a < s.heap.size → ¬ (fun q => s.heap.size ≤ q) a := fun _ h => Nat.not_le.mpr h
  obtain ⟨e0, hv, hT⟩ := va_Tof (tm := .static "java/util/ArrayList" "DEFAULTCAPACITY_EMPTY_ELEMENTDATA" "[Ljava/lang/Object;") (N := 0) (f := fun _ => Value.null) (by decide) (flat_of_before _ hgv _ nw_c) (va_eqt (flat_of_before _ hgv _ nw_d)) (fun j hj => absurd hj (Nat.not_lt_zero j)) hA
  exact ⟨e0, va_Zof (hts _ lt_d) (hts _ lt_e) hv hA, hT, va_AO.of (hts _ lt_f)⟩
theorem law_flags {l : Launch} (h : l.flags = flags0) : l.stackTraces = false := by
  unfold Launch.stackTraces
  rw [h]
  decide +kernel
theorem modW_j {cs : Cs} {M : Nat × (Nat → Nat)} {th : Int32} {σ : PS} {t : va_W} {j : Nat} (hj : j < 8) : ∃ z, (modW cs M th σ ++ t)[j + 1]? = some (M.2 j, z) := by
  rcases (show j = 0 ∨ j = 1 ∨ j = 2 ∨ j = 3 ∨ j = 4 ∨ j = 5 ∨ j = 6 ∨ j = 7 by omega) with rfl | rfl | rfl | rfl | rfl | rfl | rfl | rfl <;> exact ⟨_, rfl⟩
/-- the cells that the law makes at its start are apart -/
theorem born_apt {A : Nat → Prop} {cs : Cs} {M : Nat × (Nat → Nat)} {th : Int32} {σ : PS} {e1 e2 e3 : va_E} {x u o : Nat} (hD : va_D A ((x, e1) :: (u, e2) :: (modW cs M th σ ++ [(o, e3)]))) : x ≠ u ∧ x ≠ o ∧ u ≠ o ∧ A x ∧ A u ∧ A o ∧ AptM M ∧ (∀ q, ownM M q → A q) ∧ ¬ ownM M x ∧ ¬ ownM M u ∧ ¬ ownM M o := by
  have hM : ∀ q, ownM M q → ∃ k z, 2 ≤ k ∧ k < 11 ∧ ((x, e1) :: (u, e2) :: (modW cs M th σ ++ [(o, e3)]))[k]? = some (q, z) := by
    intro q h
    rcases h with rfl | ⟨j, hj, rfl⟩
    · exact ⟨2, _, by omega, by omega, rfl⟩
    · obtain ⟨z, hz⟩ := modW_j (cs := cs) (M := M) (th := th) (σ := σ) (t := [(o, e3)]) hj
      exact ⟨j + 3, z, by omega, by omega, hz⟩
  have ho : ((x, e1) :: (u, e2) :: (modW cs M th σ ++ [(o, e3)]))[11]? = some (o, e3) := rfl
  refine ⟨fun e => ?_, fun e => ?_, fun e => ?_, hD.2 0 _ rfl, hD.2 1 _ rfl, hD.2 11 _ ho, ⟨fun j hj e => ?_, fun i j hi hj e => ?_⟩, fun q h => ?_, fun h => ?_, fun h => ?_, fun h => ?_⟩
  · exact absurd (hD.1 0 1 _ _ rfl rfl e) (by omega)
  · exact absurd (hD.1 0 11 _ _ rfl ho e) (by omega)
  · exact absurd (hD.1 1 11 _ _ rfl ho e) (by omega)
  · obtain ⟨z, hz⟩ := modW_j (cs := cs) (M := M) (th := th) (σ := σ) (t := [(o, e3)]) hj
    exact absurd (hD.1 (j + 3) 2 _ _ hz rfl e) (by omega)
  · obtain ⟨z, hz⟩ := modW_j (cs := cs) (M := M) (th := th) (σ := σ) (t := [(o, e3)]) hi
    obtain ⟨y, hy⟩ := modW_j (cs := cs) (M := M) (th := th) (σ := σ) (t := [(o, e3)]) hj
    have k := hD.1 (i + 3) (j + 3) _ _ hz hy e
    omega
  · obtain ⟨k, z, -, -, hz⟩ := hM q h
    exact hD.2 k _ hz
  · obtain ⟨k, z, h1, h2, hz⟩ := hM x h
    exact absurd (hD.1 0 k _ _ rfl hz rfl) (by omega)
  · obtain ⟨k, z, h1, h2, hz⟩ := hM u h
    exact absurd (hD.1 1 k _ _ rfl hz rfl) (by omega)
  · obtain ⟨k, z, h1, h2, hz⟩ := hM o h
    exact absurd (hD.1 11 k _ _ ho hz rfl) (by omega)
theorem invT_0 : InvT (72 * 0) ps0 := by
  refine ⟨⟨Nat.zero_le _, Nat.zero_le _, ⟨0, Nat.zero_le _, rfl⟩, fun i h => absurd h (Nat.not_lt_zero i)⟩, fun i h => absurd h (Nat.not_lt_zero i), fun i j h => absurd h (Nat.not_lt_zero i), fun i j h => absurd h (Nat.not_lt_zero i), fun i _ => ⟨rfl, rfl, rfl⟩⟩
theorem lwI_0 {D : va_G} {cs : Cs} {y : Nat} {fM : Nat → Nat} {x u o e0 sz : Nat} {H : Heap} (hP : va_P D vwCl ((x, .inr (2, [.ref u, .int 0, .int 0, .int 0])) :: (u, .inr (0, [.int 0, .ref e0, .int 0])) :: (modW cs (y, fM) 0 ps0 ++ [outE cs o (fun _ => 0)])) H) (h1 : x ≠ u) (h2 : ∀ q, q = x ∨ q = u → ¬ ownM (y, fM) q ∧ q ≠ o ∧ sz ≤ q) : LwI D cs x (y, fM) o e0 sz 0 H := by
  refine ⟨(x, u, e0, fun _ => 0, 0), ps0, 0, fun _ => 0, rfl, ⟨hP 0 _ rfl, ⟨hP 1 _ rfl, fun h => absurd h (Nat.lt_irrefl 0)⟩, fun i h => absurd h (Nat.not_lt_zero i)⟩, hP.sub (ws' := modW cs (y, fM) 0 ps0) [2, 3, 4, 5, 6, 7, 8, 9, 10] rfl, hP 11 _ rfl, invT_0, ⟨fun i j h => absurd h (Nat.not_lt_zero i), h1, fun i h => absurd h (Nat.not_lt_zero i), fun h => absurd h (Nat.lt_irrefl 0)⟩, fun _ => rfl, fun q h => ?_⟩
  rcases h with h | h | h | ⟨i, hi, _⟩
  · exact h2 q (Or.inl h)
  · exact h2 q (Or.inr h)
  · exact absurd h.1 (Nat.lt_irrefl 0)
  · exact absurd hi (Nat.not_lt_zero i)
set_option maxHeartbeats 4000000 in
set_option maxRecDepth 100000 in
/-- from the entry to the end -/
theorem whole_start {p : Program} {e : Env} {s : State} {m : MethodId} {below : List Frame} {meth : Method} {c : Code} (l : Launch) (hflags : l.flags = flags0) {b L : Nat} {xs : Nat → Int32} (hL : L ≤ 1536) (C0 : lw_At p s m meth c b L xs) : W p l e room_1 s m #[Value.ref b] below meth c s.heap [] 0 0 (lw_Z below #[Value.ref b] s) (entryFrame m ([Value.ref b] : List Value).toArray 9) := by
  obtain ⟨hx, hb, hr, hml, hown, hts0, hX, hbl, hlocks, hgv⟩ := id C0
  have hts : ∀ w ∈ wsL_law, w.before #[Value.ref b] s = true := fun w h => hts0 w (wsL_law_in w h)
  have hA : ∀ q : Nat, s.heap.size ≤ q → (fun q : Nat => s.heap.size ≤ q) q := fun _ h => h
  have hN : Nst s := fun w hw => va_Nw.of (nxW_on w hw) (hts0 w (nxW_in w hw))
  obtain ⟨D, hK1⟩ := law_known hts
  obtain ⟨cs, hK2⟩ := law_arr (hts0 _ lt_g) (hts0 _ lt_f) (hts0 _ lt_h)
  have hK : va_K D vwCl (tyz cs) s := ⟨hK1, hK2⟩
  have hT : ThrP s := law_thr hts0 hgv
  have hNc : NcP s := law_nc hgv
  obtain ⟨e0, hE⟩ := law_def hts0 hgv
  have hlf := law_flags hflags
  have hS : va_S (fun q : Nat => s.heap.size ≤ q) s.heap s.heap [] := va_S.rf
  have hP : va_P D vwCl [] s.heap := fun k q h => by simp at h
  have hD : va_D (fun q : Nat => s.heap.size ≤ q) [] := ⟨fun i j p q h => by simp at h, fun k q h => by simp at h⟩
  have hl := lv_entry ([.ref b]) (n := 9) (Nat.le_of_ble_eq_true rfl)
  rw [lg_entry_eq]
  generalize (lg_sl ([.ref b]) ++ List.replicate (9 - (lg_sl ([.ref b])).length) Slot.unset).toArray = ls at hl ⊢
  have hl : lv_has ls 9 [(0, .ref b)] := hl
  refine va_new (ci := 2) (fs := [.null, .int 0, .int 0, .int 0]) (C := RX1) (T := TX1) (N := 4) hx hb hts inlX1 tyX1 tyX1_ok hown (hts (.classLink RL 8 RX1) (by decide +kernel)) (hts (.instantiable RX1 4) (by decide +kernel)) (hts (.initialized RX1) (by decide +kernel)) hK hP hD hS hA rfl (fun j hj => by rcases (show j = 0 ∨ j = 1 ∨ j = 2 ∨ j = 3 by omega) with rfl | rfl | rfl | rfl <;> rfl) (Nat.le_of_ble_eq_true rfl) (Nat.le_of_ble_eq_true rfl) dL_law_0 (fun x H hP hD hS => ?_)
  have hP : va_P D vwCl [(x, .inr (2, [.null, .int 0, .int 0, .int 0]))] H := hP
  have hD : va_D (fun q : Nat => s.heap.size ≤ q) [(x, .inr (2, [.null, .int 0, .int 0, .int 0]))] := hD
  refine lv_dup hx hb dL_law_3 rfl ?_
  have hPc := hP.sub (ws' := [(x, .inr (2, [.null, .int 0, .int 0, .int 0]))]) [0] rfl
  have hDc := hD.sub (ws' := [(x, .inr (2, [.null, .int 0, .int 0, .int 0]))]) [0] (by decide) rfl
  have hFc := va_free (wc := [(x, .inr (2, [.null, .int 0, .int 0, .int 0]))]) hD hS hA [0] rfl
  refine va_callv (va_runI (As := []) (rest := [.ref x]) ⟨hx, hb, hml, hown, hts⟩ (c_X1_init l D cs H x e0) (cwI 0 hts gL_law_X1_init rfl rfl rfl (hts (.initialized RX1) (by decide +kernel)) (hts (.methodLink RL 78 yX1_init) (by decide +kernel)) (hts (.instanceMethod yX1_init) (by decide +kernel)) rfl (by decide +kernel) ⟨Nat.le_of_ble_eq_true rfl, Nat.le_of_ble_eq_true rfl⟩) (lb_I hK hN hPc hDc DefP_b (fun U hU hW => hE.move hW.alike (fun q h1 h2 => by rw [hU]; exact hS.2.1 q h1 h2) (fun q h => hFc q h))) rfl rfl hl.1 rfl (lv_room (Nat.le_of_ble_eq_true rfl)) dL_law_4 ⟨Nat.le_of_ble_eq_true rfl, Nat.le_of_ble_eq_true rfl⟩) hS (fun q _ h => hFc q h) hFc (fun u t H1 locs ht hvm hw hB hz1 hk1 hS => ?_)
  rw [ht] at hB
  obtain ⟨hP, hD⟩ := va_join (wr := []) (w1 := [(x, .inr (2, [.ref u, .int 0, .int 0, .int 0])), (u, .inr (0, [.int 0, .ref e0, .int 0]))]) hP hD [0] [] rfl rfl (by decide) (by decide) hk1 hFc hB.1 hB.2
  generalize H1 = H at hP hS ⊢
  have hP : va_P D vwCl [(x, .inr (2, [.ref u, .int 0, .int 0, .int 0])), (u, .inr (0, [.int 0, .ref e0, .int 0]))] H := hP
  have hD : va_D (fun q : Nat => s.heap.size ≤ q) [(x, .inr (2, [.ref u, .int 0, .int 0, .int 0])), (u, .inr (0, [.int 0, .ref e0, .int 0]))] := hD
  refine lv_astore_n (lv' := [(1, .ref x), (0, .ref b)]) hx hb dL_law_7 rfl hl (by decide) rfl (fun ls hl => ?_)
  refine va_new (ci := 3) (fs := [.int 0, .int 0, .int 0, .int 0, .int 0, .null, .null, .null, .null, .null, .null, .null, .null]) (C := RX2) (T := TX2) (N := 13) hx hb hts inlX2 tyX2 tyX2_ok hown (hts (.classLink RL 79 RX2) (by decide +kernel)) (hts (.instantiable RX2 13) (by decide +kernel)) (hts (.initialized RX2) (by decide +kernel)) hK hP hD hS hA rfl (fun j hj => by rcases (show j = 0 ∨ j = 1 ∨ j = 2 ∨ j = 3 ∨ j = 4 ∨ j = 5 ∨ j = 6 ∨ j = 7 ∨ j = 8 ∨ j = 9 ∨ j = 10 ∨ j = 11 ∨ j = 12 by omega) with rfl | rfl | rfl | rfl | rfl | rfl | rfl | rfl | rfl | rfl | rfl | rfl | rfl <;> rfl) (Nat.le_of_ble_eq_true rfl) (Nat.le_of_ble_eq_true rfl) dL_law_8 (fun y H hP hD hS => ?_)
  have hP : va_P D vwCl [(x, .inr (2, [.ref u, .int 0, .int 0, .int 0])), (u, .inr (0, [.int 0, .ref e0, .int 0])), (y, .inr (3, [.int 0, .int 0, .int 0, .int 0, .int 0, .null, .null, .null, .null, .null, .null, .null, .null]))] H := hP
  have hD : va_D (fun q : Nat => s.heap.size ≤ q) [(x, .inr (2, [.ref u, .int 0, .int 0, .int 0])), (u, .inr (0, [.int 0, .ref e0, .int 0])), (y, .inr (3, [.int 0, .int 0, .int 0, .int 0, .int 0, .null, .null, .null, .null, .null, .null, .null, .null]))] := hD
  refine lv_dup hx hb dL_law_11 rfl ?_
  have hPc := hP.sub (ws' := [(y, .inr (3, [.int 0, .int 0, .int 0, .int 0, .int 0, .null, .null, .null, .null, .null, .null, .null, .null]))]) [2] rfl
  have hDc := hD.sub (ws' := [(y, .inr (3, [.int 0, .int 0, .int 0, .int 0, .int 0, .null, .null, .null, .null, .null, .null, .null, .null]))]) [2] (by decide) rfl
  have hFc := va_free (wc := [(y, .inr (3, [.int 0, .int 0, .int 0, .int 0, .int 0, .null, .null, .null, .null, .null, .null, .null, .null]))]) hD hS hA [2] rfl
  refine va_callv (va_runI (As := []) (rest := [.ref y]) ⟨hx, hb, hml, hown, hts⟩ (c_X2_init l D cs H y) (cwI 0 hts gL_law_X2_init rfl rfl rfl (hts (.initialized RX2) (by decide +kernel)) (hts (.methodLink RL 81 yX2_init) (by decide +kernel)) (hts (.instanceMethod yX2_init) (by decide +kernel)) rfl (by decide +kernel) ⟨Nat.le_of_ble_eq_true rfl, Nat.le_of_ble_eq_true rfl⟩) (lb_I hK hN hPc hDc E0_b (fun _ _ _ => trivial)) rfl rfl hl.1 rfl (lv_room (Nat.le_of_ble_eq_true rfl)) dL_law_12 ⟨Nat.le_of_ble_eq_true rfl, Nat.le_of_ble_eq_true rfl⟩) hS (fun q _ h => hFc q h) hFc (fun fM t H1 locs ht hvm hw hB hz1 hk1 hS => ?_)
  rw [ht] at hB
  obtain ⟨hP, hD⟩ := va_join (wr := [(x, .inr (2, [.ref u, .int 0, .int 0, .int 0])), (u, .inr (0, [.int 0, .ref e0, .int 0]))]) (w1 := modW cs (y, fM) 0 ps0) hP hD [2] [0, 1] rfl rfl (by decide) (by decide) hk1 hFc hB.1 hB.2
  generalize H1 = H at hP hS ⊢
  have hP : va_P D vwCl ((x, .inr (2, [.ref u, .int 0, .int 0, .int 0])) :: (u, .inr (0, [.int 0, .ref e0, .int 0])) :: modW cs (y, fM) 0 ps0) H := hP
  have hD : va_D (fun q : Nat => s.heap.size ≤ q) ((x, .inr (2, [.ref u, .int 0, .int 0, .int 0])) :: (u, .inr (0, [.int 0, .ref e0, .int 0])) :: modW cs (y, fM) 0 ps0) := hD
  refine lv_astore_n (lv' := [(2, .ref y), (1, .ref x), (0, .ref b)]) hx hb dL_law_15 rfl hl (by decide) rfl (fun ls hl => ?_)
  refine lv_iconst (v := 1) hx hb dL_law_16 (by decide) ?_
  refine va_newa (atype := .long) (ty := .long) (N' := 1) (a0 := (1, .inr (.inl (fun _ => 0)))) hx hb (hts0 (.arrayClass .long) lt_h) rfl hK hP hD hS hA (fun cA => rfl) (by decide) (by decide) (by show 1 * 8 ≤ 536870912; decide) (Nat.le_of_ble_eq_true rfl) (Nat.le_of_ble_eq_true rfl) dL_law_17 (fun o cA H hK9 hP hD hS => ?_)
  obtain rfl := RAl_eq (hK9.2 3 _ rfl).2 (hK9.2 2 _ rfl).2
  have hP : va_P D vwCl ((x, .inr (2, [.ref u, .int 0, .int 0, .int 0])) :: (u, .inr (0, [.int 0, .ref e0, .int 0])) :: (modW cs (y, fM) 0 ps0 ++ [outE cs o (fun _ => 0)])) H := hP
  have hD : va_D (fun q : Nat => s.heap.size ≤ q) ((x, .inr (2, [.ref u, .int 0, .int 0, .int 0])) :: (u, .inr (0, [.int 0, .ref e0, .int 0])) :: (modW cs (y, fM) 0 ps0 ++ [outE cs o (fun _ => 0)])) := hD
  obtain ⟨g1, g2, g3, g4, g5, g6, g7, g8, g9, g10, g11⟩ := born_apt hD
  refine lv_astore_n (lv' := [(3, .ref o), (2, .ref y), (1, .ref x), (0, .ref b)]) hx hb dL_law_19 rfl hl (by decide) rfl (fun ls hl => ?_)
  refine lv_iconst (v := 0) hx hb dL_law_20 (by decide) ?_
  refine lv_istore (lv' := [(4, .int 0), (3, .ref o), (2, .ref y), (1, .ref x), (0, .ref b)]) hx hb dL_law_21 hl (by decide) rfl (fun ls hl => ?_)
  have hl : lv_has ls 9 [(4, .int (nI (3 * 0))), (3, .ref o), (2, .ref y), (1, .ref x), (0, .ref b)] := hl
  have E : LwE p s m c l b L xs D cs (y, fM) o e0 := ⟨hx, hb, hml, hown, hts, hX, hbl, hK, hN, hT, hNc, hE, hlf, g7, g8, g6, g11⟩
  have hJ : LwI D cs x (y, fM) o e0 s.heap.size 0 H := lwI_0 hP g1 (fun q h => h.elim (fun h => by rw [h]; exact ⟨g9, g2, g4⟩) (fun h => by rw [h]; exact ⟨g10, g3, g5⟩))
  refine W.base ?_
  exact law_loop E hr hlocks (Drawn.sameBut.refl s.drawn lw_cs) hL hJ hS (lv_sub hl [4, 3, 2, 1, 0] rfl) (Nat.le_of_ble_eq_true rfl) (Nat.le_of_ble_eq_true rfl)
