/-! THE LAW'S START AND END: what the Statement gives; the society; the building; the loop; isSame (laid by wip/p35/gen/start14.py) -/
theorem law_known {s : State} {A : Array Value} (hts : ∀ w ∈ wsL_law, w.before A s = true) : ∃ D : va_G, ∀ (k : Nat) (q : vw_C), vwCl[k]? = some q → u_Kn s q.1 q.2.1 q.2.2 (D.1 k) (D.2 k) := by
  obtain ⟨c0, i0, h0⟩ := u_known (C := RJx4a65c) (T := TJx4a65c) (N := 3) (n := 3) hts inlJx4a65c (hts (.instantiable RJx4a65c 3) (List.mem_of_getElem? (i := 13) (by decide +kernel)))
  obtain ⟨c1, i1, h1⟩ := u_known (C := RX0) (T := TX0) (N := 9) (n := 9) hts inlX0 (hts (.instantiable RX0 9) (List.mem_of_getElem? (i := 72) (by decide +kernel)))
  obtain ⟨c2, i2, h2⟩ := u_known (C := RX1) (T := TX1) (N := 4) (n := 4) hts inlX1 (hts (.instantiable RX1 4) (List.mem_of_getElem? (i := 1) (by decide +kernel)))
  obtain ⟨c3, i3, h3⟩ := u_known (C := RX2) (T := TX2) (N := 4) (n := 4) hts inlX2 (hts (.instantiable RX2 4) (List.mem_of_getElem? (i := 39) (by decide +kernel)))
  refine ⟨(fun k => if k = 0 then c0 else if k = 1 then c1 else if k = 2 then c2 else c3, fun k => if k = 0 then i0 else if k = 1 then i1 else if k = 2 then i2 else i3), ?_⟩
  intro k q hq
  match k, hq with
  | 0, hq => cases hq; exact h0
  | 1, hq => cases hq; exact h1
  | 2, hq => cases hq; exact h2
  | 3, hq => cases hq; exact h3
  | k + 4, hq => simp [vwCl] at hq
theorem law_arr {s : State} {A : Array Value} (h1 : (Cond.arrayClass .int).before A s = true) (h2 : (Cond.arrayOver (.object "java/lang/Object")).before A s = true) (h3 : (Cond.arrayOver (.array .int)).before A s = true) (h4 : (Cond.arrayClass .boolean).before A s = true) : ∃ cs : Cs, ∀ (k : Nat) (q : ClassId × FieldType), (tyz cs)[k]? = some q → ArrOfT s q.1 q.2 ∧ va_RA s q.1 q.2 := by
  obtain ⟨c1, k1, p1, a1, a2, a3⟩ := Cond.arrayClass_spec h1
  obtain ⟨p2, c2, k2, b1, -, b3, b4, b5⟩ := Cond.arrayOver_spec h2
  obtain ⟨p3, c3, k3, d1, -, d3, d4, d5⟩ := arrayOverA_spec h3
  obtain ⟨c4, k4, p4, e1, e2, e3⟩ := Cond.arrayClass_spec h4
  refine ⟨(c1, c2, c3, c4), fun k q hq => ?_⟩
  match k, hq with
  | 0, hq => cases hq; exact ⟨fun n z => ⟨fun k h => (by cases h), k1, a2, p1, a3⟩, a1⟩
  | 1, hq => cases hq; exact ⟨fun n z => ⟨fun k h => (by cases h), k2, b3, p2, b4⟩, k2, p2, b3, b4, b1, b5⟩
  | 2, hq => cases hq; exact ⟨fun n z => ⟨fun k h => (by cases h), k3, d3, p3, d4⟩, d5⟩
  | 3, hq => cases hq; exact ⟨fun n z => ⟨fun k h => (by cases h), k4, e2, p4, e3⟩, e1⟩
  | k + 4, hq => simp [tyz] at hq
set_option maxRecDepth 100000 in
set_option maxHeartbeats 4000000 in
theorem txW_in : ∀ q ∈ txW, Cond.stringRef RX1 q.1 q.2 ∈ lw_tbl := List.forall_mem_cons.mpr ⟨List.mem_of_getElem? (i := 548) rfl, List.forall_mem_cons.mpr ⟨List.mem_of_getElem? (i := 549) rfl, List.forall_mem_cons.mpr ⟨List.mem_of_getElem? (i := 550) rfl, List.forall_mem_cons.mpr ⟨List.mem_of_getElem? (i := 267) rfl, List.forall_mem_cons.mpr ⟨List.mem_of_getElem? (i := 650) rfl, List.forall_mem_cons.mpr ⟨List.mem_of_getElem? (i := 651) rfl, List.forall_mem_cons.mpr ⟨List.mem_of_getElem? (i := 652) rfl, List.forall_mem_cons.mpr ⟨List.mem_of_getElem? (i := 657) rfl, List.forall_mem_cons.mpr ⟨List.mem_of_getElem? (i := 666) rfl, List.forall_mem_cons.mpr ⟨List.mem_of_getElem? (i := 667) rfl, List.forall_mem_cons.mpr ⟨List.mem_of_getElem? (i := 676) rfl, List.forall_mem_cons.mpr ⟨List.mem_of_getElem? (i := 681) rfl, List.forall_mem_cons.mpr ⟨List.mem_of_getElem? (i := 138) rfl, List.forall_mem_cons.mpr ⟨List.mem_of_getElem? (i := 315) rfl, List.forall_mem_cons.mpr ⟨List.mem_of_getElem? (i := 334) rfl, fun _ h => absurd h List.not_mem_nil⟩⟩⟩⟩⟩⟩⟩⟩⟩⟩⟩⟩⟩⟩⟩
theorem law_str {s : State} {A : Array Value} {own tx : String} {k : Nat} (h1 : (Cond.stringRef own k tx).before A s = true) : ∃ sa : Nat, vk_R own k tx sa s := by
  have hcur : ∃ cur, s.vm.findClass own = some cur := by
    have h2 := h1
    simp only [Cond.before, Cond.holds, Cond.value] at h2
    cases hc : s.vm.findClass own with
    | none => simp [hc] at h2
    | some cur => exact ⟨cur, rfl⟩
  obtain ⟨cur, hcur⟩ := hcur
  obtain ⟨k2, cf, i, a, -, -, -, -, -, hev⟩ := Cond.stringRef_spec hcur h1
  exact ⟨a, vk_R.of h1 hev⟩
theorem nw_a : Cond.isRef (.static Bundle.tN "UNASSIGNED_STACK" Bundle.steD) ∈ flatC (Jvm.Cond.and given_1 narrow_1) := by decide +kernel
theorem nw_b : Cond.isRef (.static Bundle.tN "SUPPRESSED_SENTINEL" Bundle.listD) ∈ flatC (Jvm.Cond.and given_1 narrow_1) := by decide +kernel
theorem nw_c : Cond.arrayOf (.static "java/util/ArrayList" "DEFAULTCAPACITY_EMPTY_ELEMENTDATA" "[Ljava/lang/Object;") (.object "java/lang/Object") ∈ flatC (Jvm.Cond.and given_1 narrow_1) := by decide +kernel
theorem nw_d : Cond.eq (.length (.static "java/util/ArrayList" "DEFAULTCAPACITY_EMPTY_ELEMENTDATA" "[Ljava/lang/Object;")) (.int 0) ∈ flatC (Jvm.Cond.and given_1 narrow_1) := by decide +kernel
set_option maxRecDepth 100000 in
set_option maxHeartbeats 4000000 in
theorem lt_a : Cond.laysStatic Bundle.tN "UNASSIGNED_STACK" Bundle.steD ∈ lw_tbl := List.mem_of_getElem? (i := 124) rfl
set_option maxRecDepth 100000 in
set_option maxHeartbeats 4000000 in
theorem lt_b : Cond.laysStatic Bundle.tN "SUPPRESSED_SENTINEL" Bundle.listD ∈ lw_tbl := List.mem_of_getElem? (i := 126) rfl
set_option maxRecDepth 100000 in
set_option maxHeartbeats 4000000 in
theorem lt_c : Cond.initialized Bundle.tN ∈ lw_tbl := List.mem_of_getElem? (i := 33) rfl
set_option maxRecDepth 100000 in
set_option maxHeartbeats 4000000 in
theorem lt_d : Cond.laysStatic "java/util/ArrayList" "DEFAULTCAPACITY_EMPTY_ELEMENTDATA" "[Ljava/lang/Object;" ∈ lw_tbl := List.mem_of_getElem? (i := 67) rfl
set_option maxRecDepth 100000 in
set_option maxHeartbeats 4000000 in
theorem lt_e : Cond.initialized "java/util/ArrayList" ∈ lw_tbl := List.mem_of_getElem? (i := 31) rfl
set_option maxRecDepth 100000 in
set_option maxHeartbeats 4000000 in
theorem lt_f : Cond.arrayOver (.object "java/lang/Object") ∈ lw_tbl := List.mem_of_getElem? (i := 636) rfl
set_option maxRecDepth 100000 in
set_option maxHeartbeats 4000000 in
theorem lt_g : Cond.arrayClass .int ∈ lw_tbl := List.mem_of_getElem? (i := 466) rfl
set_option maxRecDepth 100000 in
set_option maxHeartbeats 4000000 in
theorem lt_h : Cond.arrayOver (.array .int) ∈ lw_tbl := List.mem_of_getElem? (i := 441) rfl
set_option maxRecDepth 100000 in
set_option maxHeartbeats 4000000 in
theorem lt_i : Cond.arrayClass .boolean ∈ lw_tbl := List.mem_of_getElem? (i := 691) rfl
theorem law_thr {s : State} {A : Array Value} (hts : ∀ w ∈ lw_tbl, w.before A s = true) (hgv : (Jvm.Cond.and given_1 narrow_1).before A s = true) : ThrP s :=
  ⟨fun q hq => law_str (hts _ (txW_in q hq)), vx_Zqof (hts _ lt_a) (hts _ lt_c) (flat_of_before _ hgv _ nw_a) (fun _ h => Nat.not_le.mpr h), vx_Zqof (hts _ lt_b) (hts _ lt_c) (flat_of_before _ hgv _ nw_b) (fun _ h => Nat.not_le.mpr h)⟩
theorem law_def {s : State} {A : Array Value} (hts : ∀ w ∈ lw_tbl, w.before A s = true) (hgv : (Jvm.Cond.and given_1 narrow_1).before A s = true) : ∃ e0 : Nat, DefP (fun q => s.heap.size ≤ q) e0 s := by
  have hA : ∀ a : Nat, a < s.heap.size → ¬ (fun q => s.heap.size ≤ q) a := fun _ h => Nat.not_le.mpr h
  obtain ⟨e0, hv, hT⟩ := va_Tof (tm := .static "java/util/ArrayList" "DEFAULTCAPACITY_EMPTY_ELEMENTDATA" "[Ljava/lang/Object;") (N := 0) (f := fun _ => Value.null) (by decide) (flat_of_before _ hgv _ nw_c) (va_eqt (flat_of_before _ hgv _ nw_d)) (fun j hj => absurd hj (Nat.not_lt_zero j)) hA
  exact ⟨e0, va_Zof (hts _ lt_d) (hts _ lt_e) hv hA, hT, va_AO.of (hts _ lt_f)⟩
theorem law_flags {l : Launch} (h : l.flags = flags0) : l.stackTraces = false := by
  unfold Launch.stackTraces
  rw [h]
  decide +kernel
/-! THE CLAIM OUT OF ONE WALK OF THE LAW'S BODY. Your part is whole_start (and what it stands on); all else here is the same for every law, but numbers. -/
def R_law : String := "ShadowSocietyLaw"
def lw_P (b : Addr) (xs : List Int32) (args : Array Value) (s : State) : Prop := args = #[.ref b] ∧ s.IntsAt b xs ∧ xs.length ≤ 260 ∧ (Jvm.Cond.and given_1 narrow_1).before args s = true
/-- what a walk over the start with the record d0 says of its end, said of the start itself -/
theorem lw_closed {s t : State} {o : Outcome} {d0 : Drawn} {L : List Loc} {k n : Nat} (hd0 : s.drawn.sameBut d0 lw_cs) (hv : ∃ v, o = .returned v) (hW : (s.setDrawn d0).WarmedH t.vm) (hs : (s.setDrawn d0).sameButNew ({ t with vm := s.vm } : State) L k n) : State.butDraws s t lw_cs (fun t1 => Framed s o t1 L k n) := by
  have h2 : t.drawn = d0 := congrArg State.drawn hs.1
  refine ⟨⟨hv, hW, State.sameButNew.setDrawn hs s.drawn⟩, ?_, by decide⟩
  rw [h2]
  exact hd0
def lw_Q (_ : Array Value) (s : State) (o : Outcome) (t : State) : Prop := o = .returned (some (.int 1)) ∧ State.butDraws s t lw_cs (fun t1 => Framed s o t1 [] 704666 6987184)
def lw_Z (below : List Frame) (a : Array Value) (s : State) : State → Prop := fun t => ∃ o, t.status = .running ∧ Ended t below o ∧ lw_Q a s o t
/-- the law's own end, with 1 on the stack, nothing written that was there before, its room as the claim has it; d0: the record of draws at this point (at the entry s.drawn: begin with 'refine W.base ?_' and 'have hd0 := Drawn.sameBut.refl s.drawn lw_cs') -/
theorem lw_ret {p : Program} {l : Launch} {e : Env} {s : State} {m : MethodId} {below : List Frame} {meth : Method} {c : Code} {b : Nat} {d0 : Drawn} (hd0 : s.drawn.sameBut d0 lw_cs) (hx : p.tables.exec = Jvm.exec) (hb : c.code = code) (hr : meth.sig.returnType = ret) (hlocks : meth.locks = false) {pc : Nat} {H : Heap} {ls : Array Slot} (hdg : decode code pc = .ok (.ireturn, 1)) : W p l e room_1 (s.setDrawn d0) m #[Value.ref b] below meth c H [] 704666 6987184 (lw_Z below #[Value.ref b] s) (F0 m pc ls [.int 1]) := by
  intro T hT X
  obtain ⟨fs, hret, hrun, hended, hW, hframe⟩ := X.leave (v := some (.int 1)) (hlocks := hlocks) (fun h => by rw [hr] at h; cases h)
  have hmeth' : T.vm.method? m = some meth := X.method'
  refine ⟨T.setFrames fs, ?_, .returned (some (.int 1)), hrun, hended, rfl, lw_closed hd0 ⟨_, rfl⟩ hW hframe⟩
  jvm_step X.here [X.here.top, hx, hb, hdg, hmeth', hr, ret, narrow_b1]
  (try refine ⟨rfl, ?_⟩); (try refine ⟨rfl, ?_⟩)
  first | (intro acts; rw [hret _ acts rfl rfl rfl]) | rw [hret _ _ rfl rfl rfl]
  exact Steps.refl _
/-- what holds at the law's entry: the machine, the code, the tables' words (any of lw_tbl by 'hts w (by decide +kernel)'), the script of L ints xs at the cell b, what the Statement gives of the start (any of its parts by flat_of_before) -/
def lw_At (p : Program) (s : State) (m : MethodId) (meth : Method) (c : Code) (b L : Nat) (xs : Nat → Int32) : Prop :=
  p.tables.exec = Jvm.exec ∧ c.code = code ∧ meth.sig.returnType = ret ∧ c.maxLocals = 25 ∧ s.vm.findClass R_law = some m.cls ∧ (∀ w ∈ lw_tbl, w.before #[Value.ref b] s = true) ∧ va_X b L xs s s.heap ∧ b < s.heap.size ∧ meth.locks = false ∧ (Jvm.Cond.and given_1 narrow_1).before #[Value.ref b] s = true
set_option maxHeartbeats 4000000 in
set_option maxRecDepth 100000 in
/-- in the end all is alike -/
theorem law_end {p : Program} {e : Env} {s : State} {m : MethodId} {below : List Frame} {meth : Method} {c : Code} {l : Launch} {b L : Nat} {xs : Nat → Int32} {D : va_G} {cs : Cs} {e0 : Nat} (E : LwE p s m c l b L xs D cs e0) (hr : meth.sig.returnType = ret) (hlocks : meth.locks = false) {h x : Nat} {H : Heap} {locs : List Loc} {ls : Array Slot} {cells slots : Nat} (hJ : LJ D cs h x e0 s.heap.size 4128 True H) (hS : va_S (fun q : Nat => s.heap.size ≤ q) s.heap H locs) (hl : lv_has ls 25 [(0, .ref b), (1, .ref h), (2, .ref x)]) (hc1 : cells ≤ 704666) (hc2 : slots ≤ 6987184) : W p l e room_1 s m #[.ref b] below meth c H locs cells slots (lw_Z below #[Value.ref b] s) (F0 m 967 ls []) := by
  obtain ⟨hx, hb, hml, hown, hts0, hX, hbl, hL, hK0, hN0, hO, hT, hE, hlf⟩ := id E
  obtain ⟨σ, ρ, M, hP, hM, hap, hrh, hmx, hQ, he0, hZo, hck⟩ := hJ
  subst hrh
  subst hmx
  have hk0 := hck trivial
  refine W.base ?_
  have hd0 := Drawn.sameBut.refl s.drawn lw_cs
  have hts := dr_words hts0 s.drawn
  have hN := dr_N s.drawn hN0
  have hK : va_K D vwCl (tyz cs) (s.setDrawn s.drawn) := va_K.moved (u := s) (U := s.setDrawn s.drawn) (Vm.Alike.refl s.vm) hK0
  refine lv_aload_n hx hb dL_law_967 rfl (lv_at hl 2 rfl) ?_
  refine lv_aload_n hx hb dL_law_968 rfl (lv_at hl 1 rfl) ?_
  refine va_calliD hd0 (va_runV_D (As := [.ref (r_h ρ)]) (rest := []) ⟨hx, hb, hml, hown, hts⟩ (c_X2_isSame l D cs ρ M hQ hap hk0 H) (cwV 1 hts gL_law_X2_isSame rfl rfl rfl (by decide +kernel) ⟨Nat.le_of_ble_eq_true rfl, Nat.le_of_ble_eq_true rfl⟩) (rb_V hK hN ⟨rfl, hP, hM⟩ (va_recv hK hM (ci := 3) (q0 := 0) rfl rfl)) rfl rfl hl.1 rfl (lv_room (Nat.le_of_ble_eq_true rfl)) dL_law_969 ⟨(by show _ ≤ 704666; omega), (by show _ ≤ 6987184; omega)⟩) hS (fun q _ h => h.elim) (fun q h => h.elim) (fun r u t H1 locs ht hvm hw hB hz1 hk1 hS d1 hd1 => ?_)
  rw [hw]
  refine va_forget (fun q hq => hS.2.2 q hq) ?_
  refine W.widen (k := 704666) (n := 6987184) (by omega) (by omega) ?_
  exact lw_ret hd1 hx hb hr hlocks dL_law_972
set_option maxHeartbeats 4000000 in
set_option maxRecDepth 100000 in
/-- from the entry to the end -/
theorem whole_start {p : Program} {e : Env} {s : State} {m : MethodId} {below : List Frame} {meth : Method} {c : Code} (l : Launch) (hflags : l.flags = flags0) {b L : Nat} {xs : Nat → Int32} (hL : L ≤ 260) (C0 : lw_At p s m meth c b L xs) : W p l e room_1 s m #[Value.ref b] below meth c s.heap [] 0 0 (lw_Z below #[Value.ref b] s) (entryFrame m ([Value.ref b] : List Value).toArray 25) := by
  obtain ⟨hx, hb, hr, hml, hown, hts0, hX, hbl, hlocks, hgv⟩ := id C0
  have hts : ∀ w ∈ wsL_law, w.before #[Value.ref b] s = true := fun w h => hts0 w (wsL_law_in w h)
  have hA : ∀ q : Nat, s.heap.size ≤ q → (fun q : Nat => s.heap.size ≤ q) q := fun _ h => h
  have hN : Nst s := fun w hw => va_Nw.of (nxW_on w hw) (hts0 w (nxW_in w hw))
  obtain ⟨D, hK1⟩ := law_known hts
  obtain ⟨cs, hK2⟩ := law_arr (hts0 _ lt_g) (hts0 _ lt_f) (hts0 _ lt_h) (hts0 _ lt_i)
  have hK : va_K D vwCl (tyz cs) s := ⟨hK1, hK2⟩
  have hO : AoI s := hts0 _ lt_h
  have hT : ThrP s := law_thr hts0 hgv
  obtain ⟨e0, hE⟩ := law_def hts0 hgv
  have hlf := law_flags hflags
  have E : LwE p s m c l b L xs D cs e0 := ⟨hx, hb, hml, hown, hts, hX, hbl, hL, hK, hN, hO, hT, hE, hlf⟩
  have hS : va_S (fun q : Nat => s.heap.size ≤ q) s.heap s.heap [] := va_S.rf
  have hP : va_P D vwCl [] s.heap := fun k q h => by simp at h
  have hD : va_D (fun q : Nat => s.heap.size ≤ q) [] := ⟨fun i j p q h => by simp at h, fun k q h => by simp at h⟩
  have hl := lv_entry ([.ref b]) (n := 25) (Nat.le_of_ble_eq_true rfl)
  rw [lg_entry_eq]
  generalize (lg_sl ([.ref b]) ++ List.replicate (25 - (lg_sl ([.ref b])).length) Slot.unset).toArray = ls at hl ⊢
  have hl : lv_has ls 25 [(0, .ref b)] := hl
  refine va_new (ci := 2) (fs := [.null, .int 0, .int 0, .int 0]) (C := RX1) (T := TX1) (N := 4) hx hb hts inlX1 tyX1 tyX1_ok hown (hts (.classLink RL 26 RX1) (List.mem_of_getElem? (i := 0) (by decide +kernel))) (hts (.instantiable RX1 4) (List.mem_of_getElem? (i := 1) (by decide +kernel))) (hts (.initialized RX1) (List.mem_of_getElem? (i := 2) (by decide +kernel))) hK hP hD hS hA rfl (fun j hj => by rcases (show j = 0 ∨ j = 1 ∨ j = 2 ∨ j = 3 by omega) with rfl | rfl | rfl | rfl <;> rfl) (Nat.le_of_ble_eq_true rfl) (Nat.le_of_ble_eq_true rfl) dL_law_0 (fun x H hP hD hS => ?_)
  have hP : va_P D vwCl [(x, .inr (2, [.null, .int 0, .int 0, .int 0]))] H := hP
  have hD : va_D (fun q : Nat => s.heap.size ≤ q) [(x, .inr (2, [.null, .int 0, .int 0, .int 0]))] := hD
  refine lv_dup hx hb dL_law_3 rfl ?_
  have hPc := hP.sub (ws' := [(x, .inr (2, [.null, .int 0, .int 0, .int 0]))]) [0] rfl
  have hDc := hD.sub (ws' := [(x, .inr (2, [.null, .int 0, .int 0, .int 0]))]) [0] (by decide) rfl
  have hFc := va_free (wc := [(x, .inr (2, [.null, .int 0, .int 0, .int 0]))]) hD hS hA [0] rfl
  refine va_callv (va_runI (As := []) (rest := [.ref x]) ⟨hx, hb, hml, hown, hts⟩ (c_X1_init l D cs H x e0) (cwI 0 hts gL_law_X1_init rfl rfl rfl (hts (.initialized RX1) (List.mem_of_getElem? (i := 2) (by decide +kernel))) (hts (.methodLink RL 77 yX1_init) (List.mem_of_getElem? (i := 6) (by decide +kernel))) (hts (.instanceMethod yX1_init) (List.mem_of_getElem? (i := 7) (by decide +kernel))) rfl (by decide +kernel) ⟨Nat.le_of_ble_eq_true rfl, Nat.le_of_ble_eq_true rfl⟩) (lb_I hK hN hPc hDc DefP_b (fun U hU hW => hE.move hW.alike (fun q h1 h2 => by rw [hU]; exact hS.2.1 q h1 h2) (fun q h => hFc q h))) rfl rfl hl.1 rfl (lv_room (Nat.le_of_ble_eq_true rfl)) dL_law_4 ⟨Nat.le_of_ble_eq_true rfl, Nat.le_of_ble_eq_true rfl⟩) hS (fun q _ h => hFc q h) hFc (fun u t H1 locs ht hvm hw hB hz1 hk1 hS => ?_)
  rw [ht] at hB
  obtain ⟨hP, hD⟩ := va_join (wr := []) (w1 := [(x, .inr (2, [.ref u, .int 0, .int 0, .int 0])), (u, .inr (0, [.int 0, .ref e0, .int 0]))]) hP hD [0] [] rfl rfl (by decide) (by decide) hk1 hFc hB.1 hB.2
  generalize H1 = H at hP hS ⊢
  have hP : va_P D vwCl [(x, .inr (2, [.ref u, .int 0, .int 0, .int 0])), (u, .inr (0, [.int 0, .ref e0, .int 0]))] H := hP
  have hD : va_D (fun q : Nat => s.heap.size ≤ q) [(x, .inr (2, [.ref u, .int 0, .int 0, .int 0])), (u, .inr (0, [.int 0, .ref e0, .int 0]))] := hD
  refine lv_astore_n (lv' := [(1, .ref x), (0, .ref b)]) hx hb dL_law_7 rfl hl (by decide) rfl (fun ls hl => ?_)
  have hxu : x ≠ u := fun e => absurd (hD.1 0 1 _ _ rfl rfl e) (by omega)
  have hPs : Soc D cs (x, u, e0, fun _ => 0, 0) ps0 H := ⟨hP 0 _ rfl, ⟨hP 1 _ rfl, fun h => absurd h (Nat.lt_irrefl 0)⟩, fun i h => absurd h (Nat.not_lt_zero i)⟩
  have hap0 : AptA (x, u, e0, fun _ => 0, 0) 0 := ⟨fun i j h => absurd h (Nat.not_lt_zero i), hxu, fun i h => absurd h (Nat.not_lt_zero i), fun h => absurd h (Nat.lt_irrefl 0)⟩
  have hZ1 : ∀ q, ownB (x, u, e0, fun _ => 0, 0) 0 q → s.heap.size ≤ q := fun q h => by
    rcases h with h | h | h | ⟨i, hi, _⟩
    · rw [h]; exact hD.2 0 _ rfl
    · rw [h]; exact hD.2 1 _ rfl
    · exact absurd h.1 (Nat.lt_irrefl 0)
    · exact absurd hi (Nat.not_lt_zero i)
  have hXk : va_X b L xs s H := hX.kept (hS.2.1 b hbl (Nat.not_le.mpr hbl))
  refine lv_aload_n hx hb dL_law_8 rfl (lv_at hl 0 rfl) ?_
  refine lv_aload_n hx hb dL_law_9 rfl (lv_at hl 1 rfl) ?_
  refine va_callr (va_runS (As := [.ref x, .ref b]) (rest := []) ⟨hx, hb, hml, hown, hts⟩ (c_L_build l hlf D cs (x, u, e0, fun _ => 0, 0) e0 s.heap.size b L xs hL H hS.1 hbl hap0 rfl hZ1) (va_cwS 2 hts gL_law_L_build rfl rfl rfl (by decide +kernel) ⟨Nat.le_of_ble_eq_true rfl, Nat.le_of_ble_eq_true rfl⟩) (bb_S (A := fun q : Nat => s.heap.size ≤ q) hK hN hPs hO hT hE hXk hS (fun q h => h)) rfl rfl hl.1 rfl (lv_room (Nat.le_of_ble_eq_true rfl)) dL_law_10 ⟨Nat.le_of_ble_eq_true rfl, Nat.le_of_ble_eq_true rfl⟩) hS (fun q _ h => h) (fun q h => h) (fun u9 y t H1 locs ht hvm hw hB hz1 hk1 hS => ?_)
  rw [ht] at hB
  have hJ : LJ D cs x y e0 s.heap.size 1728 True H1 := hB
  refine lv_astore_n (lv' := [(2, .ref y), (1, .ref x), (0, .ref b)]) hx hb dL_law_13 rfl hl (by decide) rfl (fun ls hl => ?_)
  refine lv_aload_n hx hb dL_law_14 rfl (lv_at hl 0 rfl) ?_
  refine lv_ifnonnull (tgt := 20) hx hb dL_law_15 (by decide) ?_
  refine law_loop E hJ hS (lv_sub hl [2, 1, 0] rfl) (Nat.le_of_ble_eq_true rfl) (Nat.le_of_ble_eq_true rfl) (fun ls H locs hJ hS hl => ?_)
  exact law_end E hr hlocks hJ hS hl (Nat.le_of_ble_eq_true rfl) (Nat.le_of_ble_eq_true rfl)
