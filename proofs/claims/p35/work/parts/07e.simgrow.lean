/-! THE LAW'S OWN SOCIETY GROWS: a row more in a new array of rows -/
theorem P_tail {D : va_G} {cl : List vw_C} {x : Nat × va_E} {ws : va_W} {H : Heap} (h : va_P D cl (x :: ws) H) : va_P D cl ws H := fun k q hk => h (k + 1) q hk
theorem P_head {D : va_G} {cl : List vw_C} {x : Nat × va_E} {ws : va_W} {H : Heap} (h : va_P D cl (x :: ws) H) : va_at D cl x H := h 0 x rfl
theorem P_cons {D : va_G} {cl : List vw_C} {x : Nat × va_E} {ws : va_W} {H : Heap} (h1 : va_at D cl x H) (h2 : va_P D cl ws H) : va_P D cl (x :: ws) H := by
  intro k q hk
  cases k with
  | zero => cases hk; exact h1
  | succ k => exact h2 k q hk
theorem D_cons {A : Nat → Prop} {x : Nat × va_E} {ws : va_W} (hx : A x.1) (h : va_D A ws) (hne : ∀ (k : Nat) (q : Nat × va_E), ws[k]? = some q → q.1 ≠ x.1) : va_D A (x :: ws) := by
  refine ⟨fun i j p q hi hj hpq => ?_, fun k q hk => ?_⟩
  · cases i with
    | zero =>
      cases j with
      | zero => rfl
      | succ j =>
        cases hi
        exact absurd hpq.symm (hne j q hj)
    | succ i =>
      cases j with
      | zero =>
        cases hj
        exact absurd hpq (hne i p hi)
      | succ j => exact congrArg (· + 1) (h.1 i j p q hi hj hpq)
  · cases k with
    | zero => cases hk; exact hx
    | succ k => exact h.2 k q hk
theorem elm_0 {ad : Nat → Nat} : elm ad 0 = fun _ => none := funext fun i => if_neg (Nat.not_lt_zero i)
theorem elm_s {ad : Nat → Nat} {k : Nat} : va_up (elm ad k) k (some (ad k)) = elm ad (k + 1) := by
  funext i
  unfold va_up elm
  by_cases c : i = k
  · subst c
    rw [if_pos rfl, if_pos (Nat.lt_succ_self i)]
  · rw [if_neg c]
    by_cases d : i < k
    · rw [if_pos d, if_pos (by omega)]
    · rw [if_neg d, if_neg (by omega)]
theorem elm_e {ad : Nat → Nat} {k L : Nat} : va_up (elm ad k) k (some L) = elm (va_up ad k L) (k + 1) := by
  funext i
  unfold va_up elm
  by_cases c : i = k
  · subst c
    rw [if_pos rfl, if_pos (Nat.lt_succ_self i)]
    show some L = some (if i = i then L else ad i)
    rw [if_pos rfl]
  · rw [if_neg c]
    by_cases d : i < k
    · rw [if_pos d, if_pos (by omega)]
      show some (ad i) = some (if i = k then L else ad i)
      rw [if_neg c]
    · rw [if_neg d, if_neg (by omega)]
theorem up_s {ad : Nat → Nat} {k L : Nat} : va_up ad k L k = L := if_pos rfl
theorem up_n {ad : Nat → Nat} {k L i : Nat} (h : i ≠ k) : va_up ad k L i = ad i := if_neg h
set_option maxHeartbeats 4000000 in
set_option maxRecDepth 100000 in
/-- the rows, and one more -/
theorem c_X2_with (l : Launch) (D : va_G) (cs : Cs) (H0 : Heap) (Rr L n : Nat) (hn10 : n ≤ 10) (ad : Nat → Nat) (g : Nat → Nat → Int32) (g9 : Nat → Int32) : Met l yX2_with wsX2_with ({ frames := 0, cells := 1, slots := 11, locals := 0 }) (va_Pc [.ref Rr, .ref L] (fun U => RBp D cs (fun X => X = H0 ∧ va_at D vwCl (Rr, .inl (cs.2.2.1, n, .inr (.inr (.inr (.inr (elm ad n)))))) X ∧ (∀ i, i < n → va_at D vwCl (ad i, .inl (cs.1, 8, .inl (g i))) X) ∧ va_at D vwCl (L, .inl (cs.1, 8, .inl g9)) X) U ∧ AoI U)) (va_Qr (fun _ : Unit => True) (fun _ N t => H0.size ≤ N ∧ va_at D vwCl (N, .inl (cs.2.2.1, n + 1, .inr (.inr (.inr (.inr (elm (va_up ad n L) (n + 1))))))) t.heap) (fun q => H0.size ≤ q)) 1 11 (fun q => H0.size ≤ q) := by
  refine Met.ofW (cc := cX2_with) (maxL := 4) (ret := (some (.array (.array .int)))) (by decide) rfl ?_
  intro p e s m args below meth c s₁ B0 hml hv
  obtain ⟨rfl, ⟨⟨hH, hR, hrows, hL⟩, hK, hN⟩, hO⟩ := hv
  subst hH
  have hx := B0.exec
  have hb := B0.bytes
  have hr := B0.returns
  have hts := atoms_spec (ws := wsX2_with) B0.pre
  have hown : s.vm.findClass RX2 = some m.cls := findClass_of_methodNamed B0.named
  have hlocks := B0.notSynchronized
  have hA : ∀ q : Nat, s.heap.size ≤ q → (fun q : Nat => s.heap.size ≤ q) q := fun _ h => h
  have hS : va_S (fun q : Nat => s.heap.size ≤ q) s.heap s.heap [] := va_S.rf
  have hP : va_P D vwCl [] s.heap := fun k q h => by simp at h
  have hD : va_D (fun q : Nat => s.heap.size ≤ q) [] := ⟨fun i j p q h => by simp at h, fun k q h => by simp at h⟩
  have hl := lv_entry ([.ref Rr, .ref L]) (n := 4) (Nat.le_of_ble_eq_true rfl)
  rw [lg_entry_eq]
  generalize (lg_sl ([.ref Rr, .ref L]) ++ List.replicate (4 - (lg_sl ([.ref Rr, .ref L])).length) Slot.unset).toArray = ls at hl ⊢
  have hl : lv_has ls 4 [(0, .ref Rr), (1, .ref L)] := hl
  refine lv_aload_n hx hb dX2_with_0 rfl (lv_at hl 0 rfl) ?_
  refine va_alen hx hb hK (one_P hR) 0 2 rfl rfl (v := nI n) rfl dX2_with_1 ?_
  refine lv_iconst (v := 1) hx hb dX2_with_2 (by decide) ?_
  refine lv_iadd hx hb dX2_with_3 ?_
  refine W.eq (g2 := F0 m 4 ls [.int (nI (n + 1))]) (by rw [show nI (n + 1) = nI n + 1 from nI_succ n]) ?_
  refine va_newA hx hb hown (hts (.classLink RX2 7 "[I") (List.mem_of_getElem? (i := 1) (by decide +kernel))) hO hK 2 rfl hP hD hS hA (N' := n + 1) (nI_pos (by omega)) (nI_clamp (by omega)) (by omega) (Nat.le_of_ble_eq_true rfl) (by show 0 + (n + 1) ≤ 11; omega) dX2_with_4 (fun N H hP hD hS hz hk => ?_)
  have hP : va_P D vwCl [(N, .inl (cs.2.2.1, n + 1, .inr (.inr (.inr (.inr (elm ad 0))))))] H := by rw [elm_0]; exact hP
  refine lv_astore_n (lv' := [(2, .ref N), (0, .ref Rr), (1, .ref L)]) hx hb dX2_with_7 rfl hl (by decide) rfl (fun ls hl => ?_)
  refine lv_iconst (v := 0) hx hb dX2_with_8 (by decide) ?_
  refine lv_istore_n (lv' := [(3, .int 0), (2, .ref N), (0, .ref Rr), (1, .ref L)]) hx hb dX2_with_9 rfl hl (by decide) rfl (fun ls hl => ?_)
  have hkeep : ∀ (q : Nat × va_E) (H : Heap) (locs : List Loc), va_at D vwCl q s.heap → va_S (fun q : Nat => s.heap.size ≤ q) s.heap H locs → va_at D vwCl q H := fun q H locs h hS => h.kept (hS.2.1 q.1 h.lt (Nat.not_le.mpr h.lt))
  refine lv_forH n (fun ls => F0 m 10 ls []) (fun k => [(3, .int (nI k)), (2, .ref N), (0, .ref Rr), (1, .ref L)]) (fun k X => va_P D vwCl [(N, .inl (cs.2.2.1, n + 1, .inr (.inr (.inr (.inr (elm ad k))))))] X) hl hP hS (fun k ls H locs hk9 hP hS hl K9 => ?_) (fun ls H locs hP hS hl => ?_)
  · have hl : lv_has ls 4 [(3, .int (nI k)), (2, .ref N), (0, .ref Rr), (1, .ref L)] := hl
    refine lv_iload_n hx hb dX2_with_10 rfl (lv_at hl 0 rfl) ?_
    refine lv_aload_n hx hb dX2_with_11 rfl (lv_at hl 2 rfl) ?_
    refine va_alen hx hb hK (one_P (hkeep _ H locs hR hS)) 0 2 rfl rfl (v := nI n) rfl dX2_with_12 ?_
    refine lv_icmp_ge (tgt := 28) hx hb dX2_with_13 (by decide) (fun c9 => absurd c9 (nI_ge hk9 (by omega))) (fun _ => ?_)
    refine lv_aload_n hx hb dX2_with_16 rfl (lv_at hl 1 rfl) ?_
    refine lv_iload_n hx hb dX2_with_17 rfl (lv_at hl 0 rfl) ?_
    refine lv_aload_n hx hb dX2_with_18 rfl (lv_at hl 2 rfl) ?_
    refine lv_iload_n hx hb dX2_with_19 rfl (lv_at hl 0 rfl) ?_
    refine va_aldA hx hb hK (one_P (hkeep _ H locs hR hS)) 0 2 rfl rfl (vp_in_nI hk9 (by omega)) (elm_at hk9 hn10) dX2_with_20 ?_
    refine va_astA hx hb hK hO hP (one_D (hD.2 0 _ rfl)) hS 0 2 0 rfl rfl (hkeep _ H locs (hrows k hk9) hS) rfl (vp_in_nI (show k < n + 1 by omega) (by omega)) dX2_with_21 (fun H locs hP hD hS => ?_)
    rw [nI_clamp (show k < 2 ^ 31 by omega), elm_s] at hP
    refine lv_iinc (v := nI (k + 1)) (lv' := [(3, .int (nI (k + 1))), (2, .ref N), (0, .ref Rr), (1, .ref L)]) hx hb dX2_with_22 hl (k := 0) rfl (nI_add _ 1) (by decide) rfl (fun ls hl => ?_)
    refine lv_goto (tgt := 10) hx hb dX2_with_25 (by decide) ?_
    exact K9 ls _ _ hP hS hl
  · have hl : lv_has ls 4 [(3, .int (nI n)), (2, .ref N), (0, .ref Rr), (1, .ref L)] := hl
    refine lv_iload_n hx hb dX2_with_10 rfl (lv_at hl 0 rfl) ?_
    refine lv_aload_n hx hb dX2_with_11 rfl (lv_at hl 2 rfl) ?_
    refine va_alen hx hb hK (one_P (hkeep _ H locs hR hS)) 0 2 rfl rfl (v := nI n) rfl dX2_with_12 ?_
    refine lv_icmp_ge (tgt := 28) hx hb dX2_with_13 (by decide) (fun _ => ?_) (fun c9 => absurd (nI_le (Nat.le_refl n) (by omega)) c9)
    refine lv_aload_n hx hb dX2_with_28 rfl (lv_at hl 1 rfl) ?_
    refine lv_aload_n hx hb dX2_with_29 rfl (lv_at hl 2 rfl) ?_
    refine va_alen hx hb hK (one_P (hkeep _ H locs hR hS)) 0 2 rfl rfl (v := nI n) rfl dX2_with_30 ?_
    refine lv_aload_n hx hb dX2_with_31 rfl (lv_at hl 3 rfl) ?_
    refine va_astA hx hb hK hO hP (one_D (hD.2 0 _ rfl)) hS 0 2 0 rfl rfl (hkeep _ H locs hL hS) rfl (vp_in_nI (show n < n + 1 by omega) (by omega)) dX2_with_32 (fun H locs hP hD hS => ?_)
    rw [nI_clamp (show n < 2 ^ 31 by omega), elm_e] at hP
    refine lv_aload_n hx hb dX2_with_33 rfl (lv_at hl 1 rfl) ?_
    refine W.widen (k := 1) (n := 11) (Nat.le_of_ble_eq_true rfl) (by show 0 + (n + 1) ≤ 11; omega) ?_
    exact W.aret (v := .ref N) (rt := .array (.array .int)) hx hb hr (Or.inr ⟨_, rfl⟩) (Or.inr ⟨_, rfl⟩) (fun t ht hW => ⟨⟨(), N, rfl, trivial, hD.2 0 _ rfl, by rw [ht]; exact P_head hP⟩, hS.F ht⟩) hS.2.2 dX2_with_34
/-- the society as it is while its object still names the old array of rows -/
def simV (cs : Cs) (M : Mf) (σ : PS) (r : Nat) : va_W := (M.1, .inr (3, [.int (sHr σ), .int (sSz σ), .int (sRv σ), .ref r])) :: (M.2.1, .inl (cs.2.2.1, sK σ, .inr (.inr (.inr (.inr (elm M.2.2 (sK σ))))))) :: (List.range (sK σ)).map (fun i => (M.2.2 i, .inl (cs.1, 8, .inl (rowF σ i))))
theorem simV_D {cs : Cs} {M : Mf} {σ : PS} {A : Nat → Prop} {r : Nat} (hap : AptS M (sK σ)) (hA : ∀ q, ownS M (sK σ) q → A q) : va_D A (simV cs M σ r) := (sim_D (cs := cs) hap hA).set (p := 0) (a := M.1) (e := .inr (3, [.int (sHr σ), .int (sSz σ), .int (sRv σ), .ref r])) rfl
/-- a row more -/
theorem sim_grow {D : va_G} {cs : Cs} {M : Mf} {σ τ : PS} {N L : Nat} {H H1 : Heap} (hP : va_P D vwCl (simW cs M σ) H) (hap : AptS M (sK σ)) (hL : va_at D vwCl (L, .inl (cs.1, 8, .inl (rowF τ (sK σ)))) H) (hLn : ∀ q, ownS M (sK σ) q → q ≠ L) (hN : va_at D vwCl (N, .inl (cs.2.2.1, sK σ + 1, .inr (.inr (.inr (.inr (elm (va_up M.2.2 (sK σ) L) (sK σ + 1))))))) H1) (hNz : H.size ≤ N) (hk : ∀ q : Nat, q < H.size → H1[q]? = H[q]?)
    (e1 : sK τ = sK σ + 1) (e2 : τ.2.1 = σ.2.1) (e3 : ∀ i, i < sK σ → rowF τ i = rowF σ i) : va_P D vwCl (simV cs (M.1, N, va_up M.2.2 (sK σ) L) τ M.2.1) H1 ∧ AptS (M.1, N, va_up M.2.2 (sK σ) L) (sK τ) ∧ (∀ q, ownS (M.1, N, va_up M.2.2 (sK σ) L) (sK τ) q → ownS M (sK σ) q ∨ q = L ∨ q = N) := by
  have hlt := sim_own_lt hP
  have hLl : L < H.size := hL.lt
  obtain ⟨hJ, g1, g2⟩ := hap
  have ha : ∀ i, i < sK σ → va_up M.2.2 (sK σ) L i = M.2.2 i := fun i hi => up_n (by omega)
  have hq0 : va_at D vwCl (M.1, .inr (3, [.int (sHr τ), .int (sSz τ), .int (sRv τ), .ref M.2.1])) H := by
    have := hP 0 _ rfl
    simp only [sHr, sSz, sRv, e2]
    exact this
  refine ⟨?_, ⟨fun i j hi hj h => ?_, ?_, fun i hi => ?_⟩, fun q h => ?_⟩
  · refine P_cons (hq0.kept (hk _ hq0.lt)) (P_cons ?_ (fun k q hq => ?_))
    · show va_at D vwCl (N, .inl (cs.2.2.1, sK τ, .inr (.inr (.inr (.inr (elm (va_up M.2.2 (sK σ) L) (sK τ))))))) H1
      rw [e1]
      exact hN
    · have hkl : k < sK τ := by
        have := (List.getElem?_eq_some_iff.mp hq).1
        simpa using this
      have hq2 : q = (va_up M.2.2 (sK σ) L k, .inl (cs.1, 8, .inl (rowF τ k))) := by
        simp [hkl] at hq
        exact hq.symm
      rw [hq2]
      rw [e1] at hkl
      rcases Nat.lt_or_ge k (sK σ) with c | c
      · rw [ha k c, e3 k c]
        have := hP _ _ (simW_at c)
        exact this.kept (hk _ this.lt)
      · rw [show k = sK σ by omega, up_s]
        exact hL.kept (hk _ hLl)
  · have h : va_up M.2.2 (sK σ) L i = va_up M.2.2 (sK σ) L j := h
    rw [e1] at hi hj
    rcases Nat.lt_or_ge i (sK σ) with ci | ci <;> rcases Nat.lt_or_ge j (sK σ) with cj | cj
    · rw [ha i ci, ha j cj] at h
      exact hJ i j ci cj h
    · rw [ha i ci, show j = sK σ by omega, up_s] at h
      exact absurd h (hLn _ (Or.inr (Or.inr ⟨i, ci, rfl⟩)))
    · rw [ha j cj, show i = sK σ by omega, up_s] at h
      exact absurd h.symm (hLn _ (Or.inr (Or.inr ⟨j, cj, rfl⟩)))
    · omega
  · show M.1 ≠ N
    have := hlt M.1 (Or.inl rfl)
    omega
  · show va_up M.2.2 (sK σ) L i ≠ M.1 ∧ va_up M.2.2 (sK σ) L i ≠ N
    rw [e1] at hi
    rcases Nat.lt_or_ge i (sK σ) with ci | ci
    · rw [ha i ci]
      have := hlt _ (Or.inr (Or.inr ⟨i, ci, rfl⟩))
      exact ⟨(g2 i ci).1, by omega⟩
    · rw [show i = sK σ by omega, up_s]
      exact ⟨fun q => hLn _ (Or.inl rfl) q.symm, by omega⟩
  · rcases h with h | h | ⟨i, hi, h⟩
    · exact Or.inl (Or.inl h)
    · exact Or.inr (Or.inr h)
    · have h : q = va_up M.2.2 (sK σ) L i := h
      rw [e1] at hi
      rcases Nat.lt_or_ge i (sK σ) with ci | ci
      · rw [ha i ci] at h
        exact Or.inl (Or.inr (Or.inr ⟨i, ci, h⟩))
      · rw [show i = sK σ by omega, up_s] at h
        exact Or.inr (Or.inl h)
