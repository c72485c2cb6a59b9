/-! THE LAW'S LOOP: its invariant, its loop -/
/-- what the law's entry gives, once for all: machine, words, script, tables, names of exceptions, the empty static array, the reference's and the answer's addresses -/
def LwE (p : Program) (s : State) (m : MethodId) (c : Code) (l : Launch) (b L : Nat) (xs : Nat → Int32) (D : va_G) (cs : Cs) (M : Nat × (Nat → Nat)) (o e0 : Nat) : Prop :=
  p.tables.exec = Jvm.exec ∧ c.code = code ∧ c.maxLocals = 9 ∧ s.vm.findClass RL = some m.cls ∧ (∀ w ∈ wsL_law, w.before #[Value.ref b] s = true) ∧ va_X b L xs s s.heap ∧ b < s.heap.size ∧ va_K D vwCl (tyz cs) s ∧ Nst s ∧ ThrP s ∧ NcP s ∧ DefP (fun q => s.heap.size ≤ q) e0 s ∧ l.stackTraces = false ∧ AptM M ∧ (∀ q, ownM M q → s.heap.size ≤ q) ∧ s.heap.size ≤ o ∧ ¬ ownM M o
/-- what stands at the head of round i -/
def LwI (D : va_G) (cs : Cs) (x : Nat) (M : Nat × (Nat → Nat)) (o e0 sz i : Nat) (H : Heap) : Prop :=
  ∃ (ρ : Rf) (σ : PS) (th : Int32) (f : Nat → Int64), r_h ρ = x ∧ Soc D cs ρ σ H ∧ va_P D vwCl (modW cs M th σ) H ∧ va_at D vwCl (outE cs o f) H ∧ InvT (72 * i) σ ∧ AptA ρ (sK σ) ∧ (sK σ = 0 → r_e ρ = e0) ∧ ∀ q, ownB ρ (sK σ) q → ¬ ownM M q ∧ q ≠ o ∧ sz ≤ q
/-- a loop whose rounds may draw and make cells -/
theorem lv_forD {ch : List Choice} {p : Program} {l : Launch} {e : Env} {R : Room} {s : State} {m : MethodId} {args : Array Value} {below : List Frame} {meth : Method} {c : Code} {H : Heap} {locs : List Loc} {cells slots : Nat} {Q : State → Prop} {A : Nat → Prop} {H0 : Heap} {nL : Nat} {ls : Array Slot} {d0 : Drawn} (hd0 : s.drawn.sameBut d0 ch) (a b N : Nat) (g : Array Slot → JFrame) (L : Nat → List (Nat × Value)) (J : Nat → Heap → Prop) (hl : lv_has ls nL (L 0)) (h0 : J 0 H) (hS : va_S A H0 H locs)
    (step : ∀ (i : Nat) (ls : Array Slot) (H : Heap) (locs : List Loc) (d : Drawn), s.drawn.sameBut d ch → i < N → J i H → va_S A H0 H locs → lv_has ls nL (L i) → (∀ (ls' : Array Slot) (H' : Heap) (locs' : List Loc) (d' : Drawn), s.drawn.sameBut d' ch → J (i + 1) H' → va_S A H0 H' locs' → lv_has ls' nL (L (i + 1)) → W p l e R (s.setDrawn d') m args below meth c H' locs' (cells + (i + 1) * a) (slots + (i + 1) * b) Q (g ls')) → W p l e R (s.setDrawn d) m args below meth c H locs (cells + i * a) (slots + i * b) Q (g ls))
    (fin : ∀ (ls : Array Slot) (H : Heap) (locs : List Loc) (d : Drawn), s.drawn.sameBut d ch → J N H → va_S A H0 H locs → lv_has ls nL (L N) → W p l e R (s.setDrawn d) m args below meth c H locs (cells + N * a) (slots + N * b) Q (g ls)) : W p l e R (s.setDrawn d0) m args below meth c H locs cells slots Q (g ls) := by
  have key : ∀ (n i : Nat), i + n = N → ∀ (ls : Array Slot) (H : Heap) (locs : List Loc) (d : Drawn), s.drawn.sameBut d ch → J i H → va_S A H0 H locs → lv_has ls nL (L i) → W p l e R (s.setDrawn d) m args below meth c H locs (cells + i * a) (slots + i * b) Q (g ls) := by
    intro n
    induction n with
    | zero =>
      intro i hi ls H locs d hd hJ hS h
      rw [Nat.add_zero] at hi
      subst hi
      exact fin ls H locs d hd hJ hS h
    | succ n ih =>
      intro i hi ls H locs d hd hJ hS h
      exact step i ls H locs d hd (by omega) hJ hS h (fun ls' H' locs' d' hd' hJ' hS' h' => ih (i + 1) (by omega) ls' H' locs' d' hd' hJ' hS' h')
  have k := key N 0 (Nat.zero_add N) ls H locs d0 hd0 h0 hS hl
  rw [Nat.zero_mul, Nat.zero_mul, Nat.add_zero, Nat.add_zero] at k
  exact k
/-- the reference's call leaves the society alone -/
theorem soc_md {D : va_G} {cs : Cs} {ρ : Rf} {σ : PS} {M : Nat × (Nat → Nat)} {H H1 : Heap} (hP : Soc D cs ρ σ H) (hap : ∀ q, ownB ρ (sK σ) q → ¬ ownM M q) (hk : ∀ q : Nat, q < H.size → ¬ mdA M H q → H1[q]? = H[q]?) : Soc D cs ρ σ H1 :=
  soc_kept hP (fun q h h2 => hk q h2 (fun z => z.elim (hap q h) (fun z => absurd z (Nat.not_le.mpr h2))))
theorem out_md {D : va_G} {cs : Cs} {o : Nat} {f : Nat → Int64} {M : Nat × (Nat → Nat)} {H H1 : Heap} (hO : va_at D vwCl (outE cs o f) H) (ho : ¬ ownM M o) (hk : ∀ q : Nat, q < H.size → ¬ mdA M H q → H1[q]? = H[q]?) : va_at D vwCl (outE cs o f) H1 :=
  hO.kept (hk o hO.lt (fun z => z.elim ho (fun z => absurd z (Nat.not_le.mpr hO.lt))))
/-- the helper's call leaves the reference alone -/
theorem mod_hl {D : va_G} {cs : Cs} {ρ : Rf} {k o : Nat} {M : Nat × (Nat → Nat)} {th : Int32} {τ : PS} {H H1 : Heap} (hM : va_P D vwCl (modW cs M th τ) H) (hap : ∀ q, ownB ρ k q → ¬ ownM M q) (ho : ¬ ownM M o) (hk : ∀ q : Nat, q < H.size → ¬ hlA ρ k o H q → H1[q]? = H[q]?) : va_P D vwCl (modW cs M th τ) H1 := by
  refine hM.kept (fun i q hq => hk q.1 (hM i q hq).lt (fun z => ?_))
  have hq2 : ownM M q.1 := by
    rcases modW_ad hq with ⟨-, h⟩ | ⟨j, hj, -, h⟩
    · exact Or.inl h
    · exact Or.inr ⟨j, hj, h⟩
  rcases z with (z | z) | z
  · exact hap _ z hq2
  · exact absurd z (Nat.not_le.mpr (hM i q hq).lt)
  · exact ho (z ▸ hq2)
theorem dr_N {s : State} (d : Drawn) (h : Nst s) : Nst (s.setDrawn d) := Nst.vm (u := s) (U := s.setDrawn d) rfl h
theorem dr_T {s : State} (d : Drawn) (h : ThrP s) : ThrP (s.setDrawn d) :=
  ⟨fun q hq => (h.1 q hq).elim fun sa k => ⟨sa, vk_R.same rfl k⟩, vx_Zq.moved (u := s) (U := s.setDrawn d) (Vm.Alike.refl s.vm) h.2.1, vx_Zq.moved (u := s) (U := s.setDrawn d) (Vm.Alike.refl s.vm) h.2.2⟩
theorem dr_Nc {s : State} (d : Drawn) (h : NcP s) : NcP (s.setDrawn d) := NcP.moved (u := s) (U := s.setDrawn d) (Vm.Alike.refl s.vm) h
theorem dr_E {s : State} {e0 : Nat} (d : Drawn) (h : DefP (fun q => s.heap.size ≤ q) e0 s) : DefP (fun q => s.heap.size ≤ q) e0 (s.setDrawn d) := h.move (u := s) (U := s.setDrawn d) (Vm.Alike.refl s.vm) (fun _ _ _ => rfl) (fun _ h => h)
