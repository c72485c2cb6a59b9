/-! THE LAW'S JOIN: its start -/
theorem tj_b {av : List Value} {D : va_G} {cs : Cs} {P : Heap → Prop} {A : Nat → Prop} {e0 : Nat} : FrameBlind (va_Pc av (fun U => TBp D cs P U ∧ DefP A e0 U)) :=
  fun a U g mk q => ⟨q.1, (tb_blind (av := av) a U g mk ⟨q.1, q.2.1⟩).2, DefP_b U g mk a q.2.2⟩
theorem tj_V {s : State} {H : Heap} {C : String} {b : Addr} {As : List Value} {D : va_G} {cs : Cs} {P : Heap → Prop} {A : Nat → Prop} {e0 : Nat} (hK : va_K D vwCl (tyz cs) s) (hN : Nst s) (hP : P H) (hT : ThrP s) (hE : DefP A e0 s) (hz : s.heap.size ≤ H.size) (hk : ∀ q : Nat, q < s.heap.size → H[q]? = s.heap[q]?) (hr : ∃ cell : Cell, H[b]? = some cell ∧ cell.vm.isStatics = false ∧ s.vm.findClass C = some cell.cls) : PreV s H C b (va_Pc (.ref b :: As) (fun U => TBp D cs P U ∧ DefP A e0 U)) As :=
  ⟨tj_b, hr, fun U hU hW => ⟨rfl, ⟨⟨by rw [hU]; exact hP, va_K.moved hW.alike hK, Nst.warm hW hN⟩, hT.move hW (by rw [hU]; exact hz) (by rw [hU]; exact hk)⟩, hE.move hW.alike (fun q h _ => by rw [hU]; exact hk q h) (fun _ h => h)⟩⟩
theorem hj_b {av : List Value} {D : va_G} {cs : Cs} {P : Heap → Prop} {A : Nat → Prop} {e0 : Nat} : FrameBlind (va_Pc av (fun U => HBp D cs P U ∧ DefP A e0 U)) :=
  fun a U g mk q => ⟨q.1, (hb_blind (av := av) a U g mk ⟨q.1, q.2.1⟩).2, DefP_b U g mk a q.2.2⟩
theorem out_D2 {cs : Cs} {ρ ρ2 : Rf} {σ τ : PS} {o : Nat} {f : Nat → Int64} {H0 : Heap} (hap2 : AptA ρ2 (sK τ)) (hin : ∀ q, ownB ρ2 (sK τ) q → ownB ρ (sK σ) q ∨ H0.size ≤ q) (ho : ¬ ownB ρ (sK σ) o) (hol : o < H0.size) : va_D (hlA ρ (sK σ) o H0) (outE cs o f :: socW cs ρ2 τ) := by
  refine D_cons (Or.inr rfl) (soc_D hap2 (fun q h => Or.inl (hin q h))) (fun k q hq e => ?_)
  have h := (soc_D (cs := cs) (σ := τ) (A := ownB ρ2 (sK τ)) hap2 (fun q h => h)).2 k q hq
  have e : q.1 = o := e
  rw [e] at h
  rcases hin o h with h | h
  · exact ho h
  · omega
