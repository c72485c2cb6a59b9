/-! THE LAW'S HELPERS: what they start from -/
def NcP (U : State) : Prop := va_Nc eIae eIob U ∧ va_Nc eIse eIob U ∧ va_Nc eIse eIae U
theorem NcP.moved {u U : State} (hvm : u.vm.Alike U.vm) (h : NcP u) : NcP U := ⟨va_Nc.moved hvm h.1, va_Nc.moved hvm h.2.1, va_Nc.moved hvm h.2.2⟩
def HBp (D : va_G) (cs : Cs) (P : Heap → Prop) (U : State) : Prop := TBp D cs P U ∧ NcP U
theorem hb_blind {av : List Value} {D : va_G} {cs : Cs} {P : Heap → Prop} : FrameBlind (va_Pc av (HBp D cs P)) :=
  fun a U g mk q => ⟨q.1, (tb_blind (av := av) a U g mk ⟨q.1, q.2.1⟩).2, NcP.moved (u := U) (U := U.calling g mk a) (Vm.Alike.refl U.vm) q.2.2⟩
theorem hb_S {s : State} {H : Heap} {As : List Value} {D : va_G} {cs : Cs} {P : Heap → Prop} (hK : va_K D vwCl (tyz cs) s) (hN : Nst s) (hP : P H) (hT : ThrP s) (hNc : NcP s) (hz : s.heap.size ≤ H.size) (hk : ∀ q : Nat, q < s.heap.size → H[q]? = s.heap[q]?) : PreS s H (va_Pc As (HBp D cs P)) As :=
  ⟨hb_blind, fun U hU hW => ⟨rfl, ⟨⟨by rw [hU]; exact hP, va_K.moved hW.alike hK, Nst.warm hW hN⟩, hT.move hW (by rw [hU]; exact hz) (by rw [hU]; exact hk)⟩, NcP.moved hW.alike hNc⟩⟩
/-- the cells that a helper may write: the society's, the answer's, new ones -/
def hlA (ρ : Rf) (k o : Nat) (H0 : Heap) : Nat → Prop := fun q => ownA ρ k H0 q ∨ q = o
abbrev outE (cs : Cs) (o : Nat) (f : Nat → Int64) : Nat × va_E := (o, .inl (cs.2.2, 1, .inr (.inl f)))
theorem P_tail {D : va_G} {cl : List vw_C} {x : Nat × va_E} {ws : va_W} {H : Heap} (h : va_P D cl (x :: ws) H) : va_P D cl ws H := fun k q hk => h (k + 1) q hk
theorem P_head {D : va_G} {cl : List vw_C} {x : Nat × va_E} {ws : va_W} {H : Heap} (h : va_P D cl (x :: ws) H) : va_at D cl x H := h 0 x rfl
theorem P_cons {D : va_G} {cl : List vw_C} {x : Nat × va_E} {ws : va_W} {H : Heap} (h1 : va_at D cl x H) (h2 : va_P D cl ws H) : va_P D cl (x :: ws) H := by
  intro k q hk
  cases k with
  | zero => cases hk; exact h1
  | succ k => exact h2 k q hk
theorem D_cons {A : Nat → Prop} {x : Nat × va_E} {ws : va_W} (hx : A x.1) (h : va_D A ws) (hne : ∀ (k : Nat) (q : Nat × va_E), ws[k]? = some q → q.1 ≠ x.1) : va_D A (x :: ws) := by
  refine ⟨fun i j p q hi hj hpq => ?_, fun k q hk => ?_⟩
  · cases i with
    | zero =>
      cases j with
      | zero => rfl
      | succ j =>
        cases hi
        exact absurd hpq.symm (hne j q hj)
    | succ i =>
      cases j with
      | zero =>
        cases hj
        exact absurd hpq (hne i p hi)
      | succ j => exact congrArg (· + 1) (h.1 i j p q hi hj hpq)
  · cases k with
    | zero => cases hk; exact hx
    | succ k => exact h.2 k q hk
theorem out_D {cs : Cs} {ρ : Rf} {σ τ : PS} {o : Nat} {f : Nat → Int64} {H0 : Heap} (hk : sK τ = sK σ) (hap : AptA ρ (sK σ)) (ho : ¬ ownB ρ (sK σ) o) : va_D (hlA ρ (sK σ) o H0) (outE cs o f :: socW cs ρ τ) := by
  have hap9 : AptA ρ (sK τ) := by rw [hk]; exact hap
  refine D_cons (Or.inr rfl) (soc_D hap9 (fun q h => Or.inl (Or.inl (by rw [hk] at h; exact h)))) (fun k q hq e => ?_)
  have h := (soc_D (cs := cs) (σ := τ) (A := ownB ρ (sK τ)) hap9 (fun q h => h)).2 k q hq
  rw [hk] at h
  exact ho (by rw [show o = q.1 from e.symm]; exact h)
def zL (x : Int32) : Int64 := if x = 0 then 0 else 1
theorem buy_e {σ : PS} {a b : Int32} : (buyO σ a b).1 ≠ 0 → (buyO σ a b).2.2 = σ := by
  unfold buyO
  repeat' split
  all_goals first | exact fun _ => rfl | exact fun h => absurd rfl h
theorem drop_e {σ : PS} {a : Int32} : (dropO σ a).1 ≠ 0 → (dropO σ a).2.2 = σ := by
  unfold dropO
  repeat' split
  all_goals first | exact fun _ => rfl | exact fun h => absurd rfl h
theorem borr_e {σ : PS} {a b : Int32} : (borrO σ a b).1 ≠ 0 → (borrO σ a b).2.2 = σ := by
  unfold borrO
  repeat' split
  all_goals first | exact fun _ => rfl | exact fun h => absurd rfl h
theorem give_e {σ : PS} {a : Int32} : (giveO σ a).1 ≠ 0 → (giveO σ a).2.2 = σ := by
  unfold giveO
  repeat' split
  all_goals first | exact fun _ => rfl | exact fun h => absurd rfl h
theorem cert_e {σ : PS} {a : Int32} : (certO σ a).1 ≠ 0 → (certO σ a).2.2 = σ := by
  unfold certO
  repeat' split
  all_goals first | exact fun _ => rfl | exact fun h => absurd rfl h
theorem pass_e {σ : PS} {a : Int32} : (passO σ a).1 ≠ 0 → (passO σ a).2.2 = σ := by
  unfold passO
  repeat' split
  all_goals first | exact fun _ => rfl | exact fun h => absurd rfl h
theorem join_e {σ : PS} {a b : Int32} : (joinO σ a b).1 ≠ 0 → (joinO σ a b).2.2 = σ := by
  unfold joinO
  repeat' split
  all_goals first | exact fun _ => rfl | exact fun h => absurd rfl h
theorem buy_k {σ : PS} {a b : Int32} : sK (buyO σ a b).2.2 = sK σ := by
  unfold buyO
  repeat' split
  all_goals rfl
theorem drop_k {σ : PS} {a : Int32} : sK (dropO σ a).2.2 = sK σ := by
  unfold dropO
  repeat' split
  all_goals rfl
theorem borr_k {σ : PS} {a b : Int32} : sK (borrO σ a b).2.2 = sK σ := by
  unfold borrO
  repeat' split
  all_goals rfl
theorem give_k {σ : PS} {a : Int32} : sK (giveO σ a).2.2 = sK σ := by
  unfold giveO
  repeat' split
  all_goals rfl
theorem cert_k {σ : PS} {a : Int32} : sK (certO σ a).2.2 = sK σ := by
  unfold certO
  repeat' split
  all_goals rfl
theorem pass_k {σ : PS} {a : Int32} : sK (passO σ a).2.2 = sK σ := by
  unfold passO
  repeat' split
  all_goals first | rfl | exact k_pass _ _
