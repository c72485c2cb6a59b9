/-! THE LAW'S OWN SOCIETY: rows for arrays of int arrays -/
/-- the class of arrays of arrays, behind a change of the machine that keeps it alike -/
theorem ao_alike {ty : FieldType} {u U : State} (hvm : u.vm.Alike U.vm) (h : (Cond.arrayOver (.array ty)).before #[] u = true) : (Cond.arrayOver (.array ty)).before #[] U = true := by
  obtain ⟨comp, c, k, h1, h2, h3, h4, h5⟩ := arrayOverA_spec h
  obtain ⟨k', hk', he⟩ := hvm.2.2 _ _ h3
  have hi : (U.vm.classes.findIdx? fun x => match x.kind with | .array component _ => component == comp | _ => false) = some c := by
    rw [hvm.findIdx?_eq _ (fun _ => rfl)]
    exact h2
  have hkind : k'.kind = .array comp (.array ty) := by rw [he]; exact h4
  have f1 : U.vm.findClass (FieldType.array ty).toString = some comp := by rw [hvm.findClass]; exact h1
  have f2 : U.vm.findClass ("[" ++ (FieldType.array ty).toString) = some c := by rw [hvm.findClass]; exact h5
  unfold Cond.before Cond.holds
  simp only [Cond.value]
  rw [f1, Option.bind_some]
  refine (congrArg (fun o : Option Nat => (o.bind (fun c => (U.vm.classes[c]?).map fun (k : Class) => match k.kind with | .array _ t => decide (t = FieldType.array ty) && decide (U.vm.findClass ("[" ++ (FieldType.array ty).toString) = some c) | _ => false) == some true)) hi).trans ?_
  simp [hk', hkind, f2]
def AoI (U : State) : Prop := (Cond.arrayOver (.array .int)).before #[] U = true
theorem AoI.moved {u U : State} (hvm : u.vm.Alike U.vm) (h : AoI u) : AoI U := ao_alike hvm h
theorem AoI.call : ∀ (U : State) (g : JFrame) (mk : MethodId) (a : Array Value), AoI U → AoI (State.calling U g mk a) := fun U g mk a h => AoI.moved (u := U) (U := U.calling g mk a) (Vm.Alike.refl U.vm) h
theorem AoI.any {U : State} {a : Array Value} (h : AoI U) : (Cond.arrayOver (.array .int)).before a U = true := h
section P35A
variable {p : Program} {l : Launch} {e : Env} {R : Room} {s : State} {m : MethodId} {args : Array Value} {below : List Frame} {meth : Method} {c : Code} {H : Heap} {locs : List Loc} {cells slots : Nat} {Q : State → Prop}
variable {cc : ByteArray} {pc : Nat} {ls : Array Slot} {rest : List Value} {D : va_G} {cl : List vw_C} {A : Nat → Prop} {a : Nat} {tys : List (ClassId × FieldType)} {ws : va_W} {H0 : Heap}
theorem va_aldA (hexec : p.tables.exec = Jvm.exec) (hb : c.code = cc) (hK : va_K D cl tys s) (hP : va_P D cl ws H) (q0 t0 : Nat) {cA : ClassId} {n : Nat} {f : Nat → Option Nat} (ha : ws[q0]? = some (a, .inl (cA, n, .inr (.inr (.inr (.inr f)))))) (ht : tys[t0]? = some (cA, .array .int)) {i : Int32} (hin : vp_in i n) {r : Nat} (hf : f i.toNatClampNeg = some r) (hdg : decode cc pc = .ok (.aaload, 1))
    (kk : W p l e R s m args below meth c H locs cells slots Q (F0 m (pc + 1) ls (.ref r :: rest))) : W p l e R s m args below meth c H locs cells slots Q (F0 m pc ls (.int i :: .ref a :: rest)) := by
  have hlt : i.toNatClampNeg < n := Nat.not_le.mp fun q => hin (Or.inr q)
  exact W.aald (v := .ref r) (ty := .array .int) hexec hb (hP q0 _ ha) ((hK.2 t0 _ ht).1 n (fun j => va_rf (f j))) rfl (fun q => by cases q) (by show ¬ (i < 0 ∨ (arrV _ _ _).slots.size ≤ _); rw [arrV_size]; exact hin) (by show (arrV _ _ _).slots[_]? = _; rw [arrV_read _ _ hlt, hf]; rfl) rfl rfl hdg kk
theorem va_astA (hexec : p.tables.exec = Jvm.exec) (hb : c.code = cc) (hK : va_K D cl tys s) (hO : AoI s) (hP : va_P D cl ws H) (hD : va_D A ws) (hS : va_S A H0 H locs) (q0 t0 t1 : Nat) {cA cB : ClassId} {n v : Nat} {x : vp_A} {f : Nat → Option Nat} (ha : ws[q0]? = some (a, .inl (cA, n, .inr (.inr (.inr (.inr f)))))) (ht : tys[t0]? = some (cA, .array .int)) (hv : va_at D cl (v, .inl (cB, x)) H) (ht1 : tys[t1]? = some (cB, .int)) {i : Int32} (hin : vp_in i n) (hdg : decode cc pc = .ok (.aastore, 1))
    (kk : ∀ (H1 : Heap) (locs1 : List Loc), va_P D cl (ws.set q0 (a, .inl (cA, n, .inr (.inr (.inr (.inr (va_up f i.toNatClampNeg (some v)))))))) H1 → va_D A (ws.set q0 (a, .inl (cA, n, .inr (.inr (.inr (.inr (va_up f i.toNatClampNeg (some v)))))))) → va_S A H0 H1 locs1 → W p l e R s m args below meth c H1 locs1 cells slots Q (F0 m (pc + 1) ls rest)) : W p l e R s m args below meth c H locs cells slots Q (F0 m pc ls (.ref v :: .int i :: .ref a :: rest)) := by
  have hlt : i.toNatClampNeg < n := Nat.not_le.mp fun q => hin (Or.inr q)
  have h0 : ¬ i < 0 := fun q => hin (Or.inl q)
  have hvm0 : (vp_cell cB x).vm = .none := by
    obtain ⟨n, f | f | f | f | f⟩ := x <;> rfl
  have hcl0 : (vp_cell cB x).cls = cB := by
    obtain ⟨n, f | f | f | f | f⟩ := x <;> rfl
  obtain ⟨comp, c9, k9, h1, h2, h3, h4, h5⟩ := arrayOverA_spec hO
  have e1 : c9 = cA := Option.some.inj (h5.symm.trans (hK.2 t0 _ ht).2)
  have e2 : comp = cB := Option.some.inj (h1.symm.trans (hK.2 t1 _ ht1).2)
  subst e1
  subst e2
  obtain ⟨-, kB, hkB, -⟩ := (hK.2 t1 _ ht1).1 0 (fun _ => .null)
  refine W.aast hexec hb (hP q0 _ ha) (fun q h => by cases h) (fun h => by cases h) h3 h4 rfl hkB ⟨h0, by show _ < (arrV _ _ _).slots.size; rw [arrV_size]; exact hlt⟩ hv (fun q h => by rw [hvm0] at h; cases h) (by rw [hcl0]; exact hkB) (by rw [hcl0]; exact va_asg _ _) rfl rfl hdg fun H1 e z oq => ?_
  refine kk H1 _ (hP.set hD ha ?_ oq) (hD.set ha) (hS.put z oq (hD.2 q0 _ ha))
  show H1[a]? = some (vp_cell _ _)
  rw [e]
  rw [vp_cell_q, vp_cell_q, arrV_store]
  congr 2
  funext q
  by_cases hq : q = i.toNatClampNeg
  · subst hq
    simp [updV, va_up, va_rf]
  · simp [updV, va_up, hq]
theorem va_newA (hexec : p.tables.exec = Jvm.exec) (hb : c.code = cc) {own : String} {index : Nat} (hown : s.vm.findClass own = some m.cls) (hclink : (Cond.classLink own index "[I").before args s = true) (hO : AoI s) (hK : va_K D cl tys s) (t0 : Nat) {cA : ClassId} (ht : tys[t0]? = some (cA, .array .int)) (hP : va_P D cl ws H) (hD : va_D A ws) (hS : va_S A H0 H locs) (hA : ∀ q, H0.size ≤ q → A q)
    {n : Int32} {N' : Nat} (hn : ¬ n < 0) (hN : n.toNatClampNeg = N') (hbytes : N' * 4 ≤ 536870912) (hcells : cells + 1 ≤ R.cells) (hslots : slots + N' ≤ R.slots) (hdg : decode cc pc = .ok (.anewarray index, 3))
    (kk : ∀ (q : Nat) (H1 : Heap), va_P D cl (ws ++ [(q, .inl (cA, N', .inr (.inr (.inr (.inr (fun _ => none))))))]) H1 → va_D A (ws ++ [(q, .inl (cA, N', .inr (.inr (.inr (.inr (fun _ => none))))))]) → va_S A H0 H1 locs → H.size ≤ q → (∀ x : Nat, x < H.size → H1[x]? = H[x]?) →
      W p l e R s m args below meth c H1 locs (cells + 1) (slots + N') Q (F0 m (pc + 3) ls (.ref q :: rest))) : W p l e R s m args below meth c H locs cells slots Q (F0 m pc ls (.int n :: rest)) := by
  subst hN
  refine W.anewA (t := .int) hexec hb hown hclink (AoI.any hO) rfl hdg rfl hn hbytes hcells hslots fun c9 kA comp f1 f2 f3 f4 => ?_
  have e1 : c9 = cA := Option.some.inj (f1.symm.trans (hK.2 t0 _ ht).2)
  subst e1
  generalize hH1 : H.push ({ cls := c9, slots := Array.replicate n.toNatClampNeg .null, vm := .none } : Cell) = H1
  have z1 : H1.size = H.size + 1 := by rw [← hH1, Array.size_push]
  have e1 : H1[H.size]? = some (arrV c9 n.toNatClampNeg (fun _ => .null)) := by rw [← hH1, Array.getElem?_push_size, ← arrV_new]
  have o1 : ∀ q : Nat, q < H.size → H1[q]? = H[q]? := fun q hq => by rw [← hH1, Array.getElem?_push, if_neg (Nat.ne_of_lt hq)]
  have hk : ∀ (k : Nat) (x : Nat × va_E), ws[k]? = some x → H1[x.1]? = H[x.1]? := fun k x hx => o1 x.1 ((hP k x hx).lt)
  refine kk H.size H1 ((hP.kept hk).app (fun k x hx => ?_)) (hD.push hP rfl (hA _ hS.1)) ⟨Nat.le_trans hS.1 (by omega), fun x h1 h2 => (o1 x (Nat.lt_of_lt_of_le h1 hS.1)).trans (hS.2.1 x h1 h2), hS.2.2⟩ (Nat.le_refl _) o1
  have hz : k < 1 := (List.getElem?_eq_some_iff.mp hx).1
  rw [show k = 0 by omega] at hx
  cases hx
  show H1[H.size]? = some (vp_cell _ _)
  rw [vp_cell_q]
  exact e1
end P35A
/-! the cells of the law's society: its object, its array of rows, its rows; M: their addresses -/
abbrev Mf : Type := Nat × Nat × (Nat → Nat)
def rowF (σ : PS) (i : Nat) : Nat → Int32 := fun c => match c with
  | 0 => sHe σ i
  | 1 => sHa σ i
  | 2 => sPu σ i
  | 3 => sLa σ i
  | 4 => sWe σ i
  | 5 => sCe σ i
  | 6 => sAt σ i
  | 7 => sLo σ i
  | _ => 0
theorem row_c {τ : PS} {i : Nat} (g : Nat → Int32) (h0 : g 0 = sHe τ i) (h1 : g 1 = sHa τ i) (h2 : g 2 = sPu τ i) (h3 : g 3 = sLa τ i) (h4 : g 4 = sWe τ i) (h5 : g 5 = sCe τ i) (h6 : g 6 = sAt τ i) (h7 : g 7 = sLo τ i) (h8 : ∀ n, g (n + 8) = 0) : g = rowF τ i := funext fun c => match c with
  | 0 => h0
  | 1 => h1
  | 2 => h2
  | 3 => h3
  | 4 => h4
  | 5 => h5
  | 6 => h6
  | 7 => h7
  | n + 8 => h8 n
def simF (M : Mf) (σ : PS) : List Value := [.int (sHr σ), .int (sSz σ), .int (sRv σ), .ref M.2.1]
def simW (cs : Cs) (M : Mf) (σ : PS) : va_W := (M.1, .inr (3, simF M σ)) :: (M.2.1, .inl (cs.2.2.1, sK σ, .inr (.inr (.inr (.inr (elm M.2.2 (sK σ))))))) :: (List.range (sK σ)).map (fun i => (M.2.2 i, .inl (cs.1, 8, .inl (rowF σ i))))
theorem simW_at {cs : Cs} {M : Mf} {σ : PS} {i : Nat} (hi : i < sK σ) : (simW cs M σ)[2 + i]? = some (M.2.2 i, .inl (cs.1, 8, .inl (rowF σ i))) := by
  unfold simW
  rw [show 2 + i = i + 1 + 1 by omega, List.getElem?_cons_succ, List.getElem?_cons_succ]
  simp [hi]
theorem simW_inv {cs : Cs} {M : Mf} {σ : PS} {k : Nat} {q : Nat × va_E} (hk : (simW cs M σ)[k]? = some q) :
    (k = 0 ∧ q = (M.1, .inr (3, simF M σ))) ∨ (k = 1 ∧ q = (M.2.1, .inl (cs.2.2.1, sK σ, .inr (.inr (.inr (.inr (elm M.2.2 (sK σ)))))))) ∨ (∃ i, i < sK σ ∧ k = 2 + i ∧ q = (M.2.2 i, .inl (cs.1, 8, .inl (rowF σ i)))) := by
  rcases Nat.lt_or_ge k 2 with h2 | h2
  · rcases (show k = 0 ∨ k = 1 by omega) with rfl | rfl
    · exact Or.inl ⟨rfl, (Option.some.inj hk).symm⟩
    · exact Or.inr (Or.inl ⟨rfl, (Option.some.inj hk).symm⟩)
  · obtain ⟨n, rfl⟩ : ∃ n, k = 2 + n := ⟨k - 2, by omega⟩
    have hl : 2 + n < (simW cs M σ).length := (List.getElem?_eq_some_iff.mp hk).1
    have hn : n < sK σ := by
      simp [simW] at hl
      omega
    rw [simW_at hn] at hk
    exact Or.inr (Or.inr ⟨n, hn, rfl, (Option.some.inj hk).symm⟩)
theorem sim_mk {D : va_G} {cs : Cs} {M : Mf} {σ : PS} {H : Heap} (h1 : va_at D vwCl (M.1, .inr (3, simF M σ)) H) (h2 : va_at D vwCl (M.2.1, .inl (cs.2.2.1, sK σ, .inr (.inr (.inr (.inr (elm M.2.2 (sK σ))))))) H) (h3 : ∀ i, i < sK σ → va_at D vwCl (M.2.2 i, .inl (cs.1, 8, .inl (rowF σ i))) H) : va_P D vwCl (simW cs M σ) H := by
  intro k q hk
  rcases simW_inv hk with ⟨-, e⟩ | ⟨-, e⟩ | ⟨i, hi, -, e⟩ <;> rw [e]
  · exact h1
  · exact h2
  · exact h3 i hi
def ownS (M : Mf) (k : Nat) : Nat → Prop := fun q => q = M.1 ∨ q = M.2.1 ∨ ∃ i, i < k ∧ q = M.2.2 i
def smA (M : Mf) (k : Nat) (H : Heap) : Nat → Prop := fun q => ownS M k q ∨ H.size ≤ q
def AptS (M : Mf) (k : Nat) : Prop := (∀ i j, i < k → j < k → M.2.2 i = M.2.2 j → i = j) ∧ M.1 ≠ M.2.1 ∧ ∀ i, i < k → M.2.2 i ≠ M.1 ∧ M.2.2 i ≠ M.2.1
theorem sim_D {cs : Cs} {M : Mf} {σ : PS} {A : Nat → Prop} (hap : AptS M (sK σ)) (hA : ∀ q, ownS M (sK σ) q → A q) : va_D A (simW cs M σ) := by
  obtain ⟨hJ, h1, h2⟩ := hap
  refine ⟨fun i j x y hi hj hxy => ?_, fun k q hk => hA _ ?_⟩
  · rcases simW_inv hi with ⟨a1, e1⟩ | ⟨a1, e1⟩ | ⟨i1, hi1, a1, e1⟩ <;> rcases simW_inv hj with ⟨a2, e2⟩ | ⟨a2, e2⟩ | ⟨i2, hi2, a2, e2⟩ <;> rw [e1, e2] at hxy <;> dsimp only at hxy
    · omega
    · exact absurd hxy h1
    · exact absurd hxy.symm (h2 i2 hi2).1
    · exact absurd hxy.symm h1
    · omega
    · exact absurd hxy.symm (h2 i2 hi2).2
    · exact absurd hxy (h2 i1 hi1).1
    · exact absurd hxy (h2 i1 hi1).2
    · have := hJ i1 i2 hi1 hi2 hxy
      omega
  · rcases simW_inv hk with ⟨-, e⟩ | ⟨-, e⟩ | ⟨i, hi, -, e⟩ <;> rw [e]
    · exact Or.inl rfl
    · exact Or.inr (Or.inl rfl)
    · exact Or.inr (Or.inr ⟨i, hi, rfl⟩)
theorem sim_kept {D : va_G} {cs : Cs} {M : Mf} {σ : PS} {H H1 : Heap} (hP : va_P D vwCl (simW cs M σ) H) (hk : ∀ q, ownS M (sK σ) q → q < H.size → H1[q]? = H[q]?) : va_P D vwCl (simW cs M σ) H1 := by
  refine hP.kept (fun k q hq => hk q.1 ?_ (hP k q hq).lt)
  rcases simW_inv hq with ⟨-, e⟩ | ⟨-, e⟩ | ⟨i, hi, -, e⟩ <;> rw [e]
  · exact Or.inl rfl
  · exact Or.inr (Or.inl rfl)
  · exact Or.inr (Or.inr ⟨i, hi, rfl⟩)
theorem sim_own_lt {D : va_G} {cs : Cs} {M : Mf} {σ : PS} {H : Heap} (hP : va_P D vwCl (simW cs M σ) H) : ∀ q, ownS M (sK σ) q → q < H.size := by
  intro q h
  rcases h with h | h | ⟨i, hi, h⟩ <;> rw [h]
  · exact (hP 0 _ rfl).lt
  · exact (hP 1 _ rfl).lt
  · exact (hP _ _ (simW_at hi)).lt
theorem sm_A {M : Mf} {k : Nat} {H0 H : Heap} {locs : List Loc} (hS : va_S (smA M k H0) H0 H locs) : ∀ q, smA M k H q → smA M k H0 q := by
  intro q h
  rcases h with h | h
  · exact Or.inl h
  · exact Or.inr (Nat.le_trans hS.1 h)
theorem elm_at {ad : Nat → Nat} {k i : Nat} (hi : i < k) (hk : k ≤ 10) : elm ad k (nI i).toNatClampNeg = some (ad i) := by
  rw [nI_clamp (by omega)]
  exact if_pos hi
theorem sim_set {cs : Cs} {M : Mf} {σ σ' : PS} {i : Nat} {g : Nat → Int32} (hi : i < sK σ) (e1 : sK σ' = sK σ) (e2 : σ'.2.1 = σ.2.1) (h1 : g = rowF σ' i) (h2 : ∀ j, j ≠ i → rowF σ' j = rowF σ j) :
    (simW cs M σ).set (2 + i) (M.2.2 i, .inl (cs.1, 8, .inl g)) = simW cs M σ' := by
  apply List.ext_getElem?
  intro j
  have hl : 2 + i < (simW cs M σ).length := (List.getElem?_eq_some_iff.mp (simW_at hi)).1
  by_cases hj : j = 2 + i
  · subst hj
    rw [List.getElem?_set_self hl, simW_at (by rw [e1]; exact hi), h1]
  · rw [List.getElem?_set_ne (Ne.symm hj)]
    unfold simW simF
    rcases Nat.lt_or_ge j 2 with h | h
    · rcases (show j = 0 ∨ j = 1 by omega) with rfl | rfl
      · simp only [List.getElem?_cons_zero, sHr, sSz, sRv, e2]
      · simp only [List.getElem?_cons_succ, List.getElem?_cons_zero, e1]
    · obtain ⟨n, rfl⟩ : ∃ n, j = n + 1 + 1 := ⟨j - 2, by omega⟩
      rw [List.getElem?_cons_succ, List.getElem?_cons_succ, List.getElem?_cons_succ, List.getElem?_cons_succ, e1]
      by_cases hn : n < sK σ
      · have hni : n ≠ i := by omega
        simp [hn, h2 n hni]
      · simp [hn]
theorem row_o {σ τ : PS} {j : Nat} (h0 : sHe τ j = sHe σ j) (h1 : sHa τ j = sHa σ j) (h2 : sPu τ j = sPu σ j) (h3 : sLa τ j = sLa σ j) (h4 : sWe τ j = sWe σ j) (h5 : sCe τ j = sCe σ j) (h6 : sAt τ j = sAt σ j) (h7 : sLo τ j = sLo σ j) : rowF τ j = rowF σ j :=
  (row_c (τ := τ) (i := j) (rowF σ j) h0.symm h1.symm h2.symm h3.symm h4.symm h5.symm h6.symm h7.symm (fun _ => rfl)).symm
theorem t_Pu {cs : Cs} {M : Mf} {σ : PS} {i : Nat} {v : Int32} (hi : i < sK σ) : (simW cs M σ).set (2 + i) (M.2.2 i, .inl (cs.1, 8, .inl (upd (rowF σ i) 2 v))) = simW cs M (setPu σ (upd (sPu σ) i v)) :=
  sim_set hi rfl rfl (row_c _ (pk_un (by decide)) (pk_un (by decide)) (pk_us.trans (pk_us (f := sPu σ)).symm) (pk_un (by decide)) (pk_un (by decide)) (pk_un (by decide)) (pk_un (by decide)) (pk_un (by decide)) (fun n => pk_un (by omega))) (fun j hj => row_o rfl rfl (pk_un hj) rfl rfl rfl rfl rfl)
theorem t_La {cs : Cs} {M : Mf} {σ : PS} {i : Nat} {v : Int32} (hi : i < sK σ) : (simW cs M σ).set (2 + i) (M.2.2 i, .inl (cs.1, 8, .inl (upd (rowF σ i) 3 v))) = simW cs M (setLa σ (upd (sLa σ) i v)) :=
  sim_set hi rfl rfl (row_c _ (pk_un (by decide)) (pk_un (by decide)) (pk_un (by decide)) (pk_us.trans (pk_us (f := sLa σ)).symm) (pk_un (by decide)) (pk_un (by decide)) (pk_un (by decide)) (pk_un (by decide)) (fun n => pk_un (by omega))) (fun j hj => row_o rfl rfl rfl (pk_un hj) rfl rfl rfl rfl)
theorem t_We {cs : Cs} {M : Mf} {σ : PS} {i : Nat} {v : Int32} (hi : i < sK σ) : (simW cs M σ).set (2 + i) (M.2.2 i, .inl (cs.1, 8, .inl (upd (rowF σ i) 4 v))) = simW cs M (setWe σ (upd (sWe σ) i v)) :=
  sim_set hi rfl rfl (row_c _ (pk_un (by decide)) (pk_un (by decide)) (pk_un (by decide)) (pk_un (by decide)) (pk_us.trans (pk_us (f := sWe σ)).symm) (pk_un (by decide)) (pk_un (by decide)) (pk_un (by decide)) (fun n => pk_un (by omega))) (fun j hj => row_o rfl rfl rfl rfl (pk_un hj) rfl rfl rfl)
theorem t_Ce {cs : Cs} {M : Mf} {σ : PS} {i : Nat} {v : Int32} (hi : i < sK σ) : (simW cs M σ).set (2 + i) (M.2.2 i, .inl (cs.1, 8, .inl (upd (rowF σ i) 5 v))) = simW cs M (setCe σ (upd (sCe σ) i v)) :=
  sim_set hi rfl rfl (row_c _ (pk_un (by decide)) (pk_un (by decide)) (pk_un (by decide)) (pk_un (by decide)) (pk_un (by decide)) (pk_us.trans (pk_us (f := sCe σ)).symm) (pk_un (by decide)) (pk_un (by decide)) (fun n => pk_un (by omega))) (fun j hj => row_o rfl rfl rfl rfl rfl (pk_un hj) rfl rfl)
theorem t_At {cs : Cs} {M : Mf} {σ : PS} {i : Nat} {v : Int32} (hi : i < sK σ) : (simW cs M σ).set (2 + i) (M.2.2 i, .inl (cs.1, 8, .inl (upd (rowF σ i) 6 v))) = simW cs M (setAt σ (upd (sAt σ) i v)) :=
  sim_set hi rfl rfl (row_c _ (pk_un (by decide)) (pk_un (by decide)) (pk_un (by decide)) (pk_un (by decide)) (pk_un (by decide)) (pk_un (by decide)) (pk_us.trans (pk_us (f := sAt σ)).symm) (pk_un (by decide)) (fun n => pk_un (by omega))) (fun j hj => row_o rfl rfl rfl rfl rfl rfl (pk_un hj) rfl)
theorem t_Lo {cs : Cs} {M : Mf} {σ : PS} {i : Nat} {v : Int32} (hi : i < sK σ) : (simW cs M σ).set (2 + i) (M.2.2 i, .inl (cs.1, 8, .inl (upd (rowF σ i) 7 v))) = simW cs M (setLo σ (upd (sLo σ) i v)) :=
  sim_set hi rfl rfl (row_c _ (pk_un (by decide)) (pk_un (by decide)) (pk_un (by decide)) (pk_un (by decide)) (pk_un (by decide)) (pk_un (by decide)) (pk_un (by decide)) (pk_us.trans (pk_us (f := sLo σ)).symm) (fun n => pk_un (by omega))) (fun j hj => row_o rfl rfl rfl rfl rfl rfl rfl (pk_un hj))
/-! what the law's society reads, told by the same state -/
theorem cast_m {h : Int32} (c1 : ¬ h < 7) (c2 : h ≤ 17) : (if h ≤ 12 then 12 - h else h - 12) = if 0 ≤ h - 12 then h - 12 else 0 - (h - 12) := by
  have h0 : ¬ h < 0 := fun q => c1 (Int32.lt_of_lt_of_le q (by decide))
  obtain ⟨j, hj, e⟩ := nI_of h0
  subst e
  have hj2 : j ≤ 17 := (nI_leI hj (by decide)).mp c2
  have key : ∀ j : Nat, j < 18 → (if nI j ≤ 12 then 12 - nI j else nI j - 12) = if 0 ≤ nI j - 12 then nI j - 12 else 0 - (nI j - 12) := by decide +kernel
  exact key j (by omega)
theorem cast_lo {x h : Int32} (c1 : h < 7) : (0 : Int32) = natSh x h := by
  unfold natSh
  rw [if_pos c1]
theorem cast_hi {x h : Int32} (c1 : ¬ h < 7) (c2 : ¬ h ≤ 17) : (0 : Int32) = natSh x h := by
  unfold natSh
  rw [if_neg c1, if_neg c2]
theorem cast_a {x h : Int32} (c1 : ¬ h < 7) (c2 : h ≤ 17) (c3 : h ≤ 12) : x * (12 - h) / 2 = natSh x h := by
  unfold natSh
  rw [if_neg c1, if_pos c2, ← cast_m c1 c2, if_pos c3]
theorem cast_b {x h : Int32} (c1 : ¬ h < 7) (c2 : h ≤ 17) (c3 : ¬ h ≤ 12) : x * (h - 12) / 2 = natSh x h := by
  unfold natSh
  rw [if_neg c1, if_pos c2, ← cast_m c1 c2, if_neg c3]
theorem we_ge {B : Nat} {σ : PS} (hI : InvS B σ) {i : Nat} (hi : i < sK σ) (h : sWe σ i ≥ 0) : ∃ j, j < sK σ ∧ sWe σ i = nI j := by
  rcases wear_cases hI hi with h1 | h1
  · rw [h1] at h
    exact absurd h (by decide)
  · exact h1
theorem we_lt {B : Nat} {σ : PS} (hI : InvS B σ) {i : Nat} (hi : i < sK σ) (h : ¬ sWe σ i ≥ 0) : sWe σ i = -1 := by
  have h10 := hI.1
  rcases wear_cases hI hi with h1 | ⟨j, hj, e⟩
  · exact h1
  · rw [e] at h
    exact absurd (nI_pos' (by omega)) h
/-- the first who wears a hat; -1: nobody -/
def wrS (f : Nat → Int32) (w : Int32) : Nat → Int32
  | 0 => -1
  | n + 1 => if wrS f w n = -1 then (if f n = w then nI n else -1) else wrS f w n
theorem wrS_none {f : Nat → Int32} {w : Int32} {n : Nat} (h : ∀ j, j < n → ¬ f j = w) : wrS f w n = -1 := by
  induction n with
  | zero => rfl
  | succ n ih =>
    have e : wrS f w (n + 1) = _ := if_pos (ih (fun j hj => h j (by omega)))
    rw [e, if_neg (h n (by omega))]
theorem wrS_some {f : Nat → Int32} {w : Int32} {k : Nat} {n : Nat} (hk : k < n) (hn : n < 2 ^ 31) (h : ∀ j, j < k → ¬ f j = w) (hf : f k = w) : wrS f w n = nI k := by
  induction n with
  | zero => omega
  | succ n ih =>
    rcases Nat.lt_or_ge k n with c | c
    · have e : wrS f w (n + 1) = _ := if_neg (by rw [ih c (by omega)]; exact nI_m1 (by omega))
      rw [e]
      exact ih c (by omega)
    · have e2 : k = n := by omega
      subst e2
      have e : wrS f w (k + 1) = _ := if_pos (wrS_none h)
      rw [e, if_pos hf]
theorem wrS_cases {f : Nat → Int32} {w : Int32} {n : Nat} (hn : n < 2 ^ 31) : (wrS f w n = -1 ∧ ∀ j, j < n → ¬ f j = w) ∨ ∃ k, k < n ∧ wrS f w n = nI k ∧ f k = w := by
  induction n with
  | zero => exact Or.inl ⟨rfl, fun j hj => absurd hj (Nat.not_lt_zero j)⟩
  | succ n ih =>
    rcases ih (by omega) with ⟨h1, h2⟩ | ⟨k, hk, h1, h2⟩
    · by_cases c : f n = w
      · refine Or.inr ⟨n, Nat.lt_succ_self n, ?_, c⟩
        have e : wrS f w (n + 1) = _ := if_pos h1
        rw [e, if_pos c]
      · refine Or.inl ⟨?_, fun j hj => ?_⟩
        · have e : wrS f w (n + 1) = _ := if_pos h1
          rw [e, if_neg c]
        · rcases Nat.lt_or_ge j n with d | d
          · exact h2 j d
          · rw [show j = n by omega]
            exact c
    · refine Or.inr ⟨k, by omega, ?_, h2⟩
      have e : wrS f w (n + 1) = _ := if_neg (by rw [h1]; exact nI_m1 (by omega))
      rw [e]
      exact h1
/-- who can borrow, in the law's words -/
abbrev canM (σ : PS) (i o : Nat) : Prop := ¬ i = o ∧ 0 < sHa σ o ∧ sWe σ o = nI o ∧ (sWe σ i < 0 ∨ sWe σ i = nI i)
