/-! BOTH SOCIETIES SIDE BY SIDE: the class's cells and the law's own -/
theorem D_app {A : Nat → Prop} {a b : va_W} (ha : va_D A a) (hb : va_D A b) (hne : ∀ (i j : Nat) (x y : Nat × va_E), a[i]? = some x → b[j]? = some y → x.1 ≠ y.1) : va_D A (a ++ b) := by
  have spl : ∀ (k : Nat) (q : Nat × va_E), (a ++ b)[k]? = some q → (k < a.length ∧ a[k]? = some q) ∨ (a.length ≤ k ∧ b[k - a.length]? = some q) := by
    intro k q h
    rcases Nat.lt_or_ge k a.length with c | c
    · rw [List.getElem?_append_left c] at h
      exact Or.inl ⟨c, h⟩
    · rw [List.getElem?_append_right c] at h
      exact Or.inr ⟨c, h⟩
  refine ⟨fun i j x y hi hj hxy => ?_, fun k q hk => ?_⟩
  · rcases spl i x hi with ⟨ci, hi⟩ | ⟨ci, hi⟩ <;> rcases spl j y hj with ⟨cj, hj⟩ | ⟨cj, hj⟩
    · exact ha.1 i j x y hi hj hxy
    · exact absurd hxy (hne _ _ _ _ hi hj)
    · exact absurd hxy.symm (hne _ _ _ _ hj hi)
    · have := hb.1 _ _ x y hi hj hxy
      omega
  · rcases spl k q hk with ⟨-, h⟩ | ⟨-, h⟩
    · exact ha.2 _ q h
    · exact hb.2 _ q h
theorem P_app {D : va_G} {cl : List vw_C} {a b : va_W} {H : Heap} (ha : va_P D cl a H) (hb : va_P D cl b H) : va_P D cl (a ++ b) H := by
  intro k q h
  rcases Nat.lt_or_ge k a.length with c | c
  · rw [List.getElem?_append_left c] at h
    exact ha _ q h
  · rw [List.getElem?_append_right c] at h
    exact hb _ q h
theorem P_appR2 {D : va_G} {cl : List vw_C} {a b : va_W} {H : Heap} (h : va_P D cl (a ++ b) H) : va_P D cl b H := fun k q hk => h (a.length + k) q (by rw [List.getElem?_append_right (Nat.le_add_right _ _), Nat.add_sub_cancel_left]; exact hk)
theorem J_at {a b : va_W} {k : Nat} {q : Nat × va_E} (h : a[k]? = some q) : (a ++ b)[k]? = some q := by
  rw [List.getElem?_append_left (List.getElem?_eq_some_iff.mp h).1]
  exact h
theorem J_set {D : va_G} {cl : List vw_C} {a b : va_W} {k : Nat} {q x : Nat × va_E} {H : Heap} (hq : a[k]? = some q) (h : va_P D cl ((a ++ b).set k x) H) : va_P D cl (a.set k x) H ∧ va_P D cl b H := by
  rw [List.set_append_left _ _ (List.getElem?_eq_some_iff.mp hq).1] at h
  exact ⟨P_appL h, P_appR2 h⟩
def AptJ (ρ : Rf) (M : Mf) (k : Nat) : Prop := AptA ρ k ∧ AptS M k ∧ ∀ q, ownB ρ k q → ¬ ownS M k q
def ownJ (ρ : Rf) (M : Mf) (k : Nat) : Nat → Prop := fun q => ownB ρ k q ∨ ownS M k q
def jA (ρ : Rf) (M : Mf) (k : Nat) (H : Heap) : Nat → Prop := fun q => ownJ ρ M k q ∨ H.size ≤ q
theorem soc_own_of {cs : Cs} {ρ : Rf} {σ : PS} {k : Nat} {q : Nat × va_E} (h : (socW cs ρ σ)[k]? = some q) : ownB ρ (sK σ) q.1 := by
  rcases socW_inv h with ⟨-, e⟩ | ⟨-, e⟩ | ⟨i, hi, -, e⟩ | ⟨h0, -, e⟩ <;> rw [e]
  · exact Or.inl rfl
  · exact Or.inr (Or.inl rfl)
  · exact Or.inr (Or.inr (Or.inr ⟨i, hi, rfl⟩))
  · exact Or.inr (Or.inr (Or.inl ⟨h0, rfl⟩))
theorem sim_own_of {cs : Cs} {M : Mf} {σ : PS} {k : Nat} {q : Nat × va_E} (h : (simW cs M σ)[k]? = some q) : ownS M (sK σ) q.1 := by
  rcases simW_inv h with ⟨-, e⟩ | ⟨-, e⟩ | ⟨i, hi, -, e⟩ <;> rw [e]
  · exact Or.inl rfl
  · exact Or.inr (Or.inl rfl)
  · exact Or.inr (Or.inr ⟨i, hi, rfl⟩)
theorem soc_own_lt {D : va_G} {cs : Cs} {ρ : Rf} {σ : PS} {H : Heap} (hP : Soc D cs ρ σ H) : ∀ q, ownB ρ (sK σ) q → q < H.size := by
  intro q h
  rcases h with h | h | ⟨h0, h⟩ | ⟨i, hi, h⟩ <;> rw [h]
  · exact hP.1.lt
  · exact hP.2.1.1.lt
  · exact (hP.2.1.2 h0).lt
  · exact (hP.2.2 i hi).lt
/-- the law's cells ahead, the class's behind them -/
theorem J_D {cs : Cs} {ρ : Rf} {M : Mf} {τ σ : PS} {H0 : Heap} (hap : AptJ ρ M (sK σ)) (hk : sK τ = sK σ) : va_D (jA ρ M (sK σ) H0) (simW cs M τ ++ socW cs ρ σ) := by
  obtain ⟨h1, h2, h3⟩ := hap
  refine D_app (sim_D (by rw [hk]; exact h2) (fun q h => Or.inl (Or.inr (own_k hk h)))) (soc_D h1 (fun q h => Or.inl (Or.inl h))) (fun i j x y hi hj e => ?_)
  have a1 := sim_own_of hi
  have a2 := soc_own_of hj
  rw [hk] at a1
  exact h3 y.1 a2 (e ▸ a1)
/-- what a Throwable reads of statics lies outside A -/
def ThrA (A : Nat → Prop) (U : State) : Prop := (∀ q ∈ txW, ∃ sa : Nat, vk_R RX1 q.1 q.2 sa U) ∧ vx_Zq Bundle.tN "UNASSIGNED_STACK" Bundle.steD A U U.heap ∧ vx_Zq Bundle.tN "SUPPRESSED_SENTINEL" Bundle.listD A U U.heap
theorem ThrA.move {A B : Nat → Prop} {u U : State} (hT : ThrA A u) (hW : u.WarmedH U.vm) (hk : ∀ q : Nat, q < u.heap.size → ¬ A q → U.heap[q]? = u.heap[q]?) (hBA : ∀ q, B q → A q) : ThrA B U := by
  refine ⟨fun q hq => ?_, ?_, ?_⟩
  · obtain ⟨sa, h⟩ := hT.1 q hq
    exact ⟨sa, vk_R.warm hW h⟩
  · exact ((vx_Zq.moved hW.alike hT.2.1).kept hk).narrow hBA
  · exact ((vx_Zq.moved hW.alike hT.2.2).kept hk).narrow hBA
theorem ThrA.call {A : Nat → Prop} {U : State} {g : JFrame} {mk : MethodId} {a : Array Value} (h : ThrA A U) : ThrA A (U.calling g mk a) :=
  ⟨fun q hq => (h.1 q hq).elim fun sa k => ⟨sa, vk_R.same rfl k⟩, vx_Zq.moved (u := U) (U := U.calling g mk a) (Vm.Alike.refl U.vm) h.2.1, vx_Zq.moved (u := U) (U := U.calling g mk a) (Vm.Alike.refl U.vm) h.2.2⟩
theorem ThrA.thr {U : State} (h : ThrA (fun q => U.heap.size ≤ q) U) : ThrP U := h
theorem ta_V {s : State} {H : Heap} {C : String} {b : Addr} {As : List Value} {D : va_G} {cs : Cs} {P : Heap → Prop} {A : Nat → Prop} {locs : List Loc} (hK : va_K D vwCl (tyz cs) s) (hN : Nst s) (hP : P H) (hT : ThrA A s) (hS : va_S A s.heap H locs) (hA : ∀ q, s.heap.size ≤ q → A q) (hr : ∃ cell : Cell, H[b]? = some cell ∧ cell.vm.isStatics = false ∧ s.vm.findClass C = some cell.cls) : PreV s H C b (va_Pc (.ref b :: As) (TBp D cs P)) As :=
  ⟨tb_blind, hr, fun U hU hW => ⟨rfl, ⟨by rw [hU]; exact hP, va_K.moved hW.alike hK, Nst.warm hW hN⟩, ThrA.thr (hT.move hW (fun q h1 h2 => by rw [hU]; exact hS.2.1 q h1 h2) (fun q h => hA q (Nat.le_trans hS.1 (by rw [hU] at h; exact h))))⟩⟩
theorem tj_b {av : List Value} {D : va_G} {cs : Cs} {P : Heap → Prop} {A : Nat → Prop} {e0 : Nat} : FrameBlind (va_Pc av (fun U => TBp D cs P U ∧ DefP A e0 U)) :=
  fun a U g mk q => ⟨q.1, (tb_blind (av := av) a U g mk ⟨q.1, q.2.1⟩).2, DefP_b U g mk a q.2.2⟩
theorem tja_V {s : State} {H : Heap} {C : String} {b : Addr} {As : List Value} {D : va_G} {cs : Cs} {P : Heap → Prop} {A B : Nat → Prop} {e0 : Nat} {locs : List Loc} (hK : va_K D vwCl (tyz cs) s) (hN : Nst s) (hP : P H) (hT : ThrA A s) (hE : DefP A e0 s) (hS : va_S A s.heap H locs) (hA : ∀ q, s.heap.size ≤ q → A q) (hBA : ∀ q, B q → A q) (hr : ∃ cell : Cell, H[b]? = some cell ∧ cell.vm.isStatics = false ∧ s.vm.findClass C = some cell.cls) : PreV s H C b (va_Pc (.ref b :: As) (fun U => TBp D cs P U ∧ DefP B e0 U)) As :=
  ⟨tj_b, hr, fun U hU hW => ⟨rfl, ⟨⟨by rw [hU]; exact hP, va_K.moved hW.alike hK, Nst.warm hW hN⟩, ThrA.thr (hT.move hW (fun q h1 h2 => by rw [hU]; exact hS.2.1 q h1 h2) (fun q h => hA q (Nat.le_trans hS.1 (by rw [hU] at h; exact h))))⟩, hE.move hW.alike (fun q h1 h2 => by rw [hU]; exact hS.2.1 q h1 h2) hBA⟩⟩
/-- where something is done to both: what stands then -/
def JBp (D : va_G) (cs : Cs) (ρ : Rf) (M : Mf) (σ : PS) (e0 : Nat) (H0 : Heap) (U : State) : Prop := RBp D cs (fun X => X = H0 ∧ Soc D cs ρ σ X ∧ va_P D vwCl (simW cs M σ) X) U ∧ AoI U ∧ ThrA (jA ρ M (sK σ) H0) U ∧ DefP (jA ρ M (sK σ) H0) e0 U
theorem jb_blind {av : List Value} {D : va_G} {cs : Cs} {ρ : Rf} {M : Mf} {σ : PS} {e0 : Nat} {H0 : Heap} : FrameBlind (va_Pc av (JBp D cs ρ M σ e0 H0)) :=
  fun a U g mk q => ⟨q.1, (rb_blind (av := av) a U g mk ⟨q.1, q.2.1⟩).2, AoI.call U g mk a q.2.2.1, ThrA.call q.2.2.2.1, DefP_b U g mk a q.2.2.2.2⟩
theorem jb_S {s : State} {H : Heap} {As : List Value} {D : va_G} {cs : Cs} {ρ : Rf} {M : Mf} {σ : PS} {e0 : Nat} {A : Nat → Prop} {locs : List Loc} (hK : va_K D vwCl (tyz cs) s) (hN : Nst s) (hP : Soc D cs ρ σ H) (hM : va_P D vwCl (simW cs M σ) H) (hO : AoI s) (hT : ThrA A s) (hE : DefP A e0 s) (hS : va_S A s.heap H locs) (hA : ∀ q, jA ρ M (sK σ) H q → A q) : PreS s H (va_Pc As (JBp D cs ρ M σ e0 H)) As :=
  ⟨jb_blind, fun U hU hW => ⟨rfl, ⟨⟨hU, by rw [hU]; exact ⟨hP, hM⟩⟩, va_K.moved hW.alike hK, Nst.warm hW hN⟩, AoI.moved hW.alike hO, hT.move hW (fun q h1 h2 => by rw [hU]; exact hS.2.1 q h1 h2) hA, hE.move hW.alike (fun q h1 h2 => by rw [hU]; exact hS.2.1 q h1 h2) hA⟩⟩
/-- what stands when it has been done: the state then, the cells then -/
def JQr (D : va_G) (cs : Cs) (ρ : Rf) (M : Mf) (σ : PS) (H0 : Heap) (u : PS × Rf × Mf) (X : Heap) : Prop :=
  Soc D cs u.2.1 u.1 X ∧ va_P D vwCl (simW cs u.2.2 u.1) X ∧ AptJ u.2.1 u.2.2 (sK u.1) ∧ r_h u.2.1 = r_h ρ ∧ u.2.2.1 = M.1 ∧ ∀ q, ownJ u.2.1 u.2.2 (sK u.1) q → ownJ ρ M (sK σ) q ∨ H0.size ≤ q
theorem lv_cutN {p : Program} {l : Launch} {e : Env} {R : Room} {s : State} {m : MethodId} {args : Array Value} {below : List Frame} {meth : Method} {c : Code} {H : Heap} {locs : List Loc} {cells slots : Nat} {Q : State → Prop} {g : JFrame} (N : Nat) (G : Nat → JFrame) (k1 : ∀ y : Nat, y < N → W p l e R s m args below meth c H locs cells slots Q (G y)) (k2 : (∀ y : Nat, y < N → W p l e R s m args below meth c H locs cells slots Q (G y)) → W p l e R s m args below meth c H locs cells slots Q g) : W p l e R s m args below meth c H locs cells slots Q g := k2 k1
theorem xE1_0 {E : String} (h : xE1 E 0) : False := by
  rcases h with ⟨-, h⟩ | ⟨-, h⟩ | ⟨-, h⟩ <;> exact absurd h (by decide)
theorem xE2_0 {E : String} (h : xE2 E 0) : False := by
  rcases h with ⟨-, h⟩ | ⟨-, h⟩ <;> exact absurd h (by decide)
theorem xE3_0 {E : String} (h : xE3 E 0) : False := by
  rcases h with ⟨-, h⟩ | ⟨-, h⟩ <;> exact absurd h (by decide)
theorem xE1_3 {E : String} (h : xE1 E 3) : E = eIse := by
  rcases h with ⟨-, h⟩ | ⟨-, h⟩ | ⟨h, -⟩
  · exact absurd h (by decide)
  · exact absurd h (by decide)
  · exact h
theorem xE2_2 {E : String} (h : xE2 E 2) : E = eIse := by
  rcases h with ⟨-, h⟩ | ⟨h, -⟩
  · exact absurd h (by decide)
  · exact h
theorem xE3_2 {E : String} (h : xE3 E 2) : E = eIse := by
  rcases h with ⟨-, h⟩ | ⟨h, -⟩
  · exact absurd h (by decide)
  · exact h
theorem o_ok {op : Out} {v r : Int32} {τ u : PS} (h : op = (0, v, τ)) (hw : op = (0, r, u)) : r = v ∧ u = τ := by
  rw [h] at hw
  exact ⟨(congrArg (fun z : Out => z.2.1) hw).symm, (congrArg (fun z : Out => z.2.2) hw).symm⟩
theorem o_no {op : Out} {v r : Int32} {τ u : PS} {n : Nat} (h : op = (n + 1, v, τ)) (hw : op = (0, r, u)) : False := by
  rw [h] at hw
  exact absurd (congrArg Prod.fst hw) (Nat.succ_ne_zero n)
/-! the operations, by what the law's society finds -/
theorem upd_id {f : Nat → Int32} {i : Nat} : upd f i (f i) = f := by
  funext j
  by_cases c : j = i
  · subst c
    rw [pk_us]
  · rw [pk_un c]
theorem nI_1add (b : Nat) : (1 : Int32) + nI b = nI (1 + b) := nI_add 1 b
theorem buy_ok {B : Nat} {σ : PS} (hI : InvS B σ) {k b : Nat} (hk : k < sK σ) (hb : b < 9) (c1 : sLa σ k = 0) (c2 : ¬ sPu σ k < nI (1 + b)) : buyO σ (nI k) (nI (1 + b)) = (0, sPu σ k - nI (1 + b), setPu (setLa σ (upd (sLa σ) k (nI (1 + b)))) (upd (sPu σ) k (sPu σ k - nI (1 + b)))) := by
  unfold buyO
  rw [ix_s hI hk]
  dsimp only
  rw [if_neg (show ¬ nI (1 + b) < 1 from nI_nlt (a := 1 + b) (b := 1) (by omega) (by omega)), if_pos (show nI (1 + b) ≤ 9 from nI_le (a := 1 + b) (b := 9) (by omega) (by omega)), if_pos (show sLa σ k ≤ 0 by rw [c1]; decide), if_pos (Int32.not_lt.mp c2)]
theorem buy_no {B : Nat} {σ : PS} (hT : InvT B σ) {k b : Nat} (hk : k < sK σ) (hb : b < 9) (c : ¬ sLa σ k = 0 ∨ sPu σ k < nI (1 + b)) : buyO σ (nI k) (nI (1 + b)) = (2 + 1, 0, σ) := by
  unfold buyO
  rw [ix_s hT.1 hk]
  dsimp only
  rw [if_neg (show ¬ nI (1 + b) < 1 from nI_nlt (a := 1 + b) (b := 1) (by omega) (by omega)), if_pos (show nI (1 + b) ≤ 9 from nI_le (a := 1 + b) (b := 9) (by omega) (by omega))]
  by_cases c1 : sLa σ k ≤ 0
  · rw [if_pos c1]
    rcases c with c | c
    · rcases la_cases hT hk with h | h
      · exact absurd h c
      · exact absurd c1 (Int32.not_le.mpr h)
    · rw [if_neg (Int32.not_le.mpr c)]
  · rw [if_neg c1]
theorem drop_ok {B : Nat} {σ : PS} (hT : InvT B σ) {k : Nat} (hk : k < sK σ) (c : ¬ sLa σ k ≤ 0) : dropO σ (nI k) = (0, sLa σ k, setLa σ (upd (sLa σ) k 0)) := by
  unfold dropO
  rw [ix_s hT.1 hk]
  dsimp only
  rw [if_pos (fun q => c (by rw [q]; decide))]
theorem la_0 {B : Nat} {σ : PS} (hT : InvT B σ) {k : Nat} (hk : k < sK σ) (c : sLa σ k ≤ 0) : sLa σ k = 0 := by
  rcases la_cases hT hk with h | h
  · exact h
  · exact absurd c (Int32.not_le.mpr h)
theorem drop_no {B : Nat} {σ : PS} (hT : InvT B σ) {k : Nat} (hk : k < sK σ) (c : sLa σ k ≤ 0) : dropO σ (nI k) = (1 + 1, 0, σ) := by
  unfold dropO
  rw [ix_s hT.1 hk]
  dsimp only
  rw [if_neg (fun q => q (la_0 hT hk c))]
theorem drop_same {B : Nat} {σ : PS} (hT : InvT B σ) {k : Nat} (hk : k < sK σ) (c : sLa σ k ≤ 0) : setLa σ (upd (sLa σ) k 0) = σ := by
  have e : upd (sLa σ) k 0 = sLa σ := by
    have := upd_id (f := sLa σ) (i := k)
    rw [la_0 hT hk c] at this
    exact this
  rw [e]
theorem canM_iff {B : Nat} {σ : PS} (hT : InvT B σ) {i o : Nat} (hi : i < sK σ) (ho : o < sK σ) : canM σ i o ↔ canB σ i o := by
  have h10 := hT.1.1
  constructor
  · rintro ⟨h1, -, h3, h4⟩
    refine ⟨fun q => h1 q.symm, h3, fun q => ?_⟩
    rcases h4 with h | h
    · rcases wear_cases hT.1 hi with e | ⟨j, hj, e⟩
      · exact q.1 e
      · rw [e] at h
        exact nI_pos (by omega) h
    · exact q.2 h
  · rintro ⟨h1, h3, h4⟩
    refine ⟨fun q => h1 q.symm, ((lend_iff hT ho).mpr h3).1, h3, ?_⟩
    by_cases c : sWe σ i = -1
    · exact Or.inl (by rw [c]; decide)
    · by_cases d : sWe σ i = nI i
      · exact Or.inr d
      · exact absurd ⟨c, d⟩ h4
theorem borr_ok {B : Nat} {σ : PS} (hT : InvT B σ) {k o : Nat} (hk : k < sK σ) (ho : o < sK σ) (hne : ¬ o = k) (c : canM σ k o) : borrO σ (nI k) (nI o) = (0, sHa σ o, bwS σ k o) := by
  have h10 := hT.1.1
  unfold borrO
  rw [ix_s hT.1 hk, ix_s hT.1 ho]
  dsimp only
  rw [if_pos (fun q => hne ((nI_eq (by omega) (by omega)).mp q).symm), if_pos ((canM_iff hT hk ho).mp c)]
theorem borr_no {B : Nat} {σ : PS} (hT : InvT B σ) {k o : Nat} (hk : k < sK σ) (ho : o < sK σ) (hne : ¬ o = k) (c : ¬ canM σ k o) : borrO σ (nI k) (nI o) = (2 + 1, 0, σ) := by
  have h10 := hT.1.1
  unfold borrO
  rw [ix_s hT.1 hk, ix_s hT.1 ho]
  dsimp only
  rw [if_pos (fun q => hne ((nI_eq (by omega) (by omega)).mp q).symm), if_neg (fun q => c ((canM_iff hT hk ho).mpr q))]
theorem give_no {B : Nat} {σ : PS} (hI : InvS B σ) {k : Nat} (hk : k < sK σ) (c : ¬ wBor σ k) : giveO σ (nI k) = (1 + 1, 0, σ) := by
  unfold giveO
  rw [ix_s hI hk]
  dsimp only
  rw [if_neg c]
theorem cert_ok {B : Nat} {σ : PS} (hI : InvS B σ) {k : Nat} (hk : k < sK σ) (c : ¬ sLo σ k ≥ 3) : certO σ (nI k) = (0, shadS σ k (dayOf σ), setAt (setCe σ (upd (sCe σ) k (shadS σ k (dayOf σ)))) (upd (sAt σ) k (dayOf σ))) := by
  unfold certO
  rw [ix_s hI hk]
  dsimp only
  rw [if_neg c]
theorem cert_no {B : Nat} {σ : PS} (hI : InvS B σ) {k : Nat} (hk : k < sK σ) (c : sLo σ k ≥ 3) : certO σ (nI k) = (1 + 1, 0, σ) := by
  unfold certO
  rw [ix_s hI hk]
  dsimp only
  rw [if_pos c]
theorem pass_ok {σ : PS} {h : Nat} (h1 : 1 ≤ h) (h2 : h ≤ 72) : passO σ (nI h) = (0, sRv (passN σ h) - sRv σ, passN σ h) := by
  unfold passO
  rw [if_neg (show ¬ nI h < 1 from nI_nlt (a := h) (b := 1) (by omega) (by omega)), if_pos (show nI h ≤ 72 from nI_le (a := h) (b := 72) (by omega) (by omega)), nI_clamp (by omega)]
theorem join_ok {σ : PS} {a b : Nat} (ha : a < 99) (hb : b < 21) (c : ¬ nI (sK σ) ≥ 10) : joinO σ (nI (1 + a)) (nI b) = (0, nI (sK σ), joinS σ (nI (1 + a)) (nI b)) := by
  unfold joinO
  rw [if_neg (show ¬ nI (1 + a) < 1 from nI_nlt (a := 1 + a) (b := 1) (by omega) (by omega)), if_pos (show nI (1 + a) ≤ 99 from nI_le (a := 1 + a) (b := 99) (by omega) (by omega)), if_neg (nI_pos (by omega)), if_pos (show nI b ≤ 20 from nI_le (a := b) (b := 20) (by omega) (by omega)), if_pos (Int32.not_le.mp c)]
theorem join_no {σ : PS} {a b : Nat} (ha : a < 99) (hb : b < 21) (c : nI (sK σ) ≥ 10) : joinO σ (nI (1 + a)) (nI b) = (1 + 1, 0, σ) := by
  unfold joinO
  rw [if_neg (show ¬ nI (1 + a) < 1 from nI_nlt (a := 1 + a) (b := 1) (by omega) (by omega)), if_pos (show nI (1 + a) ≤ 99 from nI_le (a := 1 + a) (b := 99) (by omega) (by omega)), if_neg (nI_pos (by omega)), if_pos (show nI b ≤ 20 from nI_le (a := b) (b := 20) (by omega) (by omega)), if_neg (Int32.not_lt.mpr c)]
