/-! A START OVER AN EXPLICIT WORLD, and what the empty list's static array is -/
def DefP (A : Nat → Prop) (e0 : Nat) (U : State) : Prop := va_Z "java/util/ArrayList" "DEFAULTCAPACITY_EMPTY_ELEMENTDATA" "[Ljava/lang/Object;" (.ref e0) A U U.heap ∧ va_T (.object "java/lang/Object") e0 0 (fun _ => .null) A U U.heap ∧ va_AO "java/lang/Object" U
theorem DefP.call {A : Nat → Prop} {e0 : Nat} {U : State} {g : JFrame} {mk : MethodId} {a : Array Value} (h : DefP A e0 U) : DefP A e0 (U.calling g mk a) :=
  ⟨va_Z.moved (u := U) (U := U.calling g mk a) (Vm.Alike.refl U.vm) h.1, va_T.moved (u := U) (U := U.calling g mk a) (Vm.Alike.refl U.vm) h.2.1, va_AO.moved (u := U) (U := U.calling g mk a) (Vm.Alike.refl U.vm) h.2.2⟩
theorem DefP.move {A B : Nat → Prop} {e0 : Nat} {u U : State} (h : DefP A e0 u) (hvm : u.vm.Alike U.vm) (hk : ∀ q : Nat, q < u.heap.size → ¬ A q → U.heap[q]? = u.heap[q]?) (hBA : ∀ q, B q → A q) : DefP B e0 U :=
  ⟨((va_Z.moved hvm h.1).kept hk).narrow hBA, ((va_T.moved hvm h.2.1).kept hk).narrow hBA, va_AO.moved hvm h.2.2⟩
def LBp (D : va_G) (cs : Cs) (ws : va_W) (H0 : Heap) (E : State → Prop) (U : State) : Prop := RBp D cs (fun X => X = H0 ∧ va_P D vwCl ws X ∧ va_D (fun _ => True) ws) U ∧ E U
theorem lb_blind {av : List Value} {D : va_G} {cs : Cs} {ws : va_W} {H0 : Heap} {E : State → Prop} (hE : ∀ U g mk a, E U → E (State.calling U g mk a)) : FrameBlind (va_Pc av (LBp D cs ws H0 E)) :=
  fun a U g mk q => ⟨q.1, (rb_blind (av := av) a U g mk ⟨q.1, q.2.1⟩).2, hE U g mk a q.2.2⟩
theorem lb_V {s : State} {H : Heap} {C : String} {b : Addr} {As : List Value} {D : va_G} {cs : Cs} {ws : va_W} {E : State → Prop} {A : Nat → Prop} (hK : va_K D vwCl (tyz cs) s) (hN : Nst s) (hP : va_P D vwCl ws H) (hD : va_D A ws) (hb : ∀ U g mk a, E U → E (State.calling U g mk a)) (hE : ∀ U : State, U.heap = H → s.WarmedH U.vm → E U) (hr : ∃ cell : Cell, H[b]? = some cell ∧ cell.vm.isStatics = false ∧ s.vm.findClass C = some cell.cls) : PreV s H C b (va_Pc (.ref b :: As) (LBp D cs ws H E)) As :=
  ⟨lb_blind hb, hr, fun U hU hW => ⟨rfl, ⟨⟨hU, by rw [hU]; exact hP, hD.weaken (fun _ _ _ _ => trivial)⟩, va_K.moved hW.alike hK, Nst.warm hW hN⟩, hE U hU hW⟩⟩
theorem lb_I {s : State} {H : Heap} {As : List Value} {D : va_G} {cs : Cs} {ws : va_W} {E : State → Prop} {A : Nat → Prop} (hK : va_K D vwCl (tyz cs) s) (hN : Nst s) (hP : va_P D vwCl ws H) (hD : va_D A ws) (hb : ∀ U g mk a, E U → E (State.calling U g mk a)) (hE : ∀ U : State, U.heap = H → s.WarmedH U.vm → E U) : PreS s H (va_Pc As (LBp D cs ws H E)) As :=
  ⟨lb_blind hb, fun U hU hW => ⟨rfl, ⟨⟨hU, by rw [hU]; exact hP, hD.weaken (fun _ _ _ _ => trivial)⟩, va_K.moved hW.alike hK, Nst.warm hW hN⟩, hE U hU hW⟩⟩
def E0 : State → Prop := fun _ => True
theorem E0_b : ∀ U g mk a, E0 U → E0 (State.calling U g mk a) := fun _ _ _ _ _ => trivial
theorem DefP_b {A : Nat → Prop} {e0 : Nat} : ∀ U g mk a, DefP A e0 U → DefP A e0 (State.calling U g mk a) := fun _ _ _ _ h => h.call
theorem RA_eq {U : State} {c1 c2 : ClassId} {C : String} (h1 : va_RA U c1 (.object C)) (h2 : va_RA U c2 (.object C)) : c1 = c2 := by
  obtain ⟨_, _, _, _, _, e1⟩ := h1
  obtain ⟨_, _, _, _, _, e2⟩ := h2
  exact Option.some.inj (e1.symm.trans e2)
