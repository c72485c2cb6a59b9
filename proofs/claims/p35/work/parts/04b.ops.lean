/-! THE CALLS, as functions of the state: which way out (0: an answer; else the number of the exception in the law's order), the answer, the state behind it. -/
abbrev eIob : String := "java/lang/IndexOutOfBoundsException"
abbrev eIae : String := "java/lang/IllegalArgumentException"
abbrev eIse : String := "java/lang/IllegalStateException"
def ixS (σ : PS) (a : Int32) : Option Nat := if a < 0 then none else if nI (sK σ) ≤ a then none else some a.toNatClampNeg
theorem ix_s {B : Nat} {σ : PS} (hI : InvS B σ) {i : Nat} (hi : i < sK σ) : ixS σ (nI i) = some i := by
  have h10 := hI.1
  unfold ixS
  rw [if_neg (nI_pos (by omega)), if_neg (nI_ge hi (by omega)), nI_clamp (by omega)]
theorem ix_n {σ : PS} {a : Int32} (h : a < 0 ∨ nI (sK σ) ≤ a) : ixS σ a = none := by
  unfold ixS
  rcases h with h | h
  · rw [if_pos h]
  · by_cases c : a < 0
    · rw [if_pos c]
    · rw [if_neg c, if_pos h]
theorem ix_c {B : Nat} {σ : PS} (hI : InvS B σ) (a : Int32) : (ixS σ a = none ∧ (a < 0 ∨ nI (sK σ) ≤ a)) ∨ ∃ i, i < sK σ ∧ a = nI i ∧ ixS σ a = some i := by
  have h10 := hI.1
  rcases pk_ix a (n := sK σ) (by omega) with h | h | ⟨j, hj, h⟩
  · exact Or.inl ⟨ix_n (Or.inl h), Or.inl h⟩
  · exact Or.inl ⟨ix_n (Or.inr h), Or.inr h⟩
  · subst h
    exact Or.inr ⟨j, hj, rfl, ix_s hI hj⟩
abbrev setPu (σ : PS) (f : Nat → Int32) : PS := (sK σ, (sHr σ, sSz σ, sRv σ), sHe σ, sHa σ, f, sLa σ, sWe σ, sCe σ, sAt σ, sLo σ)
abbrev setLa (σ : PS) (f : Nat → Int32) : PS := (sK σ, (sHr σ, sSz σ, sRv σ), sHe σ, sHa σ, sPu σ, f, sWe σ, sCe σ, sAt σ, sLo σ)
abbrev setWe (σ : PS) (f : Nat → Int32) : PS := (sK σ, (sHr σ, sSz σ, sRv σ), sHe σ, sHa σ, sPu σ, sLa σ, f, sCe σ, sAt σ, sLo σ)
abbrev setCe (σ : PS) (f : Nat → Int32) : PS := (sK σ, (sHr σ, sSz σ, sRv σ), sHe σ, sHa σ, sPu σ, sLa σ, sWe σ, f, sAt σ, sLo σ)
abbrev setAt (σ : PS) (f : Nat → Int32) : PS := (sK σ, (sHr σ, sSz σ, sRv σ), sHe σ, sHa σ, sPu σ, sLa σ, sWe σ, sCe σ, f, sLo σ)
abbrev setLo (σ : PS) (f : Nat → Int32) : PS := (sK σ, (sHr σ, sSz σ, sRv σ), sHe σ, sHa σ, sPu σ, sLa σ, sWe σ, sCe σ, sAt σ, f)
abbrev setHr (σ : PS) (x : Int32) : PS := (sK σ, (x, sSz σ, sRv σ), sHe σ, sHa σ, sPu σ, sLa σ, sWe σ, sCe σ, sAt σ, sLo σ)
abbrev setSz (σ : PS) (x : Int32) : PS := (sK σ, (sHr σ, x, sRv σ), sHe σ, sHa σ, sPu σ, sLa σ, sWe σ, sCe σ, sAt σ, sLo σ)
abbrev setRv (σ : PS) (x : Int32) : PS := (sK σ, (sHr σ, sSz σ, x), sHe σ, sHa σ, sPu σ, sLa σ, sWe σ, sCe σ, sAt σ, sLo σ)
/-- a call that only reads of one member -/
def rdO (σ : PS) (a : Int32) (f : Nat → Int32) : Nat × Int32 := match ixS σ a with
  | none => (1, 0)
  | some i => (0, f i)
def honO (σ : PS) (a h : Int32) : Nat × Int32 := match ixS σ a with
  | none => (1, 0)
  | some i => if h < 0 then (1, 0) else if h < 24 then (0, honsS σ i h) else (1, 0)
def isHO (σ : PS) (a : Int32) : Nat × Int32 := match ixS σ a with
  | none => (1, 0)
  | some i => if hasC σ i then (0, b01 (hasC σ i ∧ truC σ i)) else (2, 0)
abbrev Out : Type := Nat × Int32 × PS
/-- the own hat, if there is one -/
def ownH (σ : PS) (i : Nat) : Int32 := if 0 < sHa σ i then nI i else -1
def joinS (σ : PS) (a b : Int32) : PS := (sK σ + 1, (sHr σ, sSz σ, sRv σ), upd (sHe σ) (sK σ) a, upd (sHa σ) (sK σ) b, upd (sPu σ) (sK σ) 50, sLa σ, upd (sWe σ) (sK σ) (if 0 < b then nI (sK σ) else -1), upd (sCe σ) (sK σ) (-1), sAt σ, sLo σ)
def joinO (σ : PS) (a b : Int32) : Out :=
  if a < 1 then (1, 0, σ) else if a ≤ 99 then (if b < 0 then (1, 0, σ) else if b ≤ 20 then (if nI (sK σ) < 10 then
    (0, nI (sK σ), joinS σ a b) else (2, 0, σ)) else (1, 0, σ)) else (1, 0, σ)
def buyO (σ : PS) (a b : Int32) : Out := match ixS σ a with
  | none => (1, 0, σ)
  | some i => if b < 1 then (2, 0, σ) else if b ≤ 9 then (if sLa σ i ≤ 0 then (if b ≤ sPu σ i then
      (0, sPu σ i - b, setLa (setPu σ (upd (sPu σ) i (sPu σ i - b))) (upd (sLa σ) i b)) else (3, 0, σ)) else (3, 0, σ)) else (2, 0, σ)
def dropO (σ : PS) (a : Int32) : Out := match ixS σ a with
  | none => (1, 0, σ)
  | some i => if ¬ sLa σ i = 0 then (0, sLa σ i, setLa σ (upd (sLa σ) i 0)) else (2, 0, σ)
def borrO (σ : PS) (a b : Int32) : Out := match ixS σ a, ixS σ b with
  | none, _ => (1, 0, σ)
  | _, none => (1, 0, σ)
  | some i, some o => if ¬ a = b then (if canB σ i o then (0, sHa σ o, setWe σ (upd (upd (sWe σ) o (-1)) i (nI o))) else (3, 0, σ)) else (2, 0, σ)
/-- what member i wears, having given a hat back -/
def backW (σ : PS) (i : Nat) : Int32 := if lentS σ i then -1 else ownH σ i
def giveO (σ : PS) (a : Int32) : Out := match ixS σ a with
  | none => (1, 0, σ)
  | some i => if wBor σ i then
      (0, sWe σ i, setWe σ (if sWe σ (sWe σ i).toNatClampNeg = -1 then upd (upd (sWe σ) i (backW σ i)) (sWe σ i).toNatClampNeg (sWe σ i) else upd (sWe σ) i (backW σ i))) else (2, 0, σ)
def certO (σ : PS) (a : Int32) : Out := match ixS σ a with
  | none => (1, 0, σ)
  | some i => if outS σ i then (2, 0, σ) else (0, shadS σ i (dayOf σ), setAt (setCe σ (upd (sCe σ) i (shadS σ i (dayOf σ)))) (upd (sAt σ) i (dayOf σ)))
/-- an audit: lamps seized and paid for, hats home, certificates judged -/
abbrev falS (σ : PS) (i : Nat) : Prop := hasC σ i ∧ ¬ truC σ i
def seizN (σ : PS) : Nat → PS
  | 0 => σ
  | n + 1 => if sLa (seizN σ n) n ≤ 0 then seizN σ n else setSz (setLa (setPu (seizN σ n) (upd (sPu (seizN σ n)) n (sPu (seizN σ n) n - 2 * sLa (seizN σ n) n))) (upd (sLa (seizN σ n)) n 0)) (sSz (seizN σ n) + 1)
def hatsN (σ : PS) : Nat → PS
  | 0 => σ
  | n + 1 => setWe (hatsN σ n) (upd (sWe (hatsN σ n)) n (ownH (hatsN σ n) n))
def judgN (σ : PS) : Nat → PS
  | 0 => σ
  | n + 1 => if falS (judgN σ n) n then setRv (setLo (setCe (setPu (judgN σ n) (upd (sPu (judgN σ n)) n (sPu (judgN σ n) n + gainC (judgN σ n) n))) (upd (sCe (judgN σ n)) n (-1))) (upd (sLo (judgN σ n)) n (sLo (judgN σ n) n + 1))) (sRv (judgN σ n) + 1)
      else setPu (judgN σ n) (upd (sPu (judgN σ n)) n (sPu (judgN σ n) n + gainC (judgN σ n) n))
def audS (σ : PS) : PS := judgN (hatsN (seizN σ (sK σ)) (sK (seizN σ (sK σ)))) (sK (hatsN (seizN σ (sK σ)) (sK (seizN σ (sK σ)))))
/-- an hour -/
def hourS (σ : PS) : PS := if ¬ dayOf (setHr σ (sHr σ + 1)) = 12 then setHr σ (sHr σ + 1) else audS (setHr σ (sHr σ + 1))
def passN (σ : PS) : Nat → PS
  | 0 => σ
  | n + 1 => hourS (passN σ n)
def passO (σ : PS) (a : Int32) : Out := if a < 1 then (1, 0, σ) else if a ≤ 72 then (0, sRv (passN σ a.toNatClampNeg) - sRv σ, passN σ a.toNatClampNeg) else (1, 0, σ)
/-! a start of a method that may throw: the texts of its exceptions, the statics that a Throwable reads -/
def txW : List (Nat × String) := [(28, "height is not 1 to 99"), (33, "hat is not 0 to 20"), (41, "there are 10 members"), (198, "there is no such member"), (63, "brightness is not 1 to 9"), (68, "this one has a lamp"), (73, "the purse has less"), (75, "there is no lamp"), (77, "both are the same"), (83, "this hat can't be borrowed now"), (92, "this one wears no borrowed hat"), (105, "this one is expelled"), (120, "hours is not 1 to 72"), (143, "hour is not 0 to 23"), (149, "there is no certificate")]
def ThrP (U : State) : Prop := (∀ q ∈ txW, ∃ sa : Nat, vk_R RX1 q.1 q.2 sa U) ∧ vx_Zq Bundle.tN "UNASSIGNED_STACK" Bundle.steD (fun q => U.heap.size ≤ q) U U.heap ∧ vx_Zq Bundle.tN "SUPPRESSED_SENTINEL" Bundle.listD (fun q => U.heap.size ≤ q) U U.heap
def TBp (D : va_G) (cs : Cs) (P : Heap → Prop) (U : State) : Prop := RBp D cs P U ∧ ThrP U
theorem ThrP.move {u U : State} (hT : ThrP u) (hW : u.WarmedH U.vm) (hz : u.heap.size ≤ U.heap.size) (hk : ∀ q : Nat, q < u.heap.size → U.heap[q]? = u.heap[q]?) : ThrP U := by
  refine ⟨fun q hq => ?_, ?_, ?_⟩
  · obtain ⟨sa, h⟩ := hT.1 q hq
    exact ⟨sa, vk_R.warm hW h⟩
  · exact ((vx_Zq.moved hW.alike hT.2.1).kept (fun a h _ => hk a h)).narrow (fun q h => Nat.le_trans hz h)
  · exact ((vx_Zq.moved hW.alike hT.2.2).kept (fun a h _ => hk a h)).narrow (fun q h => Nat.le_trans hz h)
theorem ThrP.call {U : State} {g : JFrame} {mk : MethodId} {a : Array Value} (h : ThrP U) : ThrP (U.calling g mk a) :=
  ⟨fun q hq => (h.1 q hq).elim fun sa k => ⟨sa, vk_R.same rfl k⟩, vx_Zq.moved (u := U) (U := U.calling g mk a) (Vm.Alike.refl U.vm) h.2.1, vx_Zq.moved (u := U) (U := U.calling g mk a) (Vm.Alike.refl U.vm) h.2.2⟩
theorem tb_blind {av : List Value} {D : va_G} {cs : Cs} {P : Heap → Prop} : FrameBlind (va_Pc av (TBp D cs P)) :=
  fun a U g mk q => ⟨q.1, (rb_blind (av := av) a U g mk ⟨q.1, q.2.1⟩).2, ThrP.call q.2.2⟩
theorem tb_V {s : State} {H : Heap} {C : String} {b : Addr} {As : List Value} {D : va_G} {cs : Cs} {P : Heap → Prop} (hK : va_K D vwCl (tyz cs) s) (hN : Nst s) (hP : P H) (hT : ThrP s) (hz : s.heap.size ≤ H.size) (hk : ∀ q : Nat, q < s.heap.size → H[q]? = s.heap[q]?) (hr : ∃ cell : Cell, H[b]? = some cell ∧ cell.vm.isStatics = false ∧ s.vm.findClass C = some cell.cls) : PreV s H C b (va_Pc (.ref b :: As) (TBp D cs P)) As :=
  ⟨tb_blind, hr, fun U hU hW => ⟨rfl, ⟨by rw [hU]; exact hP, va_K.moved hW.alike hK, Nst.warm hW hN⟩, hT.move hW (by rw [hU]; exact hz) (by rw [hU]; exact hk)⟩⟩
/-- the exception that a way out is -/
def xE1 (E : String) (c : Nat) : Prop := (E = eIob ∧ c = 1) ∨ (E = eIae ∧ c = 2) ∨ (E = eIse ∧ c = 3)
def xE2 (E : String) (c : Nat) : Prop := (E = eIob ∧ c = 1) ∨ (E = eIse ∧ c = 2)
def xE3 (E : String) (c : Nat) : Prop := (E = eIae ∧ c = 1) ∨ (E = eIse ∧ c = 2)
/-- the cells that are the society's; those that its methods may write -/
def ownB (ρ : Rf) (k : Nat) : Nat → Prop := fun q => q = r_h ρ ∨ q = r_q ρ ∨ (0 < k ∧ q = r_e ρ) ∨ ∃ i, i < k ∧ q = r_a ρ i
def ownA (ρ : Rf) (k : Nat) (H : Heap) : Nat → Prop := fun q => ownB ρ k q ∨ H.size ≤ q
/-- all its cells are different ones -/
def AptA (ρ : Rf) (k : Nat) : Prop := InjA ρ k ∧ r_h ρ ≠ r_q ρ ∧ (∀ i, i < k → r_a ρ i ≠ r_h ρ ∧ r_a ρ i ≠ r_q ρ ∧ r_a ρ i ≠ r_e ρ) ∧ (0 < k → r_h ρ ≠ r_e ρ ∧ r_q ρ ≠ r_e ρ)
