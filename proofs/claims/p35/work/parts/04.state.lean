/-! THE STATE: what the class's cells and the reference's cells hold, read off one value. PS: how many members; hour, seized, revoked; by member's number: height, hat, purse, lamp, wears, length certified (-1: none), its hour, revocations. -/
abbrev PS : Type := Nat × (Int32 × Int32 × Int32) × (Nat → Int32) × (Nat → Int32) × (Nat → Int32) × (Nat → Int32) × (Nat → Int32) × (Nat → Int32) × (Nat → Int32) × (Nat → Int32)
abbrev sK (σ : PS) : Nat := σ.1
abbrev sHr (σ : PS) : Int32 := σ.2.1.1
abbrev sSz (σ : PS) : Int32 := σ.2.1.2.1
abbrev sRv (σ : PS) : Int32 := σ.2.1.2.2
abbrev sHe (σ : PS) : Nat → Int32 := σ.2.2.1
abbrev sHa (σ : PS) : Nat → Int32 := σ.2.2.2.1
abbrev sPu (σ : PS) : Nat → Int32 := σ.2.2.2.2.1
abbrev sLa (σ : PS) : Nat → Int32 := σ.2.2.2.2.2.1
abbrev sWe (σ : PS) : Nat → Int32 := σ.2.2.2.2.2.2.1
abbrev sCe (σ : PS) : Nat → Int32 := σ.2.2.2.2.2.2.2.1
abbrev sAt (σ : PS) : Nat → Int32 := σ.2.2.2.2.2.2.2.2.1
abbrev sLo (σ : PS) : Nat → Int32 := σ.2.2.2.2.2.2.2.2.2
/-- what the walks need of a state; B: a bound of the hour -/
def InvS (B : Nat) (σ : PS) : Prop := sK σ ≤ 10 ∧ B ≤ 40000 ∧ (∃ h : Nat, h ≤ B ∧ sHr σ = nI h) ∧ (∀ i, i < sK σ → sWe σ i = -1 ∨ ∃ j : Nat, j < sK σ ∧ sWe σ i = nI j)
/-- what stands of every state that calls reach -/
def InvT (B : Nat) (σ : PS) : Prop := InvS B σ ∧
  (∀ i, i < sK σ → (∃ a : Nat, 1 ≤ a ∧ a ≤ 99 ∧ sHe σ i = nI a) ∧ (∃ b : Nat, b ≤ 20 ∧ sHa σ i = nI b) ∧ (∃ c : Nat, c ≤ 9 ∧ sLa σ i = nI c)) ∧
  (∀ i j, i < sK σ → j < sK σ → sWe σ i = nI j → ¬ sHa σ j = 0) ∧
  (∀ i j, i < sK σ → j < sK σ → sWe σ i = sWe σ j → sWe σ i = -1 ∨ i = j) ∧
  (∀ i, sK σ ≤ i → sLa σ i = 0 ∧ sAt σ i = 0 ∧ sLo σ i = 0)
/-! what the calls read, as functions of the state -/
def dayOf (σ : PS) : Int32 := sHr σ - sHr σ / 24 * 24
def natSh (x h : Int32) : Int32 := if h < 7 then 0 else if h ≤ 17 then x * (if 0 ≤ h - 12 then h - 12 else 0 - (h - 12)) / 2 else 0
def wornH (σ : PS) (i : Nat) : Int32 := if sWe σ i = -1 then 0 else sHa σ (sWe σ i).toNatClampNeg
def shadS (σ : PS) (i : Nat) (h : Int32) : Int32 := natSh (sHe σ i + wornH σ i) h + 3 * sLa σ i
def honsS (σ : PS) (i : Nat) (h : Int32) : Int32 := natSh (sHe σ i + sHa σ i) h
def b01 (p : Prop) [Decidable p] : Int32 := if p then 1 else 0
theorem b01_nar (p : Prop) [Decidable p] : narrow .boolean (.int (b01 p)) = .int (b01 p) := by
  unfold b01
  split <;> rfl
theorem b01_t {p : Prop} [Decidable p] (h : p) : b01 p = 1 := if_pos h
theorem b01_f {p : Prop} [Decidable p] (h : ¬ p) : b01 p = 0 := if_neg h
theorem b01_0 {p : Prop} [Decidable p] : b01 p = 0 ↔ ¬ p := by
  unfold b01
  split <;> simp_all
theorem b01_n {p : Prop} [Decidable p] : ¬ b01 p = 0 ↔ p := by
  unfold b01
  split <;> simp_all
abbrev hasC (σ : PS) (i : Nat) : Prop := ¬ sCe σ i = -1
abbrev truC (σ : PS) (i : Nat) : Prop := sCe σ i = honsS σ i (sAt σ i)
abbrev outS (σ : PS) (i : Nat) : Prop := 3 ≤ sLo σ i
abbrev wOwn (σ : PS) (i : Nat) : Prop := sWe σ i = nI i
abbrev wBor (σ : PS) (i : Nat) : Prop := ¬ sWe σ i = -1 ∧ ¬ sWe σ i = nI i
def gainC (σ : PS) (i : Nat) : Int32 := if sCe σ i = -1 then 0 else if sCe σ i = honsS σ i (sAt σ i) then 3 else -10
def gainS (σ : PS) (i : Nat) : Int32 := gainC σ i - 2 * sLa σ i
def untS (σ : PS) : Int32 := if dayOf σ < 12 then 12 - dayOf σ else 36 - dayOf σ
abbrev lentS (σ : PS) (i : Nat) : Prop := ∃ j, j < sK σ ∧ ¬ j = i ∧ sWe σ j = nI i
/-- how many, as the loops count -/
def cntS (p : Nat → Prop) [DecidablePred p] : Nat → Int32
  | 0 => 0
  | n + 1 => cntS p n + b01 (p n)
/-- the first of the greatest among those that p lets in, as the loops find it; -1 for none -/
def ampS (p : Nat → Prop) [DecidablePred p] (f : Nat → Int32) : Nat → Int32
  | 0 => -1
  | n + 1 => if p n then (if ampS p f n = -1 then nI n else if f n ≤ f (ampS p f n).toNatClampNeg then ampS p f n else nI n) else ampS p f n
/-- what it is worth; 0 for none -/
def ampV (p : Nat → Prop) [DecidablePred p] (f : Nat → Int32) (n : Nat) : Int32 := if ampS p f n = -1 then 0 else f (ampS p f n).toNatClampNeg
abbrev amxS (f : Nat → Int32) (n : Nat) : Int32 := ampS (fun _ => True) f n
abbrev amxV (f : Nat → Int32) (n : Nat) : Int32 := ampV (fun _ => True) f n
def sumS (f : Nat → Int32) : Nat → Int32
  | 0 => 0
  | n + 1 => sumS f n + f n
/-- who can be borrowed from -/
abbrev canB (σ : PS) (i o : Nat) : Prop := ¬ o = i ∧ wOwn σ o ∧ ¬ wBor σ i
def hatShS (σ : PS) (i o : Nat) : Int32 := natSh (sHe σ i + sHa σ o) (dayOf σ)
def bestS (σ : PS) (i : Nat) : Int32 := ampS (fun o => canB σ i o) (fun o => hatShS σ i o) (sK σ)
/-- the shadow in d hours -/
def aheadS (σ : PS) (i : Nat) (d : Int32) : Int32 := if d < untS σ then shadS σ i ((dayOf σ + d) - (dayOf σ + d) / 24 * 24) else honsS σ i ((dayOf σ + d) - (dayOf σ + d) / 24 * 24)
def longInS (σ : PS) (i : Nat) : Int32 := amxS (fun d => aheadS σ i (nI d)) 24
def mixL (d x : Int64) : Int64 := d * 31 + x
abbrev mixS (d : Int64) (x : Int32) : Int64 := mixL d x.toInt64
def digM (σ : PS) (d : Int64) (i : Nat) : Int64 :=
  mixS (mixS (mixS (mixS (mixS (mixS (mixS (mixS (mixS (mixS (mixS d (sLa σ i)) (sPu σ i)) (sWe σ i)) (wornH σ i)) (b01 (lentS σ i))) (b01 (outS σ i))) (shadS σ i (dayOf σ))) (sCe σ i)) (gainS σ i)) (bestS σ i)) (longInS σ i)
def digL (σ : PS) (d : Int64) : Nat → Int64
  | 0 => d
  | n + 1 => digM σ (digL σ d n) n
abbrev certsS (σ : PS) : Int32 := cntS (fun i => hasC σ i) (sK σ)
abbrev honOS (σ : PS) : Int32 := cntS (fun i => hasC σ i ∧ truC σ i) (sK σ)
abbrev longS (σ : PS) : Int32 := amxS (fun i => shadS σ i (dayOf σ)) (sK σ)
abbrev richS (σ : PS) : Int32 := amxS (fun i => sPu σ i + gainS σ i) (sK σ)
def digS (σ : PS) : Int64 :=
  digL σ (mixS (mixS (mixS (mixS (mixS (mixS (mixS (mixS 1049 (nI (sK σ))) (sHr σ)) (sSz σ)) (sRv σ)) (certsS σ)) (honOS σ)) (longS σ)) (richS σ)) (sK σ)
/-! the machine's side: classes, arrays' classes, the words that a list of good ones can't hold -/
abbrev Cs : Type := ClassId × ClassId × (ClassId × ClassId)
abbrev tyz (cs : Cs) : List (ClassId × FieldType) := [(cs.1, .int), (cs.2.1, .object "java/lang/Object"), (cs.2.2.1, .array .int), (cs.2.2.2, .boolean)]
def isNx : Cond → Bool
  | .fieldLinkNest .. => true
  | .methodLinkNest .. => true
  | .castable .. => true
  | .declares _ => true
  | _ => false
def nxW : List Cond := [.methodLinkNest "ShadowSociety" 129 ⟨"ShadowSociety$Member", "hasCertificate", "()Z"⟩ "ShadowSociety", .methodLinkNest "ShadowSociety" 132 ⟨"ShadowSociety$Member", "hasHonestCertificate", "()Z"⟩ "ShadowSociety", .methodLinkNest "ShadowSociety$Member" 44 ⟨"ShadowSociety", "naturalShadow", "(II)I"⟩ "ShadowSociety", .methodLinkNest "ShadowSociety" 113 ⟨"ShadowSociety$Member", "shadowAt", "(I)I"⟩ "ShadowSociety", .methodLinkNest "ShadowSociety" 151 ⟨"ShadowSociety$Member", "gainAtAudit", "()I"⟩ "ShadowSociety", .methodLinkNest "ShadowSociety" 135 ⟨"ShadowSociety$Member", "numberOfHatOwner", "()I"⟩ "ShadowSociety", .methodLinkNest "ShadowSociety" 138 ⟨"ShadowSociety$Member", "heightOfWornHat", "()I"⟩ "ShadowSociety", .methodLinkNest "ShadowSociety" 102 ⟨"ShadowSociety$Member", "isOut", "()Z"⟩ "ShadowSociety", .methodLinkNest "ShadowSociety" 200 ⟨"ShadowSociety$Member", "wearsOwnHat", "()Z"⟩ "ShadowSociety", .methodLinkNest "ShadowSociety" 94 ⟨"ShadowSociety$Member", "wearsBorrowedHat", "()Z"⟩ "ShadowSociety", .methodLinkNest "ShadowSociety" 146 ⟨"ShadowSociety$Member", "honestShadowAt", "(I)I"⟩ "ShadowSociety", .castable "java/lang/IllegalArgumentException" "java/lang/IllegalArgumentException", .castable "java/lang/IllegalStateException" "java/lang/IllegalStateException", .methodLinkNest "ShadowSociety" 46 ⟨"ShadowSociety$Member", "<init>", "(III)V"⟩ "ShadowSociety", .fieldLinkNest "ShadowSociety" 56 "ShadowSociety$Member" "number" "I" "ShadowSociety", .fieldLinkNest "ShadowSociety" 221 "ShadowSociety$Member" "height" "I" "ShadowSociety", .fieldLinkNest "ShadowSociety" 89 "ShadowSociety$Member" "hat" "I" "ShadowSociety", .fieldLinkNest "ShadowSociety" 70 "ShadowSociety$Member" "purse" "I" "ShadowSociety", .fieldLinkNest "ShadowSociety" 65 "ShadowSociety$Member" "lamp" "I" "ShadowSociety", .fieldLinkNest "ShadowSociety" 85 "ShadowSociety$Member" "hatOwner" "LShadowSociety$Member;" "ShadowSociety", .fieldLinkNest "ShadowSociety" 117 "ShadowSociety$Member" "certifiedLength" "I" "ShadowSociety", .fieldLinkNest "ShadowSociety" 110 "ShadowSociety$Member" "certifiedHour" "I" "ShadowSociety", .fieldLinkNest "ShadowSociety" 218 "ShadowSociety$Member" "revocations" "I" "ShadowSociety", .methodLinkNest "ShadowSociety" 49 ⟨"ShadowSociety$Member", "putOnOwnHat", "()V"⟩ "ShadowSociety", .castable "java/lang/IndexOutOfBoundsException" "java/lang/IndexOutOfBoundsException", .methodLinkNest "ShadowSociety" 212 ⟨"ShadowSociety$Member", "fineForLamp", "()I"⟩ "ShadowSociety", .methodLinkNest "ShadowSociety" 215 ⟨"ShadowSociety$Member", "gainOfCertificate", "()I"⟩ "ShadowSociety", .castable "ShadowSociety$Member" "java/lang/Object", .declares ⟨"java/lang/RuntimeException", "<init>", "(Ljava/lang/String;)V"⟩, .declares ⟨"java/lang/Exception", "<init>", "(Ljava/lang/String;)V"⟩, .declares ⟨"java/lang/Throwable", "<init>", "(Ljava/lang/String;)V"⟩, .methodLinkNest "ShadowSocietyLaw" 67 ⟨"ShadowSocietyLaw$Sim", "<init>", "()V"⟩ "ShadowSocietyLaw", .castable "[I" "java/lang/Cloneable"]
theorem nxW_in : ∀ w ∈ nxW, w ∈ lw_tbl := by decide +kernel
theorem nxW_on : ∀ w ∈ nxW, w.onTables = true := by decide +kernel
theorem nxW_is : ∀ w ∈ nxW, isNx w = true := by decide +kernel
def Nst (U : State) : Prop := ∀ w ∈ nxW, va_Nw w U
theorem Nst.vm {u U : State} (h : u.vm = U.vm) (k : Nst u) : Nst U := fun w hw => va_Nw.same (nxW_on w hw) h (k w hw)
theorem nx_warm {s U : State} (hW : s.WarmedH U.vm) : ∀ w : Cond, isNx w = true → va_Nw w s → va_Nw w U := by
  intro w h1 h2
  cases w <;> first | (exact Bool.noConfusion h1) | exact va_Nw.warmF hW h2 | exact va_Nw.warmM hW h2 | exact va_Nw.warmC hW h2 | exact va_Nw.warmD hW h2
theorem Nst.warm {s U : State} (hW : s.WarmedH U.vm) (k : Nst s) : Nst U := fun w hw => nx_warm hW w (nxW_is w hw) (k w hw)
theorem Nst.use {U : State} (k : Nst U) {w : Cond} (hw : w ∈ nxW) {A : Array Value} : w.before A U = true := va_Nw.use (nxW_on w hw) (k w hw)
/-- a start: the picture P of the heap, the classes, the words -/
def RBp (D : va_G) (cs : Cs) (P : Heap → Prop) (U : State) : Prop := P U.heap ∧ va_K D vwCl (tyz cs) U ∧ Nst U
theorem rb_blind {av : List Value} {D : va_G} {cs : Cs} {P : Heap → Prop} : FrameBlind (va_Pc av (RBp D cs P)) :=
  fun a U g mk q => ⟨q.1, q.2.1, va_K.moved (u := U) (U := U.calling g mk a) (Vm.Alike.refl U.vm) q.2.2.1, Nst.vm (u := U) (U := U.calling g mk a) rfl q.2.2.2⟩
theorem rb_V {s : State} {H : Heap} {C : String} {b : Addr} {As : List Value} {D : va_G} {cs : Cs} {P : Heap → Prop} (hK : va_K D vwCl (tyz cs) s) (hN : Nst s) (hP : P H) (hr : ∃ cell : Cell, H[b]? = some cell ∧ cell.vm.isStatics = false ∧ s.vm.findClass C = some cell.cls) : PreV s H C b (va_Pc (.ref b :: As) (RBp D cs P)) As :=
  ⟨rb_blind, hr, fun U hU hW => ⟨rfl, by rw [hU]; exact hP, va_K.moved hW.alike hK, Nst.warm hW hN⟩⟩
theorem rb_S {s : State} {H : Heap} {As : List Value} {D : va_G} {cs : Cs} {P : Heap → Prop} (hK : va_K D vwCl (tyz cs) s) (hN : Nst s) (hP : P H) : PreS s H (va_Pc As (RBp D cs P)) As :=
  ⟨rb_blind, fun U hU hW => ⟨rfl, by rw [hU]; exact hP, va_K.moved hW.alike hK, Nst.warm hW hN⟩⟩
theorem one_P {D : va_G} {cl : List vw_C} {x : Nat × va_E} {H : Heap} (h : va_at D cl x H) : va_P D cl [x] H := by
  intro k q hk
  cases k with
  | zero => cases hk; exact h
  | succ k => cases hk
theorem P_one {D : va_G} {cl : List vw_C} {x : Nat × va_E} {H : Heap} (h : va_P D cl [x] H) : va_at D cl x H := h 0 x rfl
/-! the class's cells; ρ: the society's cell, the list's, its array's, the members', the list's modCount -/
abbrev Rf : Type := Nat × Nat × Nat × (Nat → Nat) × Int32
abbrev r_h (ρ : Rf) : Nat := ρ.1
abbrev r_q (ρ : Rf) : Nat := ρ.2.1
abbrev r_e (ρ : Rf) : Nat := ρ.2.2.1
abbrev r_a (ρ : Rf) : Nat → Nat := ρ.2.2.2.1
abbrev r_m (ρ : Rf) : Int32 := ρ.2.2.2.2
theorem nI_m1 {j : Nat} (hj : j < 2 ^ 31) : ¬ nI j = -1 := by
  intro q
  have h2 := congrArg Int32.toInt q
  rw [nI_toInt hj] at h2
  have h3 : (-1 : Int32).toInt = -1 := by decide
  rw [h3] at h2
  omega
def ownO (ad : Nat → Nat) (w : Int32) : Option Nat := if w = -1 then none else some (ad w.toNatClampNeg)
theorem own_n {ad : Nat → Nat} {w : Int32} (h : w = -1) : ownO ad w = none := if_pos h
theorem own_s {ad : Nat → Nat} {w : Int32} {j : Nat} (hj : j < 2 ^ 31) (h : w = nI j) : ownO ad w = some (ad j) := by
  unfold ownO
  rw [if_neg (by rw [h]; exact nI_m1 hj), h, nI_clamp hj]
def memF (ad : Nat → Nat) (σ : PS) (i : Nat) : List Value := [.int (nI i), .int (sHe σ i), .int (sHa σ i), .int (sPu σ i), .int (sLa σ i), va_rf (ownO ad (sWe σ i)), .int (sCe σ i), .int (sAt σ i), .int (sLo σ i)]
def elm (ad : Nat → Nat) (k : Nat) : Nat → Option Nat := fun i => if i < k then some (ad i) else none
def MemP (D : va_G) (ρ : Rf) (σ : PS) (H : Heap) : Prop := ∀ i, i < sK σ → va_at D vwCl (r_a ρ i, .inr (1, memF (r_a ρ) σ i)) H
def LstP (D : va_G) (cs : Cs) (ρ : Rf) (σ : PS) (H : Heap) : Prop :=
  va_at D vwCl (r_q ρ, .inr (0, [.int (r_m ρ), .ref (r_e ρ), .int (nI (sK σ))])) H ∧ (0 < sK σ → va_at D vwCl (r_e ρ, .inl (cs.2.1, 10, .inr (.inr (.inr (.inr (elm (r_a ρ) (sK σ))))))) H)
def Soc (D : va_G) (cs : Cs) (ρ : Rf) (σ : PS) (H : Heap) : Prop :=
  va_at D vwCl (r_h ρ, .inr (2, [.ref (r_q ρ), .int (sHr σ), .int (sSz σ), .int (sRv σ)])) H ∧ LstP D cs ρ σ H ∧ MemP D ρ σ H
/-- the members' cells are different ones -/
def InjA (ρ : Rf) (k : Nat) : Prop := ∀ i j, i < k → j < k → r_a ρ i = r_a ρ j → i = j
theorem wear_cases {B : Nat} {σ : PS} (hI : InvS B σ) {i : Nat} (hi : i < sK σ) : sWe σ i = -1 ∨ ∃ j : Nat, j < sK σ ∧ sWe σ i = nI j := hI.2.2.2 i hi
theorem memF_n {ad : Nat → Nat} {σ : PS} {i : Nat} (h : sWe σ i = -1) : (memF ad σ i)[5]? = some .null := by
  show some (va_rf (ownO ad (sWe σ i))) = _
  rw [own_n h]
  rfl
theorem memF_s {B : Nat} {ad : Nat → Nat} {σ : PS} {i j : Nat} (hI : InvS B σ) (hj : j < sK σ) (h : sWe σ i = nI j) : (memF ad σ i)[5]? = some (.ref (ad j)) := by
  have h10 := hI.1
  show some (va_rf (ownO ad (sWe σ i))) = _
  rw [own_s (j := j) (by omega) h]
  rfl
/-- a point of the walk that several roads come to -/
theorem lv_cut {p : Program} {l : Launch} {e : Env} {R : Room} {s : State} {m : MethodId} {args : Array Value} {below : List Frame} {meth : Method} {c : Code} {H : Heap} {locs : List Loc} {cells slots : Nat} {Q : State → Prop} {g : JFrame} (g2 : JFrame) (k1 : W p l e R s m args below meth c H locs cells slots Q g2) (k2 : W p l e R s m args below meth c H locs cells slots Q g2 → W p l e R s m args below meth c H locs cells slots Q g) : W p l e R s m args below meth c H locs cells slots Q g := k2 k1
theorem amp_skip {p : Nat → Prop} [DecidablePred p] {f : Nat → Int32} {n : Nat} (h : ¬ p n) : ampS p f (n + 1) = ampS p f n ∧ ampV p f (n + 1) = ampV p f n := by
  have e : ampS p f (n + 1) = ampS p f n := if_neg h
  exact ⟨e, by unfold ampV; rw [e]⟩
theorem amp_v {p : Nat → Prop} [DecidablePred p] {f : Nat → Int32} {n : Nat} (hn : n < 2 ^ 31) (e : ampS p f (n + 1) = nI n) : ampV p f (n + 1) = f n := by
  unfold ampV
  rw [e, if_neg (nI_m1 hn), nI_clamp hn]
theorem amp_n1 {p : Nat → Prop} [DecidablePred p] {f : Nat → Int32} {n : Nat} (hn : n < 2 ^ 31) (h : p n) (c : ampS p f n = -1) : ampS p f (n + 1) = nI n ∧ ampV p f (n + 1) = f n := by
  have e : ampS p f (n + 1) = nI n := (if_pos h).trans (if_pos c)
  exact ⟨e, amp_v hn e⟩
theorem amp_n2 {p : Nat → Prop} [DecidablePred p] {f : Nat → Int32} {n : Nat} (hn : n < 2 ^ 31) (h : p n) (c : ¬ ampS p f n = -1) (d : ¬ f n ≤ ampV p f n) : ampS p f (n + 1) = nI n ∧ ampV p f (n + 1) = f n := by
  have e : ampS p f (n + 1) = nI n := (if_pos h).trans ((if_neg c).trans (if_neg (by unfold ampV at d; rw [if_neg c] at d; exact d)))
  exact ⟨e, amp_v hn e⟩
theorem amp_k {p : Nat → Prop} [DecidablePred p] {f : Nat → Int32} {n : Nat} (h : p n) (c : ¬ ampS p f n = -1) (d : f n ≤ ampV p f n) : ampS p f (n + 1) = ampS p f n ∧ ampV p f (n + 1) = ampV p f n := by
  have e : ampS p f (n + 1) = ampS p f n := (if_pos h).trans ((if_neg c).trans (if_pos (by unfold ampV at d; rw [if_neg c] at d; exact d)))
  exact ⟨e, by unfold ampV; rw [e]⟩
theorem cnt_t {p : Nat → Prop} [DecidablePred p] {n : Nat} (h : p n) : cntS p (n + 1) = cntS p n + 1 := by
  show cntS p n + b01 (p n) = _
  rw [b01_t h]
theorem cnt_f {p : Nat → Prop} [DecidablePred p] {n : Nat} (h : ¬ p n) : cntS p (n + 1) = cntS p n := by
  show cntS p n + b01 (p n) = _
  rw [b01_f h, Int32.add_zero]
theorem mem_iff {ρ : Rf} {k i j : Nat} (hJ : InjA ρ k) (hi : i < k) (hj : j < k) : (some (r_a ρ i) = some (r_a ρ j)) ↔ i = j :=
  ⟨fun h => hJ i j hi hj (Option.some.inj h), fun h => by rw [h]⟩
/-- a loop that only reads: its locals, by the round's number, and what is known then -/
theorem lv_for {p : Program} {l : Launch} {e : Env} {R : Room} {s : State} {m : MethodId} {args : Array Value} {below : List Frame} {meth : Method} {c : Code} {H : Heap} {locs : List Loc} {cells slots : Nat} {Q : State → Prop} {nL : Nat} {ls : Array Slot} (N : Nat) (g : Array Slot → JFrame) (L : Nat → List (Nat × Value)) (J : Nat → Prop) (hl : lv_has ls nL (L 0)) (h0 : J 0)
    (step : ∀ (i : Nat) (ls : Array Slot), i < N → J i → lv_has ls nL (L i) → (∀ ls' : Array Slot, J (i + 1) → lv_has ls' nL (L (i + 1)) → W p l e R s m args below meth c H locs cells slots Q (g ls')) → W p l e R s m args below meth c H locs cells slots Q (g ls))
    (fin : ∀ ls : Array Slot, J N → lv_has ls nL (L N) → W p l e R s m args below meth c H locs cells slots Q (g ls)) : W p l e R s m args below meth c H locs cells slots Q (g ls) := by
  have key : ∀ (n i : Nat), i + n = N → ∀ ls : Array Slot, J i → lv_has ls nL (L i) → W p l e R s m args below meth c H locs cells slots Q (g ls) := by
    intro n
    induction n with
    | zero =>
      intro i hi ls hJ h
      rw [Nat.add_zero] at hi
      subst hi
      exact fin ls hJ h
    | succ n ih =>
      intro i hi ls hJ h
      exact step i ls (by omega) hJ h (fun ls' hJ' h' => ih (i + 1) (by omega) ls' hJ' h')
  exact key N 0 (Nat.zero_add N) ls h0 hl
theorem own_iff {B : Nat} {σ : PS} {ρ : Rf} (hI : InvS B σ) (hJ : InjA ρ (sK σ)) {i j x : Nat} (hj : j < sK σ) (hx : x < sK σ) (hw : sWe σ i = nI j) : (some (r_a ρ j) = some (r_a ρ x)) ↔ sWe σ i = nI x := by
  have h10 := hI.1
  rw [hw, nI_eq (by omega) (by omega)]
  constructor
  · intro h
    exact hJ j x hj hx (Option.some.inj h)
  · intro h
    rw [h]
theorem own_no {B : Nat} {σ : PS} (hI : InvS B σ) {i x : Nat} (hx : x < sK σ) (hw : sWe σ i = -1) : ¬ sWe σ i = nI x := by
  have h10 := hI.1
  rw [hw]
  exact fun q => nI_m1 (by omega) q.symm
theorem own_m1 {B : Nat} {σ : PS} (hI : InvS B σ) {i j : Nat} (hj : j < sK σ) (hw : sWe σ i = nI j) : ¬ sWe σ i = -1 := by
  have h10 := hI.1
  rw [hw]
  exact nI_m1 (by omega)
theorem wornH_n {σ : PS} {i : Nat} (h : sWe σ i = -1) : wornH σ i = 0 := if_pos h
theorem wornH_s {B : Nat} {σ : PS} (hI : InvS B σ) {i j : Nat} (hj : j < sK σ) (hw : sWe σ i = nI j) : wornH σ i = sHa σ j := by
  have h10 := hI.1
  unfold wornH
  rw [if_neg (own_m1 hI hj hw), hw, nI_clamp (by omega)]
theorem amp_ne {p : Nat → Prop} [DecidablePred p] {f : Nat → Int32} {n : Nat} (hp : ∀ k, p k) (h0 : 0 < n) (hn : n < 2 ^ 31) : ¬ ampS p f n = -1 := by
  induction n with
  | zero => exact absurd h0 (Nat.lt_irrefl 0)
  | succ n ih =>
    have e : ampS p f (n + 1) = _ := if_pos (hp n)
    rw [e]
    by_cases c : ampS p f n = -1
    · rw [if_pos c]
      exact nI_m1 (by omega)
    · rw [if_neg c]
      split
      · exact c
      · exact nI_m1 (by omega)
theorem day_nI {B : Nat} {σ : PS} (hI : InvS B σ) : ∃ h : Nat, h ≤ 40000 ∧ sHr σ = nI h ∧ dayOf σ = nI (h % 24) := by
  obtain ⟨-, hB, ⟨h, h1, h2⟩, -⟩ := hI
  refine ⟨h, by omega, h2, ?_⟩
  unfold dayOf
  rw [h2]
  exact pk_rem (d := 24) (by omega) (by omega) (by omega)
theorem day_lt {B : Nat} {σ : PS} (hI : InvS B σ) : ∃ d : Nat, d < 24 ∧ dayOf σ = nI d := by
  obtain ⟨h, -, -, e⟩ := day_nI hI
  exact ⟨h % 24, Nat.mod_lt _ (by omega), e⟩
theorem unt_lt {B : Nat} {σ : PS} (hI : InvS B σ) : ∃ d : Nat, 1 ≤ d ∧ d ≤ 24 ∧ untS σ = nI d := by
  obtain ⟨d, hd, e⟩ := day_lt hI
  unfold untS
  rw [e]
  by_cases c : d < 12
  · refine ⟨12 - d, by omega, by omega, ?_⟩
    rw [if_pos (show nI d < (12 : Int32) from nI_lt (a := d) (b := 12) c (by omega))]
    exact pk_sub (a := 12) (b := d) (by omega)
  · refine ⟨36 - d, by omega, by omega, ?_⟩
    rw [if_neg (show ¬ nI d < (12 : Int32) from nI_nlt (a := d) (b := 12) (by omega) (by omega))]
    exact pk_sub (a := 36) (b := d) (by omega)
theorem ahead_0 {B : Nat} {σ : PS} (hI : InvS B σ) (x : Nat) : aheadS σ x (nI 0) = shadS σ x (dayOf σ) := by
  obtain ⟨u, h1, h2, e⟩ := unt_lt hI
  obtain ⟨d, hd, e2⟩ := day_lt hI
  unfold aheadS
  rw [if_pos (by rw [e]; exact nI_lt (by omega) (by omega)), e2, nI_add, Nat.add_zero]
  congr 1
  have k := pk_rem (a := d) (d := 24) (by omega) (by omega) (by omega)
  rw [Nat.mod_eq_of_lt hd] at k
  exact k
theorem long_0 {B : Nat} {σ : PS} (hI : InvS B σ) (x : Nat) : amxS (fun o => aheadS σ x (nI o)) (0 + 1) = 0 ∧ amxV (fun o => aheadS σ x (nI o)) (0 + 1) = shadS σ x (dayOf σ) := by
  have k := amp_n1 (p := fun _ => True) (f := fun o => aheadS σ x (nI o)) (n := 0) (by omega) True.intro rfl
  exact ⟨k.1, k.2.trans (ahead_0 hI x)⟩
theorem b01L_f {p : Prop} [Decidable p] (c : b01 p = 0) : (b01 p).toInt64 = 0 := by
  rw [c]
  rfl
theorem b01L_t {p : Prop} [Decidable p] (c : ¬ b01 p = 0) : (b01 p).toInt64 = 1 := by
  rw [b01_t (b01_n.mp c)]
  rfl
