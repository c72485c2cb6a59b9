/-! THE AUDIT, in the reference's order and in the class's; what stands of every state -/
theorem mo_w {v : Int32} {τ : PS} {op : Out} (h : op = (0, v, τ)) : mO v (0, τ) (op.1, op.2.1) op.2.2 := by
  rw [h]
  exact ⟨rfl, fun _ => rfl⟩
theorem mo_e {r v : Int32} {n : Nat} {τ : PS} {op : Out} (h : op = (n + 1, v, τ)) : mO r (n + 1, τ) (op.1, op.2.1) op.2.2 := by
  rw [h]
  exact ⟨rfl, fun q => absurd q (Nat.succ_ne_zero n)⟩
theorem k_lt {B : Nat} {σ : PS} (hI : InvS B σ) (c : ¬ nI (sK σ) = 10) : sK σ < 10 := by
  have h10 := hI.1
  rcases Nat.lt_or_ge (sK σ) 10 with h | h
  · exact h
  · exact absurd (by rw [show sK σ = 10 by omega]; rfl) c
theorem giveM {B : Nat} {σ : PS} (hI : InvS B σ) {a : Int32} {i j : Nat} (hix : ixS σ a = some i) (hj : j < sK σ) (hw : sWe σ i = nI j) (hb : wBor σ i) :
    giveO σ a = (0, nI j, setWe σ (if sWe (setWe σ (upd (sWe σ) i (backW σ i))) j = -1 then upd (upd (sWe σ) i (backW σ i)) j (nI j) else upd (sWe σ) i (backW σ i))) := by
  have h10 := hI.1
  have hne : j ≠ i := fun q => hb.2 (by rw [hw, q])
  unfold giveO
  rw [hix]
  dsimp only
  rw [if_pos hb, hw, nI_clamp (show j < 2 ^ 31 by omega), show sWe (setWe σ (upd (sWe σ) i (backW σ i))) j = sWe σ j from pk_un hne]
def aud1 (τ : PS) (n : Nat) : PS := (sK τ, (sHr τ, sSz τ + b01 (0 < sLa τ n), sRv τ), sHe τ, sHa τ, upd (sPu τ) n (sPu τ n + gainS τ n), upd (sLa τ) n 0, upd (sWe τ) n (ownH τ n), sCe τ, sAt τ, sLo τ)
def audR (τ : PS) (n : Nat) : PS := if falS τ n then setRv (setLo (setCe (aud1 τ n) (upd (sCe τ) n (-1))) (upd (sLo τ) n (sLo τ n + 1))) (sRv τ + 1) else aud1 τ n
def audN (σ : PS) : Nat → PS
  | 0 => σ
  | n + 1 => audR (audN σ n) n
theorem k_audR (τ : PS) (n : Nat) : sK (audR τ n) = sK τ ∧ sHr (audR τ n) = sHr τ ∧ sWe (audR τ n) = upd (sWe τ) n (ownH τ n) := by
  unfold audR
  split <;> exact ⟨rfl, rfl, rfl⟩
theorem k_audN (σ : PS) (n : Nat) : sK (audN σ n) = sK σ := by
  induction n with
  | zero => rfl
  | succ n ih => exact (k_audR _ _).1.trans ih
theorem invS_audN {B : Nat} {σ : PS} (hI : InvS B σ) : ∀ n, n ≤ sK σ → InvS B (audN σ n) := by
  intro n
  induction n with
  | zero => exact fun _ => hI
  | succ n ih =>
    intro hn
    have h := ih (by omega)
    have hk := k_audN σ n
    exact invS_same (σ := setWe (audN σ n) (upd (sWe (audN σ n)) n (ownH (audN σ n) n))) (invS_we h (ownH_in (by omega))) (k_audR _ _)
theorem upd_lt {α : Type} (f g : Nat → α) (n : Nat) (x : α) (h : x = g n) (u : Nat → α) (hu : ∀ j, u j = if j = n then x else if j < n then g j else f j) : u = fun j => if j < n + 1 then g j else f j := by
  funext j
  rw [hu]
  by_cases c : j = n
  · subst c
    rw [if_pos rfl, if_pos (Nat.lt_succ_self j), h]
  · rw [if_neg c]
    by_cases d : j < n
    · rw [if_pos d, if_pos (by omega)]
    · rw [if_neg d, if_neg (by omega)]
theorem ps_ext {σ τ : PS} (h1 : sK σ = sK τ) (h2 : sHr σ = sHr τ) (h3 : sSz σ = sSz τ) (h4 : sRv σ = sRv τ) (h5 : sHe σ = sHe τ) (h6 : sHa σ = sHa τ) (h7 : sPu σ = sPu τ) (h8 : sLa σ = sLa τ) (h9 : sWe σ = sWe τ) (h10 : sCe σ = sCe τ) (h11 : sAt σ = sAt τ) (h12 : sLo σ = sLo τ) : σ = τ :=
  Prod.ext h1 (Prod.ext (Prod.ext h2 (Prod.ext h3 h4)) (Prod.ext h5 (Prod.ext h6 (Prod.ext h7 (Prod.ext h8 (Prod.ext h9 (Prod.ext h10 (Prod.ext h11 h12))))))))
def fL {α : Type} (n : Nat) (g f : Nat → α) : Nat → α := fun j => if j < n then g j else f j
theorem fL_n {α : Type} {n : Nat} {g f : Nat → α} : fL n g f n = f n := by
  unfold fL
  exact if_neg (Nat.lt_irrefl n)
theorem fL_0 {α : Type} {g f : Nat → α} : fL 0 g f = f := by
  unfold fL
  exact funext fun j => if_neg (Nat.not_lt_zero j)
theorem fL_u {n : Nat} {g f : Nat → Int32} {x : Int32} (h : x = g n) : upd (fL n g f) n x = fL (n + 1) g f := by
  unfold fL
  exact upd_lt f g n x h _ (fun j => rfl)
theorem fL_s {n : Nat} {g f : Nat → Int32} (h : f n = g n) : fL n g f = fL (n + 1) g f := by
  unfold fL
  refine upd_lt f g n (f n) h _ (fun j => ?_)
  by_cases c : j = n
  · subst c
    rw [if_pos rfl, if_neg (Nat.lt_irrefl j)]
  · rw [if_neg c]
theorem fL_lt {α : Type} {n j : Nat} {g f : Nat → α} (h : j < n) : fL n g f j = g j := by
  unfold fL
  exact if_pos h
theorem gainC_eq {σ τ : PS} {i : Nat} (h1 : sCe τ i = sCe σ i) (h2 : sAt τ i = sAt σ i) (h3 : sHe τ i = sHe σ i) (h4 : sHa τ i = sHa σ i) : gainC τ i = gainC σ i := by
  unfold gainC honsS
  rw [h1, h2, h3, h4]
theorem fal_eq {σ τ : PS} {i : Nat} (h1 : sCe τ i = sCe σ i) (h2 : sAt τ i = sAt σ i) (h3 : sHe τ i = sHe σ i) (h4 : sHa τ i = sHa σ i) : falS τ i ↔ falS σ i := by
  unfold falS hasC truC honsS
  rw [h1, h2, h3, h4]
/-- the rounds of the class, each at once -/
def gP (σ : PS) : Nat → Int32 := fun j => if sLa σ j ≤ 0 then sPu σ j else sPu σ j - 2 * sLa σ j
def gL (σ : PS) : Nat → Int32 := fun j => if sLa σ j ≤ 0 then sLa σ j else 0
def gJ (σ : PS) : Nat → Int32 := fun j => sPu σ j + gainC σ j
def gC (σ : PS) : Nat → Int32 := fun j => if falS σ j then -1 else sCe σ j
def gO (σ : PS) : Nat → Int32 := fun j => if falS σ j then sLo σ j + 1 else sLo σ j
def gS (σ : PS) : Nat → Int32 := fun j => sPu σ j + gainS σ j
def gZ (_ : PS) : Nat → Int32 := fun _ => 0
def mkS (σ : PS) (z r : Int32) (pu la we ce lo : Nat → Int32) : PS := (sK σ, (sHr σ, z, r), sHe σ, sHa σ, pu, la, we, ce, sAt σ, lo)
theorem mk_ext {σ τ : PS} {z r : Int32} {pu la we ce lo : Nat → Int32} (h : sK τ = sK σ ∧ sHr τ = sHr σ ∧ sHe τ = sHe σ ∧ sHa τ = sHa σ ∧ sAt τ = sAt σ) (h3 : sSz τ = z) (h4 : sRv τ = r) (h7 : sPu τ = pu) (h8 : sLa τ = la) (h9 : sWe τ = we) (h10 : sCe τ = ce) (h12 : sLo τ = lo) : τ = mkS σ z r pu la we ce lo :=
  ps_ext h.1 h.2.1 h3 h4 h.2.2.1 h.2.2.2.1 h7 h8 h9 h10 h.2.2.2.2 h12
theorem mk_ext2 {σ : PS} {z r z2 r2 : Int32} {pu la we ce lo pu2 la2 we2 ce2 lo2 : Nat → Int32} (h3 : z = z2) (h4 : r = r2) (h7 : pu = pu2) (h8 : la = la2) (h9 : we = we2) (h10 : ce = ce2) (h12 : lo = lo2) : mkS σ z r pu la we ce lo = mkS σ z2 r2 pu2 la2 we2 ce2 lo2 := by
  rw [h3, h4, h7, h8, h9, h10, h12]
def seizC (σ : PS) (n : Nat) : PS := mkS σ (sSz σ + cntS (fun i => 0 < sLa σ i) n) (sRv σ) (fL n (gP σ) (sPu σ)) (fL n (gL σ) (sLa σ)) (sWe σ) (sCe σ) (sLo σ)
theorem seiz_c (σ : PS) (n : Nat) : seizN σ n = seizC σ n := by
  induction n with
  | zero =>
    unfold seizC
    rw [fL_0, fL_0]
    exact mk_ext ⟨rfl, rfl, rfl, rfl, rfl⟩ (Int32.add_zero _).symm rfl rfl rfl rfl rfl rfl
  | succ n ih =>
    unfold seizN
    rw [ih]
    have e1 : sLa (seizC σ n) n = sLa σ n := (fL_n (n := n) (g := gL σ) (f := sLa σ) :)
    have e2 : sPu (seizC σ n) n = sPu σ n := (fL_n (n := n) (g := gP σ) (f := sPu σ) :)
    rw [e1, e2]
    by_cases c : sLa σ n ≤ 0
    · rw [if_pos c]
      have hz : ¬ 0 < sLa σ n := Int32.not_lt.mpr c
      exact mk_ext2 (by rw [cnt_f (p := fun i => 0 < sLa σ i) hz]) rfl (fL_s (if_pos c).symm) (fL_s (if_pos c).symm) rfl rfl rfl
    · rw [if_neg c]
      have hz : 0 < sLa σ n := Int32.not_le.mp c
      have k : setSz (setLa (setPu (seizC σ n) (upd (sPu (seizC σ n)) n (sPu σ n - 2 * sLa σ n))) (upd (sLa (seizC σ n)) n 0)) (sSz (seizC σ n) + 1) = mkS σ (sSz σ + cntS (fun i => 0 < sLa σ i) n + 1) (sRv σ) (upd (fL n (gP σ) (sPu σ)) n (sPu σ n - 2 * sLa σ n)) (upd (fL n (gL σ) (sLa σ)) n 0) (sWe σ) (sCe σ) (sLo σ) := rfl
      refine Eq.trans k ?_
      exact mk_ext2 (by rw [cnt_t (p := fun i => 0 < sLa σ i) hz, Int32.add_assoc]) rfl (fL_u (if_neg c).symm) (fL_u (if_neg c).symm) rfl rfl rfl
theorem hats_c (σ : PS) (n : Nat) : hatsN σ n = setWe σ (fL n (ownH σ) (sWe σ)) := by
  induction n with
  | zero =>
    rw [fL_0]
    rfl
  | succ n ih =>
    unfold hatsN
    rw [ih]
    have k : setWe (setWe σ (fL n (ownH σ) (sWe σ))) (upd (sWe (setWe σ (fL n (ownH σ) (sWe σ)))) n (ownH (setWe σ (fL n (ownH σ) (sWe σ))) n)) = setWe σ (upd (fL n (ownH σ) (sWe σ)) n (ownH σ n)) := rfl
    rw [k, fL_u (g := ownH σ) rfl]
def judgC (σ : PS) (n : Nat) : PS := mkS σ (sSz σ) (sRv σ + cntS (fun i => falS σ i) n) (fL n (gJ σ) (sPu σ)) (sLa σ) (sWe σ) (fL n (gC σ) (sCe σ)) (fL n (gO σ) (sLo σ))
theorem judg_c (σ : PS) (n : Nat) : judgN σ n = judgC σ n := by
  induction n with
  | zero =>
    unfold judgC
    rw [fL_0, fL_0, fL_0]
    exact mk_ext ⟨rfl, rfl, rfl, rfl, rfl⟩ rfl (Int32.add_zero _).symm rfl rfl rfl rfl rfl
  | succ n ih =>
    unfold judgN
    rw [ih]
    have e1 : sCe (judgC σ n) n = sCe σ n := (fL_n (n := n) (g := gC σ) (f := sCe σ) :)
    have e2 : sPu (judgC σ n) n = sPu σ n := (fL_n (n := n) (g := gJ σ) (f := sPu σ) :)
    have e3 : sLo (judgC σ n) n = sLo σ n := (fL_n (n := n) (g := gO σ) (f := sLo σ) :)
    have e4 : gainC (judgC σ n) n = gainC σ n := gainC_eq e1 rfl rfl rfl
    have e5 : falS (judgC σ n) n ↔ falS σ n := fal_eq e1 rfl rfl rfl
    rw [e2, e3, e4]
    by_cases c : falS σ n
    · rw [if_pos (e5.mpr c)]
      have k : setRv (setLo (setCe (setPu (judgC σ n) (upd (sPu (judgC σ n)) n (sPu σ n + gainC σ n))) (upd (sCe (judgC σ n)) n (-1))) (upd (sLo (judgC σ n)) n (sLo σ n + 1))) (sRv (judgC σ n) + 1) = mkS σ (sSz σ) (sRv σ + cntS (fun i => falS σ i) n + 1) (upd (fL n (gJ σ) (sPu σ)) n (sPu σ n + gainC σ n)) (sLa σ) (sWe σ) (upd (fL n (gC σ) (sCe σ)) n (-1)) (upd (fL n (gO σ) (sLo σ)) n (sLo σ n + 1)) := rfl
      refine Eq.trans k ?_
      exact mk_ext2 rfl (by rw [cnt_t (p := fun i => falS σ i) c, Int32.add_assoc]) (fL_u rfl) rfl rfl (fL_u (if_pos c).symm) (fL_u (if_pos c).symm)
    · rw [if_neg (fun q => c (e5.mp q))]
      have k : setPu (judgC σ n) (upd (sPu (judgC σ n)) n (sPu σ n + gainC σ n)) = mkS σ (sSz σ) (sRv σ + cntS (fun i => falS σ i) n) (upd (fL n (gJ σ) (sPu σ)) n (sPu σ n + gainC σ n)) (sLa σ) (sWe σ) (fL n (gC σ) (sCe σ)) (fL n (gO σ) (sLo σ)) := rfl
      refine Eq.trans k ?_
      exact mk_ext2 rfl (by rw [cnt_f (p := fun i => falS σ i) c]) (fL_u rfl) rfl rfl (fL_s (if_neg c).symm) (fL_s (if_neg c).symm)
/-- the rounds of the reference, each at once -/
def audC (σ : PS) (n : Nat) : PS := mkS σ (sSz σ + cntS (fun i => 0 < sLa σ i) n) (sRv σ + cntS (fun i => falS σ i) n) (fL n (gS σ) (sPu σ)) (fL n (gZ σ) (sLa σ)) (fL n (ownH σ) (sWe σ)) (fL n (gC σ) (sCe σ)) (fL n (gO σ) (sLo σ))
theorem aud_c (σ : PS) (n : Nat) : audN σ n = audC σ n := by
  induction n with
  | zero =>
    unfold audC
    rw [fL_0, fL_0, fL_0, fL_0, fL_0]
    exact mk_ext ⟨rfl, rfl, rfl, rfl, rfl⟩ (Int32.add_zero _).symm (Int32.add_zero _).symm rfl rfl rfl rfl rfl
  | succ n ih =>
    show audR (audN σ n) n = _
    rw [ih]
    have e1 : sCe (audC σ n) n = sCe σ n := (fL_n (n := n) (g := gC σ) (f := sCe σ) :)
    have e2 : sPu (audC σ n) n = sPu σ n := (fL_n (n := n) (g := gS σ) (f := sPu σ) :)
    have e3 : sLo (audC σ n) n = sLo σ n := (fL_n (n := n) (g := gO σ) (f := sLo σ) :)
    have e6 : sLa (audC σ n) n = sLa σ n := (fL_n (n := n) (g := gZ σ) (f := sLa σ) :)
    have e4 : gainS (audC σ n) n = gainS σ n := by
      unfold gainS
      rw [gainC_eq (σ := σ) (τ := audC σ n) e1 rfl rfl rfl, e6]
    have e5 : falS (audC σ n) n ↔ falS σ n := fal_eq e1 rfl rfl rfl
    have hz : sSz σ + cntS (fun i => 0 < sLa σ i) n + b01 (0 < sLa σ n) = sSz σ + cntS (fun i => 0 < sLa σ i) (n + 1) := by
      rw [Int32.add_assoc]
      rfl
    have k1 : aud1 (audC σ n) n = mkS σ (sSz σ + cntS (fun i => 0 < sLa σ i) n + b01 (0 < sLa σ n)) (sRv σ + cntS (fun i => falS σ i) n) (upd (fL n (gS σ) (sPu σ)) n (sPu σ n + gainS σ n)) (upd (fL n (gZ σ) (sLa σ)) n 0) (upd (fL n (ownH σ) (sWe σ)) n (ownH σ n)) (fL n (gC σ) (sCe σ)) (fL n (gO σ) (sLo σ)) := by
      unfold aud1
      rw [e2, e4, e6]
      rfl
    unfold audR
    by_cases c : falS σ n
    · rw [if_pos (e5.mpr c), k1, e3]
      have k : setRv (setLo (setCe (mkS σ (sSz σ + cntS (fun i => 0 < sLa σ i) n + b01 (0 < sLa σ n)) (sRv σ + cntS (fun i => falS σ i) n) (upd (fL n (gS σ) (sPu σ)) n (sPu σ n + gainS σ n)) (upd (fL n (gZ σ) (sLa σ)) n 0) (upd (fL n (ownH σ) (sWe σ)) n (ownH σ n)) (fL n (gC σ) (sCe σ)) (fL n (gO σ) (sLo σ))) (upd (sCe (audC σ n)) n (-1))) (upd (sLo (audC σ n)) n (sLo σ n + 1))) (sRv (audC σ n) + 1) = mkS σ (sSz σ + cntS (fun i => 0 < sLa σ i) n + b01 (0 < sLa σ n)) (sRv σ + cntS (fun i => falS σ i) n + 1) (upd (fL n (gS σ) (sPu σ)) n (sPu σ n + gainS σ n)) (upd (fL n (gZ σ) (sLa σ)) n 0) (upd (fL n (ownH σ) (sWe σ)) n (ownH σ n)) (upd (fL n (gC σ) (sCe σ)) n (-1)) (upd (fL n (gO σ) (sLo σ)) n (sLo σ n + 1)) := rfl
      refine Eq.trans k ?_
      exact mk_ext2 hz (by rw [cnt_t (p := fun i => falS σ i) c, Int32.add_assoc]) (fL_u rfl) (fL_u rfl) (fL_u rfl) (fL_u (if_pos c).symm) (fL_u (if_pos c).symm)
    · rw [if_neg (fun q => c (e5.mp q)), k1]
      exact mk_ext2 hz (by rw [cnt_f (p := fun i => falS σ i) c]) (fL_u rfl) (fL_u rfl) (fL_u rfl) (fL_s (if_neg c).symm) (fL_s (if_neg c).symm)
theorem cnt_eq {p q : Nat → Prop} [DecidablePred p] [DecidablePred q] (n : Nat) (h : ∀ j, j < n → (p j ↔ q j)) : cntS p n = cntS q n := by
  induction n with
  | zero => rfl
  | succ n ih =>
    show cntS p n + b01 (p n) = cntS q n + b01 (q n)
    rw [ih (fun j hj => h j (by omega))]
    by_cases c : p n
    · rw [b01_t c, b01_t ((h n (by omega)).mp c)]
    · rw [b01_f c, b01_f (fun r => c ((h n (by omega)).mpr r))]
theorem fL_eq {α : Type} {n : Nat} {g g' f f' : Nat → α} (h1 : ∀ j, j < n → g j = g' j) (h2 : ∀ j, n ≤ j → f j = f' j) : fL n g f = fL n g' f' := by
  funext j
  unfold fL
  by_cases c : j < n
  · rw [if_pos c, if_pos c, h1 j c]
  · rw [if_neg c, if_neg c, h2 j (by omega)]
theorem la_cases {B : Nat} {σ : PS} (hT : InvT B σ) {i : Nat} (hi : i < sK σ) : sLa σ i = 0 ∨ 0 < sLa σ i := by
  obtain ⟨-, -, ⟨c, hc, e⟩⟩ := hT.2.1 i hi
  rcases Nat.eq_zero_or_pos c with h | h
  · exact Or.inl (by rw [e, h]; rfl)
  · exact Or.inr (by rw [e]; exact nI_lt (a := 0) h (by omega))
theorem aud_arith (x y z : Int32) : x - 2 * y + z = x + (z - 2 * y) := by
  rw [Int32.sub_eq_add_neg, Int32.sub_eq_add_neg, Int32.add_assoc, Int32.add_comm (-(2 * y)) z]
theorem aud_eq {B : Nat} {σ : PS} (hT : InvT B σ) : audN σ (sK σ) = audS σ := by
  rw [aud_c]
  unfold audS
  rw [seiz_c]
  have ek : sK (seizC σ (sK σ)) = sK σ := rfl
  rw [ek, hats_c]
  have ek2 : sK (setWe (seizC σ (sK σ)) (fL (sK σ) (ownH (seizC σ (sK σ))) (sWe (seizC σ (sK σ))))) = sK σ := rfl
  rw [ek2, judg_c]
  have k : judgC (setWe (seizC σ (sK σ)) (fL (sK σ) (ownH (seizC σ (sK σ))) (sWe (seizC σ (sK σ))))) (sK σ) = mkS σ (sSz σ + cntS (fun i => 0 < sLa σ i) (sK σ)) (sRv σ + cntS (fun i => falS σ i) (sK σ)) (fL (sK σ) (fun j => fL (sK σ) (gP σ) (sPu σ) j + gainC σ j) (fL (sK σ) (gP σ) (sPu σ))) (fL (sK σ) (gL σ) (sLa σ)) (fL (sK σ) (ownH σ) (sWe σ)) (fL (sK σ) (gC σ) (sCe σ)) (fL (sK σ) (gO σ) (sLo σ)) := rfl
  refine Eq.trans ?_ k.symm
  refine mk_ext2 rfl rfl (funext fun j => ?_) (fL_eq (fun j hj => ?_) (fun _ _ => rfl)) rfl rfl rfl
  · by_cases c : j < sK σ
    · rw [fL_lt c, fL_lt c, fL_lt c]
      show sPu σ j + (gainC σ j - 2 * sLa σ j) = (if sLa σ j ≤ 0 then sPu σ j else sPu σ j - 2 * sLa σ j) + gainC σ j
      rcases la_cases hT c with h | h
      · rw [h, if_pos (by decide), show gainC σ j - 2 * (0 : Int32) = gainC σ j by simp]
      · rw [if_neg (Int32.not_le.mpr h), aud_arith]
    · unfold fL
      rw [if_neg c, if_neg c, if_neg c]
  · show (0 : Int32) = if sLa σ j ≤ 0 then sLa σ j else 0
    rcases la_cases hT hj with h | h
    · rw [h, if_pos (by decide)]
    · rw [if_neg (Int32.not_le.mpr h)]
/-! WHAT STANDS OF EVERY STATE is kept by every call -/
theorem ownH_nI {σ : PS} {i j : Nat} (hi : i < 2 ^ 31) (hj : j < 2 ^ 31) (h : ownH σ i = nI j) : i = j ∧ 0 < sHa σ i := by
  unfold ownH at h
  by_cases c : 0 < sHa σ i
  · rw [if_pos c] at h
    exact ⟨(nI_eq hi hj).mp h, c⟩
  · rw [if_neg c] at h
    exact absurd h.symm (nI_m1 hj)
theorem ne0_of_lt {x : Int32} (h : 0 < x) : ¬ x = 0 := fun q => by
  rw [q] at h
  exact absurd h (by decide)
theorem invT_aud {B : Nat} {σ : PS} (hT : InvT B σ) : InvT B (audS σ) := by
  have h10 := hT.1.1
  have hs := invS_aud hT.1
  rw [← aud_eq hT, aud_c] at hs ⊢
  have hw : ∀ i, i < sK σ → sWe (audC σ (sK σ)) i = ownH σ i := fun i hi => (fL_lt (n := sK σ) (g := ownH σ) (f := sWe σ) hi :)
  refine ⟨hs, fun i hi => ⟨(hT.2.1 i hi).1, (hT.2.1 i hi).2.1, 0, by omega, (fL_lt (n := sK σ) (g := gZ σ) (f := sLa σ) hi :)⟩, fun i j hi hj h => ?_, fun i j hi hj h => ?_, fun i hi => ?_⟩
  · have hi : i < sK σ := hi
    have hj : j < sK σ := hj
    rw [hw i hi] at h
    obtain ⟨e, hp⟩ := ownH_nI (by omega) (by omega) h
    subst e
    exact ne0_of_lt hp
  · have hi : i < sK σ := hi
    have hj : j < sK σ := hj
    rw [hw i hi, hw j hj] at h
    rw [hw i hi]
    by_cases c : 0 < sHa σ i
    · refine Or.inr ?_
      have e : ownH σ i = nI i := if_pos c
      rw [e] at h
      exact (ownH_nI (by omega) (by omega) h.symm).1.symm
    · exact Or.inl (if_neg c)
  · have hi : sK σ ≤ i := hi
    have hn : ¬ i < sK σ := by omega
    have h0 := hT.2.2.2.2 i hi
    refine ⟨?_, h0.2.1, ?_⟩
    · show fL (sK σ) (gZ σ) (sLa σ) i = 0
      unfold fL
      rw [if_neg hn, h0.1]
    · show fL (sK σ) (gO σ) (sLo σ) i = 0
      unfold fL
      rw [if_neg hn, h0.2.2]
theorem invT_hr {B : Nat} {σ : PS} (hT : InvT B σ) (hB : B + 1 ≤ 40000) : InvT (B + 1) (setHr σ (sHr σ + 1)) := ⟨invS_hr hT.1 hB, hT.2⟩
theorem invT_hour {B : Nat} {σ : PS} (hT : InvT B σ) (hB : B + 1 ≤ 40000) : InvT (B + 1) (hourS σ) := by
  unfold hourS
  split
  · exact invT_hr hT hB
  · exact invT_aud (invT_hr hT hB)
theorem invT_passN {B : Nat} {σ : PS} (hT : InvT B σ) : ∀ n, B + n ≤ 40000 → InvT (B + n) (passN σ n) := by
  intro n
  induction n with
  | zero => exact fun _ => hT
  | succ n ih => exact fun h => invT_hour (ih (by omega)) h
theorem invT_le {B C : Nat} {σ : PS} (hT : InvT B σ) (h : B ≤ C) (hC : C ≤ 40000) : InvT C σ := by
  obtain ⟨⟨h1, -, ⟨x, hx, e⟩, h4⟩, h5⟩ := hT
  exact ⟨⟨h1, hC, ⟨x, by omega, e⟩, h4⟩, h5⟩
theorem invT_pass {B : Nat} {σ : PS} (hT : InvT B σ) (hB : B + 72 ≤ 40000) (a : Int32) : InvT (B + 72) (passO σ a).2.2 := by
  unfold passO
  split
  · exact invT_le hT (by omega) hB
  · split
    · rename_i c1 c2
      obtain ⟨h, h1, h2, e⟩ := hours_of c1 c2
      rw [e, nI_clamp (by omega)]
      exact invT_le (invT_passN hT h (by omega)) (by omega) hB
    · exact invT_le hT (by omega) hB
theorem upd_c {f : Nat → Int32} {i j : Nat} {x : Int32} : (j = i ∧ upd f i x j = x) ∨ (j ≠ i ∧ upd f i x j = f j) := by
  by_cases c : j = i
  · exact Or.inl ⟨c, if_pos c⟩
  · exact Or.inr ⟨c, if_neg c⟩
theorem invT_la {B : Nat} {σ : PS} (hT : InvT B σ) {i c : Nat} (hi : i < sK σ) (hc : c ≤ 9) : InvT B (setLa σ (upd (sLa σ) i (nI c))) := by
  refine ⟨hT.1, fun j hj => ⟨(hT.2.1 j hj).1, (hT.2.1 j hj).2.1, ?_⟩, hT.2.2.1, hT.2.2.2.1, fun j hj => ⟨?_, (hT.2.2.2.2 j hj).2⟩⟩
  · rcases upd_c (f := sLa σ) (i := i) (j := j) (x := nI c) with ⟨-, e⟩ | ⟨-, e⟩
    · exact ⟨c, hc, e⟩
    · obtain ⟨d, h1, h2⟩ := (hT.2.1 j hj).2.2
      exact ⟨d, h1, e.trans h2⟩
  · have hj : sK σ ≤ j := hj
    rcases upd_c (f := sLa σ) (i := i) (j := j) (x := nI c) with ⟨h, -⟩ | ⟨-, e⟩
    · omega
    · exact e.trans (hT.2.2.2.2 j hj).1
theorem invT_buy {B : Nat} {σ : PS} (hT : InvT B σ) (a b : Int32) : InvT B (buyO σ a b).2.2 := by
  unfold buyO
  rcases ix_c hT.1 a with ⟨h, -⟩ | ⟨i, hi, -, h⟩
  · rw [h]
    exact hT
  · rw [h]
    dsimp only
    split
    · exact hT
    · split
      · rename_i c1 c2
        split
        · split
          · have h0 : ¬ b < 0 := fun q => c1 (Int32.lt_trans q (by decide))
            obtain ⟨c, hc, e⟩ := nI_of2 (M := 9) (n := 9) (by decide) h0 c2
            rw [e]
            exact invT_la (σ := setPu σ _) hT hi hc
          · exact hT
        · exact hT
      · exact hT
theorem invT_drop {B : Nat} {σ : PS} (hT : InvT B σ) (a : Int32) : InvT B (dropO σ a).2.2 := by
  unfold dropO
  rcases ix_c hT.1 a with ⟨h, -⟩ | ⟨i, hi, -, h⟩
  · rw [h]
    exact hT
  · rw [h]
    dsimp only
    split
    · exact invT_la (c := 0) hT hi (by omega)
    · exact hT
theorem invT_cert {B : Nat} {σ : PS} (hT : InvT B σ) (a : Int32) : InvT B (certO σ a).2.2 := by
  unfold certO
  rcases ix_c hT.1 a with ⟨h, -⟩ | ⟨i, hi, -, h⟩
  · rw [h]
    exact hT
  · rw [h]
    dsimp only
    split
    · exact hT
    · refine ⟨hT.1, hT.2.1, hT.2.2.1, hT.2.2.2.1, fun j hj => ⟨(hT.2.2.2.2 j hj).1, ?_, (hT.2.2.2.2 j hj).2.2⟩⟩
      have hj : sK σ ≤ j := hj
      show upd (sAt σ) i (dayOf σ) j = 0
      rw [show upd (sAt σ) i (dayOf σ) j = sAt σ j from pk_un (by omega)]
      exact (hT.2.2.2.2 j hj).2.1
/-- what is worn, anew -/
theorem invT_we {B : Nat} {σ : PS} (hT : InvT B σ) {f : Nat → Int32} (h1 : ∀ i, i < sK σ → f i = -1 ∨ ∃ j : Nat, j < sK σ ∧ f i = nI j ∧ ¬ sHa σ j = 0) (h2 : ∀ i j, i < sK σ → j < sK σ → f i = f j → f i = -1 ∨ i = j) : InvT B (setWe σ f) := by
  have h10 := hT.1.1
  refine ⟨⟨hT.1.1, hT.1.2.1, hT.1.2.2.1, fun i hi => (h1 i hi).imp id (fun ⟨j, a, b, _⟩ => ⟨j, a, b⟩)⟩, hT.2.1, fun i j hi hj h => ?_, h2, hT.2.2.2.2⟩
  have hi : i < sK σ := hi
  have hj : j < sK σ := hj
  have h : f i = nI j := h
  rcases h1 i hi with e | ⟨x, hx, e, hn⟩
  · exact absurd (h.symm.trans e) (nI_m1 (by omega))
  · have : x = j := (nI_eq (by omega) (by omega)).mp (e.symm.trans h)
    rw [← this]
    exact hn
theorem we_old {B : Nat} {σ : PS} (hT : InvT B σ) {i : Nat} (hi : i < sK σ) : sWe σ i = -1 ∨ ∃ j : Nat, j < sK σ ∧ sWe σ i = nI j ∧ ¬ sHa σ j = 0 :=
  (wear_cases hT.1 hi).imp id (fun ⟨j, hj, e⟩ => ⟨j, hj, e, hT.2.2.1 i j hi hj e⟩)
theorem invT_borr {B : Nat} {σ : PS} (hT : InvT B σ) (a b : Int32) : InvT B (borrO σ a b).2.2 := by
  have h10 := hT.1.1
  unfold borrO
  rcases ix_c hT.1 a with ⟨h, -⟩ | ⟨i, hi, -, h⟩
  · rw [h]
    exact hT
  · rcases ix_c hT.1 b with ⟨h', -⟩ | ⟨o, ho, -, h'⟩
    · rw [h, h']
      exact hT
    · rw [h, h']
      dsimp only
      split
      · split
        · rename_i c1 c2
          obtain ⟨hne, how, -⟩ := c2
          have hm : ¬ nI o = -1 := nI_m1 (by omega)
          have vi : upd (upd (sWe σ) o (-1)) i (nI o) i = nI o := pk_us
          have vo : upd (upd (sWe σ) o (-1)) i (nI o) o = -1 := (pk_un hne).trans pk_us
          have vx : ∀ x, x ≠ i → x ≠ o → upd (upd (sWe σ) o (-1)) i (nI o) x = sWe σ x := fun x h1 h2 => (pk_un h1).trans (pk_un h2)
          refine invT_we hT (fun x hx => ?_) (fun x y hx hy e => ?_)
          · by_cases c1 : x = i
            · subst c1
              exact Or.inr ⟨o, ho, vi, hT.2.2.1 o o ho ho how⟩
            · by_cases c2 : x = o
              · subst c2
                exact Or.inl vo
              · rw [vx x c1 c2]
                exact we_old hT hx
          · by_cases c1 : x = i
            · subst c1
              by_cases d1 : y = x
              · exact Or.inr d1.symm
              · by_cases d2 : y = o
                · subst d2
                  rw [vi, vo] at e
                  exact absurd e hm
                · rw [vi, vx y d1 d2] at e
                  rcases hT.2.2.2.1 o y ho hy (how.trans e) with q | q
                  · exact absurd (how.symm.trans q) hm
                  · exact absurd q.symm d2
            · by_cases c2 : x = o
              · subst c2
                exact Or.inl vo
              · rw [vx x c1 c2] at e ⊢
                by_cases d1 : y = i
                · subst d1
                  rw [vi] at e
                  rcases hT.2.2.2.1 x o hx ho (e.trans how.symm) with q | q
                  · exact Or.inl q
                  · exact absurd q c2
                · by_cases d2 : y = o
                  · subst d2
                    rw [vo] at e
                    exact Or.inl e
                  · rw [vx y d1 d2] at e
                    exact hT.2.2.2.1 x y hx hy e
        · exact hT
      · exact hT
theorem backW_c {σ : PS} {i : Nat} : backW σ i = -1 ∨ (¬ lentS σ i ∧ 0 < sHa σ i ∧ backW σ i = nI i) := by
  unfold backW ownH
  by_cases c : lentS σ i
  · exact Or.inl (if_pos c)
  · rw [if_neg c]
    by_cases d : 0 < sHa σ i
    · exact Or.inr ⟨c, d, if_pos d⟩
    · exact Or.inl (if_neg d)
theorem invT_give {B : Nat} {σ : PS} (hT : InvT B σ) (a : Int32) : InvT B (giveO σ a).2.2 := by
  have h10 := hT.1.1
  rcases ix_c hT.1 a with ⟨h, -⟩ | ⟨i, hi, -, h⟩
  · unfold giveO
    rw [h]
    exact hT
  · by_cases hb : wBor σ i
    · obtain ⟨j, hj, hw⟩ := wear_ne hT.1 hi hb.1
      rw [giveM hT.1 h hj hw hb]
      have hne : j ≠ i := fun q => hb.2 (by rw [hw, q])
      have hm : ¬ nI j = -1 := nI_m1 (by omega)
      have hij : ¬ nI i = nI j := fun q => hne ((nI_eq (by omega) (by omega)).mp q).symm
      dsimp only
      rw [show sWe (setWe σ (upd (sWe σ) i (backW σ i))) j = sWe σ j from pk_un hne]
      by_cases c : sWe σ j = -1
      · rw [if_pos c]
        have vj : upd (upd (sWe σ) i (backW σ i)) j (nI j) j = nI j := pk_us
        have vi : upd (upd (sWe σ) i (backW σ i)) j (nI j) i = backW σ i := (pk_un hne.symm).trans pk_us
        have vx : ∀ x, x ≠ i → x ≠ j → upd (upd (sWe σ) i (backW σ i)) j (nI j) x = sWe σ x := fun x h1 h2 => (pk_un h2).trans (pk_un h1)
        refine invT_we hT (fun x hx => ?_) (fun x y hx hy e => ?_)
        · by_cases c1 : x = i
          · subst c1
            rw [vi]
            rcases backW_c (σ := σ) (i := x) with q | ⟨-, q2, q3⟩
            · exact Or.inl q
            · exact Or.inr ⟨x, hx, q3, ne0_of_lt q2⟩
          · by_cases c2 : x = j
            · subst c2
              exact Or.inr ⟨x, hx, vj, hT.2.2.1 i x hi hx hw⟩
            · rw [vx x c1 c2]
              exact we_old hT hx
        · by_cases c1 : x = i
          · subst c1
            rw [vi] at e ⊢
            rcases backW_c (σ := σ) (i := x) with q | ⟨q1, q2, q3⟩
            · exact Or.inl q
            · by_cases d1 : y = x
              · exact Or.inr d1.symm
              · by_cases d2 : y = j
                · subst d2
                  rw [vj, q3] at e
                  exact absurd e hij
                · rw [vx y d1 d2, q3] at e
                  exact absurd ⟨y, hy, d1, e.symm⟩ q1
          · by_cases c2 : x = j
            · subst c2
              rw [vj] at e
              by_cases d1 : y = i
              · subst d1
                rw [vi] at e
                rcases backW_c (σ := σ) (i := y) with q | ⟨q1, q2, q3⟩
                · exact absurd (e.trans q) hm
                · exact absurd (e.trans q3).symm hij
              · by_cases d2 : y = x
                · exact Or.inr d2.symm
                · rw [vx y d1 d2] at e
                  rcases hT.2.2.2.1 i y hi hy (hw.trans e) with q | q
                  · exact absurd (hw.symm.trans q) hm
                  · exact absurd q.symm d1
            · rw [vx x c1 c2] at e ⊢
              by_cases d1 : y = i
              · subst d1
                rw [vi] at e
                rcases backW_c (σ := σ) (i := y) with q | ⟨q1, q2, q3⟩
                · exact Or.inl (e.trans q)
                · exact absurd ⟨x, hx, c1, e.trans q3⟩ q1
              · by_cases d2 : y = j
                · subst d2
                  rw [vj] at e
                  rcases hT.2.2.2.1 i x hi hx (hw.trans e.symm) with q | q
                  · exact absurd (hw.symm.trans q) hm
                  · exact absurd q.symm c1
                · rw [vx y d1 d2] at e
                  exact hT.2.2.2.1 x y hx hy e
      · rw [if_neg c]
        have vi : upd (sWe σ) i (backW σ i) i = backW σ i := pk_us
        have vx : ∀ x, x ≠ i → upd (sWe σ) i (backW σ i) x = sWe σ x := fun x h1 => pk_un h1
        refine invT_we hT (fun x hx => ?_) (fun x y hx hy e => ?_)
        · by_cases c1 : x = i
          · subst c1
            rw [vi]
            rcases backW_c (σ := σ) (i := x) with q | ⟨-, q2, q3⟩
            · exact Or.inl q
            · exact Or.inr ⟨x, hx, q3, ne0_of_lt q2⟩
          · rw [vx x c1]
            exact we_old hT hx
        · by_cases c1 : x = i
          · subst c1
            rw [vi] at e ⊢
            rcases backW_c (σ := σ) (i := x) with q | ⟨q1, q2, q3⟩
            · exact Or.inl q
            · by_cases d1 : y = x
              · exact Or.inr d1.symm
              · rw [vx y d1, q3] at e
                exact absurd ⟨y, hy, d1, e.symm⟩ q1
          · rw [vx x c1] at e ⊢
            by_cases d1 : y = i
            · subst d1
              rw [vi] at e
              rcases backW_c (σ := σ) (i := y) with q | ⟨q1, q2, q3⟩
              · exact Or.inl (e.trans q)
              · exact absurd ⟨x, hx, c1, e.trans q3⟩ q1
            · rw [vx y d1] at e
              exact hT.2.2.2.1 x y hx hy e
    · unfold giveO
      rw [h]
      dsimp only
      rw [if_neg hb]
      exact hT
theorem invT_joinS {B : Nat} {σ : PS} (hT : InvT B σ) {a b : Int32} (hk : sK σ < 10) {x y : Nat} (h1 : 1 ≤ x) (h2 : x ≤ 99) (ha : a = nI x) (hy : y ≤ 20) (hb : b = nI y) : InvT B (joinS σ a b) := by
  have h10 := hT.1.1
  have wk : sWe (joinS σ a b) (sK σ) = (if 0 < b then nI (sK σ) else -1) := pk_us
  have wx : ∀ i, i ≠ sK σ → sWe (joinS σ a b) i = sWe σ i := fun i h => pk_un h
  have ak : sHa (joinS σ a b) (sK σ) = b := pk_us
  have ax : ∀ i, i ≠ sK σ → sHa (joinS σ a b) i = sHa σ i := fun i h => pk_un h
  have ek : sHe (joinS σ a b) (sK σ) = a := pk_us
  have ex : ∀ i, i ≠ sK σ → sHe (joinS σ a b) i = sHe σ i := fun i h => pk_un h
  refine ⟨⟨by show sK σ + 1 ≤ 10; omega, hT.1.2.1, hT.1.2.2.1, fun i hi => ?_⟩, fun i hi => ?_, fun i j hi hj h => ?_, fun i j hi hj h => ?_, fun i hi => hT.2.2.2.2 i (by have hi : sK σ + 1 ≤ i := hi; omega)⟩
  · have hi : i < sK σ + 1 := hi
    by_cases c : i = sK σ
    · subst c
      rw [wk]
      by_cases d : 0 < b
      · exact Or.inr ⟨sK σ, by show sK σ < sK σ + 1; omega, if_pos d⟩
      · exact Or.inl (if_neg d)
    · rw [wx i c]
      rcases wear_cases hT.1 (show i < sK σ by omega) with e | ⟨j, hj, e⟩
      · exact Or.inl e
      · exact Or.inr ⟨j, by show j < sK σ + 1; omega, e⟩
  · have hi : i < sK σ + 1 := hi
    by_cases c : i = sK σ
    · subst c
      exact ⟨⟨x, h1, h2, ek.trans ha⟩, ⟨y, hy, ak.trans hb⟩, ⟨0, by omega, (hT.2.2.2.2 (sK σ) (Nat.le_refl _)).1⟩⟩
    · rw [ex i c, ax i c]
      exact hT.2.1 i (by omega)
  · have hi : i < sK σ + 1 := hi
    have hj : j < sK σ + 1 := hj
    by_cases c : i = sK σ
    · subst c
      rw [wk] at h
      by_cases d : 0 < b
      · rw [if_pos d] at h
        have e : sK σ = j := (nI_eq (by omega) (by omega)).mp h
        rw [← e, ak]
        exact ne0_of_lt d
      · rw [if_neg d] at h
        exact absurd h.symm (nI_m1 (by omega))
    · rw [wx i c] at h
      rcases wear_cases hT.1 (show i < sK σ by omega) with e | ⟨z, hz, e⟩
      · exact absurd (h.symm.trans e) (nI_m1 (by omega))
      · have e2 : z = j := (nI_eq (by omega) (by omega)).mp (e.symm.trans h)
        rw [ax j (by omega)]
        exact hT.2.2.1 i j (by omega) (by omega) h
  · have hi : i < sK σ + 1 := hi
    have hj : j < sK σ + 1 := hj
    have key : ∀ z, z < sK σ → sWe σ z = nI (sK σ) → False := fun z hz e => by
      rcases wear_cases hT.1 hz with q | ⟨t, ht, q⟩
      · exact nI_m1 (by omega) (e.symm.trans q)
      · have := (nI_eq (by omega) (by omega)).mp (e.symm.trans q)
        omega
    by_cases c : i = sK σ
    · subst c
      by_cases d : j = sK σ
      · exact Or.inr d.symm
      · rw [wk, wx j d] at h
        rw [wk]
        by_cases g : 0 < b
        · rw [if_pos g] at h
          exact (key j (by omega) h.symm).elim
        · exact Or.inl (if_neg g)
    · rw [wx i c] at h ⊢
      by_cases d : j = sK σ
      · subst d
        rw [wk] at h
        by_cases g : 0 < b
        · rw [if_pos g] at h
          exact (key i (by omega) h).elim
        · rw [if_neg g] at h
          exact Or.inl h
      · rw [wx j d] at h
        exact hT.2.2.2.1 i j (by omega) (by omega) h
theorem invT_join {B : Nat} {σ : PS} (hT : InvT B σ) (a b : Int32) : InvT B (joinO σ a b).2.2 := by
  unfold joinO
  split
  · exact hT
  · split
    · split
      · exact hT
      · split
        · split
          · rename_i c1 c2 c3 c4 c5
            have h0 : ¬ a < 0 := fun q => c1 (Int32.lt_trans q (by decide))
            obtain ⟨x, hx, ex⟩ := nI_of2 (M := 99) (n := 99) (by decide) h0 c2
            obtain ⟨y, hy, ey⟩ := nI_of2 (M := 20) (n := 20) (by decide) c3 c4
            refine invT_joinS hT (k_lt hT.1 ((lt_10 hT.1.1).mp c5)) ?_ hx ex hy ey
            rcases Nat.eq_zero_or_pos x with q | q
            · exact absurd (by rw [ex, q]; decide) c1
            · exact q
          · exact hT
        · exact hT
    · exact hT
