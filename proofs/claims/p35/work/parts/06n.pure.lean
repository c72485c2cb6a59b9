/-! PURE FACTS OF THE STATE (begun with the whole claim's own parts) -/
def stepS (h : Int32) : Int32 := if h < 7 then 0 else if h ≤ 17 then (if 0 ≤ h - 12 then h - 12 else 0 - (h - 12)) else 0
theorem i_mul0 (x : Int32) : x * 0 / 2 = 0 := by
  rw [Int32.mul_zero]
  decide
theorem nat_step (x h : Int32) : x * stepS h / 2 = natSh x h := by
  unfold stepS natSh
  by_cases c1 : h < 7
  · rw [if_pos c1, if_pos c1]
    exact i_mul0 x
  · rw [if_neg c1, if_neg c1]
    by_cases c2 : h ≤ 17
    · rw [if_pos c2, if_pos c2]
    · rw [if_neg c2, if_neg c2]
      exact i_mul0 x
def isInS (v lo hi : Int32) : Int32 := if v < lo then 0 else if hi < v then 0 else 1
theorem isIn_c {v lo hi : Int32} : isInS v lo hi = b01 (¬ v < lo ∧ ¬ hi < v) := by
  unfold isInS
  by_cases c : v < lo
  · rw [if_pos c, b01_f (fun q => q.1 c)]
  · rw [if_neg c]
    by_cases d : hi < v
    · rw [if_pos d, b01_f (fun q => q.2 d)]
    · rw [if_neg d, b01_t ⟨c, d⟩]
theorem wear_ne {B : Nat} {σ : PS} (hI : InvS B σ) {i : Nat} (hi : i < sK σ) (h : ¬ sWe σ i = -1) : ∃ j, j < sK σ ∧ sWe σ i = nI j := by
  rcases wear_cases hI hi with h1 | h1
  · exact absurd h1 h
  · exact h1
theorem k_m1 {B : Nat} {σ : PS} (hI : InvS B σ) (h : 0 < sK σ) : nI (sK σ) - 1 = nI (sK σ - 1) := pk_sub (b := 1) (by omega)
theorem isMem_eq {B : Nat} {σ : PS} (hI : InvS B σ) (a : Int32) : isInS a 0 (nI (sK σ) - 1) = b01 ((ixS σ a).isSome = true) := by
  have h10 := hI.1
  rcases ix_c hI a with ⟨hn, hb⟩ | ⟨i, hi, ha, hs⟩
  · rw [hn, b01_f (by simp)]
    unfold isInS
    rcases hb with hb | hb
    · rw [if_pos hb]
    · by_cases c : a < 0
      · rw [if_pos c]
      · rw [if_neg c]
        rcases Nat.eq_zero_or_pos (sK σ) with h0 | h0
        · rw [if_pos]
          rw [h0] at hb ⊢
          obtain ⟨j, hj, e⟩ := nI_of c
          rw [e]
          have e2 : nI 0 - 1 = -1 := by decide
          rw [e2]
          have z : (-1 : Int32).toInt = -1 := by decide
          exact Int32.lt_iff_toInt_lt.mpr (by rw [nI_toInt hj, z]; omega)
        · rw [if_pos]
          rw [k_m1 hI h0]
          obtain ⟨j, hj, e⟩ := nI_of c
          rw [e] at hb ⊢
          have := (nI_leI (by omega) hj).mp hb
          exact nI_lt (by omega) hj
  · rw [hs, b01_t (by rfl), ha]
    unfold isInS
    rw [if_neg (nI_pos (by omega)), k_m1 hI (by omega), if_neg (nI_nlt (by omega) (by omega))]

theorem steps_f {h : Int32} (c : b01 (¬ h < 7 ∧ ¬ 17 < h) = 0) : stepS h = 0 := by
  have c := b01_0.mp c
  unfold stepS
  by_cases c1 : h < 7
  · rw [if_pos c1]
  · rw [if_neg c1, if_neg (fun q => c ⟨c1, fun r => (Int32.not_le.mpr r) q⟩)]
theorem steps_t {h : Int32} (c : ¬ b01 (¬ h < 7 ∧ ¬ 17 < h) = 0) : stepS h = if 0 ≤ h - 12 then h - 12 else 0 - (h - 12) := by
  have c := b01_n.mp c
  unfold stepS
  rw [if_neg c.1, if_pos (Int32.not_lt.mp c.2)]
theorem unt_m {B : Nat} {σ : PS} (hI : InvS B σ) : untS σ = if (12 - dayOf σ + 24) - (12 - dayOf σ + 24) / 24 * 24 = 0 then 24 else (12 - dayOf σ + 24) - (12 - dayOf σ + 24) / 24 * 24 := by
  obtain ⟨d, hd, e⟩ := day_lt hI
  unfold untS
  rw [e]
  have key : ∀ d : Nat, d < 24 → (if nI d < (12 : Int32) then 12 - nI d else 36 - nI d) = if (12 - nI d + 24) - (12 - nI d + 24) / 24 * 24 = 0 then 24 else (12 - nI d + 24) - (12 - nI d + 24) / 24 * 24 := by decide +kernel
  exact key d hd
theorem brings_c (x c : Int32) : (-2) * x + c = c - 2 * x := by
  rw [Int32.add_comm, Int32.sub_eq_add_neg, ← Int32.neg_mul]
theorem cnt_congr {p q : Nat → Prop} [DecidablePred p] [DecidablePred q] (h : ∀ n, p n ↔ q n) (n : Nat) : cntS p n = cntS q n := by
  induction n with
  | zero => rfl
  | succ n ih =>
    show cntS p n + b01 (p n) = cntS q n + b01 (q n)
    rw [ih]
    by_cases c : p n
    · rw [b01_t c, b01_t ((h n).mp c)]
    · rw [b01_f c, b01_f (fun r => c ((h n).mpr r))]
theorem amp_in {p : Nat → Prop} [DecidablePred p] {f : Nat → Int32} {n : Nat} (h : ¬ ampS p f n = -1) : ∃ j, j < n ∧ ampS p f n = nI j := by
  induction n with
  | zero => exact absurd rfl h
  | succ n ih =>
    by_cases c : p n
    · have e : ampS p f (n + 1) = (if ampS p f n = -1 then nI n else if f n ≤ f (ampS p f n).toNatClampNeg then ampS p f n else nI n) := if_pos c
      rw [e]
      by_cases d : ampS p f n = -1
      · rw [if_pos d]
        exact ⟨n, by omega, rfl⟩
      · rw [if_neg d]
        split
        · obtain ⟨j, hj, e2⟩ := ih d
          exact ⟨j, by omega, e2⟩
        · exact ⟨n, by omega, rfl⟩
    · have e : ampS p f (n + 1) = ampS p f n := if_neg c
      rw [e] at h ⊢
      obtain ⟨j, hj, e2⟩ := ih h
      exact ⟨j, by omega, e2⟩
theorem amp_vj {p : Nat → Prop} [DecidablePred p] {f : Nat → Int32} {n j : Nat} (hj : j < 2 ^ 31) (e : ampS p f n = nI j) : ampV p f n = f j := by
  unfold ampV
  rw [e, if_neg (nI_m1 hj), nI_clamp hj]
/-- what it is worth; -1 for none -/
def ampM (p : Nat → Prop) [DecidablePred p] (f : Nat → Int32) (n : Nat) : Int32 := if ampS p f n = -1 then -1 else f (ampS p f n).toNatClampNeg
theorem ampM_skip {p : Nat → Prop} [DecidablePred p] {f : Nat → Int32} {n : Nat} (h : ¬ p n) : ampS p f (n + 1) = ampS p f n ∧ ampM p f (n + 1) = ampM p f n := by
  have e : ampS p f (n + 1) = ampS p f n := if_neg h
  exact ⟨e, by unfold ampM; rw [e]⟩
theorem neg_lt0 {x : Int32} (h : 0 ≤ x) : (-1 : Int32) < x := Int32.lt_of_lt_of_le (by decide) h
theorem ampM_k {p : Nat → Prop} [DecidablePred p] {f : Nat → Int32} {n : Nat} (h : p n) (h0 : 0 ≤ f n) (d : ¬ ampM p f n < f n) : ampS p f (n + 1) = ampS p f n ∧ ampM p f (n + 1) = ampM p f n := by
  have c : ¬ ampS p f n = -1 := fun c => d (by unfold ampM; rw [if_pos c]; exact neg_lt0 h0)
  have e : ampS p f (n + 1) = ampS p f n := (if_pos h).trans ((if_neg c).trans (if_pos (by unfold ampM at d; rw [if_neg c] at d; exact Int32.not_lt.mp d)))
  exact ⟨e, by unfold ampM; rw [e]⟩
theorem ampM_n {p : Nat → Prop} [DecidablePred p] {f : Nat → Int32} {n : Nat} (hn : n < 2 ^ 31) (h : p n) (d : ampM p f n < f n) : ampS p f (n + 1) = nI n ∧ ampM p f (n + 1) = f n := by
  have e : ampS p f (n + 1) = nI n := by
    by_cases c : ampS p f n = -1
    · exact (if_pos h).trans (if_pos c)
    · refine (if_pos h).trans ((if_neg c).trans (if_neg ?_))
      unfold ampM at d
      rw [if_neg c] at d
      exact Int32.not_le.mpr d
  exact ⟨e, by unfold ampM; rw [e, if_neg (nI_m1 hn), nI_clamp hn]⟩
theorem amp_none {p : Nat → Prop} [DecidablePred p] {f : Nat → Int32} (h : ∀ n, ¬ p n) (n : Nat) : ampS p f n = -1 := by
  induction n with
  | zero => rfl
  | succ n ih => exact (if_neg (h n)).trans ih
/-- the hour of the longest, as the reference finds it: 0 before the first -/
def slS (f : Nat → Int32) (n : Nat) : Int32 := if n = 0 then 0 else ampS (fun _ => True) f n
theorem sl_n {f : Nat → Int32} {n : Nat} (hn : n < 2 ^ 31) (d : ampM (fun _ => True) f n < f n) : slS f (n + 1) = nI n ∧ ampM (fun _ => True) f (n + 1) = f n := by
  have k := ampM_n (p := fun _ => True) hn trivial d
  exact ⟨(if_neg (by omega)).trans k.1, k.2⟩
theorem sl_k {f : Nat → Int32} {n : Nat} (h0 : 0 ≤ f n) (d : ¬ ampM (fun _ => True) f n < f n) : slS f (n + 1) = slS f n ∧ ampM (fun _ => True) f (n + 1) = ampM (fun _ => True) f n := by
  have k := ampM_k (p := fun _ => True) trivial h0 d
  have hn : ¬ n = 0 := fun q => d (by rw [q] at h0 ⊢; exact neg_lt0 h0)
  exact ⟨((if_neg (by omega)).trans k.1).trans (if_neg hn).symm, k.2⟩
theorem step_small (h : Int32) : ∃ s, s ≤ 5 ∧ stepS h = nI s := by
  by_cases c1 : h < 7
  · exact ⟨0, by omega, if_pos c1⟩
  · by_cases c2 : h ≤ 17
    · have h0 : ¬ h < 0 := fun q => c1 (Int32.lt_trans q (by decide))
      obtain ⟨j, hj, e⟩ := nI_of2 (M := 17) (n := 17) (by decide) h0 c2
      have h7 : 7 ≤ j := by
        rcases Nat.lt_or_ge j 7 with q | q
        · exact absurd (by rw [e]; exact nI_lt (b := 7) q (by omega)) c1
        · exact q
      have key : ∀ j : Nat, j < 18 → 7 ≤ j → stepS (nI j) = nI (if 12 ≤ j then j - 12 else 12 - j) := by decide +kernel
      refine ⟨if 12 ≤ j then j - 12 else 12 - j, ?_, by rw [e]; exact key j (by omega) h7⟩
      split <;> omega
    · exact ⟨0, by omega, (if_neg c1).trans (if_neg c2)⟩
theorem natSh_nI {x : Int32} (h : Int32) {a : Nat} (ha : a ≤ 200) (e : x = nI a) : ∃ m, m ≤ 500 ∧ natSh x h = nI m := by
  obtain ⟨s, hs, e2⟩ := step_small h
  have hm : a * s ≤ 200 * 5 := Nat.mul_le_mul ha hs
  refine ⟨a * s / 2, by omega, ?_⟩
  rw [← nat_step, e2, e, pk_mul]
  exact pk_div (d := 2) (by omega) (by omega) (by omega)
theorem he_nI {B : Nat} {σ : PS} (hT : InvT B σ) {i : Nat} (hi : i < sK σ) : ∃ a, a ≤ 99 ∧ sHe σ i = nI a := by
  obtain ⟨⟨a, h1, h2, h3⟩, -⟩ := hT.2.1 i hi
  exact ⟨a, h2, h3⟩
theorem worn_nI {B : Nat} {σ : PS} (hT : InvT B σ) {i : Nat} (hi : i < sK σ) : ∃ b, b ≤ 20 ∧ wornH σ i = nI b := by
  rcases wear_cases hT.1 hi with h | ⟨j, hj, h⟩
  · exact ⟨0, by omega, wornH_n h⟩
  · rw [wornH_s hT.1 hj h]
    exact (hT.2.1 j hj).2.1
theorem hatSh_0 {B : Nat} {σ : PS} (hT : InvT B σ) {i o : Nat} (hi : i < sK σ) (ho : o < sK σ) : 0 ≤ hatShS σ i o := by
  obtain ⟨a, ha, e⟩ := he_nI hT hi
  obtain ⟨b, hb, e2⟩ := (hT.2.1 o ho).2.1
  obtain ⟨m, hm, e3⟩ := natSh_nI (x := sHe σ i + sHa σ o) (dayOf σ) (a := a + b) (by omega) (by rw [e, e2, nI_add])
  show 0 ≤ natSh _ _
  rw [e3]
  exact nI_pos' (by omega)
theorem ahead_ge0 {B : Nat} {σ : PS} (hT : InvT B σ) {i : Nat} (hi : i < sK σ) (d : Int32) : 0 ≤ aheadS σ i d := by
  obtain ⟨a, ha, e⟩ := he_nI hT hi
  obtain ⟨w, hw, ew⟩ := worn_nI hT hi
  obtain ⟨-, ⟨b, hb, eb⟩, ⟨c, hc, ec⟩⟩ := hT.2.1 i hi
  unfold aheadS
  split
  · obtain ⟨m, hm, e3⟩ := natSh_nI (x := sHe σ i + wornH σ i) (dayOf σ + d - (dayOf σ + d) / 24 * 24) (a := a + w) (by omega) (by rw [e, ew, nI_add])
    show 0 ≤ natSh _ _ + 3 * _
    rw [e3, ec, show (3 : Int32) * nI c = nI (3 * c) from pk_mul 3 c, nI_add]
    exact nI_pos' (by omega)
  · obtain ⟨m, hm, e3⟩ := natSh_nI (x := sHe σ i + sHa σ i) (dayOf σ + d - (dayOf σ + d) / 24 * 24) (a := a + b) (by omega) (by rw [e, eb, nI_add])
    show 0 ≤ natSh _ _
    rw [e3]
    exact nI_pos' (by omega)
theorem day_add {B : Nat} {σ : PS} (hI : InvS B σ) {d : Nat} (hd : d < 24) : (sHr σ + nI d) - (sHr σ + nI d) / 24 * 24 = (dayOf σ + nI d) - (dayOf σ + nI d) / 24 * 24 := by
  obtain ⟨h, h1, e, e2⟩ := day_nI hI
  have hm : h % 24 < 24 := Nat.mod_lt _ (by omega)
  rw [e2, e, nI_add, nI_add, show nI (h + d) - nI (h + d) / 24 * 24 = nI ((h + d) % 24) from pk_rem (d := 24) (by omega) (by omega) (by omega), show nI (h % 24 + d) - nI (h % 24 + d) / 24 * 24 = nI ((h % 24 + d) % 24) from pk_rem (d := 24) (by omega) (by omega) (by omega)]
  congr 1
  omega
theorem ahead_lt {B : Nat} {σ : PS} (hI : InvS B σ) (i : Nat) {d : Nat} (hd : d < 24) (c : ¬ untS σ ≤ nI d) : natSh (sHe σ i + wornH σ i) ((sHr σ + nI d) - (sHr σ + nI d) / 24 * 24) + 3 * sLa σ i = aheadS σ i (nI d) := by
  rw [day_add hI hd]
  exact (if_pos (Int32.not_le.mp c)).symm
theorem ahead_ge {B : Nat} {σ : PS} (hI : InvS B σ) (i : Nat) {d : Nat} (hd : d < 24) (c : untS σ ≤ nI d) : honsS σ i ((sHr σ + nI d) - (sHr σ + nI d) / 24 * 24) = aheadS σ i (nI d) := by
  rw [day_add hI hd]
  exact (if_neg (fun q => Int32.not_le.mpr q c)).symm
theorem lend_iff {B : Nat} {σ : PS} (hT : InvT B σ) {o : Nat} (ho : o < sK σ) : (0 < sHa σ o ∧ wOwn σ o) ↔ wOwn σ o :=
  ⟨fun h => h.2, fun h => ⟨ha_pos hT ho (hT.2.2.1 o o ho ho h), h⟩⟩
theorem sl_24 (σ : PS) (i : Nat) : slS (fun o => aheadS σ i (nI o)) 24 = longInS σ i := by
  show slS (fun o => aheadS σ i (nI o)) 24 = amxS (fun o => aheadS σ i (nI o)) 24
  unfold slS
  rw [if_neg (by omega)]
/-- the answer of a call of the reference: u is the number that it threw and the state behind it -/
def mO (r : Int32) (u : Nat × PS) (p : Nat × Int32) (τ : PS) : Prop := u = (p.1, τ) ∧ (p.1 = 0 → r = p.2)
theorem some_ix {B : Nat} {σ : PS} (hI : InvS B σ) {a : Int32} (c : ¬ b01 ((ixS σ a).isSome = true) = 0) : ∃ i, i < sK σ ∧ a = nI i ∧ ixS σ a = some i := by
  rcases ix_c hI a with ⟨h, -⟩ | h
  · exact absurd (b01_n.mp c) (by rw [h]; decide)
  · exact h
theorem none_ix {σ : PS} {a : Int32} (c : b01 ((ixS σ a).isSome = true) = 0) : ixS σ a = none := by
  have c := b01_0.mp c
  cases h : ixS σ a with
  | none => rfl
  | some i => rw [h] at c; exact absurd rfl c
theorem in_f {α : Type} {v lo hi : Int32} {X Y : α} (c : b01 (¬ v < lo ∧ ¬ hi < v) = 0) : (if v < lo then X else if v ≤ hi then Y else X) = X := by
  have c := b01_0.mp c
  by_cases c1 : v < lo
  · rw [if_pos c1]
  · rw [if_neg c1, if_neg (fun q => c ⟨c1, fun r => Int32.not_le.mpr r q⟩)]
theorem in_t {α : Type} {v lo hi : Int32} {X Y : α} (c : ¬ b01 (¬ v < lo ∧ ¬ hi < v) = 0) : (if v < lo then X else if v ≤ hi then Y else X) = Y := by
  have c := b01_n.mp c
  rw [if_neg c.1, if_pos (Int32.not_lt.mp c.2)]
theorem lt_24 (h : Int32) : ¬ (23 : Int32) < h ↔ h < 24 := by
  rw [Int32.lt_iff_toInt_lt, Int32.lt_iff_toInt_lt, show (23 : Int32).toInt = 23 by decide, show (24 : Int32).toInt = 24 by decide]
  omega
theorem hon_f {α : Type} {h : Int32} {X Y : α} (c : b01 (¬ h < 0 ∧ ¬ 23 < h) = 0) : (if h < 0 then X else if h < 24 then Y else X) = X := by
  have c := b01_0.mp c
  by_cases c1 : h < 0
  · rw [if_pos c1]
  · rw [if_neg c1, if_neg (fun q => c ⟨c1, (lt_24 h).mpr q⟩)]
theorem hon_t {α : Type} {h : Int32} {X Y : α} (c : ¬ b01 (¬ h < 0 ∧ ¬ 23 < h) = 0) : (if h < 0 then X else if h < 24 then Y else X) = Y := by
  have c := b01_n.mp c
  rw [if_neg c.1, if_pos ((lt_24 h).mp c.2)]
theorem ge_3 (x : Int32) : ¬ x ≤ 2 ↔ 3 ≤ x := by
  rw [Int32.le_iff_toInt_le, Int32.le_iff_toInt_le, show (2 : Int32).toInt = 2 by decide, show (3 : Int32).toInt = 3 by decide]
  omega
theorem lt_10 {k : Nat} (hk : k ≤ 10) : nI k < 10 ↔ ¬ nI k = 10 := by
  rw [show (10 : Int32) = nI 10 from rfl, nI_ltI (by omega) (by omega), nI_eq (by omega) (by omega)]
  omega
abbrev setK (σ : PS) (k : Nat) : PS := (k, (sHr σ, sSz σ, sRv σ), sHe σ, sHa σ, sPu σ, sLa σ, sWe σ, sCe σ, sAt σ, sLo σ)
abbrev setHe (σ : PS) (f : Nat → Int32) : PS := (sK σ, (sHr σ, sSz σ, sRv σ), f, sHa σ, sPu σ, sLa σ, sWe σ, sCe σ, sAt σ, sLo σ)
abbrev setHa (σ : PS) (f : Nat → Int32) : PS := (sK σ, (sHr σ, sSz σ, sRv σ), sHe σ, f, sPu σ, sLa σ, sWe σ, sCe σ, sAt σ, sLo σ)
/-- an answer of a call that only reads -/
theorem mo_0 {σ : PS} {v : Int32} {p : Nat × Int32} (h : p = (0, v)) : mO v (0, σ) p σ := by
  rw [h]
  exact ⟨rfl, fun _ => rfl⟩
theorem mo_n {τ : PS} {r v : Int32} {n : Nat} {p : Nat × Int32} (h : p = (n + 1, v)) : mO r (n + 1, τ) p τ := by
  rw [h]
  exact ⟨rfl, fun q => absurd q (Nat.succ_ne_zero n)⟩
theorem rd_s {σ : PS} {a : Int32} {i : Nat} (f : Nat → Int32) (h : ixS σ a = some i) : rdO σ a f = (0, f i) := by
  unfold rdO
  rw [h]
theorem rd_n {σ : PS} {a : Int32} (f : Nat → Int32) (h : ixS σ a = none) : rdO σ a f = (0 + 1, 0) := by
  unfold rdO
  rw [h]
theorem b01_and {p q : Prop} [Decidable p] [Decidable q] (h : p) : b01 (p ∧ q) = b01 q := by
  by_cases c : q
  · rw [b01_t c, b01_t ⟨h, c⟩]
  · rw [b01_f c, b01_f (fun r => c r.2)]
