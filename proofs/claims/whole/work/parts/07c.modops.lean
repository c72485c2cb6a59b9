/-! THE REFERENCE'S CALLS: what they answer and leave -/
/-- the answer of a call of the reference: u is the number that it threw and the state behind it -/
def mO (r : Int32) (u : Nat × PS) (p : Nat × Int32) (τ : PS) : Prop := u = (p.1, τ) ∧ (p.1 = 0 → r = p.2)
theorem some_ix {B : Nat} {σ : PS} (hI : InvS B σ) {a : Int32} (c : ¬ b01 ((ixS σ a).isSome = true) = 0) : ∃ i, i < sK σ ∧ a = nI i ∧ ixS σ a = some i := by
  rcases ix_c hI a with ⟨h, -⟩ | h
  · exact absurd (b01_n.mp c) (by rw [h]; decide)
  · exact h
theorem none_ix {σ : PS} {a : Int32} (c : b01 ((ixS σ a).isSome = true) = 0) : ixS σ a = none := by
  have c := b01_0.mp c
  cases h : ixS σ a with
  | none => rfl
  | some i => rw [h] at c; exact absurd rfl c
theorem in_f {α : Type} {v lo hi : Int32} {X Y : α} (c : b01 (¬ v < lo ∧ ¬ hi < v) = 0) : (if v < lo then X else if v ≤ hi then Y else X) = X := by
  have c := b01_0.mp c
  by_cases c1 : v < lo
  · rw [if_pos c1]
  · rw [if_neg c1, if_neg (fun q => c ⟨c1, fun r => Int32.not_le.mpr r q⟩)]
theorem in_t {α : Type} {v lo hi : Int32} {X Y : α} (c : ¬ b01 (¬ v < lo ∧ ¬ hi < v) = 0) : (if v < lo then X else if v ≤ hi then Y else X) = Y := by
  have c := b01_n.mp c
  rw [if_neg c.1, if_pos (Int32.not_lt.mp c.2)]
theorem lt_24 (h : Int32) : ¬ (23 : Int32) < h ↔ h < 24 := by
  rw [Int32.lt_iff_toInt_lt, Int32.lt_iff_toInt_lt, show (23 : Int32).toInt = 23 by decide, show (24 : Int32).toInt = 24 by decide]
  omega
theorem hon_f {α : Type} {h : Int32} {X Y : α} (c : b01 (¬ h < 0 ∧ ¬ 23 < h) = 0) : (if h < 0 then X else if h < 24 then Y else X) = X := by
  have c := b01_0.mp c
  by_cases c1 : h < 0
  · rw [if_pos c1]
  · rw [if_neg c1, if_neg (fun q => c ⟨c1, (lt_24 h).mpr q⟩)]
theorem hon_t {α : Type} {h : Int32} {X Y : α} (c : ¬ b01 (¬ h < 0 ∧ ¬ 23 < h) = 0) : (if h < 0 then X else if h < 24 then Y else X) = Y := by
  have c := b01_n.mp c
  rw [if_neg c.1, if_pos ((lt_24 h).mp c.2)]
theorem ge_3 (x : Int32) : ¬ x ≤ 2 ↔ 3 ≤ x := by
  rw [Int32.le_iff_toInt_le, Int32.le_iff_toInt_le, show (2 : Int32).toInt = 2 by decide, show (3 : Int32).toInt = 3 by decide]
  omega
theorem lt_10 {k : Nat} (hk : k ≤ 10) : nI k < 10 ↔ ¬ nI k = 10 := by
  rw [show (10 : Int32) = nI 10 from rfl, nI_ltI (by omega) (by omega), nI_eq (by omega) (by omega)]
  omega
abbrev setK (σ : PS) (k : Nat) : PS := (k, (sHr σ, sSz σ, sRv σ), sHe σ, sHa σ, sPu σ, sLa σ, sWe σ, sCe σ, sAt σ, sLo σ)
abbrev setHe (σ : PS) (f : Nat → Int32) : PS := (sK σ, (sHr σ, sSz σ, sRv σ), f, sHa σ, sPu σ, sLa σ, sWe σ, sCe σ, sAt σ, sLo σ)
abbrev setHa (σ : PS) (f : Nat → Int32) : PS := (sK σ, (sHr σ, sSz σ, sRv σ), sHe σ, f, sPu σ, sLa σ, sWe σ, sCe σ, sAt σ, sLo σ)
/-- an answer of a call that only reads -/
theorem mo_0 {σ : PS} {v : Int32} {p : Nat × Int32} (h : p = (0, v)) : mO v (0, σ) p σ := by
  rw [h]
  exact ⟨rfl, fun _ => rfl⟩
theorem mo_n {τ : PS} {r v : Int32} {n : Nat} {p : Nat × Int32} (h : p = (n + 1, v)) : mO r (n + 1, τ) p τ := by
  rw [h]
  exact ⟨rfl, fun q => absurd q (Nat.succ_ne_zero n)⟩
theorem rd_s {σ : PS} {a : Int32} {i : Nat} (f : Nat → Int32) (h : ixS σ a = some i) : rdO σ a f = (0, f i) := by
  unfold rdO
  rw [h]
theorem rd_n {σ : PS} {a : Int32} (f : Nat → Int32) (h : ixS σ a = none) : rdO σ a f = (0 + 1, 0) := by
  unfold rdO
  rw [h]
theorem b01_and {p q : Prop} [Decidable p] [Decidable q] (h : p) : b01 (p ∧ q) = b01 q := by
  by_cases c : q
  · rw [b01_t c, b01_t ⟨h, c⟩]
  · rw [b01_f c, b01_f (fun r => c r.2)]
