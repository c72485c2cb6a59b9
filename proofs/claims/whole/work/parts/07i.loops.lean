/-! A LOOP THAT MAKES CELLS; the digest's inner sums -/
theorem lv_forC {p : Program} {l : Launch} {e : Env} {R : Room} {s : State} {m : MethodId} {args : Array Value} {below : List Frame} {meth : Method} {c : Code} {H : Heap} {locs : List Loc} {cells slots : Nat} {Q : State → Prop} {A : Nat → Prop} {H0 : Heap} {nL : Nat} {ls : Array Slot} (a b N : Nat) (g : Array Slot → JFrame) (L : Nat → List (Nat × Value)) (J : Nat → Heap → Prop) (hl : lv_has ls nL (L 0)) (h0 : J 0 H) (hS : va_S A H0 H locs)
    (step : ∀ (i : Nat) (ls : Array Slot) (H : Heap) (locs : List Loc), i < N → J i H → va_S A H0 H locs → lv_has ls nL (L i) → (∀ (ls' : Array Slot) (H' : Heap) (locs' : List Loc), J (i + 1) H' → va_S A H0 H' locs' → lv_has ls' nL (L (i + 1)) → W p l e R s m args below meth c H' locs' (cells + (i + 1) * a) (slots + (i + 1) * b) Q (g ls')) → W p l e R s m args below meth c H locs (cells + i * a) (slots + i * b) Q (g ls))
    (fin : ∀ (ls : Array Slot) (H : Heap) (locs : List Loc), J N H → va_S A H0 H locs → lv_has ls nL (L N) → W p l e R s m args below meth c H locs (cells + N * a) (slots + N * b) Q (g ls)) : W p l e R s m args below meth c H locs cells slots Q (g ls) := by
  have key : ∀ (n i : Nat), i + n = N → ∀ (ls : Array Slot) (H : Heap) (locs : List Loc), J i H → va_S A H0 H locs → lv_has ls nL (L i) → W p l e R s m args below meth c H locs (cells + i * a) (slots + i * b) Q (g ls) := by
    intro n
    induction n with
    | zero =>
      intro i hi ls H locs hJ hS h
      rw [Nat.add_zero] at hi
      subst hi
      exact fin ls H locs hJ hS h
    | succ n ih =>
      intro i hi ls H locs hJ hS h
      exact step i ls H locs (by omega) hJ hS h (fun ls' H' locs' hJ' hS' h' => ih (i + 1) (by omega) ls' H' locs' hJ' hS' h')
  have k := key N 0 (Nat.zero_add N) ls H locs h0 hS hl
  rw [Nat.zero_mul, Nat.zero_mul, Nat.add_zero, Nat.add_zero] at k
  exact k
def dgF (f : Nat → Int32) (d : Int64) : Nat → Int64
  | 0 => d
  | n + 1 => mixS (dgF f d n) (f n)
theorem digM_def (σ : PS) (d : Int64) (i : Nat) : digM σ d i = mixS (mixS (mixS (mixS (mixS (mixS (mixS (mixS (mixS (mixS (mixS d (sLa σ i)) (sPu σ i)) (sWe σ i)) (wornH σ i)) (b01 (lentS σ i))) (b01 (outS σ i))) (shadS σ i (dayOf σ))) (sCe σ i)) (gainS σ i)) (bestS σ i)) (longInS σ i) := rfl
