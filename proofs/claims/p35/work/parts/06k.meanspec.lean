/-! THE MEAN SHADOW: a quotient; 0.0 of none -/
def mnP (σ : PS) (r : UInt64) : Prop := (sK σ = 0 → r = FP.dconst0) ∧ (¬ sK σ = 0 → alike64 r (FP.ddiv (FP.i2d (sumS (fun o => shadS σ o (dayOf σ)) (sK σ))) (FP.i2d (nI (sK σ)))) = true)
