/-! ===== two sketches' shares together ===== -/
theorem sp_le {f g : Int → Int} {M a b : Int} (hf : ∀ v : Int, a ≤ v → v < b → 0 ≤ f v) (hg : ∀ v : Int, a ≤ v → v < b → g v ≤ M) : smR (fun v => f v * g v) a b ≤ M * smR f a b := by
  rw [← smR_mulc]
  refine smR_le fun v v0 v1 => ?_
  have := Int.mul_le_mul_of_nonneg_left (hg v v0 v1) (hf v v0 v1)
  rw [Int.mul_comm M]
  exact this
theorem sp_sq {f g : Int → Int} {D E X Y a b : Int} (hD : 0 < D) (hE : 0 < E) (hf : 8 * smR (fun v => f v * f v) a b ≤ D * D * X) (hg : 8 * smR (fun v => g v * g v) a b ≤ E * E * Y) : 16 * smR (fun v => f v * g v) a b ≤ D * E * (X + Y) := by
  have l := smR_le (f := fun v => 2 * (D * E) * (f v * g v)) (g := fun v => E * E * (f v * f v) + D * D * (g v * g v)) (a := a) (b := b) (fun v _ _ => by
    have sq : 0 ≤ (E * f v - D * g v) * (E * f v - D * g v) := by
      rcases Int.le_total 0 (E * f v - D * g v) with q | q
      · exact Int.mul_nonneg q q
      · exact Int.mul_nonneg_of_nonpos_of_nonpos q q
    have e : E * E * (f v * f v) + D * D * (g v * g v) - 2 * (D * E) * (f v * g v) = (E * f v - D * g v) * (E * f v - D * g v) := by grind
    omega)
  rw [smR_add (f := fun v => E * E * (f v * f v)) (g := fun v => D * D * (g v * g v)), smR_mulc (f := fun v => f v * g v), smR_mulc (f := fun v => f v * f v), smR_mulc (f := fun v => g v * g v)] at l
  have DE : 0 < D * E := Int.mul_pos hD hE
  have m1 := Int.mul_le_mul_of_nonneg_left hf (c := E * E) (Int.le_of_lt (Int.mul_pos hE hE))
  have m2 := Int.mul_le_mul_of_nonneg_left hg (c := D * D) (Int.le_of_lt (Int.mul_pos hD hD))
  refine Int.le_of_mul_le_mul_left (a := D * E) ?_ DE
  generalize smR (fun v => f v * g v) a b = P at *
  generalize smR (fun v => f v * f v) a b = Q at *
  generalize smR (fun v => g v * g v) a b = R at *
  have e1 : D * E * (16 * P) = 8 * (2 * (D * E) * P) := by grind
  have e2 : D * E * (D * E * (X + Y)) = E * E * (D * D * X) + D * D * (E * E * Y) := by grind
  have e3 : E * E * (8 * Q) = 8 * (E * E * Q) := by grind
  have e4 : D * D * (8 * R) = 8 * (D * D * R) := by grind
  omega
/-- the products of two sums -/
theorem sp_four {f b s g c r : Int → Int} {a e : Int} (hf : ∀ v : Int, a ≤ v → v < e → abI (f v) ≤ b v + s v ∧ 0 ≤ b v ∧ 0 ≤ s v) (hg : ∀ v : Int, a ≤ v → v < e → abI (g v) ≤ c v + r v ∧ 0 ≤ c v ∧ 0 ≤ r v) : smR (fun v => abI (f v * g v)) a e ≤ smR (fun v => b v * c v) a e + smR (fun v => b v * r v) a e + smR (fun v => s v * c v) a e + smR (fun v => s v * r v) a e := by
  rw [← smR_add (f := fun v => b v * c v) (g := fun v => b v * r v), ← smR_add (f := fun v => b v * c v + b v * r v) (g := fun v => s v * c v), ← smR_add (f := fun v => b v * c v + b v * r v + s v * c v) (g := fun v => s v * r v)]
  refine smR_le fun v v0 v1 => ?_
  obtain ⟨f1, f2, f3⟩ := hf v v0 v1
  obtain ⟨g1, g2, g3⟩ := hg v v0 v1
  have fn : 0 ≤ abI (f v) := by unfold abI; omega
  have gn : 0 ≤ abI (g v) := by unfold abI; omega
  have e1 : abI (f v * g v) = abI (f v) * abI (g v) := by
    rcases Int.le_total 0 (f v) with q | q
    · rw [ab_mul q]
      congr 1
      unfold abI; omega
    · have : f v * g v = -(f v) * -(g v) := by grind
      rw [this, ab_mul (by omega)]
      have h1 : abI (f v) = -(f v) := by unfold abI; omega
      have h2 : abI (-(g v)) = abI (g v) := by unfold abI; omega
      rw [h1, h2]
  rw [e1]
  have m := Int.mul_le_mul f1 g1 gn (by omega)
  have e2 : (b v + s v) * (c v + r v) = b v * c v + b v * r v + s v * c v + s v * r v := by grind
  omega
