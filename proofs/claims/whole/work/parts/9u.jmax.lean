/-! ===== the greatest share ===== -/
theorem ab_mul {x y : Int} (hx : 0 ≤ x) : abI (x * y) = x * abI y := by
  unfold abI
  rcases Int.le_total 0 y with q | q
  · have := Int.mul_nonneg hx q
    rw [show max (x * y) (-(x * y)) = x * y by omega, show max y (-y) = y by omega]
  · have := Int.mul_nonpos_of_nonneg_of_nonpos hx q
    rw [show max (x * y) (-(x * y)) = -(x * y) by omega, show max y (-y) = -y by omega, Int.mul_neg]
theorem wv_m1 {h f g : Int → Int} {S : SV} {D X Y v : Int} (hE : svE S) (hD : 0 ≤ D) (hd : ∀ k : Int, 0 ≤ k → k < S.1 → 0 < loN h S.2.1 k → loN h S.2.1 k ∣ D) (hf : ∀ k : Int, 0 ≤ k → k < S.1 → abI (f k) ≤ X ∧ (loN h S.2.1 k = 1 → 2 * abI (f k) ≤ Y)) (hg : ∀ v : Int, 0 ≤ v → v < 40 → h v ≠ 0 → 2 * abI (g v) ≤ Y) (v0 : 0 ≤ v) (v1 : v < 40) : 2 * abI (wv h S D f g v) ≤ D * max X Y := by
  unfold wv
  by_cases z : h v = 0
  · rw [if_pos z]
    obtain ⟨k0, k1, -, -⟩ := spOf_in hE (v := v) (by omega)
    have sb := (shB_in (h := h) hE v0 v1).1
    unfold shB at sb
    rw [if_pos z] at sb
    obtain ⟨f1, f2⟩ := hf _ k0 k1
    have dv := Int.mul_ediv_cancel' (hd _ k0 k1 (by omega))
    have dn : 0 ≤ D / loN h S.2.1 (spOf S.2.1 S.1 v) := Int.ediv_nonneg hD (by omega)
    rw [ab_mul dn]
    generalize D / loN h S.2.1 (spOf S.2.1 S.1 v) = a at *
    have fn : 0 ≤ abI (f (spOf S.2.1 S.1 v)) := by unfold abI; omega
    generalize abI (f (spOf S.2.1 S.1 v)) = F at *
    by_cases y : loN h S.2.1 (spOf S.2.1 S.1 v) = 1
    · rw [y, Int.one_mul] at dv
      rw [← dv]
      have := Int.mul_le_mul_of_nonneg_left (show 2 * F ≤ max X Y by have := f2 y; omega) dn
      have e : a * (2 * F) = 2 * (a * F) := by grind
      omega
    · have l2 : 2 * a ≤ D := by
        have := Int.mul_le_mul_of_nonneg_right (show (2 : Int) ≤ loN h S.2.1 (spOf S.2.1 S.1 v) by omega) dn
        omega
      have m1 := Int.mul_le_mul_of_nonneg_right l2 fn
      have m2 := Int.mul_le_mul_of_nonneg_left (show F ≤ max X Y by omega) hD
      have e : 2 * a * F = 2 * (a * F) := by grind
      omega
  · rw [if_neg z, ab_mul hD]
    have gy := hg v v0 v1 z
    generalize abI (g v) = G at *
    have := Int.mul_le_mul_of_nonneg_left (show 2 * G ≤ max X Y by omega) hD
    have e : D * (2 * G) = 2 * (D * G) := by grind
    omega
theorem wv_m2 {h f g : Int → Int} {S : SV} {D X E v : Int} (hE : svE S) (hD : 0 ≤ D) (hd : ∀ k : Int, 0 ≤ k → k < S.1 → 0 < loN h S.2.1 k → loN h S.2.1 k ∣ D) (hf : ∀ k : Int, 0 ≤ k → k < S.1 → abI (f k) ≤ X) (v0 : 0 ≤ v) (v1 : v < 40) (hv : h v = 0) (hl : D ≤ E * loN h S.2.1 (spOf S.2.1 S.1 v)) : abI (wv h S D f g v) ≤ E * X := by
  obtain ⟨k0, k1, -, -⟩ := spOf_in hE (v := v) (by omega)
  have sb := (shB_in (h := h) hE v0 v1).1
  unfold shB at sb
  unfold wv
  rw [if_pos hv] at sb ⊢
  have f1 := hf _ k0 k1
  have dv := Int.mul_ediv_cancel' (hd _ k0 k1 (by omega))
  have dn : 0 ≤ D / loN h S.2.1 (spOf S.2.1 S.1 v) := Int.ediv_nonneg hD (by omega)
  rw [ab_mul dn]
  have ae : D / loN h S.2.1 (spOf S.2.1 S.1 v) ≤ E := by
    refine Int.le_of_mul_le_mul_left (a := loN h S.2.1 (spOf S.2.1 S.1 v)) ?_ (by omega)
    rw [dv, Int.mul_comm]
    exact hl
  have fn : 0 ≤ abI (f (spOf S.2.1 S.1 v)) := by unfold abI; omega
  exact Int.mul_le_mul ae f1 fn (by omega)
