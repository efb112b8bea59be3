/-! ===== two sketches' shares: the four sums ===== -/
theorem two_gen {b s c r : Int → Int} {D E tA tB qA qB MA aA aB DM EM : Int} (hb : ∀ v : Int, 0 ≤ v → v < 40 → 0 ≤ b v ∧ b v ≤ MA) (hs : ∀ v : Int, 0 ≤ v → v < 40 → 0 ≤ s v ∧ 4 * s v ≤ aA) (hc : ∀ v : Int, 0 ≤ v → v < 40 → 0 ≤ c v) (hr : ∀ v : Int, 0 ≤ v → v < 40 → 0 ≤ r v ∧ 4 * r v ≤ aB) (hD : 1 ≤ D ∧ D ≤ DM) (hE : 1 ≤ E ∧ E ≤ EM) (sb : smR b 0 40 ≤ D * 100000) (sc : smR c 0 40 ≤ E * 100000) (sr : smR r 0 40 ≤ E * tB) (htB : 0 ≤ tB) (hq : 0 ≤ qA ∧ 0 ≤ qB) (q1 : 8 * smR (fun v => s v * s v) 0 40 ≤ D * D * (100000000 * (81 + 9 * qA))) (q2 : 8 * smR (fun v => r v * r v) 0 40 ≤ E * E * (100000000 * (81 + 9 * qB))) (hM : 0 ≤ MA ∧ 0 ≤ aA ∧ 0 ≤ aB) : smR (fun v => b v * c v) 0 40 ≤ MA * (EM * 100000) ∧ 4 * smR (fun v => b v * r v) 0 40 ≤ aB * (DM * 100000) ∧ 4 * smR (fun v => s v * c v) 0 40 ≤ aA * (EM * 100000) ∧ 16 * smR (fun v => s v * r v) 0 40 ≤ DM * EM * (100000000 * (162 + 9 * (qA + qB))) ∧ 4 * smR (fun v => s v * r v) 0 40 ≤ aA * (EM * tB) := by
  have z1 := sp_le (f := c) (g := b) (M := MA) (a := 0) (b := 40) hc (fun v v0 v1 => (hb v v0 v1).2)
  have z2 := sp_le (f := b) (g := fun v => 4 * r v) (M := aB) (a := 0) (b := 40) (fun v v0 v1 => (hb v v0 v1).1) (fun v v0 v1 => (hr v v0 v1).2)
  have z3 := sp_le (f := c) (g := fun v => 4 * s v) (M := aA) (a := 0) (b := 40) hc (fun v v0 v1 => (hs v v0 v1).2)
  have z4 := sp_le (f := r) (g := fun v => 4 * s v) (M := aA) (a := 0) (b := 40) (fun v v0 v1 => (hr v v0 v1).1) (fun v v0 v1 => (hs v v0 v1).2)
  rw [smR_congr (g := fun v => b v * c v) (fun v _ _ => Int.mul_comm _ _)] at z1
  rw [smR_congr (g := fun v => 4 * (b v * r v)) (fun v _ _ => by grind), smR_mulc] at z2
  rw [smR_congr (g := fun v => 4 * (s v * c v)) (fun v _ _ => by grind), smR_mulc] at z3
  rw [smR_congr (g := fun v => 4 * (s v * r v)) (fun v _ _ => by grind), smR_mulc] at z4
  have z5 := sp_sq (by omega) (by omega) q1 q2
  have sb2 : smR b 0 40 ≤ DM * 100000 := by omega
  have sc2 : smR c 0 40 ≤ EM * 100000 := by omega
  have sr2 : smR r 0 40 ≤ EM * tB := Int.le_trans sr (Int.mul_le_mul_of_nonneg_right hE.2 htB)
  refine ⟨Int.le_trans z1 (Int.mul_le_mul_of_nonneg_left sc2 hM.1), Int.le_trans z2 (Int.mul_le_mul_of_nonneg_left sb2 hM.2.2), Int.le_trans z3 (Int.mul_le_mul_of_nonneg_left sc2 hM.2.1), ?_, Int.le_trans z4 (Int.mul_le_mul_of_nonneg_left sr2 hM.2.1)⟩
  have de : D * E ≤ DM * EM := Int.mul_le_mul hD.2 hE.2 (by omega) (by omega)
  have f : 100000000 * (81 + 9 * qA) + 100000000 * (81 + 9 * qB) = 100000000 * (162 + 9 * (qA + qB)) := by omega
  rw [f] at z5
  exact Int.le_trans z5 (Int.mul_le_mul_of_nonneg_right de (by omega))
