/-! ===== two sketches' shares stay within a long ===== -/
theorem jV_11 {WA WB : Int → Int} {D E tA tB qA qB : Int} {b s c r : Int → Int} (hD : 1 ≤ D) (hE : 1 ≤ E) (h : 0 ≤ tA ∧ 0 ≤ tB ∧ 0 ≤ qA ∧ 0 ≤ qB ∧ tA + tB + 1000 * (qA + qB) ≤ 511000) (a1 : ∀ v : Int, 0 ≤ v → v < 40 → abI (WA v) ≤ b v + s v ∧ 0 ≤ b v ∧ 0 ≤ s v) (a2 : smR b 0 40 ≤ D * 100000) (a4 : 8 * smR (fun v => s v * s v) 0 40 ≤ D * D * (100000000 * (81 + 9 * qA))) (b1 : ∀ v : Int, 0 ≤ v → v < 40 → abI (WB v) ≤ c v + r v ∧ 0 ≤ c v ∧ 0 ≤ r v) (b2 : smR c 0 40 ≤ E * 100000) (b3 : smR r 0 40 ≤ E * tB) (b4 : 8 * smR (fun v => r v * r v) 0 40 ≤ E * E * (100000000 * (81 + 9 * qB)))
    (kA : D ≤ 16380 ∧ ∀ v : Int, 0 ≤ v → v < 40 → b v ≤ 1638000000 ∧ 4 * s v ≤ 16380 * (tA + 30002)) (kB : E ≤ 16380 ∧ ∀ v : Int, 0 ≤ v → v < 40 → c v ≤ 1638000000 ∧ 4 * r v ≤ 16380 * (tB + 30002)) : smR (fun v => abI (WA v * WB v)) 0 40 ≤ 9223372036854775807 := by
  have f := sp_four (a := 0) (e := 40) a1 b1
  obtain ⟨g1, g2, g3, g4, g5⟩ := two_gen (tA := tA) (MA := 1638000000) (aA := 16380 * (tA + 30002)) (aB := 16380 * (tB + 30002)) (DM := 16380) (EM := 16380) (fun v v0 v1 => ⟨(a1 v v0 v1).2.1, (kA.2 v v0 v1).1⟩) (fun v v0 v1 => ⟨(a1 v v0 v1).2.2, (kA.2 v v0 v1).2⟩) (fun v v0 v1 => (b1 v v0 v1).2.1) (fun v v0 v1 => ⟨(b1 v v0 v1).2.2, (kB.2 v v0 v1).2⟩) ⟨hD, kA.1⟩ ⟨hE, kB.1⟩ a2 b2 b3 h.2.1 ⟨h.2.2.1, h.2.2.2.1⟩ a4 b4 (by omega)
  have e : 16380 * (tA + 30002) * (16380 * tB) = 268304400 * ((tA + 30002) * tB) := by grind
  rw [e] at g5
  have n := num_11 (tA := tA) (tB := tB) (Q := qA + qB) h.1 h.2.1 (by omega) h.2.2.2.2 (bb := smR (fun v => b v * c v) 0 40) (c1 := smR (fun v => b v * r v) 0 40) (c2 := smR (fun v => s v * c v) 0 40) (ss := smR (fun v => s v * r v) 0 40) (by omega) (by omega) (by omega) (by omega) (by omega)
  omega
