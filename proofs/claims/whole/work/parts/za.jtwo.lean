/-! ===== any two sketches' shares stay within a long ===== -/
theorem jV_two {WA WB : Int → Int} {D E tA tB qA qB : Int} (hD : 1 ≤ D) (hE : 1 ≤ E) (hA : jV WA D tA qA) (hB : jV WB E tB qB) (h : 0 ≤ tA ∧ 0 ≤ tB ∧ 0 ≤ qA ∧ 0 ≤ qB ∧ tA + tB + 1000 * (qA + qB) ≤ 511000) : smR (fun v => abI (WA v * WB v)) 0 40 ≤ 9223372036854775807 := by
  obtain ⟨b, s, a1, a2, a3, a4, ka⟩ := hA
  obtain ⟨c, r, b1, b2, b3, b4, kb⟩ := hB
  have sw : smR (fun v => abI (WA v * WB v)) 0 40 = smR (fun v => abI (WB v * WA v)) 0 40 := smR_congr fun v _ _ => by rw [Int.mul_comm]
  have h' : 0 ≤ tB ∧ 0 ≤ tA ∧ 0 ≤ qB ∧ 0 ≤ qA ∧ tB + tA + 1000 * (qB + qA) ≤ 511000 := by omega
  rcases ka with ka | ka | ka <;> rcases kb with kb | kb | kb
  · exact jV_11 hD hE h a1 a2 a4 b1 b2 b3 b4 ka kb
  · rw [sw]; exact jV_21 hE hD h' b1 b2 b4 a1 a2 a3 a4 kb ka
  · rw [sw]; exact jV_31 hE hD h' b1 b2 b4 a1 a2 a3 a4 kb ka
  · exact jV_21 hD hE h a1 a2 a4 b1 b2 b3 b4 ka kb
  · exact jV_22 hD hE h a1 a2 a4 b1 b2 b3 b4 ka kb
  · rw [sw]; exact jV_32 hE hD h' b1 b2 b4 a1 a2 a3 a4 kb ka
  · exact jV_31 hD hE h a1 a2 a4 b1 b2 b3 b4 ka kb
  · exact jV_32 hD hE h a1 a2 a4 b1 b2 b3 b4 ka kb
  · exact jV_33 hD hE h a1 a2 a4 b1 b2 b3 b4 ka kb
