/-! ===== JOIN stays within a long: the numbers ===== -/
theorem pq_sq {x y P : Int} (h : x + y ≤ P) (h0 : 0 ≤ x) (h1 : 0 ≤ y) : 4 * (x * y) ≤ P * P := by
  have a : 0 ≤ (x - y) * (x - y) := by
    rcases Int.le_total 0 (x - y) with q | q
    · exact Int.mul_nonneg q q
    · exact Int.mul_nonneg_of_nonpos_of_nonpos q q
  have b := sq_le (a := x + y) (b := P) (by omega) h
  have e : (x + y) * (x + y) = (x - y) * (x - y) + 4 * (x * y) := by grind
  omega
theorem num_11 {tA tB Q bb c1 c2 ss : Int} (hA : 0 ≤ tA) (hB : 0 ≤ tB) (hQ : 0 ≤ Q) (hS : tA + tB + 1000 * Q ≤ 511000) (h0 : bb ≤ 2683044000000000000) (h1 : 4 * c1 ≤ 26830440000000 * (tB + 30002)) (h2 : 4 * c2 ≤ 26830440000000 * (tA + 30002)) (h3 : 16 * ss ≤ 26830440000000000 * (162 + 9 * Q)) (h4 : 4 * ss ≤ 268304400 * ((tA + 30002) * tB)) : bb + c1 + c2 + ss ≤ 9223372036854775807 := by
  by_cases q : Q ≤ 162
  · clear h4
    omega
  · have p := pq_sq (x := tA) (y := tB) (P := 348000) (by omega) hA hB
    have e : (tA + 30002) * tB = tA * tB + 30002 * tB := by grind
    rw [e] at h4
    clear h3
    generalize tA * tB = x at *
    omega
theorem num_21 {tA tB Q bb c1 c2 ss : Int} (hA : 0 ≤ tA) (hB : 0 ≤ tB) (hQ : 0 ≤ Q) (hS : tA + tB + 1000 * Q ≤ 511000) (h0 : bb ≤ 936936000000000000) (h1 : 4 * c1 ≤ 32792760000000 * (tB + 30002)) (h2 : 4 * c2 ≤ 18738720000000 * (tA + 10000)) (h3 : 16 * ss ≤ 32792760000000000 * (162 + 9 * Q)) (h4 : 4 * ss ≤ 187387200 * ((tA + 10000) * tB)) : bb + c1 + c2 + ss ≤ 9223372036854775807 := by
  by_cases q : Q ≤ 99
  · clear h4
    omega
  · have p := pq_sq (x := tA) (y := tB) (P := 411000) (by omega) hA hB
    have e : (tA + 10000) * tB = tA * tB + 10000 * tB := by grind
    rw [e] at h4
    clear h3
    generalize tA * tB = x at *
    omega
theorem num_22 {tA tB Q bb c1 c2 ss : Int} (hA : 0 ≤ tA) (hB : 0 ≤ tB) (hQ : 0 ≤ Q) (hS : tA + tB + 1000 * Q ≤ 511000) (h0 : bb ≤ 1145144000000000000) (h1 : 4 * c1 ≤ 22902880000000 * (tB + 10000)) (h2 : 4 * c2 ≤ 22902880000000 * (tA + 10000)) (h3 : 16 * ss ≤ 40080040000000000 * (162 + 9 * Q)) (h4 : 4 * ss ≤ 229028800 * ((tA + 10000) * tB)) : bb + c1 + c2 + ss ≤ 9223372036854775807 := by
  by_cases q : Q ≤ 99
  · clear h4
    omega
  · have p := pq_sq (x := tA) (y := tB) (P := 411000) (by omega) hA hB
    have e : (tA + 10000) * tB = tA * tB + 10000 * tB := by grind
    rw [e] at h4
    clear h3
    generalize tA * tB = x at *
    omega
theorem num_31 {tA tB Q bb c1 c2 ss : Int} (hA : 0 ≤ tA) (hB : 0 ≤ tB) (hQ : 0 ≤ Q) (hS : tA + tB + 1000 * Q ≤ 511000) (h0 : bb ≤ 908107200000000000) (h1 : 4 * c1 ≤ 45405360000000 * (tB + 30002)) (h2 : 4 * c2 ≤ 18162144000000 * (tA + 10000)) (h3 : 16 * ss ≤ 45405360000000000 * (162 + 9 * Q)) (h4 : 4 * ss ≤ 181621440 * ((tA + 10000) * tB)) : bb + c1 + c2 + ss ≤ 9223372036854775807 := by
  by_cases q : Q ≤ 74
  · clear h4
    omega
  · have p := pq_sq (x := tA) (y := tB) (P := 436000) (by omega) hA hB
    have e : (tA + 10000) * tB = tA * tB + 10000 * tB := by grind
    rw [e] at h4
    clear h3
    generalize tA * tB = x at *
    omega
theorem num_32 {tA tB Q bb c1 c2 ss : Int} (hA : 0 ≤ tA) (hB : 0 ≤ tB) (hQ : 0 ≤ Q) (hS : tA + tB + 1000 * Q ≤ 511000) (h0 : bb ≤ 1109908800000000000) (h1 : 4 * c1 ≤ 31711680000000 * (tB + 10000)) (h2 : 4 * c2 ≤ 22198176000000 * (tA + 10000)) (h3 : 16 * ss ≤ 55495440000000000 * (162 + 9 * Q)) (h4 : 4 * ss ≤ 221981760 * ((tA + 10000) * tB)) : bb + c1 + c2 + ss ≤ 9223372036854775807 := by
  by_cases q : Q ≤ 74
  · clear h4
    omega
  · have p := pq_sq (x := tA) (y := tB) (P := 436000) (by omega) hA hB
    have e : (tA + 10000) * tB = tA * tB + 10000 * tB := by grind
    rw [e] at h4
    clear h3
    generalize tA * tB = x at *
    omega
theorem num_33 {tA tB Q bb c1 c2 ss : Int} (hA : 0 ≤ tA) (hB : 0 ≤ tB) (hQ : 0 ≤ Q) (hS : tA + tB + 1000 * Q ≤ 511000) (h0 : bb ≤ 1536796800000000000) (h1 : 4 * c1 ≤ 30735936000000 * (tB + 10000)) (h2 : 4 * c2 ≤ 30735936000000 * (tA + 10000)) (h3 : 16 * ss ≤ 76839840000000000 * (162 + 9 * Q)) (h4 : 4 * ss ≤ 307359360 * ((tA + 10000) * tB)) : bb + c1 + c2 + ss ≤ 9223372036854775807 := by
  by_cases q : Q ≤ 74
  · clear h4
    omega
  · have p := pq_sq (x := tA) (y := tB) (P := 436000) (by omega) hA hB
    have e : (tA + 10000) * tB = tA * tB + 10000 * tB := by grind
    rw [e] at h4
    clear h3
    generalize tA * tB = x at *
    omega
