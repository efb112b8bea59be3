/-! ===== rows counted: cut, melt, rows of one value ===== -/
theorem half_up {l r x s : Int} (hl : 1 ≤ l) (hr : 1 ≤ r) (h : (l + r) * x - l * s ≤ l + r - 1) (h1 : l = 1) (hs : 0 ≤ s) : 2 * x ≤ s + 1 := by
  subst h1
  rcases Int.lt_or_le x 1 with q | q
  · omega
  · have m : 0 ≤ (r - 1) * (x - 1) := Int.mul_nonneg (by omega) (by omega)
    have e : (r - 1) * (x - 1) = (1 + r) * x - 2 * x - r + 1 := by grind
    omega
theorem jR_cut {n k l r a b x y β1 β2 B T K E T0 K0 : Int} {L R s β L' R' s' β' : Int → Int} (h : jR n L R s β B T K E T0 K0) (hk : 0 ≤ k) (hk2 : k < n) (hT : T ≤ T0 ∧ K ≤ K0 ∧ 0 ≤ T0 ∧ 0 ≤ K0)
    (e : ∀ j : Int, 0 ≤ j → j < n + 1 → L' j = insR L k l r j ∧ R' j = insR R k a b j ∧ s' j = insR s k x y j ∧ β' j = insR β k β1 β2 j)
    (hL : L k = l + r ∧ 0 ≤ l ∧ 0 ≤ r) (hR : R k = a + b ∧ 0 ≤ a ∧ 0 ≤ b) (hs : s k = x + y) (hs1 : 0 ≤ s k → 0 ≤ x ∧ 0 ≤ y) (hs2 : s k ≤ 0 → x ≤ 0 ∧ y ≤ 0) (hβ : abI β1 + abI β2 ≤ abI (β k)) (hl : l = 0 → x = 0 ∧ a = 0) (hr : r = 0 → y = 0 ∧ b = 0)
    (hd : 1 ≤ l → 1 ≤ r → -(l + r - 1) ≤ (l + r) * x - l * (x + y) ∧ (l + r) * x - l * (x + y) ≤ l + r - 1) : jR (n + 1) L' R' s' β' B T K (E + 5342931457063200 * 100000000) T0 K0 := by
  obtain ⟨j1, j2, j3, j4, j5⟩ := h
  obtain ⟨⟨q1, q2⟩, ⟨q3, q4⟩, q5, q6⟩ := j4 k hk hk2
  have sT : s k ≤ T := by
    have := smR_one (f := fun j => max (s j) 0) (a := 0) (b := n) (fun v _ _ => by omega) hk hk2
    omega
  have sK : -(s k) ≤ K := by
    have := smR_one (f := fun j => max (-(s j)) 0) (a := 0) (b := n) (fun v _ _ => by omega) hk hk2
    omega
  have cas : ∀ j : Int, 0 ≤ j → j < n + 1 → (0 ≤ j ∧ j < k) ∨ j = k ∨ j = k + 1 ∨ (k + 1 < j ∧ j - 1 < n) := fun j _ _ => by omega
  have full : ∀ F : Int → Int → Int → Int → Int, ∀ j : Int, 0 ≤ j → j < n + 1 → F (L' j) (R' j) (s' j) (β' j) = insR (fun i => F (L i) (R i) (s i) (β i)) k (F l a x β1) (F r b y β2) j := fun F j j0 j9 => by
    obtain ⟨e1, e2, e3, e4⟩ := e j j0 j9
    rw [e1, e2, e3, e4]
    rcases cas j j0 j9 with c | c | c | c
    · rw [insR_lt c.2, insR_lt c.2, insR_lt c.2, insR_lt c.2, insR_lt c.2]
    · rw [c, insR_k, insR_k, insR_k, insR_k, insR_k]
    · rw [insR_k1 c, insR_k1 c, insR_k1 c, insR_k1 c, insR_k1 c]
    · rw [insR_gt c.1, insR_gt c.1, insR_gt c.1, insR_gt c.1, insR_gt c.1]
  refine ⟨?_, ?_, ?_, fun j j0 j9 => ?_, ?_⟩
  · have := ins_sum hk hk2 (full fun _ _ _ z => abI z)
    omega
  · have := ins_sum hk hk2 (full fun _ _ z _ => max z 0)
    omega
  · have := ins_sum hk hk2 (full fun _ _ z _ => max (-z) 0)
    omega
  · obtain ⟨e1, e2, e3, -⟩ := e j j0 j9
    rw [e1, e2, e3]
    rcases cas j j0 j9 with c | c | c | c
    · rw [insR_lt c.2, insR_lt c.2, insR_lt c.2]; exact j4 j c.1 (by omega)
    · rw [c, insR_k, insR_k, insR_k]
      refine ⟨by omega, by omega, fun z => ?_, hl⟩
      by_cases w : r = 0
      · obtain ⟨w1, w2⟩ := hr w
        have := q5 (by omega)
        omega
      · have d := hd (by omega) (by omega)
        rw [← hs] at d
        rcases Int.le_total 0 (s k) with y0 | y0
        · have u := half_up (by omega) (by omega) d.2 z y0
          have := hs1 y0
          omega
        · have u := half_up (l := l) (r := r) (x := -x) (s := -(s k)) (by omega) (by omega) (by rw [Int.mul_neg, Int.mul_neg]; omega) z (by omega)
          have := hs2 y0
          omega
    · rw [insR_k1 c, insR_k1 c, insR_k1 c]
      refine ⟨by omega, by omega, fun z => ?_, hr⟩
      by_cases w : l = 0
      · obtain ⟨w1, w2⟩ := hl w
        have := q5 (by omega)
        omega
      · have d := hd (by omega) (by omega)
        have ex : (r + l) * y - r * (s k) = -((l + r) * x - l * (x + y)) := by rw [hs]; grind
        rcases Int.le_total 0 (s k) with y0 | y0
        · have u := half_up (l := r) (r := l) (x := y) (s := s k) (by omega) (by omega) (by omega) z y0
          have := hs1 y0
          omega
        · have u := half_up (l := r) (r := l) (x := -y) (s := -(s k)) (by omega) (by omega) (by rw [Int.mul_neg, Int.mul_neg]; omega) z (by omega)
          have := hs2 y0
          omega
    · rw [insR_gt c.1, insR_gt c.1, insR_gt c.1]; exact j4 (j - 1) (by omega) c.2
  · have := ins_sum hk hk2 (full fun p q z _ => wl p * ((z - q) * (z - q)))
    have g : wl l * ((x - a) * (x - a)) + wl r * ((y - b) * (y - b)) ≤ wl (L k) * ((s k - R k) * (s k - R k)) + 5342931457063200 * 100000000 := by
      rw [hL.1, hR.1, hs]
      have es : x + y - (a + b) = (x - a) + (y - b) := by omega
      rw [es]
      by_cases w1 : l = 0
      · obtain ⟨w2, w3⟩ := hl w1
        rw [w1, w2, w3]
        simp only [Int.zero_add, Int.sub_zero, Int.mul_zero]
        omega
      · by_cases w2 : r = 0
        · obtain ⟨w3, w4⟩ := hr w2
          rw [w2, w3, w4]
          simp only [Int.add_zero, Int.sub_zero, Int.mul_zero]
          omega
        · have d := hd (by omega) (by omega)
          have ma : 0 ≤ r * a ∧ r * a ≤ r * 10000 := ⟨Int.mul_nonneg (by omega) hR.2.1, Int.mul_le_mul_of_nonneg_left (by omega) (by omega)⟩
          have mb : 0 ≤ l * b ∧ l * b ≤ l * 10000 := ⟨Int.mul_nonneg (by omega) hR.2.2, Int.mul_le_mul_of_nonneg_left (by omega) (by omega)⟩
          have ex : (l + r) * (x - a) - l * ((x - a) + (y - b)) = ((l + r) * x - l * (x + y)) - r * a + l * b := by grind
          exact en_cut (by omega) (by omega) (by omega) (by rw [ex]; omega)
    omega
theorem jR_fuse {n k B T K E T0 K0 : Int} {L R s β L' R' s' β' : Int → Int} (h : jR n L R s β B T K E T0 K0) (hk : 0 ≤ k) (hk2 : k + 1 < n) (hLL : L k + L (k + 1) ≤ 40) (hRR : R k + R (k + 1) ≤ 10000)
    (e : ∀ j : Int, 0 ≤ j → j < n - 1 → L' j = delR L k (L k + L (k + 1)) j ∧ R' j = delR R k (R k + R (k + 1)) j ∧ s' j = delR s k (s k + s (k + 1)) j ∧ β' j = delR β k (β k + β (k + 1)) j) : jR (n - 1) L' R' s' β' B T K E T0 K0 := by
  obtain ⟨j1, j2, j3, j4, j5⟩ := h
  obtain ⟨⟨q1, q2⟩, ⟨q3, q4⟩, q5, q6⟩ := j4 k hk (by omega)
  obtain ⟨⟨p1, p2⟩, ⟨p3, p4⟩, p5, p6⟩ := j4 (k + 1) (by omega) hk2
  have full : ∀ F : Int → Int → Int → Int → Int, ∀ j : Int, 0 ≤ j → j < n - 1 → F (L' j) (R' j) (s' j) (β' j) = delR (fun i => F (L i) (R i) (s i) (β i)) k (F (L k + L (k + 1)) (R k + R (k + 1)) (s k + s (k + 1)) (β k + β (k + 1))) j := fun F j j0 j9 => by
    obtain ⟨e1, e2, e3, e4⟩ := e j j0 j9
    rw [e1, e2, e3, e4]
    rcases (by omega : j < k ∨ j = k ∨ k < j) with c | c | c
    · rw [delR_lt c, delR_lt c, delR_lt c, delR_lt c, delR_lt c]
    · rw [c, delR_k, delR_k, delR_k, delR_k, delR_k]
    · rw [delR_gt c, delR_gt c, delR_gt c, delR_gt c, delR_gt c]
  refine ⟨?_, ?_, ?_, fun j j0 j9 => ?_, ?_⟩
  · have := del_sum hk hk2 (full fun _ _ _ z => abI z)
    unfold abI at *
    omega
  · have := del_sum hk hk2 (full fun _ _ z _ => max z 0)
    omega
  · have := del_sum hk hk2 (full fun _ _ z _ => max (-z) 0)
    omega
  · obtain ⟨e1, e2, e3, -⟩ := e j j0 j9
    rw [e1, e2, e3]
    rcases (by omega : j < k ∨ j = k ∨ k < j) with c | c | c
    · rw [delR_lt c, delR_lt c, delR_lt c]; exact j4 j j0 (by omega)
    · rw [c, delR_k, delR_k, delR_k]
      refine ⟨by omega, by omega, fun z => ?_, fun z => ?_⟩
      · rcases (by omega : (L k = 0 ∧ L (k + 1) = 1) ∨ (L k = 1 ∧ L (k + 1) = 0)) with w | w
        · have := q6 w.1; have := p5 w.2; omega
        · have := q5 w.1; have := p6 w.2; omega
      · have := q6 (by omega); have := p6 (by omega); omega
    · rw [delR_gt c, delR_gt c, delR_gt c]; exact j4 (j + 1) (by omega) (by omega)
  · have := del_sum hk hk2 (full fun p q z _ => wl p * ((z - q) * (z - q)))
    have g := en_fuse (l := L k) (r := L (k + 1)) (y1 := s k - R k) (y2 := s (k + 1) - R (k + 1)) q1 p1 hLL (fun z => by have := q6 z; omega) (fun z => by have := p6 z; omega)
    rw [show s k - R k + (s (k + 1) - R (k + 1)) = s k + s (k + 1) - (R k + R (k + 1)) by omega] at g
    omega
