/-! ===== TRAYS side by side ===== -/
theorem trR_one {σ w : Mem} {b : Nat} {t i : Int} (ht : 0 ≤ t ∧ t < 4) (hi : 0 ≤ i ∧ i < 4) (hne : t ≠ i) (hm : σ (b + 2) t ≤ 100) (c0 : w (3 + 2 * t.toNat) = σ (3 + 2 * t.toNat)) (c1 : w (3 + 2 * t.toNat + 1) = σ (3 + 2 * t.toNat + 1)) (h1 : w (b + 1) t = σ (b + 1) t) (h2 : w (b + 2) t = σ (b + 2) t) (h3 : ∀ j : Int, j < 100000 + 100 * i ∨ 100000 + 100 * i + 100 ≤ j → w (b + 3) j = σ (b + 3) j) (h : trR σ b t) : trR w b t := by
  unfold trR at *
  rw [c0, c1, h1, h2]
  rcases h with h | ⟨a1, a2, a3, a4, a5⟩
  · exact Or.inl h
  · exact Or.inr ⟨a1, a2, a3, a4, fun j j0 j1 => by rw [h3 _ (by omega)]; exact a5 j j0 j1⟩
set_option maxHeartbeats 1000000 in
theorem r_tray {σ u w : Mem} {b : Nat} {z z9 : Int} (hb : 52 ≤ b) {i1 s1 m1 : Int} (hR : Rel σ b) (hZ : szR σ b) (hT : mtW σ b) (hc : (if (0 ≤ i1 ∧ i1 < 4) ∧ (0 ≤ s1 ∧ s1 ≤ 3) ∧ (0 ≤ m1 ∧ m1 ≤ 100) then (z = 1 ∧ (∀ j : Int, 0 ≤ j → j < 100 → u ((3 + 2 * i1.toNat) + 1) (100000 + j) = 0) ∧ (∀ a : Nat, a ≠ (3 + 2 * i1.toNat) + 1 → u a = sput (sput (sput (sput σ (3 + 2 * i1.toNat) 1 1) (3 + 2 * i1.toNat) 2 s1) (3 + 2 * i1.toNat) 3 m1) 0 5 0 a)) else (z = 0 ∧ u = sput σ 0 5 1))) (hm : (if ¬ ((0 ≤ i1 ∧ i1 < 4) ∧ (0 ≤ s1 ∧ s1 ≤ 3) ∧ (0 ≤ m1 ∧ m1 ≤ 100)) then (z9 = 0 ∧ w = sput u b 0 1) else (z9 = 1 ∧ (∀ j : Int, 0 ≤ j → j < m1 → w (b + 3) (100000 + (100 * i1 + j)) = 0) ∧ (∀ j : Int, (j < 100000 + 100 * i1 ∨ 100000 + 100 * i1 + 100 ≤ j) → w (b + 3) j = u (b + 3) j) ∧ ∀ a : Nat, a ≠ b + 3 → w a = (sput (sput (sput u (b + 1) i1 s1) (b + 2) i1 m1) b 0 0) a))) : z = z9 ∧ Rel w b := by
  have t1 : 0 ≤ i1 ∧ i1 < 4 → (σ (3 + 2 * i1.toNat) 1 = 0 ∧ σ (b + 2) i1 = -1) ∨ (σ (3 + 2 * i1.toNat) 1 = 1 ∧ σ (b + 2) i1 = σ (3 + 2 * i1.toNat) 3 ∧ σ (b + 1) i1 = σ (3 + 2 * i1.toNat) 2 ∧ 0 ≤ σ (b + 2) i1 ∧ σ (b + 2) i1 ≤ 100) := fun q => by have g := (hT i1 q.1 q.2).2.2; rcases hR.2.2.1 i1 q.1 q.2 with z | z; exact Or.inl z; exact Or.inr ⟨z.1, z.2.1, z.2.2.1, z.2.2.2.1, g⟩
  by_cases c1 : (0 ≤ i1 ∧ i1 < 4) ∧ (0 ≤ s1 ∧ s1 ≤ 3) ∧ (0 ≤ m1 ∧ m1 ≤ 100)
  · rw [if_pos c1] at hc
    obtain ⟨hz, hu1, hu2⟩ := hc
    repeat (first | rw [if_pos (by omega)] at hm | rw [if_neg (by omega)] at hm)
    obtain ⟨hz9, hw1, hw2, hw3⟩ := hm
    refine ⟨by omega, ?_⟩
    have hi : 0 ≤ i1 ∧ i1 < 4 := by omega
    have eu : ∀ a : Nat, a ≠ 3 + 2 * i1.toNat → a ≠ 3 + 2 * i1.toNat + 1 → a ≠ 0 → u a = σ a := fun a q1 q2 q3 => by rw [hu2 a q2, sput_r q3, sput_r q1, sput_r q1, sput_r q1]
    have eT : u (3 + 2 * i1.toNat) 1 = 1 ∧ u (3 + 2 * i1.toNat) 2 = s1 ∧ u (3 + 2 * i1.toNat) 3 = m1 := by rw [hu2 (3 + 2 * i1.toNat) (by omega), sput_r (show 3 + 2 * i1.toNat ≠ 0 by omega)]; exact ⟨by rw [sput_j _ _ _ _ _ (by decide), sput_j _ _ _ _ _ (by decide), sput_s], by rw [sput_j _ _ _ _ _ (by decide), sput_s], by rw [sput_s]⟩
    have ew : ∀ a : Nat, a ≠ b + 3 → a ≠ b + 2 → a ≠ b + 1 → a ≠ b → w a = u a := fun a q1 q2 q3 q4 => by rw [hw3 a q1, sput_r q4, sput_r q2, sput_r q3]
    have w1 : ∀ j : Int, w (b + 1) j = if j = i1 then s1 else σ (b + 1) j := fun j => by rw [hw3 _ (by omega), sput_r (show b + 1 ≠ b by omega), sput_r (show b + 1 ≠ b + 2 by omega)]; by_cases q : j = i1; (rw [q, sput_s, if_pos rfl]); (rw [sput_j _ _ _ _ _ q, if_neg q, eu (b + 1) (by omega) (by omega) (by omega)])
    have w2 : ∀ j : Int, w (b + 2) j = if j = i1 then m1 else σ (b + 2) j := fun j => by rw [hw3 _ (by omega), sput_r (show b + 2 ≠ b by omega)]; by_cases q : j = i1; (rw [q, sput_s, if_pos rfl]); (rw [sput_j _ _ _ _ _ q, if_neg q, sput_r (show b + 2 ≠ b + 1 by omega), eu (b + 2) (by omega) (by omega) (by omega)])
    have w4 : ∀ j : Int, j ≠ 0 → w b j = σ b j := fun j q => by rw [hw3 _ (by omega), sput_j _ _ _ _ _ q, sput_r (show b ≠ b + 2 by omega), sput_r (show b ≠ b + 1 by omega), eu b (by omega) (by omega) (by omega)]
    have w5 : w b 0 = 0 := by rw [hw3 _ (by omega), sput_s]
    have w6 : w 0 5 = 0 := by rw [ew 0 (by omega) (by omega) (by omega) (by omega), hu2 0 (by omega), sput_s]
    have e : ∀ a : Nat, a ≠ 3 + 2 * i1.toNat → a ≠ 3 + 2 * i1.toNat + 1 → a ≠ 0 → a ≠ b + 3 → a ≠ b + 2 → a ≠ b + 1 → a ≠ b → w a = σ a := fun a p1 p2 p3 p4 p5 p6 p7 => by rw [ew a p4 p5 p6 p7, eu a p1 p2 p3]
    refine hR.trs (by unfold stR; omega) (by have h9 := hR.2.1; unfold frR at h9 ⊢; rw [e 51 (by omega) (by omega) (by omega) (by omega) (by omega) (by omega) (by omega), w4 100001 (by omega), w4 100002 (by omega)]; exact h9) (fun a q1 q2 => e a (by omega) (by omega) (by omega) (by omega) (by omega) (by omega) (by omega)) (fun a q1 q2 => e a (by omega) (by omega) (by omega) (by omega) (by omega) (by omega) (by omega)) (fun t t0 t1 => ?_)
    by_cases q : t = i1
    · subst q
      right
      have eT2 : w (3 + 2 * t.toNat) = u (3 + 2 * t.toNat) := ew _ (by omega) (by omega) (by omega) (by omega)
      rw [eT2, w1, w2, if_pos rfl, if_pos rfl]
      refine ⟨eT.1, by rw [eT.2.2], by rw [eT.2.1], by omega, fun j j0 j1 => ?_⟩
      rw [ew _ (by omega) (by omega) (by omega) (by omega), hu1 j j0 (by omega), hw1 j j0 j1]
    · exact trR_one ⟨t0, t1⟩ hi q (hT t t0 t1).2.2 (e _ (by omega) (by omega) (by omega) (by omega) (by omega) (by omega) (by omega)) (e _ (by omega) (by omega) (by omega) (by omega) (by omega) (by omega) (by omega)) (by rw [w1, if_neg q]) (by rw [w2, if_neg q]) (fun j p => by rw [hw2 j p, eu (b + 3) (by omega) (by omega) (by omega)]) (hR.2.2.1 t t0 t1)
  · rw [if_neg c1] at hc
    obtain ⟨hz, hu⟩ := hc
    subst hu
    try simp only [sput_r (show b + 1 ≠ 0 by omega), sput_r (show b + 3 ≠ 0 by omega)] at hm
    repeat (first | rw [if_pos (by omega)] at hm | rw [if_neg (by omega)] at hm)
    obtain ⟨hz9, hw⟩ := hm
    subst hw
    exact ⟨by omega, hR.st hb⟩
set_option maxHeartbeats 1000000 in
theorem r_write {σ u w : Mem} {b : Nat} {z z9 : Int} (hb : 52 ≤ b) {i1 p1 x1 : Int} (hR : Rel σ b) (hZ : szR σ b) (hT : mtW σ b) (hc : (if ¬ (0 ≤ i1 ∧ i1 < 4) then (z = 0 ∧ u = sput σ 0 5 1) else (if σ (3 + 2 * i1.toNat) 1 = 0 then (z = 0 ∧ u = sput σ 0 5 2) else (if ¬ (0 ≤ p1 ∧ p1 ≤ σ (3 + 2 * i1.toNat) 3 - 1) then (z = 0 ∧ u = sput σ 0 5 3) else (z = 1 ∧ u = sput (sput σ ((3 + 2 * i1.toNat) + 1) (100000 + p1) (fitI (σ (3 + 2 * i1.toNat) 2) x1)) 0 5 0))))) (hm : (if ¬ (0 ≤ i1 ∧ i1 < 4) then (z9 = 0 ∧ w = sput u b 0 1) else (if u (b + 2) i1 = -1 then (z9 = 0 ∧ w = sput u b 0 2) else (if ¬ (0 ≤ p1 ∧ p1 < u (b + 2) i1) then (z9 = 0 ∧ w = sput u b 0 3) else (z9 = 1 ∧ w = sput (sput u (b + 3) (100000 + (100 * i1 + p1)) (fitI (u (b + 1) i1) x1)) b 0 0))))) : z = z9 ∧ Rel w b := by
  have t1x : 0 ≤ i1 ∧ i1 < 4 → (σ (3 + 2 * i1.toNat) 1 = 0 ∧ σ (b + 2) i1 = -1) ∨ (σ (3 + 2 * i1.toNat) 1 = 1 ∧ σ (b + 2) i1 = σ (3 + 2 * i1.toNat) 3 ∧ σ (b + 1) i1 = σ (3 + 2 * i1.toNat) 2 ∧ 0 ≤ σ (b + 2) i1 ∧ σ (b + 2) i1 ≤ 100) := fun q => by have g := (hT i1 q.1 q.2).2.2; rcases hR.2.2.1 i1 q.1 q.2 with z | z; exact Or.inl z; exact Or.inr ⟨z.1, z.2.1, z.2.2.1, z.2.2.2.1, g⟩
  have t2x : 0 ≤ i1 ∧ i1 < 4 → ∀ j : Int, 0 ≤ j → j < σ (b + 2) i1 → σ (3 + 2 * i1.toNat + 1) (100000 + j) = σ (b + 3) (100000 + (100 * i1 + j)) := fun q j j0 j1 => by rcases hR.2.2.1 i1 q.1 q.2 with z | z; (exfalso; omega); exact z.2.2.2.2 j j0 j1
  by_cases c1 : ¬ (0 ≤ i1 ∧ i1 < 4)
  · rw [if_pos c1] at hc
    obtain ⟨hz, hu⟩ := hc
    subst hu
    try simp only [sput_r (show b + 1 ≠ 0 by omega), sput_r (show b + 2 ≠ 0 by omega), sput_r (show b + 3 ≠ 0 by omega)] at hm
    repeat (first | rw [if_pos (by omega)] at hm | rw [if_neg (by omega)] at hm)
    obtain ⟨hz9, hw⟩ := hm
    subst hw
    exact ⟨by omega, hR.st hb⟩
  · rw [if_neg c1] at hc
    by_cases c2 : σ (3 + 2 * i1.toNat) 1 = 0
    · rw [if_pos c2] at hc
      obtain ⟨hz, hu⟩ := hc
      subst hu
      try simp only [sput_r (show b + 1 ≠ 0 by omega), sput_r (show b + 2 ≠ 0 by omega), sput_r (show b + 3 ≠ 0 by omega)] at hm
      repeat (first | rw [if_pos (by omega)] at hm | rw [if_neg (by omega)] at hm)
      obtain ⟨hz9, hw⟩ := hm
      subst hw
      exact ⟨by omega, hR.st hb⟩
    · rw [if_neg c2] at hc
      by_cases c3 : ¬ (0 ≤ p1 ∧ p1 ≤ σ (3 + 2 * i1.toNat) 3 - 1)
      · rw [if_pos c3] at hc
        obtain ⟨hz, hu⟩ := hc
        subst hu
        try simp only [sput_r (show b + 1 ≠ 0 by omega), sput_r (show b + 2 ≠ 0 by omega), sput_r (show b + 3 ≠ 0 by omega)] at hm
        repeat (first | rw [if_pos (by omega)] at hm | rw [if_neg (by omega)] at hm)
        obtain ⟨hz9, hw⟩ := hm
        subst hw
        exact ⟨by omega, hR.st hb⟩
      · rw [if_neg c3] at hc
        obtain ⟨hz, hu⟩ := hc
        have eu : ∀ a : Nat, a ≠ 3 + 2 * i1.toNat + 1 → a ≠ 0 → u a = σ a := fun a q1 q2 => by rw [hu, sput_r q2, sput_r q1]
        rw [eu (b + 2) (by omega) (by omega), eu (b + 1) (by omega) (by omega)] at hm
        repeat (first | rw [if_pos (by omega)] at hm | rw [if_neg (by omega)] at hm)
        obtain ⟨hz9, hw⟩ := hm
        refine ⟨by omega, ?_⟩
        have hi : 0 ≤ i1 ∧ i1 < 4 := by omega
        have e : ∀ a : Nat, a ≠ 3 + 2 * i1.toNat + 1 → a ≠ 0 → a ≠ b + 3 → a ≠ b → w a = σ a := fun a p1 p2 p3 p4 => by rw [hw, sput_r p4, sput_r p3, eu a p1 p2]
        have w4 : ∀ j : Int, j ≠ 0 → w b j = σ b j := fun j q => by rw [hw, sput_j _ _ _ _ _ q, sput_r (show b ≠ b + 3 by omega), eu b (by omega) (by omega)]
        have w5 : w b 0 = 0 := by rw [hw, sput_s]
        have w6 : w 0 5 = 0 := by rw [hw, sput_r (show 0 ≠ b by omega), sput_r (show 0 ≠ b + 3 by omega), hu, sput_s]
        have w3 : ∀ j : Int, j ≠ 100000 + (100 * i1 + p1) → w (b + 3) j = σ (b + 3) j := fun j q => by rw [hw, sput_r (show b + 3 ≠ b by omega), sput_j _ _ _ _ _ q, eu (b + 3) (by omega) (by omega)]
        have w3b : w (b + 3) (100000 + (100 * i1 + p1)) = fitI (σ (b + 1) i1) x1 := by rw [hw, sput_r (show b + 3 ≠ b by omega), sput_s]
        have wt : ∀ j : Int, w (3 + 2 * i1.toNat + 1) (100000 + j) = if j = p1 then fitI (σ (3 + 2 * i1.toNat) 2) x1 else σ (3 + 2 * i1.toNat + 1) (100000 + j) := fun j => by rw [hw, sput_r (show 3 + 2 * i1.toNat + 1 ≠ b by omega), sput_r (show 3 + 2 * i1.toNat + 1 ≠ b + 3 by omega), hu, sput_r (show 3 + 2 * i1.toNat + 1 ≠ 0 by omega)]; by_cases q : j = p1; (rw [q, sput_s, if_pos rfl]); (rw [sput_j _ _ _ _ _ (by omega), if_neg q])
        refine hR.trs (by unfold stR; omega) (by have h9 := hR.2.1; unfold frR at h9 ⊢; rw [e 51 (by omega) (by omega) (by omega) (by omega), w4 100001 (by omega), w4 100002 (by omega)]; exact h9) (fun a q1 q2 => e a (by omega) (by omega) (by omega) (by omega)) (fun a q1 q2 => e a (by omega) (by omega) (by omega) (by omega)) (fun t t0 t1 => ?_)
        by_cases q : t = i1
        · subst q
          right
          rw [e (3 + 2 * t.toNat) (by omega) (by omega) (by omega) (by omega), e (b + 1) (by omega) (by omega) (by omega) (by omega), e (b + 2) (by omega) (by omega) (by omega) (by omega)]
          have t1_ := t1x hi
          refine ⟨by omega, by omega, by omega, by omega, fun j j0 j1 => ?_⟩
          rw [wt]
          by_cases q2 : j = p1
          · rw [if_pos q2, q2, w3b, show σ (b + 1) t = σ (3 + 2 * t.toNat) 2 by omega]
          · rw [if_neg q2, w3 _ (by omega)]; exact t2x hi j j0 j1
        · exact trR_one ⟨t0, t1⟩ hi q (hT t t0 t1).2.2 (e _ (by omega) (by omega) (by omega) (by omega)) (e _ (by omega) (by omega) (by omega) (by omega)) (by rw [e (b + 1) (by omega) (by omega) (by omega) (by omega)]) (by rw [e (b + 2) (by omega) (by omega) (by omega) (by omega)]) (fun j p => w3 j (by omega)) (hR.2.2.1 t t0 t1)
set_option maxHeartbeats 1000000 in
theorem r_pour {σ u w : Mem} {b : Nat} {z z9 : Int} (hb : 52 ≤ b) {i1 p1 i2 p2 m1 : Int} (hR : Rel σ b) (hZ : szR σ b) (hT : mtW σ b) (hc : (if ¬ ((0 ≤ i1 ∧ i1 < 4) ∧ (0 ≤ i2 ∧ i2 < 4) ∧ 0 ≤ p1 ∧ 0 ≤ p2 ∧ 0 ≤ m1) then (z = 0 ∧ u = sput σ 0 5 1) else (if σ (3 + 2 * i1.toNat) 1 = 0 ∨ σ (3 + 2 * i2.toNat) 1 = 0 then (z = 0 ∧ u = sput σ 0 5 2) else (if σ (3 + 2 * i1.toNat) 2 ≠ σ (3 + 2 * i2.toNat) 2 then (z = 0 ∧ u = sput σ 0 5 7) else (if ¬ (p1 ≤ σ (3 + 2 * i1.toNat) 3 - m1 ∧ p2 ≤ σ (3 + 2 * i2.toNat) 3 - m1) then (z = 0 ∧ u = sput σ 0 5 3) else (z = 1 ∧ u = sput (mset σ ((3 + 2 * i2.toNat) + 1) (mcpy (σ ((3 + 2 * i1.toNat) + 1)) (σ ((3 + 2 * i2.toNat) + 1)) (100000 + p1) (100000 + p2) m1)) 0 5 0)))))) (hm : (if ¬ ((0 ≤ i1 ∧ i1 < 4) ∧ (0 ≤ i2 ∧ i2 < 4) ∧ 0 ≤ p1 ∧ 0 ≤ p2 ∧ 0 ≤ m1) then (z9 = 0 ∧ w = sput u b 0 1) else (if u (b + 2) i1 = -1 ∨ u (b + 2) i2 = -1 then (z9 = 0 ∧ w = sput u b 0 2) else (if u (b + 1) i1 ≠ u (b + 1) i2 then (z9 = 0 ∧ w = sput u b 0 7) else (if ¬ (m1 ≤ u (b + 2) i1 - p1 ∧ m1 ≤ u (b + 2) i2 - p2) then (z9 = 0 ∧ w = sput u b 0 3) else (z9 = 1 ∧ (∀ j : Int, w (b + 3) (100000 + j) = if 0 ≤ (j - (100 * i2 + p2)) ∧ (j - (100 * i2 + p2)) < m1 then u (b + 3) (100000 + (100 * i1 + p1 + (j - (100 * i2 + p2)))) else u (b + 3) (100000 + j)) ∧ ∀ a : Nat, a ≠ b + 3 → w a = sput u b 0 0 a)))))) : z = z9 ∧ Rel w b := by
  have t1x : 0 ≤ i1 ∧ i1 < 4 → (σ (3 + 2 * i1.toNat) 1 = 0 ∧ σ (b + 2) i1 = -1) ∨ (σ (3 + 2 * i1.toNat) 1 = 1 ∧ σ (b + 2) i1 = σ (3 + 2 * i1.toNat) 3 ∧ σ (b + 1) i1 = σ (3 + 2 * i1.toNat) 2 ∧ 0 ≤ σ (b + 2) i1 ∧ σ (b + 2) i1 ≤ 100) := fun q => by have g := (hT i1 q.1 q.2).2.2; rcases hR.2.2.1 i1 q.1 q.2 with z | z; exact Or.inl z; exact Or.inr ⟨z.1, z.2.1, z.2.2.1, z.2.2.2.1, g⟩
  have t2x : 0 ≤ i1 ∧ i1 < 4 → ∀ j : Int, 0 ≤ j → j < σ (b + 2) i1 → σ (3 + 2 * i1.toNat + 1) (100000 + j) = σ (b + 3) (100000 + (100 * i1 + j)) := fun q j j0 j1 => by rcases hR.2.2.1 i1 q.1 q.2 with z | z; (exfalso; omega); exact z.2.2.2.2 j j0 j1
  have t1y : 0 ≤ i2 ∧ i2 < 4 → (σ (3 + 2 * i2.toNat) 1 = 0 ∧ σ (b + 2) i2 = -1) ∨ (σ (3 + 2 * i2.toNat) 1 = 1 ∧ σ (b + 2) i2 = σ (3 + 2 * i2.toNat) 3 ∧ σ (b + 1) i2 = σ (3 + 2 * i2.toNat) 2 ∧ 0 ≤ σ (b + 2) i2 ∧ σ (b + 2) i2 ≤ 100) := fun q => by have g := (hT i2 q.1 q.2).2.2; rcases hR.2.2.1 i2 q.1 q.2 with z | z; exact Or.inl z; exact Or.inr ⟨z.1, z.2.1, z.2.2.1, z.2.2.2.1, g⟩
  have t2y : 0 ≤ i2 ∧ i2 < 4 → ∀ j : Int, 0 ≤ j → j < σ (b + 2) i2 → σ (3 + 2 * i2.toNat + 1) (100000 + j) = σ (b + 3) (100000 + (100 * i2 + j)) := fun q j j0 j1 => by rcases hR.2.2.1 i2 q.1 q.2 with z | z; (exfalso; omega); exact z.2.2.2.2 j j0 j1
  by_cases c1 : ¬ ((0 ≤ i1 ∧ i1 < 4) ∧ (0 ≤ i2 ∧ i2 < 4) ∧ 0 ≤ p1 ∧ 0 ≤ p2 ∧ 0 ≤ m1)
  · rw [if_pos c1] at hc
    obtain ⟨hz, hu⟩ := hc
    subst hu
    try simp only [sput_r (show b + 1 ≠ 0 by omega), sput_r (show b + 2 ≠ 0 by omega), sput_r (show b + 3 ≠ 0 by omega)] at hm
    repeat (first | rw [if_pos (by omega)] at hm | rw [if_neg (by omega)] at hm)
    obtain ⟨hz9, hw⟩ := hm
    subst hw
    exact ⟨by omega, hR.st hb⟩
  · rw [if_neg c1] at hc
    by_cases c2 : σ (3 + 2 * i1.toNat) 1 = 0 ∨ σ (3 + 2 * i2.toNat) 1 = 0
    · rw [if_pos c2] at hc
      obtain ⟨hz, hu⟩ := hc
      subst hu
      try simp only [sput_r (show b + 1 ≠ 0 by omega), sput_r (show b + 2 ≠ 0 by omega), sput_r (show b + 3 ≠ 0 by omega)] at hm
      repeat (first | rw [if_pos (by omega)] at hm | rw [if_neg (by omega)] at hm)
      obtain ⟨hz9, hw⟩ := hm
      subst hw
      exact ⟨by omega, hR.st hb⟩
    · rw [if_neg c2] at hc
      by_cases c3 : σ (3 + 2 * i1.toNat) 2 ≠ σ (3 + 2 * i2.toNat) 2
      · rw [if_pos c3] at hc
        obtain ⟨hz, hu⟩ := hc
        subst hu
        try simp only [sput_r (show b + 1 ≠ 0 by omega), sput_r (show b + 2 ≠ 0 by omega), sput_r (show b + 3 ≠ 0 by omega)] at hm
        repeat (first | rw [if_pos (by omega)] at hm | rw [if_neg (by omega)] at hm)
        obtain ⟨hz9, hw⟩ := hm
        subst hw
        exact ⟨by omega, hR.st hb⟩
      · rw [if_neg c3] at hc
        by_cases c4 : ¬ (p1 ≤ σ (3 + 2 * i1.toNat) 3 - m1 ∧ p2 ≤ σ (3 + 2 * i2.toNat) 3 - m1)
        · rw [if_pos c4] at hc
          obtain ⟨hz, hu⟩ := hc
          subst hu
          try simp only [sput_r (show b + 1 ≠ 0 by omega), sput_r (show b + 2 ≠ 0 by omega), sput_r (show b + 3 ≠ 0 by omega)] at hm
          repeat (first | rw [if_pos (by omega)] at hm | rw [if_neg (by omega)] at hm)
          obtain ⟨hz9, hw⟩ := hm
          subst hw
          exact ⟨by omega, hR.st hb⟩
        · rw [if_neg c4] at hc
          obtain ⟨hz, hu⟩ := hc
          have eu : ∀ a : Nat, a ≠ 3 + 2 * i2.toNat + 1 → a ≠ 0 → u a = σ a := fun a q1 q2 => by rw [hu, sput_r q2, mset_n _ _ _ _ q1]
          rw [eu (b + 2) (by omega) (by omega), eu (b + 1) (by omega) (by omega)] at hm
          repeat (first | rw [if_pos (by omega)] at hm | rw [if_neg (by omega)] at hm)
          obtain ⟨hz9, hw1, hw2⟩ := hm
          refine ⟨by omega, ?_⟩
          have hi : 0 ≤ i1 ∧ i1 < 4 := by omega
          have hi2 : 0 ≤ i2 ∧ i2 < 4 := by omega
          have e : ∀ a : Nat, a ≠ 3 + 2 * i2.toNat + 1 → a ≠ 0 → a ≠ b + 3 → a ≠ b → w a = σ a := fun a p1 p2 p3 p4 => by rw [hw2 a p3, sput_r p4, eu a p1 p2]
          have w4 : ∀ j : Int, j ≠ 0 → w b j = σ b j := fun j q => by rw [hw2 b (by omega), sput_j _ _ _ _ _ q, eu b (by omega) (by omega)]
          have w5 : w b 0 = 0 := by rw [hw2 b (by omega), sput_s]
          have w6 : w 0 5 = 0 := by rw [hw2 0 (by omega), sput_r (show 0 ≠ b by omega), hu, sput_s]
          rw [eu (b + 3) (by omega) (by omega)] at hw1
          have wt : ∀ j : Int, w (3 + 2 * i2.toNat + 1) (100000 + j) = if p2 ≤ j ∧ j < p2 + m1 then σ (3 + 2 * i1.toNat + 1) (100000 + (p1 + (j - p2))) else σ (3 + 2 * i2.toNat + 1) (100000 + j) := fun j => by rw [hw2 _ (by omega), sput_r (show 3 + 2 * i2.toNat + 1 ≠ b by omega), hu, sput_r (show 3 + 2 * i2.toNat + 1 ≠ 0 by omega), mset_s, mcpy_app]; by_cases q : p2 ≤ j ∧ j < p2 + m1; (rw [if_pos q, if_pos (by omega)]; congr 1; omega); (rw [if_neg q, if_neg (by omega)])
          refine hR.trs (by unfold stR; omega) (by have h9 := hR.2.1; unfold frR at h9 ⊢; rw [e 51 (by omega) (by omega) (by omega) (by omega), w4 100001 (by omega), w4 100002 (by omega)]; exact h9) (fun a q1 q2 => e a (by omega) (by omega) (by omega) (by omega)) (fun a q1 q2 => e a (by omega) (by omega) (by omega) (by omega)) (fun t t0 t1 => ?_)
          have s1_ := t1x hi
          have s2_ := t1y hi2
          by_cases q : t = i2
          · subst q
            right
            rw [e (3 + 2 * t.toNat) (by omega) (by omega) (by omega) (by omega), e (b + 1) (by omega) (by omega) (by omega) (by omega), e (b + 2) (by omega) (by omega) (by omega) (by omega)]
            refine ⟨by omega, by omega, by omega, by omega, fun j j0 j1 => ?_⟩
            rw [wt, hw1]
            by_cases q2 : p2 ≤ j ∧ j < p2 + m1
            · rw [if_pos q2, if_pos (by omega), t2x hi (p1 + (j - p2)) (by omega) (by omega)]; congr 1; omega
            · rw [if_neg q2, if_neg (by omega)]; exact t2y hi2 j j0 j1
          · exact trR_one ⟨t0, t1⟩ hi2 q (hT t t0 t1).2.2 (e _ (by omega) (by omega) (by omega) (by omega)) (e _ (by omega) (by omega) (by omega) (by omega)) (by rw [e (b + 1) (by omega) (by omega) (by omega) (by omega)]) (by rw [e (b + 2) (by omega) (by omega) (by omega) (by omega)]) (fun j p => by rw [show j = 100000 + (j - 100000) by omega, hw1, if_neg (by omega)]) (hR.2.2.1 t t0 t1)
