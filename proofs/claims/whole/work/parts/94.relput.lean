/-! ===== put, strike, pack: the calls ===== -/
def saN (σ : Mem) (b : Nat) : Prop := ∀ c : Int, 0 ≤ c → c < 3 → 0 ≤ σ (b + 7) c ∧ 0 ≤ σ (b + 8) c
theorem pk_run {σ u : Mem} {b : Nat} {i : Int} {row row' : Int → Int} {N : Int} (hb : 52 ≤ b) (hco : coR2 σ u b i) (hn : 0 ≤ u (b + 11) i ∧ u (b + 11) i ≤ 12) (h7 : 0 ≤ u (b + 7) i ∧ u (b + 7) i ≤ 16) (h8 : 0 ≤ u (b + 8) i) (hrow : ∀ k : Int, 0 ≤ k → k < N → row (100000 + k) = row' k ∧ -1 ≤ row' k ∧ row' k ≤ 39) : ∀ n : Nat, (n : Int) ≤ N → coR2 (itrR (pkF (11 + 10 * i.toNat) row) 0 n σ) (itrR (fun k τ => mpS b i (row' k) τ) 0 n u) b i ∧ mpF u (itrR (fun k τ => mpS b i (row' k) τ) 0 n u) b i ∧ ∀ a : Nat, a < 11 + 10 * i.toNat ∨ 11 + 10 * i.toNat + 9 < a → itrR (pkF (11 + 10 * i.toNat) row) 0 n σ a = σ a := by
  intro n
  induction n with
  | zero => intro _; rw [itrR_nil (by omega), itrR_nil (by omega)]; exact ⟨hco, mpF.rf h8, fun _ _ => rfl⟩
  | succ n ih =>
    intro hN
    obtain ⟨g1, g2, g3⟩ := ih (by omega)
    rw [show ((n + 1 : Nat) : Int) = (n : Int) + 1 by omega, itrR_right (by omega), itrR_right (by omega)]
    generalize itrR (pkF (11 + 10 * i.toNat) row) 0 n σ = τ at *
    generalize itrR (fun k τ => mpS b i (row' k) τ) 0 n u = μ at *
    obtain ⟨r1, r2⟩ := hrow n (by omega) (by omega)
    have e11 := g2.1 (b + 11) (by omega)
    have e7 := g2.1 (b + 7) (by omega)
    have s := co_step (x := row' n) (n := 1) hb g1 (by rw [e11]; exact hn) (by rw [e7]; exact h7.1) g2.2.1 r2
    refine ⟨?_, g2.tr (mpS_F r2 (by rw [e11]; exact hn) (by rw [e7]; exact h7.2) g2.2.1), fun a q => ?_⟩
    · unfold pkF
      rw [r1]
      exact s
    · unfold pkF
      rw [enM_fr a q]
      exact g3 a q
set_option maxHeartbeats 1000000 in
theorem r_put {σ u w : Mem} {b : Nat} {z z9 : Int} (hb : 52 ≤ b) {i1 x1 m1 : Int} (hR : Rel σ b) (hZ : szR σ b) (hP : saB σ b) (hN : saN σ b) (hc : (if ¬ ((0 ≤ i1 ∧ i1 < 3) ∧ (-1 ≤ x1 ∧ x1 ≤ 39) ∧ (1 ≤ m1 ∧ m1 ≤ 1000)) then (z = 0 ∧ u = sput σ 0 5 1) else (if 10000 < σ (11 + 10 * i1.toNat) 3 + σ (11 + 10 * i1.toNat) 4 + m1 then (z = 0 ∧ u = sput σ 0 5 4) else (z = 1 ∧ u = sput (enM σ (11 + 10 * i1.toNat) x1 m1) 0 5 0)))) (hm : (if ¬ ((0 ≤ i1 ∧ i1 < 3) ∧ (-1 ≤ x1 ∧ x1 ≤ 39) ∧ (1 ≤ m1 ∧ m1 ≤ 1000)) then (z9 = 0 ∧ w = sput u b 0 1) else (if 10000 < u (b + 6) i1 + u (b + 5) i1 + m1 then (z9 = 0 ∧ w = sput u b 0 4) else (z9 = 1 ∧ w = sput (itrR (fun _ τ => mpS b i1 x1 τ) 0 m1 u) b 0 0)))) : z = z9 ∧ Rel w b := by
  have hK : 0 ≤ i1 ∧ i1 < 3 → coR σ b i1 := fun q => hR.2.2.2 i1 q.1 q.2
  have z1 : 0 ≤ i1 ∧ i1 < 3 → σ (11 + 10 * i1.toNat + 2) 5 = σ (b + 11) i1 := fun q => (hK q).2.1.1
  have z2 : 0 ≤ i1 ∧ i1 < 3 → 0 ≤ σ (b + 11) i1 ∧ σ (b + 11) i1 ≤ 12 := fun q => hZ i1 q.1 q.2
  have a1 : 0 ≤ i1 ∧ i1 < 3 → σ (11 + 10 * i1.toNat) 3 = σ (b + 6) i1 := fun q => (hK q).1.2.1
  have a2 : 0 ≤ i1 ∧ i1 < 3 → σ (11 + 10 * i1.toNat) 4 = σ (b + 5) i1 := fun q => (hK q).1.2.2
  by_cases c1 : ¬ ((0 ≤ i1 ∧ i1 < 3) ∧ (-1 ≤ x1 ∧ x1 ≤ 39) ∧ (1 ≤ m1 ∧ m1 ≤ 1000))
  · rw [if_pos c1] at hc
    obtain ⟨hz, hu⟩ := hc
    subst hu
    try simp only [sput_r (show b + 5 ≠ 0 by omega), sput_r (show b + 6 ≠ 0 by omega)] at hm
    repeat (first | rw [if_pos (by omega)] at hm | rw [if_neg (by omega)] at hm)
    obtain ⟨hz9, hw⟩ := hm
    subst hw
    exact ⟨by omega, hR.st hb⟩
  · rw [if_neg c1] at hc
    by_cases c2 : 10000 < σ (11 + 10 * i1.toNat) 3 + σ (11 + 10 * i1.toNat) 4 + m1
    · rw [if_pos c2] at hc
      obtain ⟨hz, hu⟩ := hc
      subst hu
      try simp only [sput_r (show b + 5 ≠ 0 by omega), sput_r (show b + 6 ≠ 0 by omega)] at hm
      repeat (first | rw [if_pos (by omega)] at hm | rw [if_neg (by omega)] at hm)
      obtain ⟨hz9, hw⟩ := hm
      subst hw
      exact ⟨by omega, hR.st hb⟩
    · rw [if_neg c2] at hc
      obtain ⟨hz, hu⟩ := hc
      have eu : ∀ a : Nat, b ≤ a → u a = σ a := fun a q => by rw [hu, sput_r (by omega), enM_fr a (by omega)]
      rw [eu (b + 5) (by omega), eu (b + 6) (by omega)] at hm
      repeat (first | rw [if_pos (by omega)] at hm | rw [if_neg (by omega)] at hm)
      obtain ⟨hz9, hw⟩ := hm
      refine ⟨by omega, ?_⟩
      have hi : 0 ≤ i1 ∧ i1 < 3 := by omega
      obtain ⟨n, hn⟩ : ∃ n : Nat, m1 = n := ⟨m1.toNat, by omega⟩
      subst hn
      have hN9 := hN i1 hi.1 hi.2
      have hP9 := hP i1 hi.1 hi.2
      have hz9_ := z2 hi
      have q1 : coR2 σ u b i1 := coR2_r (fun a p1 p2 => eu a (by omega)) (coR2_self.mpr (hK hi))
      have q2 := co_step (x := x1) (n := n) hb q1 (by rw [eu _ (by omega)]; exact hz9_) (by rw [eu _ (by omega)]; exact hN9.1) (by rw [eu _ (by omega)]; exact hN9.2) (by omega)
      have q3 := mp_F (b := b) (x := x1) (c := i1) (by omega) n u (by rw [eu _ (by omega)]; exact hz9_) (by rw [eu _ (by omega)]; exact hP9) (by rw [eu _ (by omega)]; exact hN9.2)
      exact hR.rows (u := u) hb hZ hP hi (fun a p q => by rw [hu, sput_r q, enM_fr a p]) (by rw [hu, sput_s]) q3 hw (coR2_l (fun a p1 p2 => by rw [hu, sput_r (by omega)]) q2)
set_option maxHeartbeats 1000000 in
theorem r_strike {σ u w : Mem} {b : Nat} {z z9 : Int} (hb : 52 ≤ b) {i1 x1 m1 : Int} (hR : Rel σ b) (hZ : szR σ b) (hP : saB σ b) (hN : saN σ b) (hc : (if ¬ ((0 ≤ i1 ∧ i1 < 3) ∧ (-1 ≤ x1 ∧ x1 ≤ 39) ∧ (1 ≤ m1 ∧ m1 ≤ 1000)) then (z = 0 ∧ u = sput σ 0 5 1) else (if (if 0 ≤ x1 ∧ x1 ≤ 39 then σ ((11 + 10 * i1.toNat) + 1) x1 else σ (11 + 10 * i1.toNat) 4) < m1 then (z = 0 ∧ u = sput σ 0 5 4) else (z = 1 ∧ u = sput (chM σ (11 + 10 * i1.toNat) x1 (-m1)) 0 5 0)))) (hm : (if ¬ ((0 ≤ i1 ∧ i1 < 3) ∧ (-1 ≤ x1 ∧ x1 ≤ 39) ∧ (1 ≤ m1 ∧ m1 ≤ 1000)) then (z9 = 0 ∧ w = sput u b 0 1) else (if (if x1 = -1 then u (b + 5) i1 else u (b + 4) (40 * i1 + x1)) < m1 then (z9 = 0 ∧ w = sput u b 0 4) else (z9 = 1 ∧ w = sput (itrR (fun _ τ => mcM τ b i1 x1 (-1)) 0 m1 u) b 0 0)))) : z = z9 ∧ Rel w b := by
  have hK : 0 ≤ i1 ∧ i1 < 3 → coR σ b i1 := fun q => hR.2.2.2 i1 q.1 q.2
  have z1 : 0 ≤ i1 ∧ i1 < 3 → σ (11 + 10 * i1.toNat + 2) 5 = σ (b + 11) i1 := fun q => (hK q).2.1.1
  have z2 : 0 ≤ i1 ∧ i1 < 3 → 0 ≤ σ (b + 11) i1 ∧ σ (b + 11) i1 ≤ 12 := fun q => hZ i1 q.1 q.2
  have a1 : 0 ≤ i1 ∧ i1 < 3 → σ (11 + 10 * i1.toNat) 3 = σ (b + 6) i1 := fun q => (hK q).1.2.1
  have a2 : 0 ≤ i1 ∧ i1 < 3 → σ (11 + 10 * i1.toNat) 4 = σ (b + 5) i1 := fun q => (hK q).1.2.2
  have a3 : 0 ≤ i1 ∧ i1 < 3 → 0 ≤ x1 ∧ x1 < 40 → σ (11 + 10 * i1.toNat + 1) x1 = σ (b + 4) (40 * i1 + x1) := fun q q2 => (hK q).1.1 x1 q2.1 q2.2
  by_cases c1 : ¬ ((0 ≤ i1 ∧ i1 < 3) ∧ (-1 ≤ x1 ∧ x1 ≤ 39) ∧ (1 ≤ m1 ∧ m1 ≤ 1000))
  · rw [if_pos c1] at hc
    obtain ⟨hz, hu⟩ := hc
    subst hu
    try simp only [sput_r (show b + 4 ≠ 0 by omega), sput_r (show b + 5 ≠ 0 by omega)] at hm
    repeat (first | rw [if_pos (by omega)] at hm | rw [if_neg (by omega)] at hm)
    obtain ⟨hz9, hw⟩ := hm
    subst hw
    exact ⟨by omega, hR.st hb⟩
  · rw [if_neg c1] at hc
    by_cases c2 : (if 0 ≤ x1 ∧ x1 ≤ 39 then σ ((11 + 10 * i1.toNat) + 1) x1 else σ (11 + 10 * i1.toNat) 4) < m1
    · rw [if_pos c2] at hc
      obtain ⟨hz, hu⟩ := hc
      subst hu
      try simp only [sput_r (show b + 4 ≠ 0 by omega), sput_r (show b + 5 ≠ 0 by omega)] at hm
      repeat (first | rw [if_pos (by omega)] at hm | rw [if_neg (by omega)] at hm)
      obtain ⟨hz9, hw⟩ := hm
      subst hw
      exact ⟨by omega, hR.st hb⟩
    · rw [if_neg c2] at hc
      obtain ⟨hz, hu⟩ := hc
      have fr : ∀ a : Nat, a < 11 + 10 * i1.toNat ∨ 11 + 10 * i1.toNat + 7 < a → chM σ (11 + 10 * i1.toNat) x1 (-m1) a = σ a := fun a q => chM_fr a (by omega) (by omega) (by omega) (by omega) (by omega)
      have eu : ∀ a : Nat, b ≤ a → u a = σ a := fun a q => by rw [hu, sput_r (by omega), fr a (by omega)]
      rw [eu (b + 5) (by omega), eu (b + 4) (by omega)] at hm
      repeat (first | rw [if_pos (by omega)] at hm | rw [if_neg (by omega)] at hm)
      obtain ⟨hz9, hw⟩ := hm
      refine ⟨by omega, ?_⟩
      have hi : 0 ≤ i1 ∧ i1 < 3 := by omega
      obtain ⟨n, hn⟩ : ∃ n : Nat, m1 = n := ⟨m1.toNat, by omega⟩
      subst hn
      have hN9 := hN i1 hi.1 hi.2
      have hz9_ := z2 hi
      obtain ⟨k1, k2, k3⟩ : coR2 σ u b i1 := coR2_r (fun a p1 p2 => eu a (by omega)) (coR2_self.mpr (hK hi))
      have q3 := mc_F (b := b) (x := x1) (s := -1) (c := i1) (by omega) n u (by rw [eu _ (by omega)]; exact hz9_) (by rw [eu _ (by omega)]; exact hN9.2)
      obtain ⟨g1, g2⟩ := rows_n (τ := σ) (τ' := u) (n := n) (s := -1) (x := x1) (Or.inr rfl) k1 k2 (by rw [eu _ (by omega)]; exact hz9_) (by omega) (fun a p1 p2 => by rw [hu, sput_r (by omega), show -1 * (n : Int) = -(n : Int) by omega]) (fun a j _ => mc_iter n a j)
      have g3 : saR2 u (itrR (fun _ τ => mcM τ b i1 x1 (-1)) 0 n u) b i1 := by
        have em : ∀ a : Nat, b + 7 ≤ a → a ≤ b + 10 → itrR (fun _ τ => mcM τ b i1 x1 (-1)) 0 n u a = u a := fun a p1 p2 => by funext j; rw [mc_iter, mcD_zero (by omega), Int.mul_zero, Int.add_zero]
        have ec : ∀ a : Nat, 11 + 10 * i1.toNat + 8 ≤ a → a ≤ 11 + 10 * i1.toNat + 9 → u a = σ a := fun a p1 p2 => by rw [hu, sput_r (by omega), fr a (by omega)]
        unfold saR2 at *
        rw [em (b + 7) (by omega) (by omega), em (b + 8) (by omega) (by omega), em (b + 9) (by omega) (by omega), em (b + 10) (by omega) (by omega), ec (11 + 10 * i1.toNat + 8) (by omega) (by omega), ec (11 + 10 * i1.toNat + 8 + 1) (by omega) (by omega)]
        exact k3
      exact hR.rows (u := u) hb hZ hP hi (fun a p q => by rw [hu, sput_r q, fr a (by omega)]) (by rw [hu, sput_s]) q3 hw ⟨g1, g2, g3⟩
set_option maxHeartbeats 1000000 in
theorem r_pack {σ u w : Mem} {b : Nat} {z z9 : Int} (hb : 52 ≤ b) {i1 i2 : Int} (hR : Rel σ b) (hZ : szR σ b) (hP : saB σ b) (hN : saN σ b) [Decidable (∀ j : Int, 0 ≤ j → j < σ (3 + 2 * i2.toNat) 3 → -1 ≤ σ ((3 + 2 * i2.toNat) + 1) (100000 + j) ∧ σ ((3 + 2 * i2.toNat) + 1) (100000 + j) ≤ 39)] [Decidable (∀ j : Int, 0 ≤ j → j < u (b + 2) i2 → -1 ≤ u (b + 3) (100000 + (100 * i2 + j)) ∧ u (b + 3) (100000 + (100 * i2 + j)) ≤ 39)] (hc : (if ¬ ((0 ≤ i1 ∧ i1 < 3) ∧ (0 ≤ i2 ∧ i2 < 4)) then (z = -1 ∧ u = sput σ 0 5 1) else (if σ (3 + 2 * i2.toNat) 1 = 0 then (z = -1 ∧ u = sput σ 0 5 2) else (if ¬ (∀ j : Int, 0 ≤ j → j < σ (3 + 2 * i2.toNat) 3 → -1 ≤ σ ((3 + 2 * i2.toNat) + 1) (100000 + j) ∧ σ ((3 + 2 * i2.toNat) + 1) (100000 + j) ≤ 39) then (z = -1 ∧ u = sput σ 0 5 1) else (if 10000 < σ (11 + 10 * i1.toNat) 3 + σ (11 + 10 * i1.toNat) 4 + σ (3 + 2 * i2.toNat) 3 then (z = -1 ∧ u = sput σ 0 5 4) else (z = σ (3 + 2 * i2.toNat) 3 ∧ u = sput (itrR (pkF (11 + 10 * i1.toNat) (σ ((3 + 2 * i2.toNat) + 1))) 0 (σ (3 + 2 * i2.toNat) 3) σ) 0 5 0)))))) (hm : (if ¬ ((0 ≤ i1 ∧ i1 < 3) ∧ (0 ≤ i2 ∧ i2 < 4)) then (z9 = -1 ∧ w = sput u b 0 1) else (if u (b + 2) i2 = -1 then (z9 = -1 ∧ w = sput u b 0 2) else (if ¬ (∀ j : Int, 0 ≤ j → j < u (b + 2) i2 → -1 ≤ u (b + 3) (100000 + (100 * i2 + j)) ∧ u (b + 3) (100000 + (100 * i2 + j)) ≤ 39) then (z9 = -1 ∧ w = sput u b 0 1) else (if 10000 < u (b + 6) i1 + u (b + 5) i1 + u (b + 2) i2 then (z9 = -1 ∧ w = sput u b 0 4) else (z9 = u (b + 2) i2 ∧ w = sput (itrR (fun k τ => mpS b i1 (u (b + 3) (100000 + (100 * i2 + k))) τ) 0 (u (b + 2) i2) u) b 0 0)))))) : z = z9 ∧ Rel w b := by
  have hK : 0 ≤ i1 ∧ i1 < 3 → coR σ b i1 := fun q => hR.2.2.2 i1 q.1 q.2
  have z1 : 0 ≤ i1 ∧ i1 < 3 → σ (11 + 10 * i1.toNat + 2) 5 = σ (b + 11) i1 := fun q => (hK q).2.1.1
  have z2 : 0 ≤ i1 ∧ i1 < 3 → 0 ≤ σ (b + 11) i1 ∧ σ (b + 11) i1 ≤ 12 := fun q => hZ i1 q.1 q.2
  have a1 : 0 ≤ i1 ∧ i1 < 3 → σ (11 + 10 * i1.toNat) 3 = σ (b + 6) i1 := fun q => (hK q).1.2.1
  have a2 : 0 ≤ i1 ∧ i1 < 3 → σ (11 + 10 * i1.toNat) 4 = σ (b + 5) i1 := fun q => (hK q).1.2.2
  have t1 : 0 ≤ i2 ∧ i2 < 4 → (σ (3 + 2 * i2.toNat) 1 = 0 ∧ σ (b + 2) i2 = -1) ∨ (σ (3 + 2 * i2.toNat) 1 = 1 ∧ σ (b + 2) i2 = σ (3 + 2 * i2.toNat) 3 ∧ 0 ≤ σ (b + 2) i2) := fun q => by rcases hR.2.2.1 i2 q.1 q.2 with z | z; exact Or.inl z; exact Or.inr ⟨z.1, z.2.1, z.2.2.2.1⟩
  have t2 : 0 ≤ i2 ∧ i2 < 4 → ∀ j : Int, 0 ≤ j → j < σ (b + 2) i2 → σ (3 + 2 * i2.toNat + 1) (100000 + j) = σ (b + 3) (100000 + (100 * i2 + j)) := fun q j j0 j1 => by rcases hR.2.2.1 i2 q.1 q.2 with z | z; (exfalso; omega); exact z.2.2.2.2 j j0 j1
  by_cases c1 : ¬ ((0 ≤ i1 ∧ i1 < 3) ∧ (0 ≤ i2 ∧ i2 < 4))
  · rw [if_pos c1] at hc
    obtain ⟨hz, hu⟩ := hc
    by_cases c9 : ¬ ((0 ≤ i1 ∧ i1 < 3) ∧ (0 ≤ i2 ∧ i2 < 4))
    · subst hu
      rw [if_pos c9] at hm
      obtain ⟨hz9, hw⟩ := hm
      subst hw
      exact ⟨by omega, hR.st hb⟩
    · rw [if_neg c9] at hm
      have t1_ := t1 (by omega)
      have hA : ¬ (∀ j : Int, 0 ≤ j → j < σ (3 + 2 * i2.toNat) 3 → -1 ≤ σ ((3 + 2 * i2.toNat) + 1) (100000 + j) ∧ σ ((3 + 2 * i2.toNat) + 1) (100000 + j) ≤ 39) := by first | exact c3 | (exfalso; omega)
      have eu : ∀ a : Nat, b ≤ a → u a = σ a := fun a q => by rw [hu, sput_r (by omega)]
      rw [if_neg (show ¬ u (b + 2) i2 = -1 by rw [eu _ (by omega)]; omega), if_pos (fun q => hA (fun j j0 j1 => by have g := q j j0 (by rw [eu _ (by omega)]; omega); rw [eu _ (by omega)] at g; rw [t2 (by omega) j j0 (by omega)]; exact g))] at hm
      subst hu
      obtain ⟨hz9, hw⟩ := hm
      subst hw
      exact ⟨by omega, hR.st hb⟩
  · rw [if_neg c1] at hc
    by_cases c2 : σ (3 + 2 * i2.toNat) 1 = 0
    · rw [if_pos c2] at hc
      obtain ⟨hz, hu⟩ := hc
      subst hu
      try simp only [sput_r (show b + 2 ≠ 0 by omega), sput_r (show b + 3 ≠ 0 by omega), sput_r (show b + 5 ≠ 0 by omega), sput_r (show b + 6 ≠ 0 by omega)] at hm
      repeat (first | rw [if_pos (by omega)] at hm | rw [if_neg (by omega)] at hm)
      obtain ⟨hz9, hw⟩ := hm
      subst hw
      exact ⟨by omega, hR.st hb⟩
    · rw [if_neg c2] at hc
      by_cases c3 : ¬ (∀ j : Int, 0 ≤ j → j < σ (3 + 2 * i2.toNat) 3 → -1 ≤ σ ((3 + 2 * i2.toNat) + 1) (100000 + j) ∧ σ ((3 + 2 * i2.toNat) + 1) (100000 + j) ≤ 39)
      · rw [if_pos c3] at hc
        obtain ⟨hz, hu⟩ := hc
        by_cases c9 : ¬ ((0 ≤ i1 ∧ i1 < 3) ∧ (0 ≤ i2 ∧ i2 < 4))
        · subst hu
          rw [if_pos c9] at hm
          obtain ⟨hz9, hw⟩ := hm
          subst hw
          exact ⟨by omega, hR.st hb⟩
        · rw [if_neg c9] at hm
          have t1_ := t1 (by omega)
          have hA : ¬ (∀ j : Int, 0 ≤ j → j < σ (3 + 2 * i2.toNat) 3 → -1 ≤ σ ((3 + 2 * i2.toNat) + 1) (100000 + j) ∧ σ ((3 + 2 * i2.toNat) + 1) (100000 + j) ≤ 39) := by first | exact c3 | (exfalso; omega)
          have eu : ∀ a : Nat, b ≤ a → u a = σ a := fun a q => by rw [hu, sput_r (by omega)]
          rw [if_neg (show ¬ u (b + 2) i2 = -1 by rw [eu _ (by omega)]; omega), if_pos (fun q => hA (fun j j0 j1 => by have g := q j j0 (by rw [eu _ (by omega)]; omega); rw [eu _ (by omega)] at g; rw [t2 (by omega) j j0 (by omega)]; exact g))] at hm
          subst hu
          obtain ⟨hz9, hw⟩ := hm
          subst hw
          exact ⟨by omega, hR.st hb⟩
      · rw [if_neg c3] at hc
        by_cases c4 : 10000 < σ (11 + 10 * i1.toNat) 3 + σ (11 + 10 * i1.toNat) 4 + σ (3 + 2 * i2.toNat) 3
        · rw [if_pos c4] at hc
          obtain ⟨hz, hu⟩ := hc
          have t1_ := t1 (by omega)
          have hA : (∀ j : Int, 0 ≤ j → j < σ (3 + 2 * i2.toNat) 3 → -1 ≤ σ ((3 + 2 * i2.toNat) + 1) (100000 + j) ∧ σ ((3 + 2 * i2.toNat) + 1) (100000 + j) ≤ 39) := Classical.not_not.mp c3
          have eu : ∀ a : Nat, b ≤ a → u a = σ a := fun a q => by rw [hu, sput_r (by omega)]
          rw [if_neg (show ¬ ¬ ((0 ≤ i1 ∧ i1 < 3) ∧ (0 ≤ i2 ∧ i2 < 4)) by omega), if_neg (show ¬ u (b + 2) i2 = -1 by rw [eu _ (by omega)]; omega), if_neg (fun q => q (fun j j0 j1 => by rw [eu _ (by omega)] at j1 ⊢; rw [← t2 (by omega) j j0 (by omega)]; exact hA j j0 (by omega)))] at hm
          rw [eu (b + 2) (by omega), eu (b + 5) (by omega), eu (b + 6) (by omega), if_pos (by omega)] at hm
          subst hu
          obtain ⟨hz9, hw⟩ := hm
          subst hw
          exact ⟨by omega, hR.st hb⟩
        · rw [if_neg c4] at hc
          obtain ⟨hz, hu⟩ := hc
          have t1_ := t1 (by omega)
          have hA : (∀ j : Int, 0 ≤ j → j < σ (3 + 2 * i2.toNat) 3 → -1 ≤ σ ((3 + 2 * i2.toNat) + 1) (100000 + j) ∧ σ ((3 + 2 * i2.toNat) + 1) (100000 + j) ≤ 39) := Classical.not_not.mp c3
          have hi : 0 ≤ i1 ∧ i1 < 3 := by omega
          have hi2 : 0 ≤ i2 ∧ i2 < 4 := by omega
          obtain ⟨n, hn⟩ : ∃ n : Nat, σ (3 + 2 * i2.toNat) 3 = n := ⟨(σ (3 + 2 * i2.toNat) 3).toNat, by omega⟩
          have hN9 := hN i1 hi.1 hi.2
          have hP9 := hP i1 hi.1 hi.2
          have hz9_ := z2 hi
          have fr0 : ∀ m : Nat, ∀ a : Nat, a < 11 + 10 * i1.toNat ∨ 11 + 10 * i1.toNat + 9 < a → itrR (pkF (11 + 10 * i1.toNat) (σ ((3 + 2 * i2.toNat) + 1))) 0 m σ a = σ a := by
            intro m
            induction m with
            | zero => intro a _; rw [itrR_nil (by omega)]
            | succ m ih => intro a q; rw [show ((m + 1 : Nat) : Int) = (m : Int) + 1 by omega, itrR_right (by omega)]; unfold pkF; rw [enM_fr a q]; exact ih a q
          rw [hn] at hu
          have eu : ∀ a : Nat, b ≤ a → u a = σ a := fun a q => by rw [hu, sput_r (by omega), fr0 n a (by omega)]
          rw [if_neg (show ¬ ¬ ((0 ≤ i1 ∧ i1 < 3) ∧ (0 ≤ i2 ∧ i2 < 4)) by omega), if_neg (show ¬ u (b + 2) i2 = -1 by rw [eu _ (by omega)]; omega), if_neg (fun q => q (fun j j0 j1 => by rw [eu _ (by omega)] at j1 ⊢; rw [← t2 (by omega) j j0 (by omega)]; exact hA j j0 (by omega)))] at hm
          rw [eu (b + 2) (by omega), eu (b + 3) (by omega), eu (b + 5) (by omega), eu (b + 6) (by omega), if_neg (by omega)] at hm
          obtain ⟨hz9, hw⟩ := hm
          refine ⟨by omega, ?_⟩
          rw [show σ (b + 2) i2 = n by omega] at hw
          have q1 : coR2 σ u b i1 := coR2_r (fun a p1 p2 => eu a (by omega)) (coR2_self.mpr (hK hi))
          obtain ⟨g1, g2, g3⟩ := pk_run (row := σ ((3 + 2 * i2.toNat) + 1)) (row' := fun k => σ (b + 3) (100000 + (100 * i2 + k))) (N := n) hb q1 (by rw [eu _ (by omega)]; exact hz9_) (by rw [eu _ (by omega)]; exact ⟨hN9.1, hP9⟩) (by rw [eu _ (by omega)]; exact hN9.2) (fun k k0 k1 => ⟨t2 hi2 k k0 (by omega), by (try dsimp only); rw [← t2 hi2 k k0 (by omega)]; exact hA k k0 (by omega)⟩) n (by omega)
          exact hR.rows (u := u) hb hZ hP hi (fun a p q => by rw [hu, sput_r q, fr0 n a p]) (by rw [hu, sput_s]) g2 hw (coR2_l (fun a p1 p2 => by rw [hu, sput_r (by omega)]) g1)
