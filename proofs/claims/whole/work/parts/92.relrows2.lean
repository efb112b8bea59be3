/-! ===== ROWS put and struck, side by side: the class's batches ===== -/
theorem ch_facts {τ : Mem} {C : Nat} {x m : Int} (hx : 0 ≤ x ∧ x ≤ 39) (hn : 0 ≤ τ (C + 2) 5) :
    (∀ j : Int, chM τ C x m (C + 1) j = τ (C + 1) j + if j = x then m else 0) ∧ chM τ C x m C 3 = τ C 3 + m ∧ chM τ C x m C 4 = τ C 4 ∧ chM τ C x m (C + 2) 5 = τ (C + 2) 5 ∧ chM τ C x m (C + 2 + 1) = τ (C + 2 + 1) ∧ chM τ C x m (C + 2 + 3) = τ (C + 2 + 3) ∧ chM τ C x m (C + 2 + 4) = τ (C + 2 + 4) ∧ (τ (C + 2) 5 ≠ 0 → chM τ C x m (C + 2) 6 = τ (C + 2) 6 + if 0 ≤ m then m else -m) ∧ (∀ j : Int, chM τ C x m (C + 2 + 2) j = τ (C + 2 + 2) j + if τ (C + 2) 5 ≠ 0 ∧ τ (C + 2 + 4) x = 0 ∧ j = spOf (τ (C + 2 + 1)) (τ (C + 2) 5) x then m else 0) ∧ (∀ j : Int, chM τ C x m (C + 2 + 5) j = τ (C + 2 + 5) j + if τ (C + 2) 5 ≠ 0 ∧ τ (C + 2 + 4) x ≠ 0 ∧ j = x then m else 0) := by
  unfold chM shM
  rw [if_pos hx]
  have r1 : ∀ v1 v2 : Int, ∀ a : Nat, a ≠ C + 1 → a ≠ C → sput (sput τ (C + 1) x v1) C 3 v2 a = τ a := fun v1 v2 a q1 q2 => by rw [sput_r q2, sput_r q1]
  rw [r1 _ _ (C + 2) (by omega) (by omega), r1 _ _ (C + 2 + 4) (by omega) (by omega), r1 _ _ (C + 2 + 1) (by omega) (by omega), r1 _ _ (C + 2 + 2) (by omega) (by omega), r1 _ _ (C + 2 + 5) (by omega) (by omega)]
  by_cases h5 : 0 < τ (C + 2) 5
  · rw [if_pos h5]
    by_cases h4 : τ (C + 2 + 4) x = 0
    · rw [if_pos h4]
      refine ⟨fun j => ?_, ?_, ?_, ?_, ?_, ?_, ?_, fun _ => ?_, fun j => ?_, fun j => ?_⟩
      · rw [sput_r (show C + 1 ≠ C + 2 + 2 by omega), sput_r (show C + 1 ≠ C + 2 by omega), sput_r (show C + 1 ≠ C by omega)]
        by_cases q : j = x
        · rw [q, sput_s, if_pos rfl]
        · rw [sput_j _ _ _ _ _ q, if_neg q]; omega
      · rw [sput_r (show C ≠ C + 2 + 2 by omega), sput_r (show C ≠ C + 2 by omega), sput_s]
      · rw [sput_r (show C ≠ C + 2 + 2 by omega), sput_r (show C ≠ C + 2 by omega), sput_j _ _ _ _ _ (by decide), sput_r (show C ≠ C + 1 by omega)]
      · rw [sput_r (show C + 2 ≠ C + 2 + 2 by omega), sput_j _ _ _ _ _ (by decide), r1 _ _ (C + 2) (by omega) (by omega)]
      · rw [sput_r (show C + 2 + 1 ≠ C + 2 + 2 by omega), sput_r (show C + 2 + 1 ≠ C + 2 by omega), r1 _ _ _ (by omega) (by omega)]
      · rw [sput_r (show C + 2 + 3 ≠ C + 2 + 2 by omega), sput_r (show C + 2 + 3 ≠ C + 2 by omega), r1 _ _ _ (by omega) (by omega)]
      · rw [sput_r (show C + 2 + 4 ≠ C + 2 + 2 by omega), sput_r (show C + 2 + 4 ≠ C + 2 by omega), r1 _ _ _ (by omega) (by omega)]
      · rw [sput_r (show C + 2 ≠ C + 2 + 2 by omega), sput_s]
      · by_cases q : j = spOf (τ (C + 2 + 1)) (τ (C + 2) 5) x
        · rw [q, sput_s, if_pos ⟨by omega, h4, rfl⟩]
        · rw [sput_j _ _ _ _ _ q, sput_r (show C + 2 + 2 ≠ C + 2 by omega), r1 _ _ _ (by omega) (by omega), if_neg (fun z => q z.2.2)]; omega
      · rw [sput_r (show C + 2 + 5 ≠ C + 2 + 2 by omega), sput_r (show C + 2 + 5 ≠ C + 2 by omega), r1 _ _ _ (by omega) (by omega), if_neg (fun z => z.2.1 h4)]; omega
    · rw [if_neg h4]
      refine ⟨fun j => ?_, ?_, ?_, ?_, ?_, ?_, ?_, fun _ => ?_, fun j => ?_, fun j => ?_⟩
      · rw [sput_r (show C + 1 ≠ C + 2 + 5 by omega), sput_r (show C + 1 ≠ C + 2 by omega), sput_r (show C + 1 ≠ C by omega)]
        by_cases q : j = x
        · rw [q, sput_s, if_pos rfl]
        · rw [sput_j _ _ _ _ _ q, if_neg q]; omega
      · rw [sput_r (show C ≠ C + 2 + 5 by omega), sput_r (show C ≠ C + 2 by omega), sput_s]
      · rw [sput_r (show C ≠ C + 2 + 5 by omega), sput_r (show C ≠ C + 2 by omega), sput_j _ _ _ _ _ (by decide), sput_r (show C ≠ C + 1 by omega)]
      · rw [sput_r (show C + 2 ≠ C + 2 + 5 by omega), sput_j _ _ _ _ _ (by decide), r1 _ _ (C + 2) (by omega) (by omega)]
      · rw [sput_r (show C + 2 + 1 ≠ C + 2 + 5 by omega), sput_r (show C + 2 + 1 ≠ C + 2 by omega), r1 _ _ _ (by omega) (by omega)]
      · rw [sput_r (show C + 2 + 3 ≠ C + 2 + 5 by omega), sput_r (show C + 2 + 3 ≠ C + 2 by omega), r1 _ _ _ (by omega) (by omega)]
      · rw [sput_r (show C + 2 + 4 ≠ C + 2 + 5 by omega), sput_r (show C + 2 + 4 ≠ C + 2 by omega), r1 _ _ _ (by omega) (by omega)]
      · rw [sput_r (show C + 2 ≠ C + 2 + 5 by omega), sput_s]
      · rw [sput_r (show C + 2 + 2 ≠ C + 2 + 5 by omega), sput_r (show C + 2 + 2 ≠ C + 2 by omega), r1 _ _ _ (by omega) (by omega), if_neg (fun z => h4 z.2.1)]; omega
      · by_cases q : j = x
        · rw [q, sput_s, if_pos ⟨by omega, h4, rfl⟩]
        · rw [sput_j _ _ _ _ _ q, sput_r (show C + 2 + 5 ≠ C + 2 by omega), r1 _ _ _ (by omega) (by omega), if_neg (fun z => q z.2.2)]; omega
  · rw [if_neg h5]
    refine ⟨fun j => ?_, ?_, ?_, ?_, r1 _ _ _ (by omega) (by omega), r1 _ _ _ (by omega) (by omega), r1 _ _ _ (by omega) (by omega), fun q => by omega, fun j => ?_, fun j => ?_⟩
    · rw [sput_r (show C + 1 ≠ C by omega)]
      by_cases q : j = x
      · rw [q, sput_s, if_pos rfl]
      · rw [sput_j _ _ _ _ _ q, if_neg q]; omega
    · rw [sput_s]
    · rw [sput_j _ _ _ _ _ (by decide), sput_r (show C ≠ C + 1 by omega)]
    · rw [r1 _ _ (C + 2) (by omega) (by omega)]
    · rw [r1 _ _ _ (by omega) (by omega), if_neg (fun z => by omega)]; omega
    · rw [r1 _ _ _ (by omega) (by omega), if_neg (fun z => by omega)]; omega
theorem md_facts {σ : Mem} {b : Nat} {c x s : Int} (hx : x ≠ -1) : (∀ j : Int, mcD σ b c x s (b + 4) (40 * c + j) = if j = x then s else 0) ∧ mcD σ b c x s (b + 6) c = s ∧ mcD σ b c x s (b + 5) c = 0 ∧ (mcD σ b c x s (b + 12) c = if σ (b + 11) c = 0 then 0 else 1) ∧ (∀ j : Int, mcD σ b c x s (b + 16) (40 * c + j) = if σ (b + 11) c ≠ 0 ∧ shR (σ (b + 14)) (40 * c) x = 0 ∧ j = spOf (shR (σ (b + 15)) (40 * c)) (σ (b + 11) c) x then s else 0) ∧ ∀ j : Int, mcD σ b c x s (b + 13) (40 * c + j) = if σ (b + 11) c ≠ 0 ∧ shR (σ (b + 14)) (40 * c) x ≠ 0 ∧ j = x then s else 0 := by
  unfold mcD
  simp only [if_neg hx, shR_e]
  refine ⟨fun j => ?_, ?_, ?_, ?_, fun j => ?_, fun j => ?_⟩ <;> grind
/-- other columns' places -/
theorem md_other {σ : Mem} {b : Nat} {c x s : Int} (hx : -1 ≤ x ∧ x ≤ 39) (hn : 0 ≤ σ (b + 11) c ∧ σ (b + 11) c ≤ 12) {d : Int} (hd : d ≠ c) : (∀ j : Int, 0 ≤ j → j < 40 → mcD σ b c x s (b + 4) (40 * d + j) = 0 ∧ mcD σ b c x s (b + 13) (40 * d + j) = 0 ∧ mcD σ b c x s (b + 16) (40 * d + j) = 0) ∧ mcD σ b c x s (b + 5) d = 0 ∧ mcD σ b c x s (b + 6) d = 0 ∧ mcD σ b c x s (b + 12) d = 0 := by
  have sb := spOf_bd (shR (σ (b + 15)) (40 * c)) (σ (b + 11) c) x
  unfold mcD
  generalize spOf (shR (σ (b + 15)) (40 * c)) (σ (b + 11) c) x = sp at *
  by_cases h1 : x = -1
  · simp only [if_pos h1]
    refine ⟨fun j j0 j1 => ⟨?_, ?_, ?_⟩, ?_, ?_, ?_⟩ <;> grind
  · simp only [if_neg h1]
    by_cases h2 : σ (b + 11) c = 0
    · simp only [if_pos h2]
      refine ⟨fun j j0 j1 => ⟨?_, ?_, ?_⟩, ?_, ?_, ?_⟩
      · (repeat' split) <;> omega
      · (repeat' split) <;> omega
      · (repeat' split) <;> omega
      · (repeat' split) <;> omega
      · (repeat' split) <;> omega
      · (repeat' split) <;> omega
    · have sb2 := sb.2.1 (by omega)
      simp only [if_neg h2]
      refine ⟨fun j j0 j1 => ⟨?_, ?_, ?_⟩, ?_, ?_, ?_⟩
      · (repeat' split) <;> omega
      · (repeat' split) <;> omega
      · (repeat' split) <;> omega
      · (repeat' split) <;> omega
      · (repeat' split) <;> omega
      · (repeat' split) <;> omega
/-- rows and sketch behind n rows more (s = 1) or less (s = -1) -/
theorem rows_n {τ τ' μ μ' : Mem} {b : Nat} {c x s : Int} {n : Nat} (hs : s = 1 ∨ s = -1) (h1 : rwR2 τ μ b c) (h2 : skR2 τ μ b c) (hn : 0 ≤ μ (b + 11) c ∧ μ (b + 11) c ≤ 12) (hx : -1 ≤ x ∧ x ≤ 39) (hτ : ∀ a : Nat, 11 + 10 * c.toNat ≤ a → a ≤ 11 + 10 * c.toNat + 7 → τ' a = chM τ (11 + 10 * c.toNat) x (s * n) a) (hμ : ∀ (a : Nat) (j : Int), a ≠ b + 8 ∧ a ≠ b + 9 ∧ a ≠ b + 10 → μ' a j = μ a j + n * mcD μ b c x s a j) : rwR2 τ' μ' b c ∧ skR2 τ' μ' b c := by
  have z : ∀ a : Nat, (a ≠ b + 8 ∧ a ≠ b + 9 ∧ a ≠ b + 10) → (a ≠ b + 4 ∧ a ≠ b + 5 ∧ a ≠ b + 6 ∧ a ≠ b + 12 ∧ a ≠ b + 13 ∧ a ≠ b + 16) → μ' a = μ a := fun a q1 q2 => by funext j; rw [hμ a j q1, mcD_zero q2, Int.mul_zero, Int.add_zero]
  by_cases hx1 : x = -1
  · subst hx1
    have e : chM τ (11 + 10 * c.toNat) (-1) (s * n) = sput τ (11 + 10 * c.toNat) 4 (τ (11 + 10 * c.toNat) 4 + s * n) := by unfold chM; rw [if_neg (by omega)]
    rw [e] at hτ
    have f : ∀ a : Nat, a ≠ 11 + 10 * c.toNat → 11 + 10 * c.toNat ≤ a → a ≤ 11 + 10 * c.toNat + 7 → τ' a = τ a := fun a q0 q1 q2 => by rw [hτ a q1 q2, sput_r q0]
    have g : ∀ a : Nat, (a ≠ b + 8 ∧ a ≠ b + 9 ∧ a ≠ b + 10) → a ≠ b + 5 → μ' a = μ a := fun a q1 q2 => by
      funext j
      rw [hμ a j q1]
      have : mcD μ b c (-1) s a j = 0 := by unfold mcD; rw [if_pos rfl, if_neg (by omega)]
      rw [this, Int.mul_zero, Int.add_zero]
    refine ⟨⟨fun j j0 j1 => ?_, ?_, ?_⟩, ?_⟩
    · rw [f _ (by omega) (by omega) (by omega), g (b + 4) (by omega) (by omega)]; exact h1.1 j j0 j1
    · rw [hτ _ (by omega) (by omega), sput_j _ _ _ _ _ (by decide), g (b + 6) (by omega) (by omega)]; exact h1.2.1
    · rw [hτ _ (by omega) (by omega), sput_s, hμ (b + 5) c (by omega), h1.2.2]
      unfold mcD
      rw [if_pos rfl, if_pos ⟨rfl, rfl⟩, Int.mul_comm]
    · have t0 : τ' (11 + 10 * c.toNat + 2) = τ (11 + 10 * c.toNat + 2) := f _ (by omega) (by omega) (by omega)
      unfold skR2 at *
      have em : moV μ' b c = moV μ b c := by unfold moV; rw [g (b + 11) (by omega) (by omega), g (b + 15) (by omega) (by omega), g (b + 16) (by omega) (by omega), g (b + 17) (by omega) (by omega)]
      have ev : skV τ' (11 + 10 * c.toNat + 2) = skV τ (11 + 10 * c.toNat + 2) := skV_congr (by rw [t0]) (f _ (by omega) (by omega) (by omega)) (f _ (by omega) (by omega) (by omega)) (f _ (by omega) (by omega) (by omega))
      rw [em, ev, t0, f (11 + 10 * c.toNat + 2 + 4) (by omega) (by omega) (by omega), f (11 + 10 * c.toNat + 2 + 5) (by omega) (by omega) (by omega), g (b + 11) (by omega) (by omega), g (b + 12) (by omega) (by omega), g (b + 13) (by omega) (by omega), g (b + 14) (by omega) (by omega)]
      exact h2
  · have hx2 : 0 ≤ x ∧ x ≤ 39 := by omega
    obtain ⟨c1, c3, c4, c5, cE, cD, cH, c6, cC, cV⟩ := ch_facts (τ := τ) (C := 11 + 10 * c.toNat) (x := x) (m := s * n) hx2 (by rw [h2.1]; omega)
    obtain ⟨m1, m3, m4, m6, mC, mV⟩ := md_facts (σ := μ) (b := b) (c := c) (x := x) (s := s) hx1
    have k9 : (if 0 ≤ s * (n : Int) then s * (n : Int) else -(s * n)) = n := by rcases hs with q | q <;> subst q <;> split <;> omega
    rw [k9] at c6
    have hm : ∀ (P : Prop) [Decidable P], (n : Int) * (if P then s else 0) = if P then s * n else 0 := fun P _ => by split; exact Int.mul_comm _ _; exact Int.mul_zero _
    refine rows_step (x := x) (m := s * n) (k := n) h1 h2 hn hx2 (fun j => by rw [hτ _ (by omega) (by omega)]; exact c1 j) (by rw [hτ _ (by omega) (by omega)]; exact c3) (by rw [hτ _ (by omega) (by omega)]; exact c4) (by rw [hτ _ (by omega) (by omega)]; exact c5) (by rw [hτ _ (by omega) (by omega)]; exact cE) (by rw [hτ _ (by omega) (by omega)]; exact cD) (by rw [hτ _ (by omega) (by omega)]; exact cH) (fun q => by rw [hτ _ (by omega) (by omega)]; exact c6 q) (fun j => by rw [hτ _ (by omega) (by omega)]; exact cC j) (fun j => by rw [hτ _ (by omega) (by omega)]; exact cV j)
      (fun j _ _ => by rw [hμ (b + 4) _ (by omega), m1, hm]) (by rw [hμ (b + 6) _ (by omega), m3, Int.mul_comm]) (by rw [hμ (b + 5) _ (by omega), m4, Int.mul_zero, Int.add_zero]) (by rw [z (b + 11) (by omega) (by omega)]) (z (b + 15) (by omega) (by omega)) (z (b + 17) (by omega) (by omega)) (z (b + 14) (by omega) (by omega)) (fun q => by rw [hμ (b + 12) _ (by omega), m6, if_neg q, Int.mul_one]) (fun j _ _ => by rw [hμ (b + 16) _ (by omega), mC, hm]) (fun j _ _ => by rw [hμ (b + 13) _ (by omega), mV, hm])
