/-- a sketch's numbers stay so far below what they may be -/
def skS (σ : Mem) (b : Nat) (s : Int) : Prop := (∀ j : Int, 0 ≤ j → j < σ b 5 → -(20000000 - s) ≤ σ (b + 2) j ∧ σ (b + 2) j ≤ 20000000 - s) ∧ (∀ j : Int, 0 ≤ j → j < σ b 5 → 0 ≤ σ (b + 3) j ∧ σ (b + 3) j ≤ 1000000) ∧ (∀ j : Int, 0 ≤ j → j < 40 → -(5000000 - s) ≤ σ (b + 5) j ∧ σ (b + 5) j ≤ 5000000 - s)
theorem skS.B {σ : Mem} {b : Nat} {s : Int} (h : skS σ b s) (hs : 0 ≤ s) : skB σ b := ⟨fun j q1 q2 => by have := h.1 j q1 q2; omega, h.2.1, fun j q1 q2 => by have := h.2.2 j q1 q2; omega⟩
theorem shM_P {σ : Mem} {b : Nat} {val m s : Int} (hv : 0 ≤ val ∧ val < 40) (hm : 0 ≤ m ∧ m ≤ s) (hW : skW σ b) (hB : skS σ b s) (hD : 0 ≤ σ b 6 ∧ σ b 6 ≤ 1000000 - s) :
    skW (shM σ b val m) b ∧ skS (shM σ b val m) b (s - m) ∧ (0 ≤ shM σ b val m b 6 ∧ shM σ b val m b 6 ≤ 1000000 - (s - m)) := by
  obtain ⟨B1, B2, B3⟩ := hB
  obtain ⟨W1, W2, W3⟩ := hW
  unfold shM
  split
  · next q =>
    split
    · generalize hk : spOf (σ (b + 1)) (σ b 5) val = k
      generalize hd : (σ b 6 + if 0 ≤ m then m else -m) = d
      have hd2 : d = σ b 6 + m := by rw [← hd, if_pos (by omega)]
      have e5 : sput (sput σ b 6 d) (b + 2) k (σ (b + 2) k + m) b 5 = σ b 5 := by rw [sput_r (by omega), sput_j _ _ _ _ _ (by decide)]
      have e6 : sput (sput σ b 6 d) (b + 2) k (σ (b + 2) k + m) b 6 = d := by rw [sput_r (by omega), sput_s]
      have e1 : sput (sput σ b 6 d) (b + 2) k (σ (b + 2) k + m) (b + 1) = σ (b + 1) := by rw [sput_r (by omega), sput_r (by omega)]
      have e3 : sput (sput σ b 6 d) (b + 2) k (σ (b + 2) k + m) (b + 3) = σ (b + 3) := by rw [sput_r (by omega), sput_r (by omega)]
      have e9 : sput (sput σ b 6 d) (b + 2) k (σ (b + 2) k + m) (b + 5) = σ (b + 5) := by rw [sput_r (by omega), sput_r (by omega)]
      refine ⟨⟨by rw [e5]; exact W1, by rw [e5]; exact W2, fun j q1 q2 => by rw [e5] at q2; rw [e1]; exact W3 j q1 q2⟩, ⟨fun j q1 q2 => ?_, fun j q1 q2 => by rw [e5] at q2; rw [e3]; exact B2 j q1 q2, fun j q1 q2 => by rw [e9]; have := B3 j q1 q2; omega⟩, by rw [e6]; omega, by rw [e6]; omega⟩
      rw [e5] at q2
      have := B1 j q1 q2
      by_cases hj : j = k
      · subst hj; rw [sput_s]; omega
      · rw [sput_j _ _ _ _ _ hj, sput_r (by omega)]; omega
    · generalize hd : (σ b 6 + if 0 ≤ m then m else -m) = d
      have hd2 : d = σ b 6 + m := by rw [← hd, if_pos (by omega)]
      have e5 : sput (sput σ b 6 d) (b + 5) val (σ (b + 5) val + m) b 5 = σ b 5 := by rw [sput_r (by omega), sput_j _ _ _ _ _ (by decide)]
      have e6 : sput (sput σ b 6 d) (b + 5) val (σ (b + 5) val + m) b 6 = d := by rw [sput_r (by omega), sput_s]
      have e1 : sput (sput σ b 6 d) (b + 5) val (σ (b + 5) val + m) (b + 1) = σ (b + 1) := by rw [sput_r (by omega), sput_r (by omega)]
      have e2 : sput (sput σ b 6 d) (b + 5) val (σ (b + 5) val + m) (b + 2) = σ (b + 2) := by rw [sput_r (by omega), sput_r (by omega)]
      have e3 : sput (sput σ b 6 d) (b + 5) val (σ (b + 5) val + m) (b + 3) = σ (b + 3) := by rw [sput_r (by omega), sput_r (by omega)]
      refine ⟨⟨by rw [e5]; exact W1, by rw [e5]; exact W2, fun j q1 q2 => by rw [e5] at q2; rw [e1]; exact W3 j q1 q2⟩, ⟨fun j q1 q2 => by rw [e5] at q2; rw [e2]; have := B1 j q1 q2; omega, fun j q1 q2 => by rw [e5] at q2; rw [e3]; exact B2 j q1 q2, fun j q1 q2 => ?_⟩, by rw [e6]; omega, by rw [e6]; omega⟩
      have := B3 j q1 q2
      by_cases hj : j = val
      · subst hj; rw [sput_s]; omega
      · rw [sput_j _ _ _ _ _ hj, sput_r (by omega)]; omega
  · exact ⟨⟨W1, W2, W3⟩, ⟨fun j q1 q2 => by have := B1 j q1 q2; omega, B2, fun j q1 q2 => by have := B3 j q1 q2; omega⟩, by omega, by omega⟩
/-- a column may take so many rows more -/
def coP (σ : Mem) (c : Nat) (s : Int) : Prop := 0 ≤ s ∧ (∀ j : Int, 0 ≤ j → j < 40 → 0 ≤ σ (c + 1) j ∧ σ (c + 1) j ≤ σ c 3) ∧ 0 ≤ σ c 3 ∧ 0 ≤ σ c 4 ∧ σ c 3 + σ c 4 ≤ 10000 - s ∧ skW σ (c + 2) ∧ skS σ (c + 2) s ∧ (0 ≤ σ (c + 2) 6 ∧ σ (c + 2) 6 ≤ 1000000 - s) ∧ smW σ (c + 8) (999999000 - s)
theorem coP.W {σ : Mem} {c : Nat} {s : Int} (h : coP σ c s) : coW σ c := by
  obtain ⟨h0, h1, h2, h3, h4, h5, h6, h7, h8⟩ := h
  exact ⟨fun j q1 q2 => by have := h1 j q1 q2; omega, by omega, by omega, h5, h6.B h0, by omega, h8.1, h8.2.1, h8.2.2.1, h8.2.2.2.1, h8.2.2.2.2.1, by have := h8.2.2.2.2.2; omega⟩
theorem skW_row {σ τ : Mem} {b : Nat} (h0 : τ b = σ b) (h1 : τ (b + 1) = σ (b + 1)) (h : skW σ b) : skW τ b := skW_rows h0 h1 h
theorem skS_row {σ τ : Mem} {b : Nat} {s : Int} (h0 : τ b = σ b) (h2 : τ (b + 2) = σ (b + 2)) (h3 : τ (b + 3) = σ (b + 3)) (h5 : τ (b + 5) = σ (b + 5)) (h : skS σ b s) : skS τ b s := by unfold skS at *; rw [h0, h2, h3, h5]; exact h
theorem skS_less {σ : Mem} {b : Nat} {s t : Int} (ht : t ≤ s) (h : skS σ b s) : skS σ b t := ⟨fun j q1 q2 => by have := h.1 j q1 q2; omega, h.2.1, fun j q1 q2 => by have := h.2.2 j q1 q2; omega⟩
theorem smW_less {σ : Mem} {b : Nat} {s t : Int} (ht : s ≤ t) (h : smW σ b s) : smW σ b t := ⟨h.1, h.2.1, h.2.2.1, h.2.2.2.1, h.2.2.2.2.1, by have := h.2.2.2.2.2; omega⟩
theorem chM_P {σ : Mem} {c : Nat} {val m s : Int} (hm : 0 ≤ m ∧ m ≤ s) (h : coP σ c s) : coP (chM σ c val m) c (s - m) := by
  obtain ⟨h0, h1, h2, h3, h4, h5, h6, h7, h8⟩ := h
  have h8b : smW (chM σ c val m) (c + 8) (999999000 - (s - m)) := smW_row (chM_fr (c + 8) (by omega) (by omega) (by omega) (by omega) (by omega)) (smW_less (by omega) h8)
  unfold chM at *
  split
  · next q =>
    rw [if_pos q] at h8b
    have f := fun a q0 q2 q5 => shM_fr (σ := sput (sput σ (c + 1) val (σ (c + 1) val + m)) c 3 (σ c 3 + m)) (b := c + 2) (val := val) (m := m) a q0 q2 q5
    obtain ⟨k1, k2, k3⟩ := shM_P (σ := sput (sput σ (c + 1) val (σ (c + 1) val + m)) c 3 (σ c 3 + m)) (b := c + 2) (val := val) (m := m) (s := s) (by omega) hm (skW_row (by rw [sput_r (by omega), sput_r (by omega)]) (by rw [sput_r (by omega), sput_r (by omega)]) h5) (skS_row (by rw [sput_r (by omega), sput_r (by omega)]) (by rw [sput_r (by omega), sput_r (by omega)]) (by rw [sput_r (by omega), sput_r (by omega)]) (by rw [sput_r (by omega), sput_r (by omega)]) h6) (by rw [sput_r (by omega), sput_r (by omega)]; exact h7)
    have g3 : sput (sput σ (c + 1) val (σ (c + 1) val + m)) c 3 (σ c 3 + m) c 3 = σ c 3 + m := sput_s _ _ _ _
    have g4 : sput (sput σ (c + 1) val (σ (c + 1) val + m)) c 3 (σ c 3 + m) c 4 = σ c 4 := by rw [sput_j _ _ _ _ _ (by decide), sput_r (by omega)]
    refine ⟨by omega, fun j q1 q2 => ?_, ?_, ?_, ?_, k1, k2, k3, h8b⟩
    · rw [f (c + 1) (by omega) (by omega) (by omega), f c (by omega) (by omega) (by omega), g3, sput_r (by omega)]
      have := h1 j q1 q2
      have := h1 val (by omega) (by omega)
      by_cases hj : j = val
      · subst hj; rw [sput_s]; omega
      · rw [sput_j _ _ _ _ _ hj]; omega
    · rw [f c (by omega) (by omega) (by omega), g3]; omega
    · rw [f c (by omega) (by omega) (by omega), g4]; omega
    · rw [f c (by omega) (by omega) (by omega), g3, g4]; omega
  · next q =>
    rw [if_neg q] at h8b
    have g3 : sput σ c 4 (σ c 4 + m) c 3 = σ c 3 := sput_j _ _ _ _ _ (by decide)
    refine ⟨by omega, fun j q1 q2 => by rw [g3, sput_r (by omega)]; exact h1 j q1 q2, by rw [g3]; exact h2, by rw [sput_s]; omega, by rw [g3, sput_s]; omega, skW_row (by rw [sput_r (by omega)]) (by rw [sput_r (by omega)]) h5, skS_less (by omega) (skS_row (by rw [sput_r (by omega)]) (by rw [sput_r (by omega)]) (by rw [sput_r (by omega)]) (by rw [sput_r (by omega)]) h6), by rw [sput_r (by omega)]; omega, h8b⟩
