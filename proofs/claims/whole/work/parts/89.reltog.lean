/-! ===== TOGETHER and MAKING side by side ===== -/
theorem wt_eq {σ : Mem} {b : Nat} {c : Int} (h : skR σ b c) (hn : σ (b + 11) c ≠ 0) : wtV σ (11 + 10 * c.toNat + 2) = hvS (shR (σ (b + 14)) (40 * c)) (shR (σ (b + 13)) (40 * c)) 0 39 + (smR (shR (σ (b + 16)) (40 * c)) 0 (σ (b + 11) c) + smR (shR (σ (b + 17)) (40 * c)) 0 (σ (b + 11) c)) := by
  have g := skR_rows h hn
  unfold wtV
  rw [h.1, hvS_congr h.2.1 h.2.2.1, smR_congr (f := σ (11 + 10 * c.toNat + 2 + 2)) (g := shR (σ (b + 16)) (40 * c)) (fun j j0 j1 => (g j j0 j1).2.1), smR_congr (f := σ (11 + 10 * c.toNat + 2 + 3)) (g := shR (σ (b + 17)) (40 * c)) (fun j j0 j1 => (g j j0 j1).2.2)]
  omega
set_option maxHeartbeats 1000000 in
theorem r_together {σ u w : Mem} {b : Nat} {z z9 : Int} (hb : 52 ≤ b) {i1 i2 : Int} (hR : Rel σ b) (hZ : szR σ b) (hP : saB σ b) (hc : (if (¬ ((0 ≤ i1 ∧ i1 < 3) ∧ (0 ≤ i2 ∧ i2 < 3) ∧ i1 ≠ i2)) then (z = -1 ∧ u = sput σ 0 5 1) else (if ¬ (0 < σ (11 + 10 * i1.toNat + 2) 5 ∧ 0 < σ (11 + 10 * i2.toNat + 2) 5) then (z = -1 ∧ u = sput σ 0 5 5) else (if 100000 < wtV σ (11 + 10 * i1.toNat + 2) + wtV σ (11 + 10 * i2.toNat + 2) then (z = -1 ∧ u = sput σ 0 5 4) else (∃ (τ : Mem) (ho hc : Int → Int), z = τ (11 + 10 * i1.toNat + 2) 5 ∧ (∀ j : Int, 0 ≤ j → j < 40 → ho j = σ ((11 + 10 * i2.toNat + 2) + 4) j ∧ hc j = σ ((11 + 10 * i2.toNat + 2) + 5) j) ∧ skV τ (11 + 10 * i1.toNat + 2) = tkV (σ ((11 + 10 * i1.toNat + 2) + 4)) ho hc (skV σ (11 + 10 * i1.toNat + 2)) (skV σ (11 + 10 * i2.toNat + 2)) ∧ τ (11 + 10 * i1.toNat + 2) 6 = 0 ∧ (∀ j : Int, 0 ≤ j → j < 40 → τ ((11 + 10 * i1.toNat + 2) + 5) j = (if σ ((11 + 10 * i1.toNat + 2) + 4) j ≠ 0 ∧ ho j ≠ 0 then σ ((11 + 10 * i1.toNat + 2) + 5) j + hc j else σ ((11 + 10 * i1.toNat + 2) + 5) j)) ∧ (∀ a : Nat, a ≠ (11 + 10 * i1.toNat + 2) → a ≠ (11 + 10 * i1.toNat + 2) + 1 → a ≠ (11 + 10 * i1.toNat + 2) + 2 → a ≠ (11 + 10 * i1.toNat + 2) + 3 → a ≠ (11 + 10 * i1.toNat + 2) + 5 → (a < 45 ∨ 50 < a) → τ a = σ a) ∧ u = sput τ 0 5 0))))) (hm : (if ¬ ((0 ≤ i1 ∧ i1 < 3) ∧ (0 ≤ i2 ∧ i2 < 3) ∧ i1 ≠ i2) then (z9 = -1 ∧ w = sput u b 0 1) else (if (u (b + 11) i1) = 0 ∨ (u (b + 11) i2) = 0 then (z9 = -1 ∧ w = sput u b 0 5) else (if 100000 < (hvS (shR (u (b + 14)) (40 * i1)) (shR (u (b + 13)) (40 * i1)) 0 39 + (smR (shR (u (b + 16)) (40 * i1)) 0 (u (b + 11) i1) + smR (shR (u (b + 17)) (40 * i1)) 0 (u (b + 11) i1))) + (hvS (shR (u (b + 14)) (40 * i2)) (shR (u (b + 13)) (40 * i2)) 0 39 + (smR (shR (u (b + 16)) (40 * i2)) 0 (u (b + 11) i2) + smR (shR (u (b + 17)) (40 * i2)) 0 (u (b + 11) i2))) then (z9 = -1 ∧ w = sput u b 0 4) else (z9 = w (b + 11) i1 ∧ moV w b i1 = (tkV (shR (u (b + 14)) (40 * i1)) (shR (u (b + 14)) (40 * i2)) (shR (u (b + 13)) (40 * i2)) (moV u b i1) (moV u b i2)) ∧ (∀ j : Int, 0 ≤ j → j < 40 → w (b + 13) (40 * i1 + j) = if (shR (u (b + 14)) (40 * i1)) j ≠ 0 ∧ (shR (u (b + 14)) (40 * i2)) j ≠ 0 then u (b + 13) (40 * i1 + j) + (shR (u (b + 13)) (40 * i2)) j else u (b + 13) (40 * i1 + j)) ∧ w (b + 12) i1 = 0 ∧ w b 0 = 0 ∧ (∀ a : Nat, a ≠ b → a ≠ b + 11 → a ≠ b + 12 → a ≠ b + 13 → a ≠ b + 15 → a ≠ b + 16 → a ≠ b + 17 → a ≠ b + 21 → a ≠ b + 22 → a ≠ b + 23 → w a = u a) ∧ (∀ j : Int, j ≠ 0 → j ≠ 23 → j ≠ 24 → j ≠ 25 → j ≠ 26 → w b j = u b j) ∧ (∀ j : Int, j ≠ i1 → w (b + 11) j = u (b + 11) j ∧ w (b + 12) j = u (b + 12) j) ∧ ∀ j : Int, j < 40 * i1 ∨ 40 * i1 + 40 ≤ j → w (b + 13) j = u (b + 13) j ∧ w (b + 15) j = u (b + 15) j ∧ w (b + 16) j = u (b + 16) j ∧ w (b + 17) j = u (b + 17) j))))) : z = z9 ∧ Rel w b := by
  have hK : 0 ≤ i1 ∧ i1 < 3 → coR σ b i1 := fun q => hR.2.2.2 i1 q.1 q.2
  have z1 : 0 ≤ i1 ∧ i1 < 3 → σ (11 + 10 * i1.toNat + 2) 5 = σ (b + 11) i1 := fun q => (hK q).2.1.1
  have z2 : 0 ≤ i1 ∧ i1 < 3 → 0 ≤ σ (b + 11) i1 ∧ σ (b + 11) i1 ≤ 12 := fun q => hZ i1 q.1 q.2
  have hK2 : 0 ≤ i2 ∧ i2 < 3 → coR σ b i2 := fun q => hR.2.2.2 i2 q.1 q.2
  have y1 : 0 ≤ i2 ∧ i2 < 3 → σ (11 + 10 * i2.toNat + 2) 5 = σ (b + 11) i2 := fun q => (hK2 q).2.1.1
  have y2 : 0 ≤ i2 ∧ i2 < 3 → 0 ≤ σ (b + 11) i2 ∧ σ (b + 11) i2 ≤ 12 := fun q => hZ i2 q.1 q.2
  by_cases c1 : (¬ ((0 ≤ i1 ∧ i1 < 3) ∧ (0 ≤ i2 ∧ i2 < 3) ∧ i1 ≠ i2))
  · rw [if_pos c1] at hc
    obtain ⟨hz, hu⟩ := hc
    subst hu
    try simp only [sput_r (show b + 11 ≠ 0 by omega), sput_r (show b + 12 ≠ 0 by omega), sput_r (show b + 13 ≠ 0 by omega), sput_r (show b + 14 ≠ 0 by omega), sput_r (show b + 15 ≠ 0 by omega), sput_r (show b + 16 ≠ 0 by omega), sput_r (show b + 17 ≠ 0 by omega)] at hm
    repeat (first | rw [if_pos (by omega)] at hm | rw [if_neg (by omega)] at hm)
    obtain ⟨hz9, hw⟩ := hm
    subst hw
    exact ⟨by omega, hR.st hb⟩
  · rw [if_neg c1] at hc
    by_cases c2 : ¬ (0 < σ (11 + 10 * i1.toNat + 2) 5 ∧ 0 < σ (11 + 10 * i2.toNat + 2) 5)
    · rw [if_pos c2] at hc
      obtain ⟨hz, hu⟩ := hc
      subst hu
      try simp only [sput_r (show b + 11 ≠ 0 by omega), sput_r (show b + 12 ≠ 0 by omega), sput_r (show b + 13 ≠ 0 by omega), sput_r (show b + 14 ≠ 0 by omega), sput_r (show b + 15 ≠ 0 by omega), sput_r (show b + 16 ≠ 0 by omega), sput_r (show b + 17 ≠ 0 by omega)] at hm
      repeat (first | rw [if_pos (by omega)] at hm | rw [if_neg (by omega)] at hm)
      obtain ⟨hz9, hw⟩ := hm
      subst hw
      exact ⟨by omega, hR.st hb⟩
    · rw [if_neg c2] at hc
      by_cases c3 : 100000 < wtV σ (11 + 10 * i1.toNat + 2) + wtV σ (11 + 10 * i2.toNat + 2)
      · rw [if_pos c3] at hc
        obtain ⟨hz, hu⟩ := hc
        subst hu
        simp only [sput_r (show b + 11 ≠ 0 by omega), sput_r (show b + 13 ≠ 0 by omega), sput_r (show b + 14 ≠ 0 by omega), sput_r (show b + 16 ≠ 0 by omega), sput_r (show b + 17 ≠ 0 by omega)] at hm
        have wt1 := wt_eq (hK (by omega)).2.1 (show σ (b + 11) i1 ≠ 0 by omega)
        have wt2 := wt_eq (hK2 (by omega)).2.1 (show σ (b + 11) i2 ≠ 0 by omega)
        repeat (first | rw [if_pos (by omega)] at hm | rw [if_neg (by omega)] at hm)
        obtain ⟨hz9, hw⟩ := hm
        subst hw
        exact ⟨by omega, hR.st hb⟩
      · rw [if_neg c3] at hc
        obtain ⟨τ, ho, hc9, hz, hoc, hV, h6, h5, hF, hu⟩ := hc
        subst hu
        have eu : ∀ a : Nat, b ≤ a → sput τ 0 5 0 a = σ a := fun a q => by rw [sput_r (by omega)]; exact hF a (by omega) (by omega) (by omega) (by omega) (by omega) (by omega)
        have ev1 : moV (sput τ 0 5 0) b i1 = moV σ b i1 := by unfold moV; rw [eu _ (by omega), eu _ (by omega), eu _ (by omega), eu _ (by omega)]
        have ev2 : moV (sput τ 0 5 0) b i2 = moV σ b i2 := by unfold moV; rw [eu _ (by omega), eu _ (by omega), eu _ (by omega), eu _ (by omega)]
        rw [ev1, ev2, eu (b + 11) (by omega), eu (b + 13) (by omega), eu (b + 14) (by omega), eu (b + 16) (by omega), eu (b + 17) (by omega)] at hm
        have hi : 0 ≤ i1 ∧ i1 < 3 := by omega
        have hi2 : 0 ≤ i2 ∧ i2 < 3 := by omega
        have hn1 : σ (b + 11) i1 ≠ 0 := by omega
        have hn2 : σ (b + 11) i2 ≠ 0 := by omega
        obtain ⟨k1, k2, k3⟩ := hK hi
        obtain ⟨l1_, l2, l3⟩ := hK2 hi2
        have wt1 := wt_eq k2 hn1
        have wt2 := wt_eq l2 hn2
        repeat (first | rw [if_pos (by omega)] at hm | rw [if_neg (by omega)] at hm)
        obtain ⟨hz9, m1, m2, m3, m4, m5, m6, m7, m8⟩ := hm
        have hV9 : skV τ (11 + 10 * i1.toNat + 2) = moV w b i1 := by
          rw [hV, m1, (k2.2.2.2 hn1).2, (l2.2.2.2 hn2).2]
          exact tkV_congr k2.2.1 (fun j j0 j1 => by rw [(hoc j j0 j1).1]; exact l2.2.1 j j0 j1) (fun j j0 j1 q => by rw [(hoc j j0 j1).2]; rw [(hoc j j0 j1).1] at q; exact l2.2.2.1 j j0 j1 q) _ _
        have wn : τ (11 + 10 * i1.toNat + 2) 5 = w (b + 11) i1 := congrArg Prod.fst hV9
        refine ⟨by rw [hz, hz9]; exact wn, ?_⟩
        have s1 : ∀ a : Nat, a ≠ 0 → a < b → w a = τ a := fun a q0 q1 => by rw [m5 a (by omega) (by omega) (by omega) (by omega) (by omega) (by omega) (by omega) (by omega) (by omega) (by omega), sput_r q0]
        have e : ∀ a : Nat, a ≠ 0 → a ≤ 44 ∨ a = 51 → a ≠ 11 + 10 * i1.toNat + 2 → a ≠ 11 + 10 * i1.toNat + 2 + 1 → a ≠ 11 + 10 * i1.toNat + 2 + 2 → a ≠ 11 + 10 * i1.toNat + 2 + 3 → a ≠ 11 + 10 * i1.toNat + 2 + 5 → w a = σ a := fun a q0 q1 q2 q3 q4 q5 q6 => by rw [s1 a q0 (by omega)]; exact hF a q2 q3 q4 q5 q6 (by omega)
        have em : ∀ a : Nat, b < a → a ≠ b + 11 → a ≠ b + 12 → a ≠ b + 13 → a ≠ b + 15 → a ≠ b + 16 → a ≠ b + 17 → a ≠ b + 21 → a ≠ b + 22 → a ≠ b + 23 → w a = σ a := fun a q0 q1 q2 q3 q4 q5 q6 q7 q8 q9 => by rw [m5 a (by omega) q1 q2 q3 q4 q5 q6 q7 q8 q9, eu a (by omega)]
        have e2 : ∀ j : Int, j ≠ 0 → j ≠ 23 → j ≠ 24 → j ≠ 25 → j ≠ 26 → w b j = σ b j := fun j q0 q1 q2 q3 q4 => by rw [m6 j q0 q1 q2 q3 q4, eu b (by omega)]
        have e0 : w 0 5 = 0 := by rw [m5 0 (by omega) (by omega) (by omega) (by omega) (by omega) (by omega) (by omega) (by omega) (by omega) (by omega), sput_s]
        refine hR.col hZ hP hi (by unfold stR; omega) (by have h9 := hR.2.1; unfold frR at h9 ⊢; rw [e 51 (by omega) (by omega) (by omega) (by omega) (by omega) (by omega) (by omega), e2 100001 (by omega) (by omega) (by omega) (by omega) (by omega), e2 100002 (by omega) (by omega) (by omega) (by omega) (by omega)]; exact h9) (fun a q1 q2 q3 => e a (by omega) (by omega) (by omega) (by omega) (by omega) (by omega) (by omega)) (fun a q1 q2 => em a (by omega) (by omega) (by omega) (by omega) (by omega) (by omega) (by omega) (by omega) (by omega) (by omega)) (fun c c0 c1 q => ⟨moRw.rows (em _ (by omega) (by omega) (by omega) (by omega) (by omega) (by omega) (by omega) (by omega) (by omega) (by omega)) (em _ (by omega) (by omega) (by omega) (by omega) (by omega) (by omega) (by omega) (by omega) (by omega) (by omega)) (em _ (by omega) (by omega) (by omega) (by omega) (by omega) (by omega) (by omega) (by omega) (by omega) (by omega)), ⟨(m7 c q).1, by rw [(m7 c q).2, eu (b + 12) (by omega)], fun j j0 j1 => ?_⟩, moSa.rows (fun a q1 q2 => em a (by omega) (by omega) (by omega) (by omega) (by omega) (by omega) (by omega) (by omega) (by omega) (by omega))⟩) ⟨rwR_congr (by rw [e _ (by omega) (by omega) (by omega) (by omega) (by omega) (by omega) (by omega)]) (by rw [e _ (by omega) (by omega) (by omega) (by omega) (by omega) (by omega) (by omega)]) (e _ (by omega) (by omega) (by omega) (by omega) (by omega) (by omega) (by omega)) (moRw.rows (em _ (by omega) (by omega) (by omega) (by omega) (by omega) (by omega) (by omega) (by omega) (by omega) (by omega)) (em _ (by omega) (by omega) (by omega) (by omega) (by omega) (by omega) (by omega) (by omega) (by omega) (by omega)) (em _ (by omega) (by omega) (by omega) (by omega) (by omega) (by omega) (by omega) (by omega) (by omega) (by omega))) k1, ?_, saR_congr (hP i1 hi.1 hi.2) (e _ (by omega) (by omega) (by omega) (by omega) (by omega) (by omega) (by omega)) (e _ (by omega) (by omega) (by omega) (by omega) (by omega) (by omega) (by omega)) (moSa.rows (fun a q1 q2 => em a (by omega) (by omega) (by omega) (by omega) (by omega) (by omega) (by omega) (by omega) (by omega) (by omega))) k3⟩
        · have h9 := m8 (40 * c + j) (by omega)
          rw [h9.1, h9.2.1, h9.2.2.1, h9.2.2.2, em (b + 14) (by omega) (by omega) (by omega) (by omega) (by omega) (by omega) (by omega) (by omega) (by omega) (by omega), eu (b + 15) (by omega)]
          exact ⟨rfl, rfl, rfl, rfl, rfl⟩
        · have w0 : w (11 + 10 * i1.toNat + 2) = τ (11 + 10 * i1.toNat + 2) := s1 _ (by omega) (by omega)
          have wv : skV w (11 + 10 * i1.toNat + 2) = skV τ (11 + 10 * i1.toNat + 2) := skV_congr (by rw [w0]) (s1 _ (by omega) (by omega)) (s1 _ (by omega) (by omega)) (s1 _ (by omega) (by omega))
          refine ⟨by rw [w0]; exact wn, fun j j0 j1 => ?_, fun j j0 j1 q => ?_, fun q => ⟨by rw [w0, h6, m3], by rw [wv]; exact hV9⟩⟩
          · rw [e _ (by omega) (by omega) (by omega) (by omega) (by omega) (by omega) (by omega), em (b + 14) (by omega) (by omega) (by omega) (by omega) (by omega) (by omega) (by omega) (by omega) (by omega) (by omega)]; exact k2.2.1 j j0 j1
          · rw [e _ (by omega) (by omega) (by omega) (by omega) (by omega) (by omega) (by omega)] at q
            rw [s1 (11 + 10 * i1.toNat + 2 + 5) (by omega) (by omega), h5 j j0 j1, shR_e, m2 j j0 j1, (hoc j j0 j1).1, ← k2.2.1 j j0 j1, ← l2.2.1 j j0 j1, k2.2.2.1 j j0 j1 q]
            by_cases y : σ (11 + 10 * i1.toNat + 2 + 4) j ≠ 0 ∧ σ (11 + 10 * i2.toNat + 2 + 4) j ≠ 0
            · rw [if_pos y, if_pos y, (hoc j j0 j1).2, l2.2.2.1 j j0 j1 y.2]; rfl
            · rw [if_neg y, if_neg y]; rfl
