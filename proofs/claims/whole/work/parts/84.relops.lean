/-! ===== calls that change one column, one tray or the fraction ===== -/
/-- the samples' sizes -/
def saB (σ : Mem) (b : Nat) : Prop := ∀ c : Int, 0 ≤ c → c < 3 → σ (b + 7) c ≤ 16
theorem Rel.col {σ w : Mem} {b : Nat} {i : Int} (hR : Rel σ b) (hZ : szR σ b) (hP : saB σ b) (hi : 0 ≤ i ∧ i < 3) (hst : stR w b) (hfr : frR w b) (hcl : ∀ a : Nat, 3 ≤ a → a ≤ 40 → (a < 11 + 10 * i.toNat ∨ 20 + 10 * i.toNat < a) → w a = σ a) (hmt : ∀ a : Nat, b + 1 ≤ a → a ≤ b + 3 → w a = σ a) (hmo : ∀ c : Int, 0 ≤ c → c < 3 → c ≠ i → moRw σ w b c ∧ moSk σ w b c ∧ moSa σ w b c) (hn : coR w b i) : Rel w b := by
  refine ⟨hst, hfr, fun t t0 t1 => trR_rows ⟨t0, t1⟩ (fun a q1 q2 => hcl a q1 (by omega) (by omega)) hmt (hR.2.2.1 t t0 t1), fun c c0 c1 => ?_⟩
  by_cases q : c = i
  · rw [q]; exact hn
  · obtain ⟨m1, m2, m3⟩ := hmo c c0 c1 q
    have := hZ c c0 c1
    exact coR_congr (by omega) (hP c c0 c1) (fun a q1 q2 => hcl a (by omega) (by omega) (by omega)) m1 m2 m3 (hR.2.2.2 c c0 c1)
theorem Rel.trs {σ w : Mem} {b : Nat} (hR : Rel σ b) (hst : stR w b) (hfr : frR w b) (hcl : ∀ a : Nat, 11 ≤ a → a ≤ 40 → w a = σ a) (hmo : ∀ a : Nat, b + 4 ≤ a → a ≤ b + 17 → w a = σ a) (hn : ∀ t : Int, 0 ≤ t → t < 4 → trR w b t) : Rel w b :=
  ⟨hst, hfr, hn, fun c c0 c1 => coR_rows ⟨c0, c1⟩ hcl hmo (hR.2.2.2 c c0 c1)⟩
theorem Rel.fr {σ w : Mem} {b : Nat} (hR : Rel σ b) (hst : stR w b) (hfr : frR w b) (hcl : ∀ a : Nat, 3 ≤ a → a ≤ 40 → w a = σ a) (hmo : ∀ a : Nat, b + 1 ≤ a → a ≤ b + 17 → w a = σ a) : Rel w b :=
  ⟨hst, hfr, fun t t0 t1 => trR_rows ⟨t0, t1⟩ (fun a q1 q2 => hcl a q1 (by omega)) (fun a q1 q2 => hmo a q1 (by omega)) (hR.2.2.1 t t0 t1), fun c c0 c1 => coR_rows ⟨c0, c1⟩ (fun a q1 q2 => hcl a (by omega) q2) (fun a q1 q2 => hmo a (by omega) q2) (hR.2.2.2 c c0 c1)⟩
set_option maxHeartbeats 1000000 in
theorem r_away {σ u w : Mem} {b : Nat} {z z9 : Int} (hb : 52 ≤ b) {i1 : Int} (hR : Rel σ b) (hZ : szR σ b) (hP : saB σ b) (hc : (if ¬ (0 ≤ i1 ∧ i1 < 3) then (z = 0 ∧ u = sput σ 0 5 1) else (if ¬ 0 < σ (11 + 10 * i1.toNat + 2) 5 then (z = 0 ∧ u = sput σ 0 5 5) else (z = 1 ∧ u = sput (sput σ (11 + 10 * i1.toNat + 2) 5 0) 0 5 0)))) (hm : (if ¬ (0 ≤ i1 ∧ i1 < 3) then (z9 = 0 ∧ w = sput u b 0 1) else (if (u (b + 11) i1) = 0 then (z9 = 0 ∧ w = sput u b 0 5) else (z9 = 1 ∧ w = sput (sput u (b + 11) i1 0) b 0 0)))) : z = z9 ∧ Rel w b := by
  have hK : 0 ≤ i1 ∧ i1 < 3 → coR σ b i1 := fun q => hR.2.2.2 i1 q.1 q.2
  have z1 : 0 ≤ i1 ∧ i1 < 3 → σ (11 + 10 * i1.toNat + 2) 5 = σ (b + 11) i1 := fun q => (hK q).2.1.1
  have z2 : 0 ≤ i1 ∧ i1 < 3 → 0 ≤ σ (b + 11) i1 ∧ σ (b + 11) i1 ≤ 12 := fun q => hZ i1 q.1 q.2
  by_cases c1 : ¬ (0 ≤ i1 ∧ i1 < 3)
  · rw [if_pos c1] at hc
    obtain ⟨hz, hu⟩ := hc
    subst hu
    try simp only [sput_r (show b + 11 ≠ 0 by omega), sput_r (show b + 11 ≠ 11 + 10 * i1.toNat + 2 by omega)] at hm
    repeat (first | rw [if_pos (by omega)] at hm | rw [if_neg (by omega)] at hm)
    obtain ⟨hz9, hw⟩ := hm
    subst hw
    exact ⟨by omega, hR.st hb⟩
  · rw [if_neg c1] at hc
    by_cases c2 : ¬ 0 < σ (11 + 10 * i1.toNat + 2) 5
    · rw [if_pos c2] at hc
      obtain ⟨hz, hu⟩ := hc
      subst hu
      try simp only [sput_r (show b + 11 ≠ 0 by omega), sput_r (show b + 11 ≠ 11 + 10 * i1.toNat + 2 by omega)] at hm
      repeat (first | rw [if_pos (by omega)] at hm | rw [if_neg (by omega)] at hm)
      obtain ⟨hz9, hw⟩ := hm
      subst hw
      exact ⟨by omega, hR.st hb⟩
    · rw [if_neg c2] at hc
      obtain ⟨hz, hu⟩ := hc
      subst hu
      try simp only [sput_r (show b + 11 ≠ 0 by omega), sput_r (show b + 11 ≠ 11 + 10 * i1.toNat + 2 by omega)] at hm
      repeat (first | rw [if_pos (by omega)] at hm | rw [if_neg (by omega)] at hm)
      obtain ⟨hz9, hw⟩ := hm
      refine ⟨by omega, ?_⟩
      have hi : 0 ≤ i1 ∧ i1 < 3 := by omega
      have e : ∀ a : Nat, a ≠ 11 + 10 * i1.toNat + 2 → a ≠ 0 → a ≠ b + 11 → a ≠ b → w a = σ a := fun a q1 q2 q3 q4 => by rw [hw, sput_r q4, sput_r q3, sput_r q2, sput_r q1]
      have e0 : w 0 5 = 0 := by rw [hw, sput_r (show 0 ≠ b by omega), sput_r (show 0 ≠ b + 11 by omega), sput_s]
      have e1 : w b 0 = 0 := by rw [hw, sput_s]
      have e2 : ∀ j : Int, j ≠ 0 → w b j = σ b j := fun j q => by rw [hw, sput_j _ _ _ _ _ q, sput_r (show b ≠ b + 11 by omega), sput_r (show b ≠ 0 by omega), sput_r (show b ≠ 11 + 10 * i1.toNat + 2 by omega)]
      have e3 : ∀ j : Int, j ≠ i1 → w (b + 11) j = σ (b + 11) j := fun j q => by rw [hw, sput_r (show b + 11 ≠ b by omega), sput_j _ _ _ _ _ q, sput_r (show b + 11 ≠ 0 by omega), sput_r (show b + 11 ≠ 11 + 10 * i1.toNat + 2 by omega)]
      have e4 : w (b + 11) i1 = 0 := by rw [hw, sput_r (show b + 11 ≠ b by omega), sput_s]
      have e5 : w (11 + 10 * i1.toNat + 2) 5 = 0 := by rw [hw, sput_r (show 11 + 10 * i1.toNat + 2 ≠ b by omega), sput_r (show 11 + 10 * i1.toNat + 2 ≠ b + 11 by omega), sput_r (show 11 + 10 * i1.toNat + 2 ≠ 0 by omega), sput_s]
      obtain ⟨k1, k2, k3⟩ := hK hi
      refine hR.col hZ hP hi (by unfold stR; omega) (by have h9 := hR.2.1; unfold frR at h9 ⊢; rw [e 51 (by omega) (by omega) (by omega) (by omega), e2 100001 (by omega), e2 100002 (by omega)]; exact h9) (fun a q1 q2 q3 => e a (by omega) (by omega) (by omega) (by omega)) (fun a q1 q2 => e a (by omega) (by omega) (by omega) (by omega)) (fun c c0 c1 q => ⟨moRw.rows (e _ (by omega) (by omega) (by omega) (by omega)) (e _ (by omega) (by omega) (by omega) (by omega)) (e _ (by omega) (by omega) (by omega) (by omega)), ⟨e3 c q, by rw [e (b + 12) (by omega) (by omega) (by omega) (by omega)], fun j _ _ => by rw [e (b + 13) (by omega) (by omega) (by omega) (by omega), e (b + 14) (by omega) (by omega) (by omega) (by omega), e (b + 15) (by omega) (by omega) (by omega) (by omega), e (b + 16) (by omega) (by omega) (by omega) (by omega), e (b + 17) (by omega) (by omega) (by omega) (by omega)]; exact ⟨rfl, rfl, rfl, rfl, rfl⟩⟩, moSa.rows (fun a q1 q2 => e a (by omega) (by omega) (by omega) (by omega))⟩) ⟨rwR_congr (by rw [e _ (by omega) (by omega) (by omega) (by omega)]) (by rw [e _ (by omega) (by omega) (by omega) (by omega)]) (e _ (by omega) (by omega) (by omega) (by omega)) (moRw.rows (e _ (by omega) (by omega) (by omega) (by omega)) (e _ (by omega) (by omega) (by omega) (by omega)) (e _ (by omega) (by omega) (by omega) (by omega))) k1, ?_, saR_congr (hP i1 hi.1 hi.2) (e _ (by omega) (by omega) (by omega) (by omega)) (e _ (by omega) (by omega) (by omega) (by omega)) (moSa.rows (fun a q1 q2 => e a (by omega) (by omega) (by omega) (by omega))) k3⟩
      refine ⟨by rw [e5, e4], fun j j0 j1 => ?_, fun j j0 j1 => ?_, fun q => absurd e4 q⟩
      · rw [e _ (by omega) (by omega) (by omega) (by omega), e (b + 14) (by omega) (by omega) (by omega) (by omega)]; exact k2.2.1 j j0 j1
      · rw [e _ (by omega) (by omega) (by omega) (by omega), e _ (by omega) (by omega) (by omega) (by omega), e (b + 13) (by omega) (by omega) (by omega) (by omega)]; exact k2.2.2.1 j j0 j1
set_option maxHeartbeats 1000000 in
theorem r_sample {σ u w : Mem} {b : Nat} {z z9 : Int} (hb : 52 ≤ b) {i1 k1 s1 : Int} (hR : Rel σ b) (hZ : szR σ b) (hP : saB σ b) (hc : (if ¬ ((0 ≤ i1 ∧ i1 < 3) ∧ (1 ≤ k1 ∧ k1 ≤ 16) ∧ 0 ≤ s1) then (z = 0 ∧ u = sput σ 0 5 1) else (z = 1 ∧ u = sput (sput (sput (sput σ (11 + 10 * i1.toNat + 8) 1 k1) (11 + 10 * i1.toNat + 8) 2 s1) (11 + 10 * i1.toNat + 8) 3 0) 0 5 0))) (hm : (if ¬ ((0 ≤ i1 ∧ i1 < 3) ∧ (1 ≤ k1 ∧ k1 ≤ 16) ∧ 0 ≤ s1) then (z9 = 0 ∧ w = sput u b 0 1) else (z9 = 1 ∧ w = sput (sput (sput (sput u (b + 7) i1 k1) (b + 8) i1 0) (b + 10) (100000 + i1) s1) b 0 0))) : z = z9 ∧ Rel w b := by
  have hK : 0 ≤ i1 ∧ i1 < 3 → coR σ b i1 := fun q => hR.2.2.2 i1 q.1 q.2
  have z1 : 0 ≤ i1 ∧ i1 < 3 → σ (11 + 10 * i1.toNat + 2) 5 = σ (b + 11) i1 := fun q => (hK q).2.1.1
  have z2 : 0 ≤ i1 ∧ i1 < 3 → 0 ≤ σ (b + 11) i1 ∧ σ (b + 11) i1 ≤ 12 := fun q => hZ i1 q.1 q.2
  by_cases c1 : ¬ ((0 ≤ i1 ∧ i1 < 3) ∧ (1 ≤ k1 ∧ k1 ≤ 16) ∧ 0 ≤ s1)
  · rw [if_pos c1] at hc
    obtain ⟨hz, hu⟩ := hc
    subst hu
    try simp only [sput_r (show b + 7 ≠ 0 by omega), sput_r (show b + 7 ≠ 11 + 10 * i1.toNat + 8 by omega)] at hm
    repeat (first | rw [if_pos (by omega)] at hm | rw [if_neg (by omega)] at hm)
    obtain ⟨hz9, hw⟩ := hm
    subst hw
    exact ⟨by omega, hR.st hb⟩
  · rw [if_neg c1] at hc
    obtain ⟨hz, hu⟩ := hc
    subst hu
    try simp only [sput_r (show b + 7 ≠ 0 by omega), sput_r (show b + 7 ≠ 11 + 10 * i1.toNat + 8 by omega)] at hm
    repeat (first | rw [if_pos (by omega)] at hm | rw [if_neg (by omega)] at hm)
    obtain ⟨hz9, hw⟩ := hm
    refine ⟨by omega, ?_⟩
    have hi : 0 ≤ i1 ∧ i1 < 3 := by omega
    have e : ∀ a : Nat, a ≠ 11 + 10 * i1.toNat + 8 → a ≠ 0 → a ≠ b + 7 → a ≠ b + 8 → a ≠ b + 10 → a ≠ b → w a = σ a := fun a q1 q2 q3 q4 q5 q6 => by rw [hw, sput_r q6, sput_r q5, sput_r q4, sput_r q3, sput_r q2, sput_r q1, sput_r q1, sput_r q1]
    have e0 : w 0 5 = 0 := by rw [hw, sput_r (show 0 ≠ b by omega), sput_r (show 0 ≠ b + 10 by omega), sput_r (show 0 ≠ b + 8 by omega), sput_r (show 0 ≠ b + 7 by omega), sput_s]
    have e1 : w b 0 = 0 := by rw [hw, sput_s]
    have e2 : ∀ j : Int, j ≠ 0 → w b j = σ b j := fun j q => by rw [hw, sput_j _ _ _ _ _ q, sput_r (show b ≠ b + 10 by omega), sput_r (show b ≠ b + 8 by omega), sput_r (show b ≠ b + 7 by omega), sput_r (show b ≠ 0 by omega), sput_r (show b ≠ 11 + 10 * i1.toNat + 8 by omega), sput_r (show b ≠ 11 + 10 * i1.toNat + 8 by omega), sput_r (show b ≠ 11 + 10 * i1.toNat + 8 by omega)]
    have f7 : ∀ j : Int, w (b + 7) j = if j = i1 then k1 else σ (b + 7) j := fun j => by rw [hw, sput_r (show b + 7 ≠ b by omega), sput_r (show b + 7 ≠ b + 10 by omega), sput_r (show b + 7 ≠ b + 8 by omega)]; by_cases q : j = i1; (rw [q, sput_s, if_pos rfl]); (rw [sput_j _ _ _ _ _ q, if_neg q, sput_r (show b + 7 ≠ 0 by omega), sput_r (show b + 7 ≠ 11 + 10 * i1.toNat + 8 by omega), sput_r (show b + 7 ≠ 11 + 10 * i1.toNat + 8 by omega), sput_r (show b + 7 ≠ 11 + 10 * i1.toNat + 8 by omega)])
    have f8 : ∀ j : Int, w (b + 8) j = if j = i1 then 0 else σ (b + 8) j := fun j => by rw [hw, sput_r (show b + 8 ≠ b by omega), sput_r (show b + 8 ≠ b + 10 by omega)]; by_cases q : j = i1; (rw [q, sput_s, if_pos rfl]); (rw [sput_j _ _ _ _ _ q, if_neg q, sput_r (show b + 8 ≠ b + 7 by omega), sput_r (show b + 8 ≠ 0 by omega), sput_r (show b + 8 ≠ 11 + 10 * i1.toNat + 8 by omega), sput_r (show b + 8 ≠ 11 + 10 * i1.toNat + 8 by omega), sput_r (show b + 8 ≠ 11 + 10 * i1.toNat + 8 by omega)])
    have f10 : ∀ j : Int, w (b + 10) (100000 + j) = if j = i1 then s1 else σ (b + 10) (100000 + j) := fun j => by rw [hw, sput_r (show b + 10 ≠ b by omega)]; by_cases q : j = i1; (rw [q, sput_s, if_pos rfl]); (rw [sput_j _ _ _ _ _ (by omega), if_neg q, sput_r (show b + 10 ≠ b + 8 by omega), sput_r (show b + 10 ≠ b + 7 by omega), sput_r (show b + 10 ≠ 0 by omega), sput_r (show b + 10 ≠ 11 + 10 * i1.toNat + 8 by omega), sput_r (show b + 10 ≠ 11 + 10 * i1.toNat + 8 by omega), sput_r (show b + 10 ≠ 11 + 10 * i1.toNat + 8 by omega)])
    have fs : w (11 + 10 * i1.toNat + 8) 1 = k1 ∧ w (11 + 10 * i1.toNat + 8) 2 = s1 ∧ w (11 + 10 * i1.toNat + 8) 3 = 0 := by rw [hw, sput_r (show 11 + 10 * i1.toNat + 8 ≠ b by omega), sput_r (show 11 + 10 * i1.toNat + 8 ≠ b + 10 by omega), sput_r (show 11 + 10 * i1.toNat + 8 ≠ b + 8 by omega), sput_r (show 11 + 10 * i1.toNat + 8 ≠ b + 7 by omega), sput_r (show 11 + 10 * i1.toNat + 8 ≠ 0 by omega)]; exact ⟨by rw [sput_j _ _ _ _ _ (by decide), sput_j _ _ _ _ _ (by decide), sput_s], by rw [sput_j _ _ _ _ _ (by decide), sput_s], by rw [sput_s]⟩
    obtain ⟨k1_, k2_, k3_⟩ := hK hi
    refine hR.col hZ hP hi (by unfold stR; omega) (by have h9 := hR.2.1; unfold frR at h9 ⊢; rw [e 51 (by omega) (by omega) (by omega) (by omega) (by omega) (by omega), e2 100001 (by omega), e2 100002 (by omega)]; exact h9) (fun a q1 q2 q3 => e a (by omega) (by omega) (by omega) (by omega) (by omega) (by omega)) (fun a q1 q2 => e a (by omega) (by omega) (by omega) (by omega) (by omega) (by omega)) (fun c c0 c1 q => ⟨moRw.rows (e _ (by omega) (by omega) (by omega) (by omega) (by omega) (by omega)) (e _ (by omega) (by omega) (by omega) (by omega) (by omega) (by omega)) (e _ (by omega) (by omega) (by omega) (by omega) (by omega) (by omega)), moSk.rows (fun a q1 q2 => e a (by omega) (by omega) (by omega) (by omega) (by omega) (by omega)), ⟨by rw [f7, if_neg q], by rw [f8, if_neg q], by rw [f10, if_neg q], fun j _ _ => by rw [e (b + 9) (by omega) (by omega) (by omega) (by omega) (by omega) (by omega)]⟩⟩) ⟨rwR_congr (by rw [e _ (by omega) (by omega) (by omega) (by omega) (by omega) (by omega)]) (by rw [e _ (by omega) (by omega) (by omega) (by omega) (by omega) (by omega)]) (e _ (by omega) (by omega) (by omega) (by omega) (by omega) (by omega)) (moRw.rows (e _ (by omega) (by omega) (by omega) (by omega) (by omega) (by omega)) (e _ (by omega) (by omega) (by omega) (by omega) (by omega) (by omega)) (e _ (by omega) (by omega) (by omega) (by omega) (by omega) (by omega))) k1_, skR_congr (by have := z2 hi; omega) (fun a q1 q2 => e a (by omega) (by omega) (by omega) (by omega) (by omega) (by omega)) (moSk.rows (fun a q1 q2 => e a (by omega) (by omega) (by omega) (by omega) (by omega) (by omega))) k2_, ?_⟩
    refine ⟨by rw [fs.1, f7, if_pos rfl], by rw [fs.2.2, f8, if_pos rfl], by rw [fs.2.1, f10, if_pos rfl], fun j j0 j1 j2 => ?_⟩
    rw [f8, if_pos rfl] at j2
    omega
