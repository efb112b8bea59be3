/-! ===== MAKING side by side ===== -/
set_option maxHeartbeats 1000000 in
theorem r_make {σ u w : Mem} {b : Nat} {z z9 : Int} (hb : 52 ≤ b) {i1 b1 n1 d1 : Int} (hR : Rel σ b) (hZ : szR σ b) (hP : saB σ b) (hT : ∀ c : Int, 0 ≤ c → c < 3 → ∀ j : Int, 0 ≤ j → j < 40 → 0 ≤ σ (11 + 10 * c.toNat + 1) j ∧ σ (11 + 10 * c.toNat + 1) j ≤ 10000) (hc : (if ¬ ((0 ≤ i1 ∧ i1 < 3) ∧ (1 ≤ b1 ∧ b1 ≤ 12) ∧ (1 ≤ d1 ∧ d1 ≤ 1000) ∧ (0 ≤ n1 ∧ n1 ≤ d1)) then (z = -1 ∧ u = sput σ 0 5 1) else (∃ lv e : Int → Int, (∀ j : Int, 0 ≤ j → j < 40 → lv j = (if (chV (σ ((11 + 10 * i1.toNat) + 1)) (σ (11 + 10 * i1.toNat) 3) n1 d1 8 (fun _ => 0, fun _ => 0)).1 j = 0 then σ ((11 + 10 * i1.toNat) + 1) j else -1)) ∧ ((0 ≤ z ∧ z ≤ 10000) ∧ (z = 10000 ∨ fwI lv z ≤ b1) ∧ (z = 0 ∨ b1 < fwI lv (z - 1))) ∧ (∀ i : Nat, (i : Int) < b1 → e i = plB lv z (b1).toNat (i + 1) - 1) ∧ (∀ j : Int, 0 ≤ j → j < 40 → u ((11 + 10 * i1.toNat + 2) + 4) j = (chV (σ ((11 + 10 * i1.toNat) + 1)) (σ (11 + 10 * i1.toNat) 3) n1 d1 8 (fun _ => 0, fun _ => 0)).1 j ∧ u ((11 + 10 * i1.toNat + 2) + 5) j = (chV (σ ((11 + 10 * i1.toNat) + 1)) (σ (11 + 10 * i1.toNat) 3) n1 d1 8 (fun _ => 0, fun _ => 0)).2 j) ∧ u (11 + 10 * i1.toNat + 2) 5 = b1 ∧ u (11 + 10 * i1.toNat + 2) 6 = 0 ∧ (∀ j : Int, 0 ≤ j → j < b1 → u ((11 + 10 * i1.toNat + 2) + 1) j = e j ∧ u ((11 + 10 * i1.toNat + 2) + 2) j = smR (fun w => if u ((11 + 10 * i1.toNat + 2) + 4) w = 0 then σ ((11 + 10 * i1.toNat) + 1) w else 0) (foF e j) (e j + 1) ∧ u ((11 + 10 * i1.toNat + 2) + 3) j = 0) ∧ u 0 = sput σ 0 5 0 0 ∧ (∀ a : Nat, a ≠ 0 → a ≠ (11 + 10 * i1.toNat + 2) → a ≠ (11 + 10 * i1.toNat + 2) + 1 → a ≠ (11 + 10 * i1.toNat + 2) + 2 → a ≠ (11 + 10 * i1.toNat + 2) + 3 → a ≠ (11 + 10 * i1.toNat + 2) + 4 → a ≠ (11 + 10 * i1.toNat + 2) + 5 → a ≠ 41 → a ≠ 42 → a ≠ 43 → a ≠ 44 → u a = σ a)))) (hm : (if ¬ ((0 ≤ i1 ∧ i1 < 3) ∧ (1 ≤ b1 ∧ b1 ≤ 12) ∧ (1 ≤ d1 ∧ d1 ≤ 1000) ∧ (0 ≤ n1 ∧ n1 ≤ d1)) then z9 = -1 ∧ w = sput u b 0 1 else z9 = dpL (fun j : Int => if (chV (shR (u (b + 4)) (40 * i1)) (u (b + 6) i1) n1 d1 8 (fun _ => 0, fun _ => 0)).1 j = 0 then (shR (u (b + 4)) (40 * i1)) j else -1) b1.toNat 0 ∧ (∀ j : Int, 0 ≤ j → j < 40 → w (b + 14) (40 * i1 + j) = (chV (shR (u (b + 4)) (40 * i1)) (u (b + 6) i1) n1 d1 8 (fun _ => 0, fun _ => 0)).1 j ∧ ((chV (shR (u (b + 4)) (40 * i1)) (u (b + 6) i1) n1 d1 8 (fun _ => 0, fun _ => 0)).1 j ≠ 0 → w (b + 13) (40 * i1 + j) = (chV (shR (u (b + 4)) (40 * i1)) (u (b + 6) i1) n1 d1 8 (fun _ => 0, fun _ => 0)).2 j) ∧ ((chV (shR (u (b + 4)) (40 * i1)) (u (b + 6) i1) n1 d1 8 (fun _ => 0, fun _ => 0)).1 j = 0 → w (b + 13) (40 * i1 + j) = u (b + 13) (40 * i1 + j))) ∧ (∀ j : Int, 0 ≤ j → j < b1 → w (b + 15) (40 * i1 + j) = plB (fun j : Int => if (chV (shR (u (b + 4)) (40 * i1)) (u (b + 6) i1) n1 d1 8 (fun _ => 0, fun _ => 0)).1 j = 0 then (shR (u (b + 4)) (40 * i1)) j else -1) z9 b1.toNat (j.toNat + 1) - 1 ∧ w (b + 16) (40 * i1 + j) = smR (fun w => if (chV (shR (u (b + 4)) (40 * i1)) (u (b + 6) i1) n1 d1 8 (fun _ => 0, fun _ => 0)).1 w = 0 then (shR (u (b + 4)) (40 * i1)) w else 0) (plB (fun j : Int => if (chV (shR (u (b + 4)) (40 * i1)) (u (b + 6) i1) n1 d1 8 (fun _ => 0, fun _ => 0)).1 j = 0 then (shR (u (b + 4)) (40 * i1)) j else -1) z9 b1.toNat j.toNat) (plB (fun j : Int => if (chV (shR (u (b + 4)) (40 * i1)) (u (b + 6) i1) n1 d1 8 (fun _ => 0, fun _ => 0)).1 j = 0 then (shR (u (b + 4)) (40 * i1)) j else -1) z9 b1.toNat (j.toNat + 1)) ∧ w (b + 17) (40 * i1 + j) = 0) ∧ w (b + 11) i1 = b1 ∧ w (b + 12) i1 = 0 ∧ w b 0 = 0 ∧ (∀ a : Nat, a ≠ b → a ≠ b + 11 → a ≠ b + 12 → a ≠ b + 13 → a ≠ b + 14 → a ≠ b + 15 → a ≠ b + 16 → a ≠ b + 17 → a ≠ b + 18 → a ≠ b + 19 → a ≠ b + 20 → w a = u a) ∧ (∀ j : Int, j ≠ 0 → w b j = u b j) ∧ (∀ j : Int, j ≠ i1 → w (b + 11) j = u (b + 11) j ∧ w (b + 12) j = u (b + 12) j) ∧ ∀ j : Int, j < 40 * i1 ∨ 40 * i1 + 40 ≤ j → w (b + 13) j = u (b + 13) j ∧ w (b + 14) j = u (b + 14) j ∧ w (b + 15) j = u (b + 15) j ∧ w (b + 16) j = u (b + 16) j ∧ w (b + 17) j = u (b + 17) j)) : z = z9 ∧ Rel w b := by
  have hK : 0 ≤ i1 ∧ i1 < 3 → coR σ b i1 := fun q => hR.2.2.2 i1 q.1 q.2
  have z1 : 0 ≤ i1 ∧ i1 < 3 → σ (11 + 10 * i1.toNat + 2) 5 = σ (b + 11) i1 := fun q => (hK q).2.1.1
  have z2 : 0 ≤ i1 ∧ i1 < 3 → 0 ≤ σ (b + 11) i1 ∧ σ (b + 11) i1 ≤ 12 := fun q => hZ i1 q.1 q.2
  by_cases c1 : ¬ ((0 ≤ i1 ∧ i1 < 3) ∧ (1 ≤ b1 ∧ b1 ≤ 12) ∧ (1 ≤ d1 ∧ d1 ≤ 1000) ∧ (0 ≤ n1 ∧ n1 ≤ d1))
  · rw [if_pos c1] at hc
    obtain ⟨hz, hu⟩ := hc
    subst hu
    try simp only [sput_r (show b + 4 ≠ 0 by omega), sput_r (show b + 6 ≠ 0 by omega), sput_r (show b + 11 ≠ 0 by omega), sput_r (show b + 12 ≠ 0 by omega), sput_r (show b + 13 ≠ 0 by omega), sput_r (show b + 14 ≠ 0 by omega), sput_r (show b + 15 ≠ 0 by omega), sput_r (show b + 16 ≠ 0 by omega), sput_r (show b + 17 ≠ 0 by omega)] at hm
    repeat (first | rw [if_pos (by omega)] at hm | rw [if_neg (by omega)] at hm)
    obtain ⟨hz9, hw⟩ := hm
    subst hw
    exact ⟨by omega, hR.st hb⟩
  · rw [if_neg c1] at hc
    obtain ⟨lv, e, hlv, ⟨hz0, hz1, hz2⟩, he, hH, hn, h6, hS, hu0, hF⟩ := hc
    have hi : 0 ≤ i1 ∧ i1 < 3 := by omega
    have eu : ∀ a : Nat, b ≤ a → u a = σ a := fun a q => hF a (by omega) (by omega) (by omega) (by omega) (by omega) (by omega) (by omega) (by omega) (by omega) (by omega) (by omega)
    rw [eu (b + 4) (by omega), eu (b + 6) (by omega)] at hm
    rw [if_neg (by omega)] at hm
    obtain ⟨hz9, m1, m2, m3, m4, m5, m6, m7, m8, m9⟩ := hm
    obtain ⟨k1, k2, k3⟩ := hK hi
    have hT9 := hT i1 hi.1 hi.2
    have hch : ∀ j : Int, 0 ≤ j → j < 40 → (chV (σ (11 + 10 * i1.toNat + 1)) (σ (11 + 10 * i1.toNat) 3) n1 d1 8 (fun _ => 0, fun _ => 0)).1 j = (chV (shR (σ (b + 4)) (40 * i1)) (σ (b + 6) i1) n1 d1 8 (fun _ => 0, fun _ => 0)).1 j ∧ (chV (σ (11 + 10 * i1.toNat + 1)) (σ (11 + 10 * i1.toNat) 3) n1 d1 8 (fun _ => 0, fun _ => 0)).2 j = (chV (shR (σ (b + 4)) (40 * i1)) (σ (b + 6) i1) n1 d1 8 (fun _ => 0, fun _ => 0)).2 j := by rw [k1.2.1]; exact chV_congr k1.1 8 _ _ (fun j _ _ => ⟨rfl, rfl⟩)
    have hlm : ∀ j : Int, 0 ≤ j → j < 40 → lv j = (fun j : Int => if (chV (shR (σ (b + 4)) (40 * i1)) (σ (b + 6) i1) n1 d1 8 (fun _ => 0, fun _ => 0)).1 j = 0 then shR (σ (b + 4)) (40 * i1) j else -1) j := fun j j0 j1 => by rw [hlv j j0 j1, (hch j j0 j1).1, k1.1 j j0 j1]
    have hl : ∀ j : Int, 0 ≤ j → j < 40 → -1 ≤ lv j ∧ lv j ≤ 10000 := fun j j0 j1 => by have := hT9 j j0 j1; rw [hlv j j0 j1]; split <;> omega
    have hzz : z = dpL lv b1.toNat 0 := lim_eq hl (by omega) (by omega) hz0 (by omega) (by omega)
    have hz8 : z = z9 := by rw [hzz, hz9]; exact dpL_congr hlm _ _ (by decide)
    refine ⟨hz8, ?_⟩
    rw [← hz8] at m2
    have hpl : ∀ k : Nat, plB lv z b1.toNat k = plB (fun j : Int => if (chV (shR (σ (b + 4)) (40 * i1)) (σ (b + 6) i1) n1 d1 8 (fun _ => 0, fun _ => 0)).1 j = 0 then shR (σ (b + 4)) (40 * i1) j else -1) z b1.toNat k := plB_congr hlm
    have s1 : ∀ a : Nat, a < b → w a = u a := fun a q => m6 a (by omega) (by omega) (by omega) (by omega) (by omega) (by omega) (by omega) (by omega) (by omega) (by omega) (by omega)
    have ew : ∀ a : Nat, a ≠ 0 → a ≤ 40 ∨ a = 51 → a ≠ 11 + 10 * i1.toNat + 2 → a ≠ 11 + 10 * i1.toNat + 2 + 1 → a ≠ 11 + 10 * i1.toNat + 2 + 2 → a ≠ 11 + 10 * i1.toNat + 2 + 3 → a ≠ 11 + 10 * i1.toNat + 2 + 4 → a ≠ 11 + 10 * i1.toNat + 2 + 5 → w a = σ a := fun a q0 q1 q2 q3 q4 q5 q6 q7 => by rw [s1 a (by omega)]; exact hF a q0 q2 q3 q4 q5 q6 q7 (by omega) (by omega) (by omega) (by omega)
    have em : ∀ a : Nat, b < a → (a ≤ b + 10 ∨ b + 21 ≤ a) → w a = σ a := fun a q0 q1 => by rw [m6 a (by omega) (by omega) (by omega) (by omega) (by omega) (by omega) (by omega) (by omega) (by omega) (by omega) (by omega), eu a (by omega)]
    have e2 : ∀ j : Int, j ≠ 0 → w b j = σ b j := fun j q => by rw [m7 j q, eu b (by omega)]
    have e0 : w 0 5 = 0 := by rw [s1 0 (by omega), hu0, sput_s]
    refine hR.col hZ hP hi (by unfold stR; omega) (by have h9 := hR.2.1; unfold frR at h9 ⊢; rw [ew 51 (by omega) (by omega) (by omega) (by omega) (by omega) (by omega) (by omega) (by omega), e2 100001 (by omega), e2 100002 (by omega)]; exact h9) (fun a q1 q2 q3 => ew a (by omega) (by omega) (by omega) (by omega) (by omega) (by omega) (by omega) (by omega)) (fun a q1 q2 => em a (by omega) (by omega)) (fun c c0 c1 q => ⟨moRw.rows (em _ (by omega) (by omega)) (em _ (by omega) (by omega)) (em _ (by omega) (by omega)), ⟨by rw [(m8 c q).1, eu (b + 11) (by omega)], by rw [(m8 c q).2, eu (b + 12) (by omega)], fun j j0 j1 => ?_⟩, moSa.rows (fun a q1 q2 => em a (by omega) (by omega))⟩) ⟨rwR_congr (by rw [ew _ (by omega) (by omega) (by omega) (by omega) (by omega) (by omega) (by omega) (by omega)]) (by rw [ew _ (by omega) (by omega) (by omega) (by omega) (by omega) (by omega) (by omega) (by omega)]) (ew _ (by omega) (by omega) (by omega) (by omega) (by omega) (by omega) (by omega) (by omega)) (moRw.rows (em _ (by omega) (by omega)) (em _ (by omega) (by omega)) (em _ (by omega) (by omega))) k1, ?_, saR_congr (hP i1 hi.1 hi.2) (ew _ (by omega) (by omega) (by omega) (by omega) (by omega) (by omega) (by omega) (by omega)) (ew _ (by omega) (by omega) (by omega) (by omega) (by omega) (by omega) (by omega) (by omega)) (moSa.rows (fun a q1 q2 => em a (by omega) (by omega))) k3⟩
    · have h9 := m9 (40 * c + j) (by omega)
      rw [h9.1, h9.2.1, h9.2.2.1, h9.2.2.2.1, h9.2.2.2.2, eu (b + 13) (by omega), eu (b + 14) (by omega), eu (b + 15) (by omega), eu (b + 16) (by omega), eu (b + 17) (by omega)]
      exact ⟨rfl, rfl, rfl, rfl, rfl⟩
    · have w4 : w (11 + 10 * i1.toNat + 2 + 4) = u (11 + 10 * i1.toNat + 2 + 4) := s1 _ (by omega)
      refine ⟨by rw [s1 _ (by omega), hn, m3], fun j j0 j1 => ?_, fun j j0 j1 q => ?_, fun q => ⟨by rw [s1 _ (by omega), h6, m4], ?_⟩⟩
      · rw [w4, (hH j j0 j1).1, shR_e, (m1 j j0 j1).1]; exact (hch j j0 j1).1
      · rw [w4, (hH j j0 j1).1, (hch j j0 j1).1] at q
        rw [s1 _ (by omega), (hH j j0 j1).2, shR_e, (m1 j j0 j1).2.1 q]; exact (hch j j0 j1).2
      · unfold skV moV
        rw [s1 (11 + 10 * i1.toNat + 2) (by omega), s1 (11 + 10 * i1.toNat + 2 + 1) (by omega), s1 (11 + 10 * i1.toNat + 2 + 2) (by omega), s1 (11 + 10 * i1.toNat + 2 + 3) (by omega), hn, m3]
        have eE : ∀ j : Int, 0 ≤ j → j < b1 → e j + 1 = plB lv z b1.toNat (j.toNat + 1) := fun j j0 j1 => by have h9 := he j.toNat (by omega); rw [show ((j.toNat : Nat) : Int) = j by omega] at h9; omega
        have eF : ∀ j : Int, 0 ≤ j → j < b1 → foF e j = plB lv z b1.toNat j.toNat := fun j j0 j1 => by
          unfold foF
          by_cases y : 0 < j
          · rw [if_pos y, eE (j - 1) (by omega) (by omega), show (j - 1).toNat + 1 = j.toNat by omega]
          · rw [if_neg y, show j.toNat = 0 by omega]; rfl
        refine Prod.ext rfl (Prod.ext ?_ (Prod.ext ?_ ?_))
        · refine mkR_congr fun j j0 j1 => ?_
          rw [shR_e, (m2 j j0 j1).1, (hS j j0 j1).1, ← hpl]
          have := eE j j0 j1
          omega
        · refine mkR_congr fun j j0 j1 => ?_
          rw [shR_e, (m2 j j0 j1).2.1, (hS j j0 j1).2.1, ← hpl, ← hpl, eE j j0 j1, eF j j0 j1]
          refine smR_congr fun v v0 v1 => ?_
          have p0 := (plB_W lv z b1.toNat j.toNat).1
          have p1 := (plB_W lv z b1.toNat (j.toNat + 1)).2
          rw [(hH v (by omega) (by omega)).1, (hch v (by omega) (by omega)).1, k1.1 v (by omega) (by omega)]
        · refine mkR_congr fun j j0 j1 => ?_
          rw [shR_e, (m2 j j0 j1).2.2, (hS j j0 j1).2.2]
