/-! ===== SPLIT, MELT, KEEPING, TOGETHER side by side ===== -/
theorem cutV_congr {h h' : Int → Int} (hh : ∀ j : Int, 0 ≤ j → j < 40 → h j = h' j) (S : SV) (k v : Int) : cutV h S k v = cutV h' S k v := by
  unfold cutV
  rw [ltC_congr hh, ltC_congr hh]
theorem keepV_congr {h h' : Int → Int} (hh : ∀ j : Int, 0 ≤ j → j < 40 → h j = h' j) (S : SV) : keepV h S = keepV h' S := by
  have e1 : ∀ e c : Int → Int, glF h e c = glF h' e c := fun e c => by funext k a; unfold glF loN; rw [ltC_congr hh]
  have e2 : ∀ (e : Int → Int) (k : Int), haF h e k = haF h' e k := fun e k => by
    unfold haF
    refine fnd_congr _ _ (fun j _ _ => ?_)
    unfold loN
    rw [ltC_congr hh, ltC_congr hh (foF e k) j]
  unfold keepV
  rw [e1]
  dsimp only
  rw [e2, cutV_congr hh]
theorem tkV_congr {h h' ho ho' hc hc' : Int → Int} (hh : ∀ j : Int, 0 ≤ j → j < 40 → h j = h' j) (hho : ∀ j : Int, 0 ≤ j → j < 40 → ho j = ho' j) (hhc : ∀ j : Int, 0 ≤ j → j < 40 → ho j ≠ 0 → hc j = hc' j) (S T : SV) : tkV h ho hc S T = tkV h' ho' hc' S T := by
  have e1 : tkS h ho = tkS h' ho' := by funext v st; unfold tkS; rw [cutV_congr hh, cutV_congr hho]
  have e2 : ∀ S : SV, thV h ho hc S = thV h' ho' hc' S := fun S => by
    unfold thV
    refine Prod.ext rfl (Prod.ext rfl (Prod.ext ?_ rfl))
    refine mkR_congr fun k _ _ => ?_
    congr 1
    refine smR_congr fun v v0 v1 => ?_
    unfold thF
    rw [← hh v v0 v1, ← hho v v0 v1]
    by_cases q : ho v ≠ 0 ∧ h v = 0 ∧ spOf S.2.1 S.1 v = k
    · rw [if_pos q, if_pos q]; exact hhc v v0 v1 q.1
    · rw [if_neg q, if_neg q]
  unfold tkV
  rw [e1]
  dsimp only
  rw [e2]
theorem Rel.sk {σ τ w : Mem} {b : Nat} {i : Int} (hb : 52 ≤ b) (hR : Rel σ b) (hZ : szR σ b) (hP : saB σ b) (hi : 0 ≤ i ∧ i < 3) (hn : σ (b + 11) i ≠ 0) (hF : skFr σ τ (11 + 10 * i.toNat + 2)) (hM : moFr (sput (sput τ 0 5 0) b 0 0) w b i) (hV : skV τ (11 + 10 * i.toNat + 2) = moV w b i) : Rel w b := by
  have t1 : ∀ a : Nat, a ≠ 11 + 10 * i.toNat + 2 → a ≠ 11 + 10 * i.toNat + 2 + 1 → a ≠ 11 + 10 * i.toNat + 2 + 2 → a ≠ 11 + 10 * i.toNat + 2 + 3 → τ a = σ a := fun a q0 q1 q2 q3 => by funext j; exact hF a j q1 q2 q3 (Or.inl q0)
  have t2 : ∀ j : Int, j ≠ 5 → τ (11 + 10 * i.toNat + 2) j = σ (11 + 10 * i.toNat + 2) j := fun j q => hF _ j (by omega) (by omega) (by omega) (Or.inr q)
  have s1 : ∀ a : Nat, a ≠ 0 → a ≠ b → a ≠ b + 11 → a ≠ b + 15 → a ≠ b + 16 → a ≠ b + 17 → w a = τ a := fun a q0 q1 q2 q3 q4 q5 => by rw [hM.1 a q1 q2 q3 q4 q5, sput_r q1, sput_r q0]
  have s2 : ∀ j : Int, j ≠ 0 → j ≠ 23 → j ≠ 24 → j ≠ 25 → j ≠ 26 → w b j = σ b j := fun j q0 q1 q2 q3 q4 => by rw [hM.2.1 j q1 q2 q3 q4, sput_j _ _ _ _ _ q0, sput_r (show b ≠ 0 by omega), t1 b (by omega) (by omega) (by omega) (by omega)]
  have s3 : w b 0 = 0 := by rw [hM.2.1 0 (by decide) (by decide) (by decide) (by decide), sput_s]
  have s4 : w 0 5 = 0 := by rw [hM.1 0 (by omega) (by omega) (by omega) (by omega) (by omega), sput_r (show 0 ≠ b by omega), sput_s]
  have e : ∀ a : Nat, a ≠ 0 → a ≠ b → a ≠ b + 11 → a ≠ b + 15 → a ≠ b + 16 → a ≠ b + 17 → a ≠ 11 + 10 * i.toNat + 2 → a ≠ 11 + 10 * i.toNat + 2 + 1 → a ≠ 11 + 10 * i.toNat + 2 + 2 → a ≠ 11 + 10 * i.toNat + 2 + 3 → w a = σ a := fun a q0 q1 q2 q3 q4 q5 q6 q7 q8 q9 => by rw [s1 a q0 q1 q2 q3 q4 q5, t1 a q6 q7 q8 q9]
  have e11 : ∀ j : Int, j ≠ i → w (b + 11) j = σ (b + 11) j := fun j q => by rw [hM.2.2.1 j q, sput_r (show b + 11 ≠ b by omega), sput_r (show b + 11 ≠ 0 by omega), t1 (b + 11) (by omega) (by omega) (by omega) (by omega)]
  have eo : ∀ j : Int, j < 40 * i ∨ 40 * i + 40 ≤ j → w (b + 15) j = σ (b + 15) j ∧ w (b + 16) j = σ (b + 16) j ∧ w (b + 17) j = σ (b + 17) j := fun j q => by
    have h9 := hM.2.2.2 j q
    rw [h9.1, h9.2.1, h9.2.2, sput_r (show b + 15 ≠ b by omega), sput_r (show b + 15 ≠ 0 by omega), sput_r (show b + 16 ≠ b by omega), sput_r (show b + 16 ≠ 0 by omega), sput_r (show b + 17 ≠ b by omega), sput_r (show b + 17 ≠ 0 by omega), t1 (b + 15) (by omega) (by omega) (by omega) (by omega), t1 (b + 16) (by omega) (by omega) (by omega) (by omega), t1 (b + 17) (by omega) (by omega) (by omega) (by omega)]
    exact ⟨rfl, rfl, rfl⟩
  obtain ⟨k1, k2, k3⟩ := hR.2.2.2 i hi.1 hi.2
  refine hR.col hZ hP hi (by unfold stR; omega) (by have h9 := hR.2.1; unfold frR at h9 ⊢; rw [e 51 (by omega) (by omega) (by omega) (by omega) (by omega) (by omega) (by omega) (by omega) (by omega) (by omega), s2 100001 (by decide) (by decide) (by decide) (by decide) (by decide), s2 100002 (by decide) (by decide) (by decide) (by decide) (by decide)]; exact h9) (fun a q1 q2 q3 => e a (by omega) (by omega) (by omega) (by omega) (by omega) (by omega) (by omega) (by omega) (by omega) (by omega)) (fun a q1 q2 => e a (by omega) (by omega) (by omega) (by omega) (by omega) (by omega) (by omega) (by omega) (by omega) (by omega)) (fun c c0 c1 q => ⟨moRw.rows (e _ (by omega) (by omega) (by omega) (by omega) (by omega) (by omega) (by omega) (by omega) (by omega) (by omega)) (e _ (by omega) (by omega) (by omega) (by omega) (by omega) (by omega) (by omega) (by omega) (by omega) (by omega)) (e _ (by omega) (by omega) (by omega) (by omega) (by omega) (by omega) (by omega) (by omega) (by omega) (by omega)), ⟨e11 c q, by rw [e (b + 12) (by omega) (by omega) (by omega) (by omega) (by omega) (by omega) (by omega) (by omega) (by omega) (by omega)], fun j j0 j1 => ?_⟩, moSa.rows (fun a q1 q2 => e a (by omega) (by omega) (by omega) (by omega) (by omega) (by omega) (by omega) (by omega) (by omega) (by omega))⟩) ⟨rwR_congr (by rw [e _ (by omega) (by omega) (by omega) (by omega) (by omega) (by omega) (by omega) (by omega) (by omega) (by omega)]) (by rw [e _ (by omega) (by omega) (by omega) (by omega) (by omega) (by omega) (by omega) (by omega) (by omega) (by omega)]) (e _ (by omega) (by omega) (by omega) (by omega) (by omega) (by omega) (by omega) (by omega) (by omega) (by omega)) (moRw.rows (e _ (by omega) (by omega) (by omega) (by omega) (by omega) (by omega) (by omega) (by omega) (by omega) (by omega)) (e _ (by omega) (by omega) (by omega) (by omega) (by omega) (by omega) (by omega) (by omega) (by omega) (by omega)) (e _ (by omega) (by omega) (by omega) (by omega) (by omega) (by omega) (by omega) (by omega) (by omega) (by omega))) k1, ?_, saR_congr (hP i hi.1 hi.2) (e _ (by omega) (by omega) (by omega) (by omega) (by omega) (by omega) (by omega) (by omega) (by omega) (by omega)) (e _ (by omega) (by omega) (by omega) (by omega) (by omega) (by omega) (by omega) (by omega) (by omega) (by omega)) (moSa.rows (fun a q1 q2 => e a (by omega) (by omega) (by omega) (by omega) (by omega) (by omega) (by omega) (by omega) (by omega) (by omega))) k3⟩
  · have h9 := eo (40 * c + j) (by omega)
    rw [e (b + 13) (by omega) (by omega) (by omega) (by omega) (by omega) (by omega) (by omega) (by omega) (by omega) (by omega), e (b + 14) (by omega) (by omega) (by omega) (by omega) (by omega) (by omega) (by omega) (by omega) (by omega) (by omega), h9.1, h9.2.1, h9.2.2]
    exact ⟨rfl, rfl, rfl, rfl, rfl⟩
  · have w0 : w (11 + 10 * i.toNat + 2) = τ (11 + 10 * i.toNat + 2) := s1 _ (by omega) (by omega) (by omega) (by omega) (by omega) (by omega)
    have wv : skV w (11 + 10 * i.toNat + 2) = skV τ (11 + 10 * i.toNat + 2) := skV_congr (by rw [w0]) (s1 _ (by omega) (by omega) (by omega) (by omega) (by omega) (by omega)) (s1 _ (by omega) (by omega) (by omega) (by omega) (by omega) (by omega)) (s1 _ (by omega) (by omega) (by omega) (by omega) (by omega) (by omega))
    have wn : τ (11 + 10 * i.toNat + 2) 5 = w (b + 11) i := congrArg Prod.fst hV
    refine ⟨by rw [w0]; exact wn, fun j j0 j1 => ?_, fun j j0 j1 => ?_, fun q => ⟨?_, by rw [wv]; exact hV⟩⟩
    · rw [e _ (by omega) (by omega) (by omega) (by omega) (by omega) (by omega) (by omega) (by omega) (by omega) (by omega), e (b + 14) (by omega) (by omega) (by omega) (by omega) (by omega) (by omega) (by omega) (by omega) (by omega) (by omega)]; exact k2.2.1 j j0 j1
    · rw [e _ (by omega) (by omega) (by omega) (by omega) (by omega) (by omega) (by omega) (by omega) (by omega) (by omega), e _ (by omega) (by omega) (by omega) (by omega) (by omega) (by omega) (by omega) (by omega) (by omega) (by omega), e (b + 13) (by omega) (by omega) (by omega) (by omega) (by omega) (by omega) (by omega) (by omega) (by omega) (by omega)]; exact k2.2.2.1 j j0 j1
    · rw [w0, t2 6 (by decide), e (b + 12) (by omega) (by omega) (by omega) (by omega) (by omega) (by omega) (by omega) (by omega) (by omega) (by omega)]; exact (k2.2.2.2 hn).1
set_option maxHeartbeats 1000000 in
theorem r_split {σ u w : Mem} {b : Nat} {z z9 : Int} (hb : 52 ≤ b) {i1 x1 : Int} (hR : Rel σ b) (hZ : szR σ b) (hP : saB σ b) (hc : (if ¬ ((0 ≤ i1 ∧ i1 < 3) ∧ (0 ≤ x1 ∧ x1 ≤ 39)) then (z = -1 ∧ u = sput σ 0 5 1) else (if ¬ 0 < σ (11 + 10 * i1.toNat + 2) 5 then (z = -1 ∧ u = sput σ 0 5 5) else (if σ ((11 + 10 * i1.toNat + 2) + 1) (spOf (σ ((11 + 10 * i1.toNat + 2) + 1)) (σ (11 + 10 * i1.toNat + 2) 5) x1) = x1 ∨ 12 ≤ σ (11 + 10 * i1.toNat + 2) 5 then (z = -1 ∧ u = sput σ 0 5 6) else (z = spOf (σ ((11 + 10 * i1.toNat + 2) + 1)) (σ (11 + 10 * i1.toNat + 2) 5) x1 ∧ ∃ τ : Mem, skFr σ τ (11 + 10 * i1.toNat + 2) ∧ skV τ (11 + 10 * i1.toNat + 2) = cutV (σ ((11 + 10 * i1.toNat + 2) + 4)) (skV σ (11 + 10 * i1.toNat + 2)) (spOf (σ ((11 + 10 * i1.toNat + 2) + 1)) (σ (11 + 10 * i1.toNat + 2) 5) x1) x1 ∧ u = sput τ 0 5 0))))) (hm : (if ¬ ((0 ≤ i1 ∧ i1 < 3) ∧ (0 ≤ x1 ∧ x1 ≤ 39)) then (z9 = -1 ∧ w = sput u b 0 1) else (if (u (b + 11) i1) = 0 then (z9 = -1 ∧ w = sput u b 0 5) else (if (shR (u (b + 15)) (40 * i1)) (spOf (shR (u (b + 15)) (40 * i1)) (u (b + 11) i1) x1) = x1 ∨ 12 ≤ (u (b + 11) i1) then (z9 = -1 ∧ w = sput u b 0 6) else (z9 = spOf (shR (u (b + 15)) (40 * i1)) (u (b + 11) i1) x1 ∧ moFr (sput u b 0 0) w b i1 ∧ moV w b i1 = cutV (shR (u (b + 14)) (40 * i1)) (moV u b i1) (spOf (shR (u (b + 15)) (40 * i1)) (u (b + 11) i1) x1) x1))))) : z = z9 ∧ Rel w b := by
  have hK : 0 ≤ i1 ∧ i1 < 3 → coR σ b i1 := fun q => hR.2.2.2 i1 q.1 q.2
  have z1 : 0 ≤ i1 ∧ i1 < 3 → σ (11 + 10 * i1.toNat + 2) 5 = σ (b + 11) i1 := fun q => (hK q).2.1.1
  have z2 : 0 ≤ i1 ∧ i1 < 3 → 0 ≤ σ (b + 11) i1 ∧ σ (b + 11) i1 ≤ 12 := fun q => hZ i1 q.1 q.2
  by_cases c1 : ¬ ((0 ≤ i1 ∧ i1 < 3) ∧ (0 ≤ x1 ∧ x1 ≤ 39))
  · rw [if_pos c1] at hc
    obtain ⟨hz, hu⟩ := hc
    subst hu
    try simp only [sput_r (show b + 11 ≠ 0 by omega), sput_r (show b + 14 ≠ 0 by omega), sput_r (show b + 15 ≠ 0 by omega)] at hm
    repeat (first | rw [if_pos (by omega)] at hm | rw [if_neg (by omega)] at hm)
    obtain ⟨hz9, hw⟩ := hm
    subst hw
    exact ⟨by omega, hR.st hb⟩
  · rw [if_neg c1] at hc
    by_cases c2 : ¬ 0 < σ (11 + 10 * i1.toNat + 2) 5
    · rw [if_pos c2] at hc
      obtain ⟨hz, hu⟩ := hc
      subst hu
      try simp only [sput_r (show b + 11 ≠ 0 by omega), sput_r (show b + 14 ≠ 0 by omega), sput_r (show b + 15 ≠ 0 by omega)] at hm
      repeat (first | rw [if_pos (by omega)] at hm | rw [if_neg (by omega)] at hm)
      obtain ⟨hz9, hw⟩ := hm
      subst hw
      exact ⟨by omega, hR.st hb⟩
    · rw [if_neg c2] at hc
      by_cases c3 : σ ((11 + 10 * i1.toNat + 2) + 1) (spOf (σ ((11 + 10 * i1.toNat + 2) + 1)) (σ (11 + 10 * i1.toNat + 2) 5) x1) = x1 ∨ 12 ≤ σ (11 + 10 * i1.toNat + 2) 5
      · rw [if_pos c3] at hc
        obtain ⟨hz, hu⟩ := hc
        subst hu
        simp only [sput_r (show b + 11 ≠ 0 by omega), sput_r (show b + 14 ≠ 0 by omega), sput_r (show b + 15 ≠ 0 by omega)] at hm
        have hk := hK (by omega)
        have es : spOf (σ (11 + 10 * i1.toNat + 2 + 1)) (σ (11 + 10 * i1.toNat + 2) 5) x1 = spOf (shR (σ (b + 15)) (40 * i1)) (σ (b + 11) i1) x1 := by rw [hk.2.1.1]; exact spOf_congr fun j j0 j1 => (skR_rows hk.2.1 (by omega) j j0 j1).1
        have sb := spOf_bd (shR (σ (b + 15)) (40 * i1)) (σ (b + 11) i1) x1
        have eE := (skR_rows hk.2.1 (by omega) _ sb.1 (sb.2.1 (by omega))).1
        rw [es, eE] at c3
        repeat (first | rw [if_pos (by omega)] at hm | rw [if_neg (by omega)] at hm)
        obtain ⟨hz9, hw⟩ := hm
        subst hw
        exact ⟨by omega, hR.st hb⟩
      · rw [if_neg c3] at hc
        obtain ⟨hz, τ, hF, hV, hu⟩ := hc
        subst hu
        have eu : ∀ a : Nat, b ≤ a → sput τ 0 5 0 a = σ a := fun a q => by rw [sput_r (by omega)]; funext j; exact hF a j (by omega) (by omega) (by omega) (Or.inl (by omega))
        have ev : moV (sput τ 0 5 0) b i1 = moV σ b i1 := by unfold moV; rw [eu _ (by omega), eu _ (by omega), eu _ (by omega), eu _ (by omega)]
        rw [ev, eu (b + 11) (by omega), eu (b + 14) (by omega), eu (b + 15) (by omega)] at hm
        have hk := hK (by omega)
        have es : spOf (σ (11 + 10 * i1.toNat + 2 + 1)) (σ (11 + 10 * i1.toNat + 2) 5) x1 = spOf (shR (σ (b + 15)) (40 * i1)) (σ (b + 11) i1) x1 := by rw [hk.2.1.1]; exact spOf_congr fun j j0 j1 => (skR_rows hk.2.1 (by omega) j j0 j1).1
        have sb := spOf_bd (shR (σ (b + 15)) (40 * i1)) (σ (b + 11) i1) x1
        have eE := (skR_rows hk.2.1 (by omega) _ sb.1 (sb.2.1 (by omega))).1
        rw [es] at hz hV
        rw [es, eE] at c3
        repeat (first | rw [if_pos (by omega)] at hm | rw [if_neg (by omega)] at hm)
        obtain ⟨hz9, hM, hV9⟩ := hm
        refine ⟨by omega, hR.sk hb hZ hP (by omega) (by omega) hF hM ?_⟩
        rw [hV9, hV, (hk.2.1.2.2.2 (by omega)).2, cutV_congr hk.2.1.2.1]
set_option maxHeartbeats 1000000 in
theorem r_melt {σ u w : Mem} {b : Nat} {z z9 : Int} (hb : 52 ≤ b) {i1 k1 : Int} (hR : Rel σ b) (hZ : szR σ b) (hP : saB σ b) (hc : (if ¬ (0 ≤ i1 ∧ i1 < 3) then (z = 0 ∧ u = sput σ 0 5 1) else (if ¬ 0 < σ (11 + 10 * i1.toNat + 2) 5 then (z = 0 ∧ u = sput σ 0 5 5) else (if ¬ (0 ≤ k1 ∧ k1 ≤ σ (11 + 10 * i1.toNat + 2) 5 - 2) then (z = 0 ∧ u = sput σ 0 5 6) else (z = 1 ∧ ∃ τ : Mem, skFr σ τ (11 + 10 * i1.toNat + 2) ∧ skV τ (11 + 10 * i1.toNat + 2) = fuseV (skV σ (11 + 10 * i1.toNat + 2)) k1 ∧ u = sput τ 0 5 0))))) (hm : (if ¬ (0 ≤ i1 ∧ i1 < 3) then (z9 = 0 ∧ w = sput u b 0 1) else (if (u (b + 11) i1) = 0 then (z9 = 0 ∧ w = sput u b 0 5) else (if ¬ (0 ≤ k1 ∧ k1 ≤ (u (b + 11) i1) - 2) then (z9 = 0 ∧ w = sput u b 0 6) else (z9 = 1 ∧ moFr (sput u b 0 0) w b i1 ∧ moV w b i1 = fuseV (moV u b i1) k1))))) : z = z9 ∧ Rel w b := by
  have hK : 0 ≤ i1 ∧ i1 < 3 → coR σ b i1 := fun q => hR.2.2.2 i1 q.1 q.2
  have z1 : 0 ≤ i1 ∧ i1 < 3 → σ (11 + 10 * i1.toNat + 2) 5 = σ (b + 11) i1 := fun q => (hK q).2.1.1
  have z2 : 0 ≤ i1 ∧ i1 < 3 → 0 ≤ σ (b + 11) i1 ∧ σ (b + 11) i1 ≤ 12 := fun q => hZ i1 q.1 q.2
  by_cases c1 : ¬ (0 ≤ i1 ∧ i1 < 3)
  · rw [if_pos c1] at hc
    obtain ⟨hz, hu⟩ := hc
    subst hu
    try simp only [sput_r (show b + 11 ≠ 0 by omega)] at hm
    repeat (first | rw [if_pos (by omega)] at hm | rw [if_neg (by omega)] at hm)
    obtain ⟨hz9, hw⟩ := hm
    subst hw
    exact ⟨by omega, hR.st hb⟩
  · rw [if_neg c1] at hc
    by_cases c2 : ¬ 0 < σ (11 + 10 * i1.toNat + 2) 5
    · rw [if_pos c2] at hc
      obtain ⟨hz, hu⟩ := hc
      subst hu
      try simp only [sput_r (show b + 11 ≠ 0 by omega)] at hm
      repeat (first | rw [if_pos (by omega)] at hm | rw [if_neg (by omega)] at hm)
      obtain ⟨hz9, hw⟩ := hm
      subst hw
      exact ⟨by omega, hR.st hb⟩
    · rw [if_neg c2] at hc
      by_cases c3 : ¬ (0 ≤ k1 ∧ k1 ≤ σ (11 + 10 * i1.toNat + 2) 5 - 2)
      · rw [if_pos c3] at hc
        obtain ⟨hz, hu⟩ := hc
        subst hu
        try simp only [sput_r (show b + 11 ≠ 0 by omega)] at hm
        repeat (first | rw [if_pos (by omega)] at hm | rw [if_neg (by omega)] at hm)
        obtain ⟨hz9, hw⟩ := hm
        subst hw
        exact ⟨by omega, hR.st hb⟩
      · rw [if_neg c3] at hc
        obtain ⟨hz, τ, hF, hV, hu⟩ := hc
        subst hu
        have eu : ∀ a : Nat, b ≤ a → sput τ 0 5 0 a = σ a := fun a q => by rw [sput_r (by omega)]; funext j; exact hF a j (by omega) (by omega) (by omega) (Or.inl (by omega))
        have ev : moV (sput τ 0 5 0) b i1 = moV σ b i1 := by unfold moV; rw [eu _ (by omega), eu _ (by omega), eu _ (by omega), eu _ (by omega)]
        rw [ev, eu (b + 11) (by omega)] at hm
        have hk := hK (by omega)
        repeat (first | rw [if_pos (by omega)] at hm | rw [if_neg (by omega)] at hm)
        obtain ⟨hz9, hM, hV9⟩ := hm
        refine ⟨by omega, hR.sk hb hZ hP (by omega) (by omega) hF hM ?_⟩
        rw [hV9, hV, (hk.2.1.2.2.2 (by omega)).2]
theorem keepV_01 (h : Int → Int) (S : SV) : (keepV h S).2 = 0 ∨ (keepV h S).2 = 1 := by
  unfold keepV
  split
  · exact Or.inl rfl
  · split
    · exact Or.inl rfl
    · exact Or.inr rfl
set_option maxHeartbeats 1000000 in
theorem r_keep {σ u w : Mem} {b : Nat} {z z9 : Int} (hb : 52 ≤ b) {i1 : Int} (hR : Rel σ b) (hZ : szR σ b) (hP : saB σ b) (hc : (if ¬ (0 ≤ i1 ∧ i1 < 3) then (z = -1 ∧ u = sput σ 0 5 1) else (if ¬ 0 < σ (11 + 10 * i1.toNat + 2) 5 then (z = -1 ∧ u = sput σ 0 5 5) else (z = (if (keepV (σ ((11 + 10 * i1.toNat + 2) + 4)) (skV σ (11 + 10 * i1.toNat + 2))).2 = 0 then 0 else 1) ∧ ∃ τ : Mem, skFr σ τ (11 + 10 * i1.toNat + 2) ∧ skV τ (11 + 10 * i1.toNat + 2) = (keepV (σ ((11 + 10 * i1.toNat + 2) + 4)) (skV σ (11 + 10 * i1.toNat + 2))).1 ∧ u = sput τ 0 5 0)))) (hm : (if ¬ (0 ≤ i1 ∧ i1 < 3) then (z9 = -1 ∧ w = sput u b 0 1) else (if (u (b + 11) i1) = 0 then (z9 = -1 ∧ w = sput u b 0 5) else (z9 = (keepV (shR (u (b + 14)) (40 * i1)) (moV u b i1)).2 ∧ moFr (sput u b 0 0) w b i1 ∧ moV w b i1 = (keepV (shR (u (b + 14)) (40 * i1)) (moV u b i1)).1)))) : z = z9 ∧ Rel w b := by
  have hK : 0 ≤ i1 ∧ i1 < 3 → coR σ b i1 := fun q => hR.2.2.2 i1 q.1 q.2
  have z1 : 0 ≤ i1 ∧ i1 < 3 → σ (11 + 10 * i1.toNat + 2) 5 = σ (b + 11) i1 := fun q => (hK q).2.1.1
  have z2 : 0 ≤ i1 ∧ i1 < 3 → 0 ≤ σ (b + 11) i1 ∧ σ (b + 11) i1 ≤ 12 := fun q => hZ i1 q.1 q.2
  by_cases c1 : ¬ (0 ≤ i1 ∧ i1 < 3)
  · rw [if_pos c1] at hc
    obtain ⟨hz, hu⟩ := hc
    subst hu
    try simp only [sput_r (show b + 11 ≠ 0 by omega), sput_r (show b + 14 ≠ 0 by omega)] at hm
    repeat (first | rw [if_pos (by omega)] at hm | rw [if_neg (by omega)] at hm)
    obtain ⟨hz9, hw⟩ := hm
    subst hw
    exact ⟨by omega, hR.st hb⟩
  · rw [if_neg c1] at hc
    by_cases c2 : ¬ 0 < σ (11 + 10 * i1.toNat + 2) 5
    · rw [if_pos c2] at hc
      obtain ⟨hz, hu⟩ := hc
      subst hu
      try simp only [sput_r (show b + 11 ≠ 0 by omega), sput_r (show b + 14 ≠ 0 by omega)] at hm
      repeat (first | rw [if_pos (by omega)] at hm | rw [if_neg (by omega)] at hm)
      obtain ⟨hz9, hw⟩ := hm
      subst hw
      exact ⟨by omega, hR.st hb⟩
    · rw [if_neg c2] at hc
      obtain ⟨hz, τ, hF, hV, hu⟩ := hc
      subst hu
      have eu : ∀ a : Nat, b ≤ a → sput τ 0 5 0 a = σ a := fun a q => by rw [sput_r (by omega)]; funext j; exact hF a j (by omega) (by omega) (by omega) (Or.inl (by omega))
      have ev : moV (sput τ 0 5 0) b i1 = moV σ b i1 := by unfold moV; rw [eu _ (by omega), eu _ (by omega), eu _ (by omega), eu _ (by omega)]
      rw [ev, eu (b + 11) (by omega), eu (b + 14) (by omega)] at hm
      have hk := hK (by omega)
      repeat (first | rw [if_pos (by omega)] at hm | rw [if_neg (by omega)] at hm)
      obtain ⟨hz9, hM, hV9⟩ := hm
      have ek : keepV (σ (11 + 10 * i1.toNat + 2 + 4)) (skV σ (11 + 10 * i1.toNat + 2)) = keepV (shR (σ (b + 14)) (40 * i1)) (moV σ b i1) := by rw [(hk.2.1.2.2.2 (by omega)).2]; exact keepV_congr hk.2.1.2.1 _
      rw [ek] at hz hV
      refine ⟨?_, hR.sk hb hZ hP (by omega) (by omega) hF hM (by rw [hV9, hV])⟩
      have k01 := keepV_01 (shR (σ (b + 14)) (40 * i1)) (moV σ b i1)
      rw [hz, hz9]
      split <;> omega
