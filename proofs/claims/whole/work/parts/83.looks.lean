/-! ===== looks: both sides answer alike ===== -/
theorem ltC_congr {h h' : Int → Int} (hh : ∀ j : Int, 0 ≤ j → j < 40 → h j = h' j) (a b : Int) : ltC h a b = ltC h' a b := by
  unfold ltC
  exact smR_congr fun v q1 q2 => by rw [hh v (by omega) (by omega)]
theorem hvS_congr {h h' c c' : Int → Int} (hh : ∀ j : Int, 0 ≤ j → j < 40 → h j = h' j) (hc : ∀ j : Int, 0 ≤ j → j < 40 → h j ≠ 0 → c j = c' j) (a b : Int) : hvS h c a b = hvS h' c' a b := by
  unfold hvS
  refine smR_congr fun v q1 q2 => ?_
  rw [← hh v (by omega) (by omega)]
  by_cases z : h v = 0
  · rw [if_pos z, if_pos z]
  · rw [if_neg z, if_neg z]; exact hc v (by omega) (by omega) z
theorem loN_congr {h h' e e' : Int → Int} {n k : Int} (hh : ∀ j : Int, 0 ≤ j → j < 40 → h j = h' j) (he : ∀ j : Int, 0 ≤ j → j < n → e j = e' j) (h0 : 0 ≤ k) (h1 : k < n) : loN h e k = loN h' e' k := by
  unfold loN foF
  rw [he k h0 h1, ltC_congr hh]
  by_cases z : 0 < k
  · rw [if_pos z, if_pos z, he (k - 1) (by omega) (by omega)]
  · rw [if_neg z, if_neg z]
theorem askF_congr {h h' e e' : Int → Int} {n k a b : Int} (hh : ∀ j : Int, 0 ≤ j → j < 40 → h j = h' j) (he : ∀ j : Int, 0 ≤ j → j < n → e j = e' j) (h0 : 0 ≤ k) (h1 : k < n) : askF h e a b k = askF h' e' a b k := by
  unfold askF foF
  rw [he k h0 h1, ltC_congr hh]
  by_cases z : 0 < k
  · rw [if_pos z, if_pos z, he (k - 1) (by omega) (by omega)]
  · rw [if_neg z, if_neg z]
theorem spOf_congr {e e' : Int → Int} {n v : Int} (he : ∀ j : Int, 0 ≤ j → j < n → e j = e' j) : spOf e n v = spOf e' n v := by
  rw [← spOf_mk (e := e), ← spOf_mk (e := e'), mkR_congr he]
theorem foF_congr {e e' : Int → Int} {n k : Int} (he : ∀ j : Int, 0 ≤ j → j < n → e j = e' j) (h1 : k ≤ n) : foF e k = foF e' k := by
  unfold foF
  by_cases z : 0 < k
  · rw [if_pos z, if_pos z, he (k - 1) (by omega) (by omega)]
  · rw [if_neg z, if_neg z]
theorem skR_rows {σ : Mem} {b : Nat} {c : Int} (h : skR σ b c) (hn : σ (b + 11) c ≠ 0) : ∀ j : Int, 0 ≤ j → j < σ (b + 11) c → σ (11 + 10 * c.toNat + 2 + 1) j = shR (σ (b + 15)) (40 * c) j ∧ σ (11 + 10 * c.toNat + 2 + 2) j = shR (σ (b + 16)) (40 * c) j ∧ σ (11 + 10 * c.toNat + 2 + 3) j = shR (σ (b + 17)) (40 * c) j := by
  intro j j0 j1
  have g := (h.2.2.2 hn).2
  have e1 := congrArg (fun S : SV => S.2.1 j) g
  have e2 := congrArg (fun S : SV => S.2.2.1 j) g
  have e3 := congrArg (fun S : SV => S.2.2.2 j) g
  simp only [skV, moV] at e1 e2 e3
  rw [h.1] at e1 e2 e3
  rw [mkR_in j0 j1, mkR_in j0 j1] at e1 e2 e3
  exact ⟨e1, e2, e3⟩
theorem lo_eq {σ : Mem} {b : Nat} {c a1 a2 : Int} (h : skR σ b c) (hn : σ (b + 11) c ≠ 0) : loV σ (11 + 10 * c.toNat + 2) a1 a2 = moL σ b c a1 a2 := by
  have g := skR_rows h hn
  unfold loV moL
  rw [h.1, hvS_congr h.2.1 h.2.2.1]
  congr 1
  refine smR_congr fun k k0 k1 => ?_
  unfold lwF
  rw [askF_congr h.2.1 (fun j j0 j1 => (g j j0 j1).1) k0 k1, loN_congr h.2.1 (fun j j0 j1 => (g j j0 j1).1) k0 k1, (g k k0 k1).2.1, (g k k0 k1).2.2]
theorem hi_eq {σ : Mem} {b : Nat} {c a1 a2 : Int} (h : skR σ b c) (hn : σ (b + 11) c ≠ 0) : hiV σ (11 + 10 * c.toNat + 2) a1 a2 = moH σ b c a1 a2 := by
  have g := skR_rows h hn
  unfold hiV moH
  rw [h.1, hvS_congr h.2.1 h.2.2.1]
  congr 1
  refine smR_congr fun k k0 k1 => ?_
  unfold hiF
  rw [askF_congr h.2.1 (fun j j0 j1 => (g j j0 j1).1) k0 k1, (g k k0 k1).2.1, (g k k0 k1).2.2]
theorem moL_s0 (σ : Mem) (b : Nat) (c a1 a2 k : Int) (hb : 52 ≤ b) : moL (sput σ 0 5 k) b c a1 a2 = moL σ b c a1 a2 := by
  unfold moL; rw [sput_r (by omega), sput_r (by omega), sput_r (by omega), sput_r (by omega), sput_r (by omega), sput_r (by omega)]
theorem moH_s0 (σ : Mem) (b : Nat) (c a1 a2 k : Int) (hb : 52 ≤ b) : moH (sput σ 0 5 k) b c a1 a2 = moH σ b c a1 a2 := by
  unfold moH; rw [sput_r (by omega), sput_r (by omega), sput_r (by omega), sput_r (by omega), sput_r (by omega), sput_r (by omega)]
/-- the sketches' sizes -/
def szR (σ : Mem) (b : Nat) : Prop := ∀ c : Int, 0 ≤ c → c < 3 → 0 ≤ σ (b + 11) c ∧ σ (b + 11) c ≤ 12
theorem r_status {σ u w : Mem} {b : Nat} {z z9 : Int} (hR : Rel σ b) (hc : z = σ 0 5 ∧ u = σ) (hm : z9 = u b 0 ∧ w = u) : z = z9 ∧ Rel w b := by
  obtain ⟨hz, rfl⟩ := hc
  obtain ⟨hz9, rfl⟩ := hm
  have := hR.1
  unfold stR at this
  exact ⟨by omega, hR⟩
theorem r_top {σ u w : Mem} {b : Nat} {z z9 : Int} (hR : Rel σ b) (hc : z = σ 51 100000 ∧ u = σ) (hm : z9 = u b 100001 ∧ w = u) : z = z9 ∧ Rel w b := by
  obtain ⟨hz, rfl⟩ := hc
  obtain ⟨hz9, rfl⟩ := hm
  have := hR.2.1
  unfold frR at this
  exact ⟨by omega, hR⟩
theorem r_bottom {σ u w : Mem} {b : Nat} {z z9 : Int} (hR : Rel σ b) (hc : z = σ 51 100001 ∧ u = σ) (hm : z9 = u b 100002 ∧ w = u) : z = z9 ∧ Rel w b := by
  obtain ⟨hz, rfl⟩ := hc
  obtain ⟨hz9, rfl⟩ := hm
  have := hR.2.1
  unfold frR at this
  exact ⟨by omega, hR⟩
set_option maxHeartbeats 1000000 in
theorem r_truly {σ u w : Mem} {b : Nat} {z z9 : Int} (hb : 52 ≤ b) {i1 x1 : Int} (hR : Rel σ b) (hZ : szR σ b)  (hc : (if ¬ ((0 ≤ i1 ∧ i1 < 3) ∧ (-1 ≤ x1 ∧ x1 ≤ 39)) then (z = -1 ∧ u = sput σ 0 5 1) else (z = (if 0 ≤ x1 ∧ x1 ≤ 39 then σ ((11 + 10 * i1.toNat) + 1) x1 else σ (11 + 10 * i1.toNat) 4) ∧ u = sput σ 0 5 0))) (hm : (if ¬ ((0 ≤ i1 ∧ i1 < 3) ∧ (-1 ≤ x1 ∧ x1 ≤ 39)) then (z9 = -1 ∧ w = sput u b 0 1) else (z9 = (if x1 = -1 then u (b + 5) i1 else u (b + 4) (40 * i1 + x1)) ∧ w = sput u b 0 0))) : z = z9 ∧ Rel w b := by
  have hK : 0 ≤ i1 ∧ i1 < 3 → coR σ b i1 := fun q => hR.2.2.2 i1 q.1 q.2
  have a1 : 0 ≤ i1 ∧ i1 < 3 → 0 ≤ x1 ∧ x1 < 40 → σ (11 + 10 * i1.toNat + 1) x1 = σ (b + 4) (40 * i1 + x1) := fun q q2 => (hK q).1.1 x1 q2.1 q2.2
  have a2 : 0 ≤ i1 ∧ i1 < 3 → σ (11 + 10 * i1.toNat) 4 = σ (b + 5) i1 := fun q => (hK q).1.2.2
  by_cases c1 : ¬ ((0 ≤ i1 ∧ i1 < 3) ∧ (-1 ≤ x1 ∧ x1 ≤ 39))
  · rw [if_pos c1] at hc
    obtain ⟨hz, hu⟩ := hc
    subst hu
    simp only [sput_r (show b + 4 ≠ 0 by omega), sput_r (show b + 5 ≠ 0 by omega)] at hm
    skip
    repeat (first | rw [if_pos (by omega)] at hm | rw [if_neg (by omega)] at hm)
    obtain ⟨hz9, hw⟩ := hm
    subst hw
    exact ⟨by omega, hR.st hb⟩
  · rw [if_neg c1] at hc
    obtain ⟨hz, hu⟩ := hc
    subst hu
    simp only [sput_r (show b + 4 ≠ 0 by omega), sput_r (show b + 5 ≠ 0 by omega)] at hm
    skip
    repeat (first | rw [if_pos (by omega)] at hm | rw [if_neg (by omega)] at hm)
    obtain ⟨hz9, hw⟩ := hm
    subst hw
    exact ⟨by omega, hR.st hb⟩
set_option maxHeartbeats 1000000 in
theorem r_rows {σ u w : Mem} {b : Nat} {z z9 : Int} (hb : 52 ≤ b) {i1 w1 : Int} (hR : Rel σ b) (hZ : szR σ b)  (hc : (if ¬ (0 ≤ i1 ∧ i1 < 3) then (z = -1 ∧ u = sput σ 0 5 1) else (if w1 = 0 then (z = σ (11 + 10 * i1.toNat) 3 ∧ u = sput σ 0 5 0) else (if w1 = 1 then (z = σ (11 + 10 * i1.toNat) 3 + σ (11 + 10 * i1.toNat) 4 ∧ u = sput σ 0 5 0) else (if w1 = 2 then (z = smR (fun v => if 0 < σ ((11 + 10 * i1.toNat) + 1) v then 1 else 0) 0 40 ∧ u = sput σ 0 5 0) else (z = -1 ∧ u = sput σ 0 5 1)))))) (hm : (if ¬ ((0 ≤ i1 ∧ i1 < 3) ∧ (0 ≤ w1 ∧ w1 ≤ 2)) then (z9 = -1 ∧ w = sput u b 0 1) else (if w1 = 0 then (z9 = u (b + 6) i1 ∧ w = sput u b 0 0) else (if w1 = 1 then (z9 = u (b + 6) i1 + u (b + 5) i1 ∧ w = sput u b 0 0) else (z9 = smR (fun v => if 0 < shR (u (b + 4)) (40 * i1) v then 1 else 0) 0 40 ∧ w = sput u b 0 0))))) : z = z9 ∧ Rel w b := by
  have hK : 0 ≤ i1 ∧ i1 < 3 → coR σ b i1 := fun q => hR.2.2.2 i1 q.1 q.2
  have a1 : 0 ≤ i1 ∧ i1 < 3 → σ (11 + 10 * i1.toNat) 3 = σ (b + 6) i1 := fun q => (hK q).1.2.1
  have a2 : 0 ≤ i1 ∧ i1 < 3 → σ (11 + 10 * i1.toNat) 4 = σ (b + 5) i1 := fun q => (hK q).1.2.2
  have a3 : 0 ≤ i1 ∧ i1 < 3 → smR (fun v => if 0 < σ (11 + 10 * i1.toNat + 1) v then 1 else 0) 0 40 = smR (fun v => if 0 < shR (σ (b + 4)) (40 * i1) v then 1 else 0) 0 40 := fun q => smR_congr fun j j0 j1 => by rw [(hK q).1.1 j j0 j1]
  by_cases c1 : ¬ (0 ≤ i1 ∧ i1 < 3)
  · rw [if_pos c1] at hc
    obtain ⟨hz, hu⟩ := hc
    subst hu
    simp only [sput_r (show b + 4 ≠ 0 by omega), sput_r (show b + 5 ≠ 0 by omega), sput_r (show b + 6 ≠ 0 by omega)] at hm
    repeat (first | rw [if_pos (by omega)] at hm | rw [if_neg (by omega)] at hm)
    obtain ⟨hz9, hw⟩ := hm
    subst hw
    exact ⟨by omega, hR.st hb⟩
  · rw [if_neg c1] at hc
    by_cases c2 : w1 = 0
    · rw [if_pos c2] at hc
      obtain ⟨hz, hu⟩ := hc
      subst hu
      simp only [sput_r (show b + 4 ≠ 0 by omega), sput_r (show b + 5 ≠ 0 by omega), sput_r (show b + 6 ≠ 0 by omega)] at hm
      repeat (first | rw [if_pos (by omega)] at hm | rw [if_neg (by omega)] at hm)
      obtain ⟨hz9, hw⟩ := hm
      subst hw
      exact ⟨by omega, hR.st hb⟩
    · rw [if_neg c2] at hc
      by_cases c3 : w1 = 1
      · rw [if_pos c3] at hc
        obtain ⟨hz, hu⟩ := hc
        subst hu
        simp only [sput_r (show b + 4 ≠ 0 by omega), sput_r (show b + 5 ≠ 0 by omega), sput_r (show b + 6 ≠ 0 by omega)] at hm
        repeat (first | rw [if_pos (by omega)] at hm | rw [if_neg (by omega)] at hm)
        obtain ⟨hz9, hw⟩ := hm
        subst hw
        exact ⟨by omega, hR.st hb⟩
      · rw [if_neg c3] at hc
        by_cases c4 : w1 = 2
        · rw [if_pos c4] at hc
          obtain ⟨hz, hu⟩ := hc
          subst hu
          simp only [sput_r (show b + 4 ≠ 0 by omega), sput_r (show b + 5 ≠ 0 by omega), sput_r (show b + 6 ≠ 0 by omega)] at hm
          repeat (first | rw [if_pos (by omega)] at hm | rw [if_neg (by omega)] at hm)
          obtain ⟨hz9, hw⟩ := hm
          subst hw
          exact ⟨by omega, hR.st hb⟩
        · rw [if_neg c4] at hc
          obtain ⟨hz, hu⟩ := hc
          subst hu
          simp only [sput_r (show b + 4 ≠ 0 by omega), sput_r (show b + 5 ≠ 0 by omega), sput_r (show b + 6 ≠ 0 by omega)] at hm
          repeat (first | rw [if_pos (by omega)] at hm | rw [if_neg (by omega)] at hm)
          obtain ⟨hz9, hw⟩ := hm
          subst hw
          exact ⟨by omega, hR.st hb⟩
set_option maxHeartbeats 1000000 in
theorem r_read {σ u w : Mem} {b : Nat} {z z9 : Int} (hb : 52 ≤ b) {i1 p1 : Int} (hR : Rel σ b) (hZ : szR σ b)  (hc : (if ¬ (0 ≤ i1 ∧ i1 < 4) then (z = -1 ∧ u = sput σ 0 5 1) else (if σ (3 + 2 * i1.toNat) 1 = 0 then (z = -1 ∧ u = sput σ 0 5 2) else (if ¬ (0 ≤ p1 ∧ p1 ≤ σ (3 + 2 * i1.toNat) 3 - 1) then (z = -1 ∧ u = sput σ 0 5 3) else (z = σ ((3 + 2 * i1.toNat) + 1) (100000 + p1) ∧ u = sput σ 0 5 0))))) (hm : (if ¬ (0 ≤ i1 ∧ i1 < 4) then (z9 = -1 ∧ w = sput u b 0 1) else (if u (b + 2) i1 = -1 then (z9 = -1 ∧ w = sput u b 0 2) else (if ¬ (0 ≤ p1 ∧ p1 < u (b + 2) i1) then (z9 = -1 ∧ w = sput u b 0 3) else (z9 = u (b + 3) (100000 + (100 * i1 + p1)) ∧ w = sput u b 0 0))))) : z = z9 ∧ Rel w b := by
  have t1 : 0 ≤ i1 ∧ i1 < 4 → (σ (3 + 2 * i1.toNat) 1 = 0 ∧ σ (b + 2) i1 = -1) ∨ (σ (3 + 2 * i1.toNat) 1 = 1 ∧ σ (b + 2) i1 = σ (3 + 2 * i1.toNat) 3 ∧ 0 ≤ σ (b + 2) i1) := fun q => by rcases hR.2.2.1 i1 q.1 q.2 with z | z; exact Or.inl z; exact Or.inr ⟨z.1, z.2.1, z.2.2.2.1⟩
  have t2 : 0 ≤ i1 ∧ i1 < 4 → 0 ≤ p1 ∧ p1 < σ (b + 2) i1 → σ (3 + 2 * i1.toNat + 1) (100000 + p1) = σ (b + 3) (100000 + (100 * i1 + p1)) := fun q q2 => by rcases hR.2.2.1 i1 q.1 q.2 with z | z; (exfalso; omega); exact z.2.2.2.2 p1 q2.1 q2.2
  by_cases c1 : ¬ (0 ≤ i1 ∧ i1 < 4)
  · rw [if_pos c1] at hc
    obtain ⟨hz, hu⟩ := hc
    subst hu
    simp only [sput_r (show b + 2 ≠ 0 by omega), sput_r (show b + 3 ≠ 0 by omega)] at hm
    repeat (first | rw [if_pos (by omega)] at hm | rw [if_neg (by omega)] at hm)
    obtain ⟨hz9, hw⟩ := hm
    subst hw
    exact ⟨by omega, hR.st hb⟩
  · rw [if_neg c1] at hc
    by_cases c2 : σ (3 + 2 * i1.toNat) 1 = 0
    · rw [if_pos c2] at hc
      obtain ⟨hz, hu⟩ := hc
      subst hu
      simp only [sput_r (show b + 2 ≠ 0 by omega), sput_r (show b + 3 ≠ 0 by omega)] at hm
      repeat (first | rw [if_pos (by omega)] at hm | rw [if_neg (by omega)] at hm)
      obtain ⟨hz9, hw⟩ := hm
      subst hw
      exact ⟨by omega, hR.st hb⟩
    · rw [if_neg c2] at hc
      by_cases c3 : ¬ (0 ≤ p1 ∧ p1 ≤ σ (3 + 2 * i1.toNat) 3 - 1)
      · rw [if_pos c3] at hc
        obtain ⟨hz, hu⟩ := hc
        subst hu
        simp only [sput_r (show b + 2 ≠ 0 by omega), sput_r (show b + 3 ≠ 0 by omega)] at hm
        repeat (first | rw [if_pos (by omega)] at hm | rw [if_neg (by omega)] at hm)
        obtain ⟨hz9, hw⟩ := hm
        subst hw
        exact ⟨by omega, hR.st hb⟩
      · rw [if_neg c3] at hc
        obtain ⟨hz, hu⟩ := hc
        subst hu
        simp only [sput_r (show b + 2 ≠ 0 by omega), sput_r (show b + 3 ≠ 0 by omega)] at hm
        repeat (first | rw [if_pos (by omega)] at hm | rw [if_neg (by omega)] at hm)
        obtain ⟨hz9, hw⟩ := hm
        subst hw
        exact ⟨by omega, hR.st hb⟩
set_option maxHeartbeats 1000000 in
theorem r_sketch {σ u w : Mem} {b : Nat} {z z9 : Int} (hb : 52 ≤ b) {i1 w1 : Int} (hR : Rel σ b) (hZ : szR σ b)  (hc : (if ¬ ((0 ≤ i1 ∧ i1 < 3) ∧ (0 ≤ w1 ∧ w1 ≤ 3)) then (z = -1 ∧ u = sput σ 0 5 1) else (if ¬ 0 < σ (11 + 10 * i1.toNat + 2) 5 then (z = -1 ∧ u = sput σ 0 5 5) else (if w1 = 0 then (z = σ (11 + 10 * i1.toNat + 2) 5 ∧ u = sput σ 0 5 0) else (if w1 = 1 then (z = 40 - ltC (σ ((11 + 10 * i1.toNat + 2) + 4)) 0 39 ∧ u = sput σ 0 5 0) else (if w1 = 2 then (z = smR (σ ((11 + 10 * i1.toNat + 2) + 3)) 0 (σ (11 + 10 * i1.toNat + 2) 5) ∧ u = sput σ 0 5 0) else (z = smR (σ ((11 + 10 * i1.toNat + 2) + 2)) 0 (σ (11 + 10 * i1.toNat + 2) 5) ∧ u = sput σ 0 5 0))))))) (hm : (if ¬ ((0 ≤ i1 ∧ i1 < 3) ∧ (0 ≤ w1 ∧ w1 ≤ 3)) then (z9 = -1 ∧ w = sput u b 0 1) else (if (u (b + 11) i1) = 0 then (z9 = -1 ∧ w = sput u b 0 5) else (if w1 = 0 then (z9 = (u (b + 11) i1) ∧ w = sput u b 0 0) else (if w1 = 1 then (z9 = 40 - ltC (shR (u (b + 14)) (40 * i1)) 0 39 ∧ w = sput u b 0 0) else (if w1 = 2 then (z9 = smR (shR (u (b + 17)) (40 * i1)) 0 (u (b + 11) i1) ∧ w = sput u b 0 0) else (z9 = smR (shR (u (b + 16)) (40 * i1)) 0 (u (b + 11) i1) ∧ w = sput u b 0 0))))))) : z = z9 ∧ Rel w b := by
  have hK : 0 ≤ i1 ∧ i1 < 3 → coR σ b i1 := fun q => hR.2.2.2 i1 q.1 q.2
  have z1 : 0 ≤ i1 ∧ i1 < 3 → σ (11 + 10 * i1.toNat + 2) 5 = σ (b + 11) i1 := fun q => (hK q).2.1.1
  have z2 : 0 ≤ i1 ∧ i1 < 3 → 0 ≤ σ (b + 11) i1 ∧ σ (b + 11) i1 ≤ 12 := fun q => hZ i1 q.1 q.2
  have a1 : 0 ≤ i1 ∧ i1 < 3 → ltC (σ (11 + 10 * i1.toNat + 2 + 4)) 0 39 = ltC (shR (σ (b + 14)) (40 * i1)) 0 39 := fun q => ltC_congr (hK q).2.1.2.1 0 39
  have a2 : 0 ≤ i1 ∧ i1 < 3 → σ (b + 11) i1 ≠ 0 → smR (σ (11 + 10 * i1.toNat + 2 + 3)) 0 (σ (11 + 10 * i1.toNat + 2) 5) = smR (shR (σ (b + 17)) (40 * i1)) 0 (σ (b + 11) i1) := fun q q2 => by rw [z1 q]; exact smR_congr fun j j0 j1 => (skR_rows (hK q).2.1 q2 j j0 j1).2.2
  have a3 : 0 ≤ i1 ∧ i1 < 3 → σ (b + 11) i1 ≠ 0 → smR (σ (11 + 10 * i1.toNat + 2 + 2)) 0 (σ (11 + 10 * i1.toNat + 2) 5) = smR (shR (σ (b + 16)) (40 * i1)) 0 (σ (b + 11) i1) := fun q q2 => by rw [z1 q]; exact smR_congr fun j j0 j1 => (skR_rows (hK q).2.1 q2 j j0 j1).2.1
  by_cases c1 : ¬ ((0 ≤ i1 ∧ i1 < 3) ∧ (0 ≤ w1 ∧ w1 ≤ 3))
  · rw [if_pos c1] at hc
    obtain ⟨hz, hu⟩ := hc
    subst hu
    simp only [sput_r (show b + 11 ≠ 0 by omega), sput_r (show b + 14 ≠ 0 by omega), sput_r (show b + 16 ≠ 0 by omega), sput_r (show b + 17 ≠ 0 by omega)] at hm
    repeat (first | rw [if_pos (by omega)] at hm | rw [if_neg (by omega)] at hm)
    obtain ⟨hz9, hw⟩ := hm
    subst hw
    exact ⟨by omega, hR.st hb⟩
  · rw [if_neg c1] at hc
    by_cases c2 : ¬ 0 < σ (11 + 10 * i1.toNat + 2) 5
    · rw [if_pos c2] at hc
      obtain ⟨hz, hu⟩ := hc
      subst hu
      simp only [sput_r (show b + 11 ≠ 0 by omega), sput_r (show b + 14 ≠ 0 by omega), sput_r (show b + 16 ≠ 0 by omega), sput_r (show b + 17 ≠ 0 by omega)] at hm
      repeat (first | rw [if_pos (by omega)] at hm | rw [if_neg (by omega)] at hm)
      obtain ⟨hz9, hw⟩ := hm
      subst hw
      exact ⟨by omega, hR.st hb⟩
    · rw [if_neg c2] at hc
      by_cases c3 : w1 = 0
      · rw [if_pos c3] at hc
        obtain ⟨hz, hu⟩ := hc
        subst hu
        simp only [sput_r (show b + 11 ≠ 0 by omega), sput_r (show b + 14 ≠ 0 by omega), sput_r (show b + 16 ≠ 0 by omega), sput_r (show b + 17 ≠ 0 by omega)] at hm
        repeat (first | rw [if_pos (by omega)] at hm | rw [if_neg (by omega)] at hm)
        obtain ⟨hz9, hw⟩ := hm
        subst hw
        exact ⟨by omega, hR.st hb⟩
      · rw [if_neg c3] at hc
        by_cases c4 : w1 = 1
        · rw [if_pos c4] at hc
          obtain ⟨hz, hu⟩ := hc
          subst hu
          simp only [sput_r (show b + 11 ≠ 0 by omega), sput_r (show b + 14 ≠ 0 by omega), sput_r (show b + 16 ≠ 0 by omega), sput_r (show b + 17 ≠ 0 by omega)] at hm
          repeat (first | rw [if_pos (by omega)] at hm | rw [if_neg (by omega)] at hm)
          obtain ⟨hz9, hw⟩ := hm
          subst hw
          exact ⟨by omega, hR.st hb⟩
        · rw [if_neg c4] at hc
          by_cases c5 : w1 = 2
          · rw [if_pos c5] at hc
            obtain ⟨hz, hu⟩ := hc
            subst hu
            simp only [sput_r (show b + 11 ≠ 0 by omega), sput_r (show b + 14 ≠ 0 by omega), sput_r (show b + 16 ≠ 0 by omega), sput_r (show b + 17 ≠ 0 by omega)] at hm
            repeat (first | rw [if_pos (by omega)] at hm | rw [if_neg (by omega)] at hm)
            obtain ⟨hz9, hw⟩ := hm
            subst hw
            exact ⟨by omega, hR.st hb⟩
          · rw [if_neg c5] at hc
            obtain ⟨hz, hu⟩ := hc
            subst hu
            simp only [sput_r (show b + 11 ≠ 0 by omega), sput_r (show b + 14 ≠ 0 by omega), sput_r (show b + 16 ≠ 0 by omega), sput_r (show b + 17 ≠ 0 by omega)] at hm
            repeat (first | rw [if_pos (by omega)] at hm | rw [if_neg (by omega)] at hm)
            obtain ⟨hz9, hw⟩ := hm
            subst hw
            exact ⟨by omega, hR.st hb⟩
set_option maxHeartbeats 1000000 in
theorem r_span {σ u w : Mem} {b : Nat} {z z9 : Int} (hb : 52 ≤ b) {i1 k1 w1 : Int} (hR : Rel σ b) (hZ : szR σ b)  (hc : (if ¬ (0 ≤ i1 ∧ i1 < 3) then (z = -1 ∧ u = sput σ 0 5 1) else (if ¬ 0 < σ (11 + 10 * i1.toNat + 2) 5 then (z = -1 ∧ u = sput σ 0 5 5) else (if ¬ (0 ≤ k1 ∧ k1 ≤ σ (11 + 10 * i1.toNat + 2) 5 - 1) then (z = -1 ∧ u = sput σ 0 5 1) else (if w1 = 0 then (z = foF (σ ((11 + 10 * i1.toNat + 2) + 1)) k1 ∧ u = sput σ 0 5 0) else (if w1 = 1 then (z = σ ((11 + 10 * i1.toNat + 2) + 1) k1 ∧ u = sput σ 0 5 0) else (if w1 = 2 then (z = σ ((11 + 10 * i1.toNat + 2) + 2) k1 ∧ u = sput σ 0 5 0) else (if w1 = 3 then (z = σ ((11 + 10 * i1.toNat + 2) + 3) k1 ∧ u = sput σ 0 5 0) else (if w1 = 4 then (z = loN (σ ((11 + 10 * i1.toNat + 2) + 4)) (σ ((11 + 10 * i1.toNat + 2) + 1)) k1 ∧ u = sput σ 0 5 0) else (z = -1 ∧ u = sput σ 0 5 1)))))))))) (hm : (if ¬ (0 ≤ i1 ∧ i1 < 3) then (z9 = -1 ∧ w = sput u b 0 1) else (if (u (b + 11) i1) = 0 then (z9 = -1 ∧ w = sput u b 0 5) else (if ¬ (0 ≤ k1 ∧ k1 ≤ (u (b + 11) i1) - 1) then (z9 = -1 ∧ w = sput u b 0 1) else (if w1 = 0 then (z9 = foF (shR (u (b + 15)) (40 * i1)) k1 ∧ w = sput u b 0 0) else (if w1 = 1 then (z9 = (shR (u (b + 15)) (40 * i1)) k1 ∧ w = sput u b 0 0) else (if w1 = 2 then (z9 = (shR (u (b + 16)) (40 * i1)) k1 ∧ w = sput u b 0 0) else (if w1 = 3 then (z9 = (shR (u (b + 17)) (40 * i1)) k1 ∧ w = sput u b 0 0) else (if w1 = 4 then (z9 = loN (shR (u (b + 14)) (40 * i1)) (shR (u (b + 15)) (40 * i1)) k1 ∧ w = sput u b 0 0) else (z9 = -1 ∧ w = sput u b 0 1)))))))))) : z = z9 ∧ Rel w b := by
  have hK : 0 ≤ i1 ∧ i1 < 3 → coR σ b i1 := fun q => hR.2.2.2 i1 q.1 q.2
  have z1 : 0 ≤ i1 ∧ i1 < 3 → σ (11 + 10 * i1.toNat + 2) 5 = σ (b + 11) i1 := fun q => (hK q).2.1.1
  have z2 : 0 ≤ i1 ∧ i1 < 3 → 0 ≤ σ (b + 11) i1 ∧ σ (b + 11) i1 ≤ 12 := fun q => hZ i1 q.1 q.2
  have a1 : 0 ≤ i1 ∧ i1 < 3 → σ (b + 11) i1 ≠ 0 → 0 ≤ k1 ∧ k1 < σ (b + 11) i1 → foF (σ (11 + 10 * i1.toNat + 2 + 1)) k1 = foF (shR (σ (b + 15)) (40 * i1)) k1 := fun q q2 q3 => foF_congr (n := σ (b + 11) i1) (fun j j0 j1 => (skR_rows (hK q).2.1 q2 j j0 j1).1) (by omega)
  have a2 : 0 ≤ i1 ∧ i1 < 3 → σ (b + 11) i1 ≠ 0 → 0 ≤ k1 ∧ k1 < σ (b + 11) i1 → σ (11 + 10 * i1.toNat + 2 + 1) k1 = (shR (σ (b + 15)) (40 * i1)) k1 := fun q q2 q3 => (skR_rows (hK q).2.1 q2 k1 q3.1 q3.2).1
  have a3 : 0 ≤ i1 ∧ i1 < 3 → σ (b + 11) i1 ≠ 0 → 0 ≤ k1 ∧ k1 < σ (b + 11) i1 → σ (11 + 10 * i1.toNat + 2 + 2) k1 = (shR (σ (b + 16)) (40 * i1)) k1 := fun q q2 q3 => (skR_rows (hK q).2.1 q2 k1 q3.1 q3.2).2.1
  have a4 : 0 ≤ i1 ∧ i1 < 3 → σ (b + 11) i1 ≠ 0 → 0 ≤ k1 ∧ k1 < σ (b + 11) i1 → σ (11 + 10 * i1.toNat + 2 + 3) k1 = (shR (σ (b + 17)) (40 * i1)) k1 := fun q q2 q3 => (skR_rows (hK q).2.1 q2 k1 q3.1 q3.2).2.2
  have a5 : 0 ≤ i1 ∧ i1 < 3 → σ (b + 11) i1 ≠ 0 → 0 ≤ k1 ∧ k1 < σ (b + 11) i1 → loN (σ (11 + 10 * i1.toNat + 2 + 4)) (σ (11 + 10 * i1.toNat + 2 + 1)) k1 = loN (shR (σ (b + 14)) (40 * i1)) (shR (σ (b + 15)) (40 * i1)) k1 := fun q q2 q3 => loN_congr (n := σ (b + 11) i1) (hK q).2.1.2.1 (fun j j0 j1 => (skR_rows (hK q).2.1 q2 j j0 j1).1) q3.1 q3.2
  by_cases c1 : ¬ (0 ≤ i1 ∧ i1 < 3)
  · rw [if_pos c1] at hc
    obtain ⟨hz, hu⟩ := hc
    subst hu
    simp only [sput_r (show b + 11 ≠ 0 by omega), sput_r (show b + 14 ≠ 0 by omega), sput_r (show b + 15 ≠ 0 by omega), sput_r (show b + 16 ≠ 0 by omega), sput_r (show b + 17 ≠ 0 by omega)] at hm
    repeat (first | rw [if_pos (by omega)] at hm | rw [if_neg (by omega)] at hm)
    obtain ⟨hz9, hw⟩ := hm
    subst hw
    exact ⟨by omega, hR.st hb⟩
  · rw [if_neg c1] at hc
    by_cases c2 : ¬ 0 < σ (11 + 10 * i1.toNat + 2) 5
    · rw [if_pos c2] at hc
      obtain ⟨hz, hu⟩ := hc
      subst hu
      simp only [sput_r (show b + 11 ≠ 0 by omega), sput_r (show b + 14 ≠ 0 by omega), sput_r (show b + 15 ≠ 0 by omega), sput_r (show b + 16 ≠ 0 by omega), sput_r (show b + 17 ≠ 0 by omega)] at hm
      repeat (first | rw [if_pos (by omega)] at hm | rw [if_neg (by omega)] at hm)
      obtain ⟨hz9, hw⟩ := hm
      subst hw
      exact ⟨by omega, hR.st hb⟩
    · rw [if_neg c2] at hc
      by_cases c3 : ¬ (0 ≤ k1 ∧ k1 ≤ σ (11 + 10 * i1.toNat + 2) 5 - 1)
      · rw [if_pos c3] at hc
        obtain ⟨hz, hu⟩ := hc
        subst hu
        simp only [sput_r (show b + 11 ≠ 0 by omega), sput_r (show b + 14 ≠ 0 by omega), sput_r (show b + 15 ≠ 0 by omega), sput_r (show b + 16 ≠ 0 by omega), sput_r (show b + 17 ≠ 0 by omega)] at hm
        repeat (first | rw [if_pos (by omega)] at hm | rw [if_neg (by omega)] at hm)
        obtain ⟨hz9, hw⟩ := hm
        subst hw
        exact ⟨by omega, hR.st hb⟩
      · rw [if_neg c3] at hc
        by_cases c4 : w1 = 0
        · rw [if_pos c4] at hc
          obtain ⟨hz, hu⟩ := hc
          subst hu
          simp only [sput_r (show b + 11 ≠ 0 by omega), sput_r (show b + 14 ≠ 0 by omega), sput_r (show b + 15 ≠ 0 by omega), sput_r (show b + 16 ≠ 0 by omega), sput_r (show b + 17 ≠ 0 by omega)] at hm
          repeat (first | rw [if_pos (by omega)] at hm | rw [if_neg (by omega)] at hm)
          obtain ⟨hz9, hw⟩ := hm
          subst hw
          exact ⟨by omega, hR.st hb⟩
        · rw [if_neg c4] at hc
          by_cases c5 : w1 = 1
          · rw [if_pos c5] at hc
            obtain ⟨hz, hu⟩ := hc
            subst hu
            simp only [sput_r (show b + 11 ≠ 0 by omega), sput_r (show b + 14 ≠ 0 by omega), sput_r (show b + 15 ≠ 0 by omega), sput_r (show b + 16 ≠ 0 by omega), sput_r (show b + 17 ≠ 0 by omega)] at hm
            repeat (first | rw [if_pos (by omega)] at hm | rw [if_neg (by omega)] at hm)
            obtain ⟨hz9, hw⟩ := hm
            subst hw
            exact ⟨by omega, hR.st hb⟩
          · rw [if_neg c5] at hc
            by_cases c6 : w1 = 2
            · rw [if_pos c6] at hc
              obtain ⟨hz, hu⟩ := hc
              subst hu
              simp only [sput_r (show b + 11 ≠ 0 by omega), sput_r (show b + 14 ≠ 0 by omega), sput_r (show b + 15 ≠ 0 by omega), sput_r (show b + 16 ≠ 0 by omega), sput_r (show b + 17 ≠ 0 by omega)] at hm
              repeat (first | rw [if_pos (by omega)] at hm | rw [if_neg (by omega)] at hm)
              obtain ⟨hz9, hw⟩ := hm
              subst hw
              exact ⟨by omega, hR.st hb⟩
            · rw [if_neg c6] at hc
              by_cases c7 : w1 = 3
              · rw [if_pos c7] at hc
                obtain ⟨hz, hu⟩ := hc
                subst hu
                simp only [sput_r (show b + 11 ≠ 0 by omega), sput_r (show b + 14 ≠ 0 by omega), sput_r (show b + 15 ≠ 0 by omega), sput_r (show b + 16 ≠ 0 by omega), sput_r (show b + 17 ≠ 0 by omega)] at hm
                repeat (first | rw [if_pos (by omega)] at hm | rw [if_neg (by omega)] at hm)
                obtain ⟨hz9, hw⟩ := hm
                subst hw
                exact ⟨by omega, hR.st hb⟩
              · rw [if_neg c7] at hc
                by_cases c8 : w1 = 4
                · rw [if_pos c8] at hc
                  obtain ⟨hz, hu⟩ := hc
                  subst hu
                  simp only [sput_r (show b + 11 ≠ 0 by omega), sput_r (show b + 14 ≠ 0 by omega), sput_r (show b + 15 ≠ 0 by omega), sput_r (show b + 16 ≠ 0 by omega), sput_r (show b + 17 ≠ 0 by omega)] at hm
                  repeat (first | rw [if_pos (by omega)] at hm | rw [if_neg (by omega)] at hm)
                  obtain ⟨hz9, hw⟩ := hm
                  subst hw
                  exact ⟨by omega, hR.st hb⟩
                · rw [if_neg c8] at hc
                  obtain ⟨hz, hu⟩ := hc
                  subst hu
                  simp only [sput_r (show b + 11 ≠ 0 by omega), sput_r (show b + 14 ≠ 0 by omega), sput_r (show b + 15 ≠ 0 by omega), sput_r (show b + 16 ≠ 0 by omega), sput_r (show b + 17 ≠ 0 by omega)] at hm
                  repeat (first | rw [if_pos (by omega)] at hm | rw [if_neg (by omega)] at hm)
                  obtain ⟨hz9, hw⟩ := hm
                  subst hw
                  exact ⟨by omega, hR.st hb⟩
set_option maxHeartbeats 1000000 in
theorem r_heavy {σ u w : Mem} {b : Nat} {z z9 : Int} (hb : 52 ≤ b) {i1 x1 : Int} (hR : Rel σ b) (hZ : szR σ b)  (hc : (if ¬ ((0 ≤ i1 ∧ i1 < 3) ∧ (0 ≤ x1 ∧ x1 ≤ 39)) then (z = -1 ∧ u = sput σ 0 5 1) else (if ¬ 0 < σ (11 + 10 * i1.toNat + 2) 5 then (z = -1 ∧ u = sput σ 0 5 5) else (if σ ((11 + 10 * i1.toNat + 2) + 4) x1 = 0 then (z = -1 ∧ u = sput σ 0 5 6) else (z = σ ((11 + 10 * i1.toNat + 2) + 5) x1 ∧ u = sput σ 0 5 0))))) (hm : (if ¬ ((0 ≤ i1 ∧ i1 < 3) ∧ (0 ≤ x1 ∧ x1 ≤ 39)) then (z9 = -1 ∧ w = sput u b 0 1) else (if (u (b + 11) i1) = 0 then (z9 = -1 ∧ w = sput u b 0 5) else (if (shR (u (b + 14)) (40 * i1)) x1 = 0 then (z9 = -1 ∧ w = sput u b 0 6) else (z9 = (shR (u (b + 13)) (40 * i1)) x1 ∧ w = sput u b 0 0))))) : z = z9 ∧ Rel w b := by
  have hK : 0 ≤ i1 ∧ i1 < 3 → coR σ b i1 := fun q => hR.2.2.2 i1 q.1 q.2
  have z1 : 0 ≤ i1 ∧ i1 < 3 → σ (11 + 10 * i1.toNat + 2) 5 = σ (b + 11) i1 := fun q => (hK q).2.1.1
  have z2 : 0 ≤ i1 ∧ i1 < 3 → 0 ≤ σ (b + 11) i1 ∧ σ (b + 11) i1 ≤ 12 := fun q => hZ i1 q.1 q.2
  have a1 : 0 ≤ i1 ∧ i1 < 3 → 0 ≤ x1 ∧ x1 < 40 → σ (11 + 10 * i1.toNat + 2 + 4) x1 = shR (σ (b + 14)) (40 * i1) x1 := fun q q2 => (hK q).2.1.2.1 x1 q2.1 q2.2
  have a2 : 0 ≤ i1 ∧ i1 < 3 → 0 ≤ x1 ∧ x1 < 40 → σ (11 + 10 * i1.toNat + 2 + 4) x1 ≠ 0 → σ (11 + 10 * i1.toNat + 2 + 5) x1 = shR (σ (b + 13)) (40 * i1) x1 := fun q q2 q3 => (hK q).2.1.2.2.1 x1 q2.1 q2.2 q3
  by_cases c1 : ¬ ((0 ≤ i1 ∧ i1 < 3) ∧ (0 ≤ x1 ∧ x1 ≤ 39))
  · rw [if_pos c1] at hc
    obtain ⟨hz, hu⟩ := hc
    subst hu
    simp only [sput_r (show b + 11 ≠ 0 by omega), sput_r (show b + 13 ≠ 0 by omega), sput_r (show b + 14 ≠ 0 by omega)] at hm
    repeat (first | rw [if_pos (by omega)] at hm | rw [if_neg (by omega)] at hm)
    obtain ⟨hz9, hw⟩ := hm
    subst hw
    exact ⟨by omega, hR.st hb⟩
  · rw [if_neg c1] at hc
    by_cases c2 : ¬ 0 < σ (11 + 10 * i1.toNat + 2) 5
    · rw [if_pos c2] at hc
      obtain ⟨hz, hu⟩ := hc
      subst hu
      simp only [sput_r (show b + 11 ≠ 0 by omega), sput_r (show b + 13 ≠ 0 by omega), sput_r (show b + 14 ≠ 0 by omega)] at hm
      repeat (first | rw [if_pos (by omega)] at hm | rw [if_neg (by omega)] at hm)
      obtain ⟨hz9, hw⟩ := hm
      subst hw
      exact ⟨by omega, hR.st hb⟩
    · rw [if_neg c2] at hc
      by_cases c3 : σ ((11 + 10 * i1.toNat + 2) + 4) x1 = 0
      · rw [if_pos c3] at hc
        obtain ⟨hz, hu⟩ := hc
        subst hu
        simp only [sput_r (show b + 11 ≠ 0 by omega), sput_r (show b + 13 ≠ 0 by omega), sput_r (show b + 14 ≠ 0 by omega)] at hm
        repeat (first | rw [if_pos (by omega)] at hm | rw [if_neg (by omega)] at hm)
        obtain ⟨hz9, hw⟩ := hm
        subst hw
        exact ⟨by omega, hR.st hb⟩
      · rw [if_neg c3] at hc
        obtain ⟨hz, hu⟩ := hc
        subst hu
        simp only [sput_r (show b + 11 ≠ 0 by omega), sput_r (show b + 13 ≠ 0 by omega), sput_r (show b + 14 ≠ 0 by omega)] at hm
        repeat (first | rw [if_pos (by omega)] at hm | rw [if_neg (by omega)] at hm)
        obtain ⟨hz9, hw⟩ := hm
        subst hw
        exact ⟨by omega, hR.st hb⟩
set_option maxHeartbeats 1000000 in
theorem r_drifts {σ u w : Mem} {b : Nat} {z z9 : Int} (hb : 52 ≤ b) {i1 : Int} (hR : Rel σ b) (hZ : szR σ b)  (hc : (if ¬ (0 ≤ i1 ∧ i1 < 3) then (z = -1 ∧ u = sput σ 0 5 1) else (if ¬ 0 < σ (11 + 10 * i1.toNat + 2) 5 then (z = -1 ∧ u = sput σ 0 5 5) else (z = σ (11 + 10 * i1.toNat + 2) 6 ∧ u = sput σ 0 5 0)))) (hm : (if ¬ (0 ≤ i1 ∧ i1 < 3) then (z9 = -1 ∧ w = sput u b 0 1) else (if (u (b + 11) i1) = 0 then (z9 = -1 ∧ w = sput u b 0 5) else (z9 = u (b + 12) i1 ∧ w = sput u b 0 0)))) : z = z9 ∧ Rel w b := by
  have hK : 0 ≤ i1 ∧ i1 < 3 → coR σ b i1 := fun q => hR.2.2.2 i1 q.1 q.2
  have z1 : 0 ≤ i1 ∧ i1 < 3 → σ (11 + 10 * i1.toNat + 2) 5 = σ (b + 11) i1 := fun q => (hK q).2.1.1
  have z2 : 0 ≤ i1 ∧ i1 < 3 → 0 ≤ σ (b + 11) i1 ∧ σ (b + 11) i1 ≤ 12 := fun q => hZ i1 q.1 q.2
  have a1 : 0 ≤ i1 ∧ i1 < 3 → σ (b + 11) i1 ≠ 0 → σ (11 + 10 * i1.toNat + 2) 6 = σ (b + 12) i1 := fun q q2 => ((hK q).2.1.2.2.2 q2).1
  by_cases c1 : ¬ (0 ≤ i1 ∧ i1 < 3)
  · rw [if_pos c1] at hc
    obtain ⟨hz, hu⟩ := hc
    subst hu
    simp only [sput_r (show b + 11 ≠ 0 by omega), sput_r (show b + 12 ≠ 0 by omega)] at hm
    repeat (first | rw [if_pos (by omega)] at hm | rw [if_neg (by omega)] at hm)
    obtain ⟨hz9, hw⟩ := hm
    subst hw
    exact ⟨by omega, hR.st hb⟩
  · rw [if_neg c1] at hc
    by_cases c2 : ¬ 0 < σ (11 + 10 * i1.toNat + 2) 5
    · rw [if_pos c2] at hc
      obtain ⟨hz, hu⟩ := hc
      subst hu
      simp only [sput_r (show b + 11 ≠ 0 by omega), sput_r (show b + 12 ≠ 0 by omega)] at hm
      repeat (first | rw [if_pos (by omega)] at hm | rw [if_neg (by omega)] at hm)
      obtain ⟨hz9, hw⟩ := hm
      subst hw
      exact ⟨by omega, hR.st hb⟩
    · rw [if_neg c2] at hc
      obtain ⟨hz, hu⟩ := hc
      subst hu
      simp only [sput_r (show b + 11 ≠ 0 by omega), sput_r (show b + 12 ≠ 0 by omega)] at hm
      repeat (first | rw [if_pos (by omega)] at hm | rw [if_neg (by omega)] at hm)
      obtain ⟨hz9, hw⟩ := hm
      subst hw
      exact ⟨by omega, hR.st hb⟩
set_option maxHeartbeats 1000000 in
theorem r_bound {σ u w : Mem} {b : Nat} {z z9 : Int} (hb : 52 ≤ b) {i1 a1 a2 w1 : Int} (hR : Rel σ b) (hZ : szR σ b)  (hc : (if ¬ ((0 ≤ i1 ∧ i1 < 3) ∧ (0 ≤ a1 ∧ a1 ≤ a2 ∧ a2 ≤ 39)) then (z = -1 ∧ u = sput σ 0 5 1) else (if ¬ 0 < σ (11 + 10 * i1.toNat + 2) 5 then (z = -1 ∧ u = sput σ 0 5 5) else (if w1 = 0 then (z = loV σ (11 + 10 * i1.toNat + 2) a1 a2 ∧ u = sput σ 0 5 0) else (z = hiV σ (11 + 10 * i1.toNat + 2) a1 a2 ∧ u = sput σ 0 5 0))))) (hm : (if ¬ ((0 ≤ i1 ∧ i1 < 3) ∧ (0 ≤ a1 ∧ a1 ≤ a2 ∧ a2 ≤ 39)) then (z9 = -1 ∧ w = sput u b 0 1) else (if (u (b + 11) i1) = 0 then (z9 = -1 ∧ w = sput u b 0 5) else (if w1 = 0 then (z9 = moL u b i1 a1 a2 ∧ w = sput u b 0 0) else (z9 = moH u b i1 a1 a2 ∧ w = sput u b 0 0))))) : z = z9 ∧ Rel w b := by
  have hK : 0 ≤ i1 ∧ i1 < 3 → coR σ b i1 := fun q => hR.2.2.2 i1 q.1 q.2
  have z1 : 0 ≤ i1 ∧ i1 < 3 → σ (11 + 10 * i1.toNat + 2) 5 = σ (b + 11) i1 := fun q => (hK q).2.1.1
  have z2 : 0 ≤ i1 ∧ i1 < 3 → 0 ≤ σ (b + 11) i1 ∧ σ (b + 11) i1 ≤ 12 := fun q => hZ i1 q.1 q.2
  have b1 : 0 ≤ i1 ∧ i1 < 3 → σ (b + 11) i1 ≠ 0 → loV σ (11 + 10 * i1.toNat + 2) a1 a2 = moL σ b i1 a1 a2 := fun q q2 => lo_eq (hK q).2.1 q2
  have b2 : 0 ≤ i1 ∧ i1 < 3 → σ (b + 11) i1 ≠ 0 → hiV σ (11 + 10 * i1.toNat + 2) a1 a2 = moH σ b i1 a1 a2 := fun q q2 => hi_eq (hK q).2.1 q2
  by_cases c1 : ¬ ((0 ≤ i1 ∧ i1 < 3) ∧ (0 ≤ a1 ∧ a1 ≤ a2 ∧ a2 ≤ 39))
  · rw [if_pos c1] at hc
    obtain ⟨hz, hu⟩ := hc
    subst hu
    simp only [sput_r (show b + 11 ≠ 0 by omega)] at hm
    rw [moL_s0 _ _ _ _ _ _ hb, moH_s0 _ _ _ _ _ _ hb] at hm
    repeat (first | rw [if_pos (by omega)] at hm | rw [if_neg (by omega)] at hm)
    obtain ⟨hz9, hw⟩ := hm
    subst hw
    exact ⟨by omega, hR.st hb⟩
  · rw [if_neg c1] at hc
    by_cases c2 : ¬ 0 < σ (11 + 10 * i1.toNat + 2) 5
    · rw [if_pos c2] at hc
      obtain ⟨hz, hu⟩ := hc
      subst hu
      simp only [sput_r (show b + 11 ≠ 0 by omega)] at hm
      rw [moL_s0 _ _ _ _ _ _ hb, moH_s0 _ _ _ _ _ _ hb] at hm
      repeat (first | rw [if_pos (by omega)] at hm | rw [if_neg (by omega)] at hm)
      obtain ⟨hz9, hw⟩ := hm
      subst hw
      exact ⟨by omega, hR.st hb⟩
    · rw [if_neg c2] at hc
      by_cases c3 : w1 = 0
      · rw [if_pos c3] at hc
        obtain ⟨hz, hu⟩ := hc
        subst hu
        simp only [sput_r (show b + 11 ≠ 0 by omega)] at hm
        rw [moL_s0 _ _ _ _ _ _ hb, moH_s0 _ _ _ _ _ _ hb] at hm
        repeat (first | rw [if_pos (by omega)] at hm | rw [if_neg (by omega)] at hm)
        obtain ⟨hz9, hw⟩ := hm
        subst hw
        exact ⟨by omega, hR.st hb⟩
      · rw [if_neg c3] at hc
        obtain ⟨hz, hu⟩ := hc
        subst hu
        simp only [sput_r (show b + 11 ≠ 0 by omega)] at hm
        rw [moL_s0 _ _ _ _ _ _ hb, moH_s0 _ _ _ _ _ _ hb] at hm
        repeat (first | rw [if_pos (by omega)] at hm | rw [if_neg (by omega)] at hm)
        obtain ⟨hz9, hw⟩ := hm
        subst hw
        exact ⟨by omega, hR.st hb⟩
set_option maxHeartbeats 1000000 in
theorem r_drawn {σ u w : Mem} {b : Nat} {z z9 : Int} (hb : 52 ≤ b) {i1 k1 : Int} (hR : Rel σ b) (hZ : szR σ b)  (hc : (if ¬ ((0 ≤ i1 ∧ i1 < 3) ∧ (0 ≤ k1 ∧ k1 ≤ 15)) then (z = -1 ∧ u = sput σ 0 5 1) else (if min (σ (11 + 10 * i1.toNat + 8) 3) (σ (11 + 10 * i1.toNat + 8) 1) ≤ k1 then (z = -1 ∧ u = sput σ 0 5 6) else (z = (if σ ((11 + 10 * i1.toNat + 8) + 1) k1 = -1 then -2 else σ ((11 + 10 * i1.toNat + 8) + 1) k1) ∧ u = sput σ 0 5 0)))) (hm : (if ¬ ((0 ≤ i1 ∧ i1 < 3) ∧ (0 ≤ k1 ∧ k1 ≤ 15)) then (z9 = -1 ∧ w = sput u b 0 1) else (if u (b + 7) i1 ≤ k1 ∨ u (b + 8) i1 ≤ k1 then (z9 = -1 ∧ w = sput u b 0 6) else (z9 = (if u (b + 9) (16 * i1 + k1) = -1 then -2 else u (b + 9) (16 * i1 + k1)) ∧ w = sput u b 0 0)))) : z = z9 ∧ Rel w b := by
  have hK : 0 ≤ i1 ∧ i1 < 3 → coR σ b i1 := fun q => hR.2.2.2 i1 q.1 q.2
  have b1 : 0 ≤ i1 ∧ i1 < 3 → σ (11 + 10 * i1.toNat + 8) 1 = σ (b + 7) i1 ∧ σ (11 + 10 * i1.toNat + 8) 3 = σ (b + 8) i1 := fun q => ⟨(hK q).2.2.1, (hK q).2.2.2.1⟩
  have b2 : 0 ≤ i1 ∧ i1 < 3 → 0 ≤ k1 → k1 < σ (b + 7) i1 → k1 < σ (b + 8) i1 → σ (11 + 10 * i1.toNat + 8 + 1) k1 = σ (b + 9) (16 * i1 + k1) := fun q => (hK q).2.2.2.2.2 k1
  by_cases c1 : ¬ ((0 ≤ i1 ∧ i1 < 3) ∧ (0 ≤ k1 ∧ k1 ≤ 15))
  · rw [if_pos c1] at hc
    obtain ⟨hz, hu⟩ := hc
    subst hu
    simp only [sput_r (show b + 7 ≠ 0 by omega), sput_r (show b + 8 ≠ 0 by omega), sput_r (show b + 9 ≠ 0 by omega)] at hm
    repeat (first | rw [if_pos (by omega)] at hm | rw [if_neg (by omega)] at hm)
    obtain ⟨hz9, hw⟩ := hm
    subst hw
    exact ⟨by omega, hR.st hb⟩
  · rw [if_neg c1] at hc
    by_cases c2 : min (σ (11 + 10 * i1.toNat + 8) 3) (σ (11 + 10 * i1.toNat + 8) 1) ≤ k1
    · rw [if_pos c2] at hc
      obtain ⟨hz, hu⟩ := hc
      subst hu
      simp only [sput_r (show b + 7 ≠ 0 by omega), sput_r (show b + 8 ≠ 0 by omega), sput_r (show b + 9 ≠ 0 by omega)] at hm
      repeat (first | rw [if_pos (by omega)] at hm | rw [if_neg (by omega)] at hm)
      obtain ⟨hz9, hw⟩ := hm
      subst hw
      exact ⟨by omega, hR.st hb⟩
    · rw [if_neg c2] at hc
      obtain ⟨hz, hu⟩ := hc
      subst hu
      simp only [sput_r (show b + 7 ≠ 0 by omega), sput_r (show b + 8 ≠ 0 by omega), sput_r (show b + 9 ≠ 0 by omega)] at hm
      repeat (first | rw [if_pos (by omega)] at hm | rw [if_neg (by omega)] at hm)
      obtain ⟨hz9, hw⟩ := hm
      subst hw
      exact ⟨by omega, hR.st hb⟩
