/-! ===== GUESS, JOIN, HARM side by side ===== -/
theorem moH_rows {σ u : Mem} {b : Nat} {c a1 a2 : Int} (h : ∀ a : Nat, b + 11 ≤ a → a ≤ b + 17 → u a = σ a) : moH u b c a1 a2 = moH σ b c a1 a2 := by
  unfold moH; rw [h _ (by omega) (by omega), h _ (by omega) (by omega), h _ (by omega) (by omega), h _ (by omega) (by omega), h _ (by omega) (by omega), h _ (by omega) (by omega)]
theorem moL_rows {σ u : Mem} {b : Nat} {c a1 a2 : Int} (h : ∀ a : Nat, b + 11 ≤ a → a ≤ b + 17 → u a = σ a) : moL u b c a1 a2 = moL σ b c a1 a2 := by
  unfold moL; rw [h _ (by omega) (by omega), h _ (by omega) (by omega), h _ (by omega) (by omega), h _ (by omega) (by omega), h _ (by omega) (by omega), h _ (by omega) (by omega)]
theorem moG_rows {σ u : Mem} {b : Nat} {c a1 a2 : Int} (h : ∀ a : Nat, b + 11 ≤ a → a ≤ b + 17 → u a = σ a) : moG u b c a1 a2 = moG σ b c a1 a2 := by
  unfold moG; rw [h _ (by omega) (by omega), h _ (by omega) (by omega), h _ (by omega) (by omega), h _ (by omega) (by omega), h _ (by omega) (by omega)]
theorem moJ_rows {σ u : Mem} {b : Nat} {c d : Int} (h : ∀ a : Nat, b + 11 ≤ a → a ≤ b + 17 → u a = σ a) : moJ u b c d = moJ σ b c d := by
  unfold moJ mjT mjB; rw [h (b + 11) (by omega) (by omega), h (b + 13) (by omega) (by omega), h (b + 14) (by omega) (by omega), h (b + 15) (by omega) (by omega), h (b + 16) (by omega) (by omega)]
theorem gu_run {h e c h' e' c' : Int → Int} {n a1 a2 H : Int} (hh : ∀ j : Int, 0 ≤ j → j < 40 → h j = h' j) (he : ∀ j : Int, 0 ≤ j → j < n → e j = e' j) (hc : ∀ j : Int, 0 ≤ j → j < n → c j = c' j) : ∀ m : Nat, (m : Int) ≤ n →
    (itrR (gsF h e c a1 a2) 0 m (frN H 1, frD H 1)).1 * (itrR (mgF h' e' c' a1 a2) 0 m (H, 1)).2 = (itrR (mgF h' e' c' a1 a2) 0 m (H, 1)).1 * (itrR (gsF h e c a1 a2) 0 m (frN H 1, frD H 1)).2 ∧ 0 < (itrR (gsF h e c a1 a2) 0 m (frN H 1, frD H 1)).2 ∧ 0 < (itrR (mgF h' e' c' a1 a2) 0 m (H, 1)).2 ∧ gcI (itrR (gsF h e c a1 a2) 0 m (frN H 1, frD H 1)).1 (itrR (gsF h e c a1 a2) 0 m (frN H 1, frD H 1)).2 = 1 := by
  intro m
  induction m with
  | zero =>
    intro _
    rw [itrR_nil (by omega), itrR_nil (by omega)]
    dsimp only
    have g1 := frN_mul H 1
    have g2 := frD_mul H 1
    refine ⟨?_, frD_pos (by decide), by decide, fr_cop (by decide)⟩
    generalize frN H 1 = x at *
    generalize frD H 1 = y at *
    generalize gcI H 1 = g at *
    rw [Int.mul_one, ← g1]
    grind
  | succ m ih =>
    intro hm
    rw [show ((m + 1 : Nat) : Int) = (m : Int) + 1 by omega, itrR_right (by omega), itrR_right (by omega)]
    obtain ⟨i1, i2, i3, i4⟩ := ih (by omega)
    generalize itrR (gsF h e c a1 a2) 0 m (frN H 1, frD H 1) = s at *
    generalize itrR (mgF h' e' c' a1 a2) 0 m (H, 1) = r at *
    obtain ⟨t, d⟩ := s
    obtain ⟨N, D⟩ := r
    dsimp only at i1 i2 i3 i4
    have ea := askF_congr (a := a1) (b := a2) hh he (k := m) (by omega) (by omega)
    have el := loN_congr hh he (k := m) (by omega) (by omega)
    have ec := hc m (by omega) (by omega)
    have h1 := ask_le h e a1 a2 m
    have h2 : 0 ≤ askF h e a1 a2 m := (ltC_bd _ _ _).1
    unfold gsF mgF
    rw [← ea, ← el, ← ec]
    dsimp only
    by_cases q : askF h e a1 a2 m = 0
    · rw [if_neg (by omega), if_pos q]; exact ⟨i1, i2, i3, i4⟩
    · rw [if_pos (by omega), if_neg q]
      obtain ⟨f1, f2, f3⟩ := fr_step (x := c m * askF h e a1 a2 m) (y := loN h e m) i2 (by omega) i3 i1
      by_cases q2 : askF h e a1 a2 m = loN h e m
      · rw [if_pos q2]
        dsimp only
        refine ⟨?_, f2, i3, f3⟩
        rw [q2] at f1 ⊢
        refine Int.eq_of_mul_eq_mul_left (a := loN h e m) (by omega) ?_
        have a1 : loN h e m * (frN (aiN t d (c m * loN h e m) (loN h e m)) (aiD d (c m * loN h e m) (loN h e m)) * D) = frN (aiN t d (c m * loN h e m) (loN h e m)) (aiD d (c m * loN h e m) (loN h e m)) * (D * loN h e m) := by grind
        rw [a1, f1]
        grind
      · rw [if_neg q2]
        dsimp only
        refine ⟨?_, f2, Int.mul_pos i3 (by omega), f3⟩
        rw [f1]
        grind
theorem gu_eq {σ : Mem} {b : Nat} {c a1 a2 : Int} (h : skR σ b c) (hn : σ (b + 11) c ≠ 0) (h0 : 0 ≤ σ (b + 11) c) : guV σ (11 + 10 * c.toNat + 2) a1 a2 = (frN (moG σ b c a1 a2).1 (moG σ b c a1 a2).2, frD (moG σ b c a1 a2).1 (moG σ b c a1 a2).2) ∧ 0 < (moG σ b c a1 a2).2 := by
  have g := skR_rows h hn
  unfold guV moG
  rw [h.1, hvS_congr h.2.1 h.2.2.1]
  have r := gu_run (a1 := a1) (a2 := a2) (H := hvS (shR (σ (b + 14)) (40 * c)) (shR (σ (b + 13)) (40 * c)) a1 a2) h.2.1 (fun j j0 j1 => (g j j0 j1).1) (fun j j0 j1 => (g j j0 j1).2.1) (σ (b + 11) c).toNat (by omega)
  rw [show (((σ (b + 11) c).toNat : Nat) : Int) = σ (b + 11) c by omega] at r
  obtain ⟨r1, r2, r3, r4⟩ := r
  have u := fr_uniq r2 r3 r4 r1
  refine ⟨Prod.ext u.1.symm u.2.symm, r3⟩
theorem sh_eq {σ : Mem} {b : Nat} {c : Int} (h : skR σ b c) (hn : σ (b + 11) c ≠ 0) (h0 : 0 ≤ σ (b + 11) c) {v : Int} (v0 : 0 ≤ v) (v1 : v < 40) : shT (σ (11 + 10 * c.toNat + 2 + 4)) (σ (11 + 10 * c.toNat + 2 + 5)) (σ (11 + 10 * c.toNat + 2 + 1)) (σ (11 + 10 * c.toNat + 2 + 2)) (σ (11 + 10 * c.toNat + 2) 5) v = shT (shR (σ (b + 14)) (40 * c)) (shR (σ (b + 13)) (40 * c)) (shR (σ (b + 15)) (40 * c)) (shR (σ (b + 16)) (40 * c)) (σ (b + 11) c) v ∧ shB (σ (11 + 10 * c.toNat + 2 + 4)) (σ (11 + 10 * c.toNat + 2 + 1)) (σ (11 + 10 * c.toNat + 2) 5) v = shB (shR (σ (b + 14)) (40 * c)) (shR (σ (b + 15)) (40 * c)) (σ (b + 11) c) v := by
  have g := skR_rows h hn
  have es : spOf (σ (11 + 10 * c.toNat + 2 + 1)) (σ (b + 11) c) v = spOf (shR (σ (b + 15)) (40 * c)) (σ (b + 11) c) v := spOf_congr fun j j0 j1 => (g j j0 j1).1
  have sb := spOf_bd (shR (σ (b + 15)) (40 * c)) (σ (b + 11) c) v
  unfold shT shB
  rw [h.1, ← h.2.1 v v0 v1, es]
  by_cases q : σ (11 + 10 * c.toNat + 2 + 4) v = 0
  · rw [if_pos q, if_pos q, if_pos q, if_pos q, (g _ sb.1 (sb.2.1 (by omega))).2.1, loN_congr h.2.1 (fun j j0 j1 => (g j j0 j1).1) sb.1 (sb.2.1 (by omega))]
    exact ⟨rfl, rfl⟩
  · rw [if_neg q, if_neg q, if_neg q, if_neg q, h.2.2.1 v v0 v1 q]
    exact ⟨rfl, rfl⟩
theorem jn_red {T B : Int → Int} (hB : ∀ v : Int, 0 ≤ v → v < 40 → 0 < B v) : ∀ m : Nat, (m : Int) ≤ 40 → 0 < (itrR (jnF T B) 0 m (0, 1)).2 ∧ gcI (itrR (jnF T B) 0 m (0, 1)).1 (itrR (jnF T B) 0 m (0, 1)).2 = 1 := by
  intro m
  induction m with
  | zero => intro _; rw [itrR_nil (by omega)]; exact ⟨by decide, by decide⟩
  | succ m ih =>
    intro hm
    rw [show ((m + 1 : Nat) : Int) = (m : Int) + 1 by omega, itrR_right (by omega)]
    obtain ⟨i1, i2⟩ := ih (by omega)
    generalize itrR (jnF T B) 0 m (0, 1) = s at *
    unfold jnF
    dsimp only
    have := aiD_pos (x := T m) i1 (hB m (by omega) (by omega))
    exact ⟨frD_pos this, fr_cop this⟩
theorem jo_eq {σ : Mem} {b : Nat} {c d : Int} (h : skR σ b c) (hn : σ (b + 11) c ≠ 0) (h0 : 0 ≤ σ (b + 11) c) (h2 : skR σ b d) (hn2 : σ (b + 11) d ≠ 0) (h02 : 0 ≤ σ (b + 11) d) (hB : ∀ v : Int, 0 ≤ v → v < 40 → 0 < mjB σ b c d v) : joV σ (11 + 10 * c.toNat + 2) (11 + 10 * d.toNat + 2) = (frN (moJ σ b c d).1 (moJ σ b c d).2, frD (moJ σ b c d).1 (moJ σ b c d).2) ∧ 0 < (moJ σ b c d).2 := by
  have e : joV σ (11 + 10 * c.toNat + 2) (11 + 10 * d.toNat + 2) = moJ σ b c d := by
    unfold joV moJ
    rw [show (frN 0 1, frD 0 1) = ((0, 1) : Int × Int) from by decide]
    refine itrR_congr (fun k s q1 q2 => ?_) _
    unfold jnF mjT mjB
    dsimp only
    rw [(sh_eq h hn h0 q1 q2).1, (sh_eq h hn h0 q1 q2).2, (sh_eq h2 hn2 h02 q1 q2).1, (sh_eq h2 hn2 h02 q1 q2).2]
  have r := jn_red (T := mjT σ b c d) hB 40 (by omega)
  have e2 : itrR (jnF (mjT σ b c d) (mjB σ b c d)) 0 ((40 : Nat) : Int) (0, 1) = moJ σ b c d := rfl
  rw [e2] at r
  have f := fr_self r.1 r.2
  exact ⟨by rw [e, f.1, f.2], r.1⟩
set_option maxHeartbeats 1000000 in
theorem r_harm {σ u w : Mem} {b : Nat} {z z9 : Int} (hb : 52 ≤ b) {i1 a1 a2 i2 b1 b2 : Int} (hR : Rel σ b) (hZ : szR σ b)  (hc : (if ¬ ((0 ≤ i1 ∧ i1 < 3) ∧ (0 ≤ i2 ∧ i2 < 3) ∧ (0 ≤ a1 ∧ a1 ≤ a2 ∧ a2 ≤ 39) ∧ (0 ≤ b1 ∧ b1 ≤ b2 ∧ b2 ≤ 39)) then (z = -1 ∧ u = sput σ 0 5 1) else (if ¬ (0 < σ (11 + 10 * i1.toNat + 2) 5 ∧ 0 < σ (11 + 10 * i2.toNat + 2) 5) then (z = -1 ∧ u = sput σ 0 5 5) else (z = sgI (frN (hiV σ (11 + 10 * i1.toNat + 2) a1 a2) (max 1 (loV σ (11 + 10 * i2.toNat + 2) b1 b2))) ∧ u = sput (sput (sput σ 51 100000 (frN (hiV σ (11 + 10 * i1.toNat + 2) a1 a2) (max 1 (loV σ (11 + 10 * i2.toNat + 2) b1 b2)))) 51 100001 (frD (hiV σ (11 + 10 * i1.toNat + 2) a1 a2) (max 1 (loV σ (11 + 10 * i2.toNat + 2) b1 b2)))) 0 5 0)))) (hm : (if ¬ ((0 ≤ i1 ∧ i1 < 3) ∧ (0 ≤ i2 ∧ i2 < 3) ∧ (0 ≤ a1 ∧ a1 ≤ a2 ∧ a2 ≤ 39) ∧ (0 ≤ b1 ∧ b1 ≤ b2 ∧ b2 ≤ 39)) then (z9 = -1 ∧ w = sput u b 0 1) else (if (u (b + 11) i1) = 0 ∨ u (b + 11) i2 = 0 then (z9 = -1 ∧ w = sput u b 0 5) else (z9 = sgI (moH u b i1 a1 a2) ∧ w = sput (sput (sput u b 100001 (frN (moH u b i1 a1 a2) (max 1 (moL u b i2 b1 b2)))) b 100002 (frD (moH u b i1 a1 a2) (max 1 (moL u b i2 b1 b2)))) b 0 0)))) : z = z9 ∧ Rel w b := by
  have hK : 0 ≤ i1 ∧ i1 < 3 → coR σ b i1 := fun q => hR.2.2.2 i1 q.1 q.2
  have z1 : 0 ≤ i1 ∧ i1 < 3 → σ (11 + 10 * i1.toNat + 2) 5 = σ (b + 11) i1 := fun q => (hK q).2.1.1
  have z2 : 0 ≤ i1 ∧ i1 < 3 → 0 ≤ σ (b + 11) i1 ∧ σ (b + 11) i1 ≤ 12 := fun q => hZ i1 q.1 q.2
  have hK2 : 0 ≤ i2 ∧ i2 < 3 → coR σ b i2 := fun q => hR.2.2.2 i2 q.1 q.2
  have y1 : 0 ≤ i2 ∧ i2 < 3 → σ (11 + 10 * i2.toNat + 2) 5 = σ (b + 11) i2 := fun q => (hK2 q).2.1.1
  have y2 : 0 ≤ i2 ∧ i2 < 3 → 0 ≤ σ (b + 11) i2 ∧ σ (b + 11) i2 ≤ 12 := fun q => hZ i2 q.1 q.2
  by_cases c1 : ¬ ((0 ≤ i1 ∧ i1 < 3) ∧ (0 ≤ i2 ∧ i2 < 3) ∧ (0 ≤ a1 ∧ a1 ≤ a2 ∧ a2 ≤ 39) ∧ (0 ≤ b1 ∧ b1 ≤ b2 ∧ b2 ≤ 39))
  · rw [if_pos c1] at hc
    obtain ⟨hz, hu⟩ := hc
    subst hu
    try simp only [sput_r (show b + 11 ≠ 0 by omega)] at hm
    repeat (first | rw [if_pos (by omega)] at hm | rw [if_neg (by omega)] at hm)
    obtain ⟨hz9, hw⟩ := hm
    subst hw
    exact ⟨by omega, hR.st hb⟩
  · rw [if_neg c1] at hc
    by_cases c2 : ¬ (0 < σ (11 + 10 * i1.toNat + 2) 5 ∧ 0 < σ (11 + 10 * i2.toNat + 2) 5)
    · rw [if_pos c2] at hc
      obtain ⟨hz, hu⟩ := hc
      subst hu
      try simp only [sput_r (show b + 11 ≠ 0 by omega)] at hm
      repeat (first | rw [if_pos (by omega)] at hm | rw [if_neg (by omega)] at hm)
      obtain ⟨hz9, hw⟩ := hm
      subst hw
      exact ⟨by omega, hR.st hb⟩
    · rw [if_neg c2] at hc
      obtain ⟨hz, hu⟩ := hc
      have eu : ∀ a : Nat, b ≤ a → u a = σ a := fun a q => by rw [hu, sput_r (by omega), sput_r (by omega), sput_r (by omega)]
      rw [eu (b + 11) (by omega), moH_rows (σ := σ) (fun a q1 q2 => eu a (by omega)), moL_rows (σ := σ) (fun a q1 q2 => eu a (by omega))] at hm
      repeat (first | rw [if_pos (by omega)] at hm | rw [if_neg (by omega)] at hm)
      obtain ⟨hz9, hw⟩ := hm
      have q1 := hi_eq (a1 := a1) (a2 := a2) (hK (by omega)).2.1 (show σ (b + 11) i1 ≠ 0 by omega)
      have q2 := lo_eq (a1 := b1) (a2 := b2) (hK2 (by omega)).2.1 (show σ (b + 11) i2 ≠ 0 by omega)
      rw [q1, q2] at hz hu
      refine ⟨by rw [hz, hz9]; exact sg_fr (by omega), ?_⟩
      have e : ∀ a : Nat, a ≠ 51 → a ≠ 0 → a ≠ b → w a = σ a := fun a q1 q2 q3 => by rw [hw, sput_r q3, sput_r q3, sput_r q3, hu, sput_r q2, sput_r q1, sput_r q1]
      refine hR.fr ?_ ?_ (fun a q1 q2 => e a (by omega) (by omega) (by omega)) (fun a q1 q2 => e a (by omega) (by omega) (by omega))
      · unfold stR; rw [hw, sput_r (show 0 ≠ b by omega), sput_r (show 0 ≠ b by omega), sput_r (show 0 ≠ b by omega), hu, sput_s, sput_s]
      · unfold frR; rw [hw, sput_r (show 51 ≠ b by omega), sput_r (show 51 ≠ b by omega), sput_r (show 51 ≠ b by omega), hu, sput_r (show 51 ≠ 0 by omega), sput_j _ _ _ _ _ (by decide), sput_s, sput_s, sput_j _ _ _ _ _ (by decide), sput_j _ _ _ _ _ (by decide), sput_s, sput_j _ _ _ _ _ (by decide), sput_s]; exact ⟨rfl, rfl⟩
set_option maxHeartbeats 1000000 in
theorem r_guess {σ u w : Mem} {b : Nat} {z z9 : Int} (hb : 52 ≤ b) {i1 a1 a2 : Int} (hR : Rel σ b) (hZ : szR σ b)  (hc : (if ¬ ((0 ≤ i1 ∧ i1 < 3) ∧ (0 ≤ a1 ∧ a1 ≤ a2 ∧ a2 ≤ 39)) then (z = -1 ∧ u = sput σ 0 5 1) else (if ¬ 0 < σ (11 + 10 * i1.toNat + 2) 5 then (z = -1 ∧ u = sput σ 0 5 5) else (z = sgI (guV σ (11 + 10 * i1.toNat + 2) a1 a2).1 ∧ ∃ τ : Mem, (∀ a : Nat, a ≠ 51 → τ a = σ a) ∧ τ 51 100000 = (guV σ (11 + 10 * i1.toNat + 2) a1 a2).1 ∧ τ 51 100001 = (guV σ (11 + 10 * i1.toNat + 2) a1 a2).2 ∧ u = sput τ 0 5 0)))) (hm : (if ¬ ((0 ≤ i1 ∧ i1 < 3) ∧ (0 ≤ a1 ∧ a1 ≤ a2 ∧ a2 ≤ 39)) then (z9 = -1 ∧ w = sput u b 0 1) else (if (u (b + 11) i1) = 0 then (z9 = -1 ∧ w = sput u b 0 5) else (z9 = sgI (moG u b i1 a1 a2).1 ∧ w = sput (sput (sput u b 100001 (frN (moG u b i1 a1 a2).1 (moG u b i1 a1 a2).2)) b 100002 (frD (moG u b i1 a1 a2).1 (moG u b i1 a1 a2).2)) b 0 0)))) : z = z9 ∧ Rel w b := by
  have hK : 0 ≤ i1 ∧ i1 < 3 → coR σ b i1 := fun q => hR.2.2.2 i1 q.1 q.2
  have z1 : 0 ≤ i1 ∧ i1 < 3 → σ (11 + 10 * i1.toNat + 2) 5 = σ (b + 11) i1 := fun q => (hK q).2.1.1
  have z2 : 0 ≤ i1 ∧ i1 < 3 → 0 ≤ σ (b + 11) i1 ∧ σ (b + 11) i1 ≤ 12 := fun q => hZ i1 q.1 q.2
  by_cases c1 : ¬ ((0 ≤ i1 ∧ i1 < 3) ∧ (0 ≤ a1 ∧ a1 ≤ a2 ∧ a2 ≤ 39))
  · rw [if_pos c1] at hc
    obtain ⟨hz, hu⟩ := hc
    subst hu
    try simp only [sput_r (show b + 11 ≠ 0 by omega)] at hm
    repeat (first | rw [if_pos (by omega)] at hm | rw [if_neg (by omega)] at hm)
    obtain ⟨hz9, hw⟩ := hm
    subst hw
    exact ⟨by omega, hR.st hb⟩
  · rw [if_neg c1] at hc
    by_cases c2 : ¬ 0 < σ (11 + 10 * i1.toNat + 2) 5
    · rw [if_pos c2] at hc
      obtain ⟨hz, hu⟩ := hc
      subst hu
      try simp only [sput_r (show b + 11 ≠ 0 by omega)] at hm
      repeat (first | rw [if_pos (by omega)] at hm | rw [if_neg (by omega)] at hm)
      obtain ⟨hz9, hw⟩ := hm
      subst hw
      exact ⟨by omega, hR.st hb⟩
    · rw [if_neg c2] at hc
      obtain ⟨hz, τ, hτ, ht1, ht2, hu⟩ := hc
      subst hu
      have eu : ∀ a : Nat, b ≤ a → sput τ 0 5 0 a = σ a := fun a q => by rw [sput_r (by omega), hτ a (by omega)]
      rw [eu (b + 11) (by omega), moG_rows (σ := σ) (fun a q1 q2 => eu a (by omega))] at hm
      repeat (first | rw [if_pos (by omega)] at hm | rw [if_neg (by omega)] at hm)
      obtain ⟨hz9, hw⟩ := hm
      have hq := gu_eq (a1 := a1) (a2 := a2) (hK (by omega)).2.1 (show σ (b + 11) i1 ≠ 0 by omega) (by omega)
      refine ⟨by rw [hz, hz9, hq.1]; exact sg_fr hq.2, ?_⟩
      have e : ∀ a : Nat, a ≠ 51 → a ≠ 0 → a ≠ b → w a = σ a := fun a q1 q2 q3 => by rw [hw, sput_r q3, sput_r q3, sput_r q3, sput_r q2, hτ a q1]
      refine hR.fr ?_ ?_ (fun a q1 q2 => e a (by omega) (by omega) (by omega)) (fun a q1 q2 => e a (by omega) (by omega) (by omega))
      · unfold stR; rw [hw, sput_r (show 0 ≠ b by omega), sput_r (show 0 ≠ b by omega), sput_r (show 0 ≠ b by omega), sput_s, sput_s]
      · unfold frR; rw [hw, sput_r (show 51 ≠ b by omega), sput_r (show 51 ≠ b by omega), sput_r (show 51 ≠ b by omega), sput_r (show 51 ≠ 0 by omega), ht1, ht2, sput_j _ _ _ _ _ (by decide), sput_j _ _ _ _ _ (by decide), sput_s, sput_j _ _ _ _ _ (by decide), sput_s, hq.1]; exact ⟨rfl, rfl⟩
set_option maxHeartbeats 1000000 in
theorem r_join {σ u w : Mem} {b : Nat} {z z9 : Int} (hb : 52 ≤ b) {i1 i2 : Int} (hR : Rel σ b) (hZ : szR σ b) (hB : 0 ≤ i1 ∧ i1 < 3 → 0 ≤ i2 ∧ i2 < 3 → σ (b + 11) i1 ≠ 0 → σ (b + 11) i2 ≠ 0 → ∀ v : Int, 0 ≤ v → v < 40 → 0 < mjB σ b i1 i2 v) (hc : (if ¬ ((0 ≤ i1 ∧ i1 < 3) ∧ (0 ≤ i2 ∧ i2 < 3)) then (z = -1 ∧ u = sput σ 0 5 1) else (if ¬ (0 < σ (11 + 10 * i1.toNat + 2) 5 ∧ 0 < σ (11 + 10 * i2.toNat + 2) 5) then (z = -1 ∧ u = sput σ 0 5 5) else (z = sgI (joV σ (11 + 10 * i1.toNat + 2) (11 + 10 * i2.toNat + 2)).1 ∧ ∃ τ : Mem, (∀ a : Nat, a ≠ 51 → τ a = σ a) ∧ τ 51 100000 = (joV σ (11 + 10 * i1.toNat + 2) (11 + 10 * i2.toNat + 2)).1 ∧ τ 51 100001 = (joV σ (11 + 10 * i1.toNat + 2) (11 + 10 * i2.toNat + 2)).2 ∧ u = sput τ 0 5 0)))) (hm : (if ¬ ((0 ≤ i1 ∧ i1 < 3) ∧ (0 ≤ i2 ∧ i2 < 3)) then (z9 = -1 ∧ w = sput u b 0 1) else (if (u (b + 11) i1) = 0 ∨ (u (b + 11) i2) = 0 then (z9 = -1 ∧ w = sput u b 0 5) else (z9 = sgI (moJ u b i1 i2).1 ∧ w = sput (sput (sput u b 100001 (frN (moJ u b i1 i2).1 (moJ u b i1 i2).2)) b 100002 (frD (moJ u b i1 i2).1 (moJ u b i1 i2).2)) b 0 0)))) : z = z9 ∧ Rel w b := by
  have hK : 0 ≤ i1 ∧ i1 < 3 → coR σ b i1 := fun q => hR.2.2.2 i1 q.1 q.2
  have z1 : 0 ≤ i1 ∧ i1 < 3 → σ (11 + 10 * i1.toNat + 2) 5 = σ (b + 11) i1 := fun q => (hK q).2.1.1
  have z2 : 0 ≤ i1 ∧ i1 < 3 → 0 ≤ σ (b + 11) i1 ∧ σ (b + 11) i1 ≤ 12 := fun q => hZ i1 q.1 q.2
  have hK2 : 0 ≤ i2 ∧ i2 < 3 → coR σ b i2 := fun q => hR.2.2.2 i2 q.1 q.2
  have y1 : 0 ≤ i2 ∧ i2 < 3 → σ (11 + 10 * i2.toNat + 2) 5 = σ (b + 11) i2 := fun q => (hK2 q).2.1.1
  have y2 : 0 ≤ i2 ∧ i2 < 3 → 0 ≤ σ (b + 11) i2 ∧ σ (b + 11) i2 ≤ 12 := fun q => hZ i2 q.1 q.2
  by_cases c1 : ¬ ((0 ≤ i1 ∧ i1 < 3) ∧ (0 ≤ i2 ∧ i2 < 3))
  · rw [if_pos c1] at hc
    obtain ⟨hz, hu⟩ := hc
    subst hu
    try simp only [sput_r (show b + 11 ≠ 0 by omega)] at hm
    repeat (first | rw [if_pos (by omega)] at hm | rw [if_neg (by omega)] at hm)
    obtain ⟨hz9, hw⟩ := hm
    subst hw
    exact ⟨by omega, hR.st hb⟩
  · rw [if_neg c1] at hc
    by_cases c2 : ¬ (0 < σ (11 + 10 * i1.toNat + 2) 5 ∧ 0 < σ (11 + 10 * i2.toNat + 2) 5)
    · rw [if_pos c2] at hc
      obtain ⟨hz, hu⟩ := hc
      subst hu
      try simp only [sput_r (show b + 11 ≠ 0 by omega)] at hm
      repeat (first | rw [if_pos (by omega)] at hm | rw [if_neg (by omega)] at hm)
      obtain ⟨hz9, hw⟩ := hm
      subst hw
      exact ⟨by omega, hR.st hb⟩
    · rw [if_neg c2] at hc
      obtain ⟨hz, τ, hτ, ht1, ht2, hu⟩ := hc
      subst hu
      have eu : ∀ a : Nat, b ≤ a → sput τ 0 5 0 a = σ a := fun a q => by rw [sput_r (by omega), hτ a (by omega)]
      rw [eu (b + 11) (by omega), moJ_rows (σ := σ) (fun a q1 q2 => eu a (by omega))] at hm
      repeat (first | rw [if_pos (by omega)] at hm | rw [if_neg (by omega)] at hm)
      obtain ⟨hz9, hw⟩ := hm
      have hq := jo_eq (hK (by omega)).2.1 (show σ (b + 11) i1 ≠ 0 by omega) (by omega) (hK2 (by omega)).2.1 (show σ (b + 11) i2 ≠ 0 by omega) (by omega) (hB (by omega) (by omega) (by omega) (by omega))
      refine ⟨by rw [hz, hz9, hq.1]; exact sg_fr hq.2, ?_⟩
      have e : ∀ a : Nat, a ≠ 51 → a ≠ 0 → a ≠ b → w a = σ a := fun a q1 q2 q3 => by rw [hw, sput_r q3, sput_r q3, sput_r q3, sput_r q2, hτ a q1]
      refine hR.fr ?_ ?_ (fun a q1 q2 => e a (by omega) (by omega) (by omega)) (fun a q1 q2 => e a (by omega) (by omega) (by omega))
      · unfold stR; rw [hw, sput_r (show 0 ≠ b by omega), sput_r (show 0 ≠ b by omega), sput_r (show 0 ≠ b by omega), sput_s, sput_s]
      · unfold frR; rw [hw, sput_r (show 51 ≠ b by omega), sput_r (show 51 ≠ b by omega), sput_r (show 51 ≠ b by omega), sput_r (show 51 ≠ 0 by omega), ht1, ht2, sput_j _ _ _ _ _ (by decide), sput_j _ _ _ _ _ (by decide), sput_s, sput_j _ _ _ _ _ (by decide), sput_s, hq.1]; exact ⟨rfl, rfl⟩
