/-! ===== fractions without a common divisor ===== -/
theorem gcI_l (a b : Int) : gcI a b ∣ a := by unfold gcI; exact Int.dvd_natAbs.mp (Int.ofNat_dvd.mpr (Nat.gcd_dvd_left _ _))
theorem gcI_r (a b : Int) : gcI a b ∣ b := by unfold gcI; exact Int.dvd_natAbs.mp (Int.ofNat_dvd.mpr (Nat.gcd_dvd_right _ _))
theorem frN_mul (a b : Int) : gcI a b * frN a b = a := Int.mul_ediv_cancel' (gcI_l a b)
theorem frD_mul (a b : Int) : gcI a b * frD a b = b := Int.mul_ediv_cancel' (gcI_r a b)
theorem fr_cop {a b : Int} (h : 0 < b) : gcI (frN a b) (frD a b) = 1 := by
  have hg := gcI_pos (a := a) h
  have e1 := congrArg Int.natAbs (frN_mul a b)
  have e2 := congrArg Int.natAbs (frD_mul a b)
  rw [Int.natAbs_mul] at e1 e2
  have eg : (gcI a b).natAbs = Nat.gcd a.natAbs b.natAbs := by unfold gcI; rfl
  rw [eg] at e1 e2
  have hg2 : 0 < Nat.gcd a.natAbs b.natAbs := by unfold gcI at hg; omega
  have c := Nat.coprime_div_gcd_div_gcd (m := a.natAbs) (n := b.natAbs) hg2
  have d1 : a.natAbs / Nat.gcd a.natAbs b.natAbs = (frN a b).natAbs := by
    conv => lhs; lhs; rw [← e1]
    exact Nat.mul_div_cancel_left _ hg2
  have d2 : b.natAbs / Nat.gcd a.natAbs b.natAbs = (frD a b).natAbs := by
    conv => lhs; lhs; rw [← e2]
    exact Nat.mul_div_cancel_left _ hg2
  rw [d1, d2] at c
  show ((Nat.gcd (frN a b).natAbs (frD a b).natAbs : Nat) : Int) = 1
  rw [c]
  rfl
/-- a reduced fraction is known by its value -/
theorem fr_uniq {t d N D : Int} (hd : 0 < d) (hD : 0 < D) (hg : gcI t d = 1) (h : t * D = N * d) : frN N D = t ∧ frD N D = d := by
  have g0 := gcI_pos (a := N) hD
  have e1 := frN_mul N D
  have e2 := frD_mul N D
  have hc := fr_cop (a := N) hD
  have hp := frD_pos (a := N) hD
  generalize frN N D = n' at *
  generalize frD N D = d' at *
  generalize gcI N D = g at *
  have e3 : t * d' = n' * d := by
    refine Int.eq_of_mul_eq_mul_left (a := g) (by omega) ?_
    rw [← e1, ← e2] at h
    calc g * (t * d') = t * (g * d') := by rw [Int.mul_left_comm]
      _ = g * n' * d := h
      _ = g * (n' * d) := Int.mul_assoc _ _ _
  have e4 := congrArg Int.natAbs e3
  rw [Int.natAbs_mul, Int.natAbs_mul] at e4
  have c1 : Nat.Coprime d.natAbs t.natAbs := by
    unfold Nat.Coprime
    rw [Nat.gcd_comm]
    unfold gcI at hg
    omega
  have c2 : Nat.Coprime d'.natAbs n'.natAbs := by
    unfold Nat.Coprime
    rw [Nat.gcd_comm]
    unfold gcI at hc
    omega
  have v1 : d.natAbs ∣ d'.natAbs := c1.dvd_of_dvd_mul_left ⟨n'.natAbs, by rw [e4, Nat.mul_comm]⟩
  have v2 : d'.natAbs ∣ d.natAbs := c2.dvd_of_dvd_mul_left ⟨t.natAbs, by rw [← e4, Nat.mul_comm]⟩
  have v3 := Nat.dvd_antisymm v1 v2
  have v4 : d = d' := by omega
  subst v4
  exact ⟨(Int.eq_of_mul_eq_mul_right (by omega) e3).symm, rfl⟩
theorem sg_fr {a b : Int} (h : 0 < b) : sgI (frN a b) = sgI a := by
  have g0 := gcI_pos (a := a) h
  have e1 := frN_mul a b
  generalize frN a b = n at *
  generalize gcI a b = g at *
  unfold sgI
  rcases Int.lt_trichotomy n 0 with q | q | q
  · have := Int.mul_neg_of_pos_of_neg g0 q
    rw [if_neg (by omega), if_pos q, if_neg (by omega), if_pos (by omega)]
  · subst q
    rw [Int.mul_zero] at e1
    subst e1
    rfl
  · have := Int.mul_pos g0 q
    rw [if_pos q, if_pos (by omega)]
theorem fr_self {t d : Int} (hd : 0 < d) (hg : gcI t d = 1) : frN t d = t ∧ frD t d = d := fr_uniq hd hd hg rfl
/-- the sum's value -/
theorem ai_val {t d x y : Int} (hd : 0 < d) (hy : 0 < y) : aiN t d x y * (d * y) = (t * y + x * d) * aiD d x y := by
  have e1 := frN_mul x y
  have e2 := frD_mul x y
  have p2 := frD_pos (a := x) hy
  have g0 := gcI_pos (a := x) hy
  unfold aiN aiD
  generalize frN x y = x' at *
  generalize frD x y = y' at *
  generalize gcI x y = g at *
  have f1 : gcI d y' * (d / gcI d y') = d := Int.mul_ediv_cancel' (gcI_l d y')
  have f2 : gcI d y' * (y' / gcI d y') = y' := Int.mul_ediv_cancel' (gcI_r d y')
  generalize d / gcI d y' = d'' at *
  generalize y' / gcI d y' = y'' at *
  generalize gcI d y' = h at *
  subst e1 e2
  have k : x' * d'' * y' = x' * d * y'' := by
    rw [← f2]
    conv => rhs; rw [← f1]
    grind
  have k2 : (t * y'' + x' * d'') * (d * (g * y')) = t * y'' * (d * (g * y')) + x' * d'' * y' * (d * g) := by grind
  rw [k2, k]
  grind
theorem fr_step {t d x y N D : Int} (hd : 0 < d) (hy : 0 < y) (hD : 0 < D) (h : t * D = N * d) : frN (aiN t d x y) (aiD d x y) * (D * y) = (N * y + D * x) * frD (aiN t d x y) (aiD d x y) ∧ 0 < frD (aiN t d x y) (aiD d x y) ∧ gcI (frN (aiN t d x y) (aiD d x y)) (frD (aiN t d x y) (aiD d x y)) = 1 := by
  have hY := aiD_pos (x := x) hd hy
  have v := ai_val (t := t) (x := x) hd hy
  have e1 := frN_mul (aiN t d x y) (aiD d x y)
  have e2 := frD_mul (aiN t d x y) (aiD d x y)
  have hp := frD_pos (a := aiN t d x y) hY
  have hc := fr_cop (a := aiN t d x y) hY
  have g0 := gcI_pos (a := aiN t d x y) hY
  refine ⟨?_, hp, hc⟩
  generalize frN (aiN t d x y) (aiD d x y) = n at *
  generalize frD (aiN t d x y) (aiD d x y) = m at *
  generalize gcI (aiN t d x y) (aiD d x y) = g at *
  generalize aiN t d x y = X at *
  generalize aiD d x y = Y at *
  subst e1 e2
  have k : n * (d * y) = (t * y + x * d) * m := by
    refine Int.eq_of_mul_eq_mul_left (a := g) (by omega) ?_
    rw [← Int.mul_assoc, v]
    grind
  refine Int.eq_of_mul_eq_mul_left (a := d) (by omega) ?_
  have a1 : d * (n * (D * y)) = D * (n * (d * y)) := by grind
  have a2 : d * ((N * y + D * x) * m) = (N * d * y + D * x * d) * m := by grind
  rw [a1, a2, k, ← h]
  grind
