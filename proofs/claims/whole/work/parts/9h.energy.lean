/-! ===== JOIN stays within a long: the rows of a sketch, counted ===== -/
/-- 5342931457063200 is the least common multiple of 1 to 40 -/
def wl (L : Int) : Int := if L ≤ 0 then 0 else 5342931457063200 / L
theorem wl_all : (List.range 40).all (fun m => decide ((5342931457063200 : Int) / ((m : Int) + 1) * ((m : Int) + 1) = 5342931457063200)) = true := by decide +kernel
theorem wl_mul {L : Int} (h1 : 1 ≤ L) (h2 : L ≤ 40) : wl L * L = 5342931457063200 := by
  have a := List.all_eq_true.mp wl_all (L.toNat - 1) (List.mem_range.mpr (by omega))
  have b := of_decide_eq_true a
  rw [show ((L.toNat - 1 : Nat) : Int) + 1 = L by omega] at b
  unfold wl
  rw [if_neg (by omega)]
  exact b
theorem wl_nn (L : Int) : 0 ≤ wl L := by
  unfold wl
  split
  · exact Int.le_refl _
  · exact Int.ediv_nonneg (by decide) (by omega)
theorem dl_all : (List.range 39).all (fun l => (List.range 39).all (fun r => decide (((10000 : Int) * (max ((l : Int) + 1) ((r : Int) + 1)) + ((l : Int) + 1 + ((r : Int) + 1))) * (10000 * (max ((l : Int) + 1) ((r : Int) + 1)) + ((l : Int) + 1 + ((r : Int) + 1))) ≤ 100000000 * (((l : Int) + 1) * ((r : Int) + 1) * ((l : Int) + 1 + ((r : Int) + 1)))))) = true := by decide +kernel
theorem sq_le {a b : Int} (h1 : -b ≤ a) (h2 : a ≤ b) : a * a ≤ b * b := by
  have : 0 ≤ (b - a) * (b + a) := Int.mul_nonneg (by omega) (by omega)
  have e : (b - a) * (b + a) = b * b - a * a := by grind
  omega
theorem dl_le {l r d : Int} (hl : 1 ≤ l) (hr : 1 ≤ r) (hs : l + r ≤ 40) (h : -(10000 * max l r + (l + r)) ≤ d ∧ d ≤ 10000 * max l r + (l + r)) : d * d ≤ 100000000 * (l * r * (l + r)) := by
  have a := List.all_eq_true.mp (List.all_eq_true.mp dl_all (l.toNat - 1) (List.mem_range.mpr (by omega))) (r.toNat - 1) (List.mem_range.mpr (by omega))
  have b := of_decide_eq_true a
  rw [show ((l.toNat - 1 : Nat) : Int) + 1 = l by omega, show ((r.toNat - 1 : Nat) : Int) + 1 = r by omega] at b
  exact Int.le_trans (sq_le h.1 h.2) b
/-- a cut adds no more than a certain energy -/
theorem en_cut {l r y1 y2 : Int} (hl : 1 ≤ l) (hr : 1 ≤ r) (hs : l + r ≤ 40) (h : -(10000 * max l r + (l + r)) ≤ (l + r) * y1 - l * (y1 + y2) ∧ (l + r) * y1 - l * (y1 + y2) ≤ 10000 * max l r + (l + r)) : wl l * (y1 * y1) + wl r * (y2 * y2) ≤ wl (l + r) * ((y1 + y2) * (y1 + y2)) + 5342931457063200 * 100000000 := by
  have a1 := wl_mul hl (by omega)
  have a2 := wl_mul hr (by omega)
  have a3 := wl_mul (L := l + r) (by omega) hs
  have d := dl_le hl hr hs h
  have p : 0 < l * r * (l + r) := Int.mul_pos (Int.mul_pos (by omega) (by omega)) (by omega)
  have pl : (0 : Int) < 5342931457063200 := by decide
  generalize (5342931457063200 : Int) = Λ at *
  generalize wl l = A at *
  generalize wl r = B at *
  generalize wl (l + r) = C at *
  refine Int.le_of_mul_le_mul_right (a := l * r * (l + r)) ?_ p
  have i1 : (A * (y1 * y1) + B * (y2 * y2)) * (l * r * (l + r)) = Λ * (r * (l + r) * (y1 * y1) + l * (l + r) * (y2 * y2)) := by grind
  have i2 : (C * ((y1 + y2) * (y1 + y2)) + Λ * 100000000) * (l * r * (l + r)) = Λ * (l * r * ((y1 + y2) * (y1 + y2)) + 100000000 * (l * r * (l + r))) := by grind
  have i3 : r * (l + r) * (y1 * y1) + l * (l + r) * (y2 * y2) = l * r * ((y1 + y2) * (y1 + y2)) + ((l + r) * y1 - l * (y1 + y2)) * ((l + r) * y1 - l * (y1 + y2)) := by grind
  rw [i1, i2, i3]
  exact Int.mul_le_mul_of_nonneg_left (by omega) (by omega)
/-- a melt adds none -/
theorem en_fuse {l r y1 y2 : Int} (hl : 0 ≤ l) (hr : 0 ≤ r) (hs : l + r ≤ 40) (h1 : l = 0 → y1 = 0) (h2 : r = 0 → y2 = 0) : wl (l + r) * ((y1 + y2) * (y1 + y2)) ≤ wl l * (y1 * y1) + wl r * (y2 * y2) := by
  by_cases z1 : l = 0
  · rw [h1 z1, z1, Int.zero_add, Int.zero_add]; omega
  · by_cases z2 : r = 0
    · rw [h2 z2, z2, Int.add_zero, Int.add_zero]; omega
    · have a1 := wl_mul (L := l) (by omega) (by omega)
      have a2 := wl_mul (L := r) (by omega) (by omega)
      have a3 := wl_mul (L := l + r) (by omega) hs
      have p : 0 < l * r * (l + r) := Int.mul_pos (Int.mul_pos (by omega) (by omega)) (by omega)
      have pl : (0 : Int) < 5342931457063200 := by decide
      generalize (5342931457063200 : Int) = Λ at *
      generalize wl l = A at *
      generalize wl r = B at *
      generalize wl (l + r) = C at *
      refine Int.le_of_mul_le_mul_right (a := l * r * (l + r)) ?_ p
      have i1 : (A * (y1 * y1) + B * (y2 * y2)) * (l * r * (l + r)) = Λ * (r * (l + r) * (y1 * y1) + l * (l + r) * (y2 * y2)) := by grind
      have i2 : C * ((y1 + y2) * (y1 + y2)) * (l * r * (l + r)) = Λ * (l * r * ((y1 + y2) * (y1 + y2))) := by grind
      have i3 : r * (l + r) * (y1 * y1) + l * (l + r) * (y2 * y2) = l * r * ((y1 + y2) * (y1 + y2)) + ((l + r) * y1 - l * (y1 + y2)) * ((l + r) * y1 - l * (y1 + y2)) := by grind
      rw [i1, i2, i3]
      have sq : 0 ≤ ((l + r) * y1 - l * (y1 + y2)) * ((l + r) * y1 - l * (y1 + y2)) := by
        have := sq_le (a := 0) (b := (l + r) * y1 - l * (y1 + y2))
        rcases Int.le_total 0 ((l + r) * y1 - l * (y1 + y2)) with q | q
        · exact Int.mul_nonneg q q
        · exact Int.mul_nonneg_of_nonpos_of_nonpos q q
      exact Int.mul_le_mul_of_nonneg_left (by omega) (by omega)
/-! rows with one span cut, two spans made one -/
theorem ins_sum {G G' : Int → Int} {n k x y : Int} (hk : 0 ≤ k) (hk2 : k < n) (h : ∀ j : Int, 0 ≤ j → j < n + 1 → G' j = insR G k x y j) : smR G' 0 (n + 1) = smR G 0 n - G k + x + y := by
  rw [smR_congr h]
  exact smR_ins (f := G) (g := fun z => z) (n := n) (k := k) (x := x) (y := y) hk hk2
theorem del_sum {G G' : Int → Int} {n k x : Int} (hk : 0 ≤ k) (hk2 : k + 1 < n) (h : ∀ j : Int, 0 ≤ j → j < n - 1 → G' j = delR G k x j) : smR G' 0 (n - 1) = smR G 0 n - G k - G (k + 1) + x := by
  rw [smR_congr h]
  exact smR_del (f := G) (g := fun z => z) (n := n) (k := k) (x := x) hk hk2
/-- the rows of a sketch: lengths L, true rows R, what calls since the reset have added s, what stood at the reset β -/
def jR (n : Int) (L R s β : Int → Int) (B T K E T0 K0 : Int) : Prop :=
  smR (fun j => abI (β j)) 0 n ≤ B ∧ smR (fun j => max (s j) 0) 0 n ≤ T ∧ smR (fun j => max (-(s j)) 0) 0 n ≤ K ∧ (∀ j : Int, 0 ≤ j → j < n → (0 ≤ L j ∧ L j ≤ 40) ∧ (0 ≤ R j ∧ R j ≤ 10000) ∧ (L j = 1 → 2 * s j ≤ T0 + 1 + R j ∧ -(2 * s j) ≤ K0 + 1 + 10000 - R j) ∧ (L j = 0 → s j = 0 ∧ R j = 0)) ∧ smR (fun j => wl (L j) * ((s j - R j) * (s j - R j))) 0 n ≤ E
