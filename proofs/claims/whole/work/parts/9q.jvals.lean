/-! ===== a sketch's shares over its common bottom ===== -/
def wv (h : Int → Int) (S : SV) (D : Int) (f g : Int → Int) (v : Int) : Int := if h v = 0 then D / loN h S.2.1 (spOf S.2.1 S.1 v) * f (spOf S.2.1 S.1 v) else D * g v
theorem wv_abs {h f g : Int → Int} {S : SV} {D : Int} (hE : svE S) (hD : 0 ≤ D) (hd : ∀ k : Int, 0 ≤ k → k < S.1 → 0 < loN h S.2.1 k → loN h S.2.1 k ∣ D) : smR (fun v => abI (wv h S D f g v)) 0 40 ≤ D * (smR (fun k => abI (f k)) 0 S.1 + smR (fun v => abI (hX h g v)) 0 40) := by
  have ab : ∀ x y : Int, 0 ≤ x → abI (x * y) = x * abI y := fun x y hx => by
    unfold abI
    rcases Int.le_total 0 y with q | q
    · have := Int.mul_nonneg hx q
      rw [show max (x * y) (-(x * y)) = x * y by omega, show max y (-y) = y by omega]
    · have := Int.mul_nonpos_of_nonneg_of_nonpos hx q
      rw [show max (x * y) (-(x * y)) = -(x * y) by omega, show max y (-y) = -y by omega, Int.mul_neg]
  have e1 : smR (fun v => abI (wv h S D f g v)) 0 40 = smR (fun v => (if h v = 0 then (fun k => D / loN h S.2.1 k * abI (f k)) (spOf S.2.1 S.1 v) else 0) + D * abI (hX h g v)) 0 40 := by
    refine smR_congr fun v v0 v1 => ?_
    unfold wv hX
    by_cases z : h v = 0
    · have dn : 0 ≤ D / loN h S.2.1 (spOf S.2.1 S.1 v) := Int.ediv_nonneg hD (ltC_bd _ _ _).1
      rw [if_pos z, if_pos z, if_pos z, ab _ _ dn]
      have : abI 0 = 0 := by decide
      rw [this, Int.mul_zero, Int.add_zero]
    · rw [if_neg z, if_neg z, if_neg z, ab _ _ hD, Int.zero_add]
  rw [e1, smR_add (f := fun v => if h v = 0 then (fun k => D / loN h S.2.1 k * abI (f k)) (spOf S.2.1 S.1 v) else 0) (g := fun v => D * abI (hX h g v)), vs_all (F := fun k => D / loN h S.2.1 k * abI (f k)) hE, smR_mulc (f := fun v => abI (hX h g v)), Int.mul_add]
  have l := smR_le (f := fun k => loN h S.2.1 k * (D / loN h S.2.1 k * abI (f k))) (g := fun k => D * abI (f k)) (a := 0) (b := S.1) (fun k k0 k1 => by
    have b := (ltC_bd h (foF S.2.1 k) (S.2.1 k)).1
    have a0 : 0 ≤ abI (f k) := by unfold abI; omega
    by_cases z : loN h S.2.1 k = 0
    · rw [z, Int.zero_mul]; exact Int.mul_nonneg hD a0
    · have p : 0 < loN h S.2.1 k := by unfold loN at z ⊢; omega
      rw [← Int.mul_assoc, Int.mul_ediv_cancel' (hd k k0 k1 p)]
      exact Int.le_refl _)
  rw [smR_mulc (f := fun k => abI (f k))] at l
  omega
theorem wl_1 : wl 1 = 5342931457063200 := by decide +kernel
theorem wv_sq {h f g : Int → Int} {S : SV} {D : Int} (hE : svE S) (hd : ∀ k : Int, 0 ≤ k → k < S.1 → 0 < loN h S.2.1 k → loN h S.2.1 k ∣ D) : 5342931457063200 * smR (fun v => wv h S D f g v * wv h S D f g v) 0 40 ≤ D * D * (smR (fun k => wl (loN h S.2.1 k) * (f k * f k)) 0 S.1 + smR (fun v => wl (hL h v) * (hX h g v * hX h g v)) 0 40) := by
  have e1 : smR (fun v => wv h S D f g v * wv h S D f g v) 0 40 = smR (fun v => (if h v = 0 then (fun k => D / loN h S.2.1 k * f k * (D / loN h S.2.1 k * f k)) (spOf S.2.1 S.1 v) else 0) + D * D * (hX h g v * hX h g v)) 0 40 := by
    refine smR_congr fun v v0 v1 => ?_
    unfold wv hX
    by_cases z : h v = 0
    · rw [if_pos z, if_pos z, if_pos z, Int.mul_zero, Int.mul_zero, Int.add_zero]
    · rw [if_neg z, if_neg z, if_neg z, Int.zero_add]; grind
  have e2 : 5342931457063200 * smR (fun v => D * D * (hX h g v * hX h g v)) 0 40 = D * D * smR (fun v => wl (hL h v) * (hX h g v * hX h g v)) 0 40 := by
    rw [← smR_mulc, ← smR_mulc (f := fun v => wl (hL h v) * (hX h g v * hX h g v))]
    refine smR_congr fun v v0 v1 => ?_
    unfold hX hL
    by_cases z : h v = 0
    · rw [if_pos z, if_pos z]; simp only [Int.mul_zero]
    · rw [if_neg z, if_neg z, wl_1]; grind
  rw [e1, smR_add (f := fun v => if h v = 0 then (fun k => D / loN h S.2.1 k * f k * (D / loN h S.2.1 k * f k)) (spOf S.2.1 S.1 v) else 0) (g := fun v => D * D * (hX h g v * hX h g v)), vs_all (F := fun k => D / loN h S.2.1 k * f k * (D / loN h S.2.1 k * f k)) hE, Int.mul_add, e2, Int.mul_add]
  have l : 5342931457063200 * smR (fun k => loN h S.2.1 k * (D / loN h S.2.1 k * f k * (D / loN h S.2.1 k * f k))) 0 S.1 ≤ D * D * smR (fun k => wl (loN h S.2.1 k) * (f k * f k)) 0 S.1 := by
    rw [← smR_mulc, ← smR_mulc (f := fun k => wl (loN h S.2.1 k) * (f k * f k))]
    refine smR_le fun k k0 k1 => ?_
    have b := ltC_bd h (foF S.2.1 k) (S.2.1 k)
    by_cases z : loN h S.2.1 k = 0
    · rw [z]
      have : wl 0 = 0 := by decide
      rw [this, Int.zero_mul, Int.zero_mul, Int.mul_zero, Int.mul_zero]
      exact Int.le_refl _
    · have p : 0 < loN h S.2.1 k := by unfold loN at z ⊢; omega
      have q : loN h S.2.1 k ≤ 40 := by unfold loN; omega
      have m := wl_mul p q
      have dv := Int.mul_ediv_cancel' (hd k k0 k1 p)
      generalize D / loN h S.2.1 k = a at *
      generalize loN h S.2.1 k = L at *
      rw [← m, ← dv]
      refine Int.le_of_eq ?_
      grind
  omega
