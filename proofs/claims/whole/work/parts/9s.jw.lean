/-! ===== shares: what stood at the reset, what came since ===== -/
theorem wv_add {h f g f' g' f2 g2 : Int → Int} {S : SV} {D : Int} (e1 : ∀ k : Int, f2 k = f k + f' k) (e2 : ∀ v : Int, g2 v = g v + g' v) (v : Int) : wv h S D f2 g2 v = wv h S D f g v + wv h S D f' g' v := by
  unfold wv
  by_cases z : h v = 0
  · rw [if_pos z, if_pos z, if_pos z, e1, Int.mul_add]
  · rw [if_neg z, if_neg z, if_neg z, e2, Int.mul_add]
theorem jR_abs {n B T K E T0 K0 : Int} {L R s β : Int → Int} (h : jR n L R s β B T K E T0 K0) : smR (fun j => abI (s j)) 0 n ≤ T + K := by
  have e := smR_congr (f := fun j => abI (s j)) (g := fun j => max (s j) 0 + max (-(s j)) 0) (a := 0) (b := n) (fun j _ _ => by unfold abI; omega)
  rw [e, smR_add (f := fun j => max (s j) 0) (g := fun j => max (-(s j)) 0)]
  have := h.2.1
  have := h.2.2.1
  omega
theorem sq_89 (s R : Int) : 8 * (s * s) ≤ 9 * ((s - R) * (s - R)) + 72 * ((0 - R) * (0 - R)) := by
  have sq : 0 ≤ (s - 9 * R) * (s - 9 * R) := by
    rcases Int.le_total 0 (s - 9 * R) with q | q
    · exact Int.mul_nonneg q q
    · exact Int.mul_nonneg_of_nonpos_of_nonpos q q
  have e : 9 * ((s - R) * (s - R)) + 72 * ((0 - R) * (0 - R)) - 8 * (s * s) = (s - 9 * R) * (s - 9 * R) := by grind
  omega
theorem jR_sq {n B T K E T0 K0 : Int} {L R s β : Int → Int} (h : jR n L R s β B T K E T0 K0) : 8 * smR (fun j => wl (L j) * (s j * s j)) 0 n ≤ 9 * E + 72 * (5342931457063200 * 10000 * smR R 0 n) := by
  rw [← smR_mulc]
  have l := smR_le (f := fun j => 8 * (wl (L j) * (s j * s j))) (g := fun j => 9 * (wl (L j) * ((s j - R j) * (s j - R j))) + 72 * (5342931457063200 * 10000 * R j)) (a := 0) (b := n) (fun j j0 j1 => by
    obtain ⟨q1, q2, -, -⟩ := h.2.2.2.1 j j0 j1
    have a := Int.mul_le_mul_of_nonneg_left (sq_89 (s j) (R j)) (wl_nn (L j))
    have b := en_0 q1.2 q2
    have e1 : wl (L j) * (8 * (s j * s j)) = 8 * (wl (L j) * (s j * s j)) := by grind
    have e2 : wl (L j) * (9 * ((s j - R j) * (s j - R j)) + 72 * ((0 - R j) * (0 - R j))) = 9 * (wl (L j) * ((s j - R j) * (s j - R j))) + 72 * (wl (L j) * ((0 - R j) * (0 - R j))) := by grind
    omega)
  rw [smR_add (f := fun j => 9 * (wl (L j) * ((s j - R j) * (s j - R j)))) (g := fun j => 72 * (5342931457063200 * 10000 * R j)), smR_mulc (f := fun j => wl (L j) * ((s j - R j) * (s j - R j))), smR_mulc (f := fun j => 5342931457063200 * 10000 * R j), smR_mulc (f := R)] at l
  have := h.2.2.2.2
  omega
