/-! ===== what JOIN asks of a sketch, through every call ===== -/
theorem jR_row {n k m B T K E T0 K0 T' K' T0' K0' : Int} {L R s β R' s' : Int → Int} (h : jR n L R s β B T K E T0 K0) (hk : 0 ≤ k) (hk2 : k < n) (hT : T' = T + max m 0 ∧ K' = K + max (-m) 0 ∧ T0' = T0 + max m 0 ∧ K0' = K0 + max (-m) 0)
    (e : ∀ j : Int, 0 ≤ j → j < n → R' j = R j + (if j = k then m else 0) ∧ s' j = s j + if j = k then m else 0) (hL : L k ≠ 0) (hR : 0 ≤ R k + m ∧ R k + m ≤ 10000) : jR n L R' s' β B T' K' E T0' K0' := by
  obtain ⟨j1, j2, j3, j4, j5⟩ := h
  refine ⟨j1, ?_, ?_, fun j j0 j9 => ?_, ?_⟩
  · have a := smR_le (f := fun j => max (s' j) 0) (g := fun j => max (s j) 0 + if j = k then max m 0 else 0) (a := 0) (b := n) (fun j j0 j9 => by rw [(e j j0 j9).2]; split <;> omega)
    rw [smR_add (f := fun j => max (s j) 0) (g := fun j => if j = k then max m 0 else 0), smR_at, if_pos ⟨hk, hk2⟩] at a
    omega
  · have a := smR_le (f := fun j => max (-(s' j)) 0) (g := fun j => max (-(s j)) 0 + if j = k then max (-m) 0 else 0) (a := 0) (b := n) (fun j j0 j9 => by rw [(e j j0 j9).2]; split <;> omega)
    rw [smR_add (f := fun j => max (-(s j)) 0) (g := fun j => if j = k then max (-m) 0 else 0), smR_at, if_pos ⟨hk, hk2⟩] at a
    omega
  · obtain ⟨e1, e2⟩ := e j j0 j9
    obtain ⟨q1, q2, q3, q4⟩ := j4 j j0 j9
    rw [e1, e2]
    by_cases z : j = k
    · rw [if_pos z]
      subst z
      exact ⟨q1, hR, fun y => by have := q3 y; omega, fun y => absurd y hL⟩
    · rw [if_neg z, Int.add_zero, Int.add_zero]
      exact ⟨q1, q2, fun y => by have := q3 y; omega, q4⟩
  · rw [smR_congr (g := fun j => wl (L j) * ((s j - R j) * (s j - R j))) (fun j j0 j9 => ?_)]
    · exact j5
    · obtain ⟨e1, e2⟩ := e j j0 j9
      rw [e1, e2, show s j + (if j = k then m else 0) - (R j + if j = k then m else 0) = s j - R j by omega]
theorem jR_mono {n B T K E T0 K0 E' T' K' T0' K0' : Int} {L R s β : Int → Int} (h : jR n L R s β B T K E T0 K0) (h1 : T ≤ T') (h2 : K ≤ K') (h3 : E ≤ E') (h4 : T0 ≤ T0') (h5 : K0 ≤ K0') : jR n L R s β B T' K' E' T0' K0' :=
  ⟨h.1, by have := h.2.1; omega, by have := h.2.2.1; omega, fun j j0 j9 => by obtain ⟨q1, q2, q3, q4⟩ := h.2.2.2.1 j j0 j9; exact ⟨q1, q2, fun z => by have := q3 z; omega, q4⟩, by have := h.2.2.2.2; omega⟩
theorem jR_cg {n B T K E T0 K0 : Int} {L R s β L' R' s' β' : Int → Int} (h : jR n L R s β B T K E T0 K0) (e : ∀ j : Int, 0 ≤ j → j < n → L' j = L j ∧ R' j = R j ∧ s' j = s j ∧ β' j = β j) : jR n L' R' s' β' B T K E T0 K0 := by
  obtain ⟨j1, j2, j3, j4, j5⟩ := h
  refine ⟨?_, ?_, ?_, fun j j0 j9 => ?_, ?_⟩
  · rw [smR_congr (g := fun j => abI (β j)) (fun j j0 j9 => by rw [(e j j0 j9).2.2.2])]; exact j1
  · rw [smR_congr (g := fun j => max (s j) 0) (fun j j0 j9 => by rw [(e j j0 j9).2.2.1])]; exact j2
  · rw [smR_congr (g := fun j => max (-(s j)) 0) (fun j j0 j9 => by rw [(e j j0 j9).2.2.1])]; exact j3
  · obtain ⟨e1, e2, e3, -⟩ := e j j0 j9
    rw [e1, e2, e3]
    exact j4 j j0 j9
  · rw [smR_congr (g := fun j => wl (L j) * ((s j - R j) * (s j - R j))) (fun j j0 j9 => by obtain ⟨e1, e2, e3, -⟩ := e j j0 j9; rw [e1, e2, e3])]; exact j5
/-- the heavy values as spans of one value -/
def hL (h : Int → Int) (v : Int) : Int := if h v = 0 then 0 else 1
def hX (h f : Int → Int) (v : Int) : Int := if h v = 0 then 0 else f v
/-- what stood at the last make or TOGETHER (β, βh), rows put since (T), struck since (K), cuts since (q) -/
def jK (h hc tr : Int → Int) (S : SV) (va t q : Int) : Prop := ∃ (β βh : Int → Int) (T K V0 B1 B2 T1 T2 K1 K2 E1 E2 : Int), (t = T + K ∧ 0 ≤ T ∧ 0 ≤ K ∧ T - K = va - V0 ∧ 0 ≤ V0 ∧ V0 ≤ 10000 ∧ 0 ≤ q ∧ 0 ≤ T1 ∧ 0 ≤ T2 ∧ 0 ≤ K1 ∧ 0 ≤ K2) ∧ jR S.1 (loN h S.2.1) (rrS h tr S.2.1) (fun k => S.2.2.1 k - β k) β B1 T1 K1 E1 T K ∧ jR 40 (hL h) (hX h tr) (hX h fun v => hc v - βh v) (hX h βh) B2 T2 K2 E2 T K ∧ B1 + B2 ≤ 100000 ∧ T1 + T2 ≤ T ∧ K1 + K2 ≤ K ∧ E1 + E2 ≤ 5342931457063200 * 100000000 * (1 + q)
theorem lt_cut {h : Int → Int} {a v b : Int} (h0 : 0 ≤ a) (h1 : a ≤ v) (h2 : v ≤ b) (h3 : b ≤ 39) : ltC h a v + ltC h (v + 1) b = ltC h a b := by
  unfold ltC
  rw [show max a 0 = a by omega, show min (v + 1) 40 = v + 1 by omega, show max (v + 1) 0 = v + 1 by omega, show min (b + 1) 40 = b + 1 by omega]
  exact (smR_split (by omega) (by omega)).symm
theorem lo_ins {h e : Int → Int} {k v j : Int} (hk : 0 ≤ k) : loN h (insR e k v (e k)) j = insR (loN h e) k (ltC h (foF e k) v) (ltC h (v + 1) (e k)) j := by
  unfold loN
  rw [foF_ins hk]
  rcases (by omega : j < k ∨ j = k ∨ j = k + 1 ∨ j = k + 2 ∨ k + 2 < j) with a | a | a | a | a
  · rw [if_pos (by omega), insR_lt a, insR_lt a]
  · rw [if_pos (by omega), a, insR_k, insR_k]
  · rw [if_neg (by omega), if_pos a, insR_k1 a, insR_k1 a]
  · rw [if_neg (by omega), if_neg (by omega), if_pos a, insR_gt (by omega), insR_gt (by omega), a]
    unfold foF
    rw [if_pos (by omega), show k + 2 - 1 = k + 1 by omega, show k + 1 - 1 = k by omega]
  · rw [if_neg (by omega), if_neg (by omega), if_neg (by omega), insR_gt (by omega), insR_gt (by omega)]
theorem rr_ins {h tr e : Int → Int} {k v j : Int} (hk : 0 ≤ k) : rrS h tr (insR e k v (e k)) j = insR (rrS h tr e) k (smR (gtF h tr) (foF e k) (v + 1)) (smR (gtF h tr) (v + 1) (e k + 1)) j := by
  rw [rrS_ins hk]
  rfl
/-- a share of a count and of what stood -/
theorem sh_two {c β l r : Int} (hl : 1 ≤ l) (hr : 1 ≤ r) : (0 ≤ c - β → 0 ≤ c * l / (l + r) - β * l / (l + r) ∧ 0 ≤ (c - c * l / (l + r)) - (β - β * l / (l + r))) ∧ (c - β ≤ 0 → c * l / (l + r) - β * l / (l + r) ≤ 0 ∧ (c - c * l / (l + r)) - (β - β * l / (l + r)) ≤ 0) ∧ -(l + r - 1) ≤ (l + r) * (c * l / (l + r) - β * l / (l + r)) - l * (c - β) ∧ (l + r) * (c * l / (l + r) - β * l / (l + r)) - l * (c - β) ≤ l + r - 1 := by
  have mono : ∀ x y : Int, x ≤ y → x * l / (l + r) ≤ y * l / (l + r) ∧ y * l / (l + r) ≤ x * l / (l + r) + (y - x) := by
    intro x y hxy
    have p1 : x * l ≤ y * l := Int.mul_le_mul_of_nonneg_right hxy (by omega)
    have p2 : y * l ≤ x * l + (y - x) * (l + r) := by
      have a : (y - x) * l ≤ (y - x) * (l + r) := Int.mul_le_mul_of_nonneg_left (by omega) (by omega)
      have b : (y - x) * l = y * l - x * l := Int.sub_mul y x l
      omega
    refine ⟨Int.ediv_le_ediv (by omega) p1, ?_⟩
    have q := Int.ediv_le_ediv (c := l + r) (by omega) p2
    rw [Int.add_mul_ediv_right _ _ (by omega)] at q
    exact q
  have e1 := Int.mul_ediv_add_emod (c * l) (l + r)
  have e2 := Int.mul_ediv_add_emod (β * l) (l + r)
  have f1 := Int.emod_nonneg (c * l) (b := l + r) (by omega)
  have f2 := Int.emod_lt_of_pos (c * l) (b := l + r) (by omega)
  have g1 := Int.emod_nonneg (β * l) (b := l + r) (by omega)
  have g2 := Int.emod_lt_of_pos (β * l) (b := l + r) (by omega)
  refine ⟨fun q => ?_, fun q => ?_, ?_⟩
  · have := mono β c (by omega); omega
  · have := mono c β (by omega); omega
  · have ex : (l + r) * (c * l / (l + r) - β * l / (l + r)) - l * (c - β) = ((l + r) * (c * l / (l + r)) - c * l) - ((l + r) * (β * l / (l + r)) - β * l) := by grind
    rw [ex]
    omega
