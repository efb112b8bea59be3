/-! ===== what JOIN asks, through cut, melt, keep, rows, reset ===== -/
theorem ab_two {β l r : Int} (hl : 0 ≤ l) (hr : 0 ≤ r) (h : 0 < l + r) : abI (β * l / (l + r)) + abI (β - β * l / (l + r)) ≤ abI β := by
  have s := share_bd (c := β) hl hr h
  unfold abI
  rcases Int.le_total 0 β with q | q
  · have := s.1 q; omega
  · have := s.2 q; omega
theorem jK_cut {h hc tr : Int → Int} {S : SV} {va t q k v : Int} (hE : svE S) (ht : ∀ j : Int, 0 ≤ j → j < 40 → 0 ≤ tr j) (hk : 0 ≤ k) (hk2 : k < S.1) (hv : foF S.2.1 k ≤ v ∧ v < S.2.1 k) (h1 : jK h hc tr S va t q) : jK h hc tr (cutV h S k v) va t (q + 1) := by
  obtain ⟨β, βh, T, K, V0, B1, B2, T1, T2, K1, K2, E1, E2, ⟨c0, c1, c2, c3, c4, c5, c6, c7, c8, c9, c10⟩, r1, r2, c11, c12, c13, c14⟩ := h1
  have f0 := foF_ge hE hk hk2
  have hl := (ltC_bd h (foF S.2.1 k) v).1
  have hr := (ltC_bd h (v + 1) (S.2.1 k)).1
  have lt := lt_cut (h := h) (a := foF S.2.1 k) (v := v) (b := S.2.1 k) f0.1 hv.1 (by omega) f0.2.2
  have n1 : 0 ≤ smR (gtF h tr) (foF S.2.1 k) (v + 1) := gt_nn ht f0.1 (by omega)
  have n2 : 0 ≤ smR (gtF h tr) (v + 1) (S.2.1 k + 1) := gt_nn ht (by omega) (by omega)
  have n3 : rrS h tr S.2.1 k = smR (gtF h tr) (foF S.2.1 k) (v + 1) + smR (gtF h tr) (v + 1) (S.2.1 k + 1) := smR_split (by omega) (by omega)
  have z1 : ltC h (foF S.2.1 k) v = 0 → smR (gtF h tr) (foF S.2.1 k) (v + 1) = 0 := fun y => gt_zero f0.1 (by omega) y
  have z2 : ltC h (v + 1) (S.2.1 k) = 0 → smR (gtF h tr) (v + 1) (S.2.1 k + 1) = 0 := fun y => gt_zero (by omega) f0.2.2 y
  have lo : loN h S.2.1 k = ltC h (foF S.2.1 k) v + ltC h (v + 1) (S.2.1 k) := lt.symm
  have q9 : loN h S.2.1 k = 0 → S.2.2.1 k - β k = 0 ∧ rrS h tr S.2.1 k = 0 := (r1.2.2.2.1 k hk hk2).2.2.2
  refine ⟨insR β k (hvF (β k) 0 (ltC h (foF S.2.1 k) v) (ltC h (v + 1) (S.2.1 k))).1.1 (hvF (β k) 0 (ltC h (foF S.2.1 k) v) (ltC h (v + 1) (S.2.1 k))).2.1, βh, T, K, V0, B1, B2, T1, T2, K1, K2, E1 + 5342931457063200 * 100000000, E2, ⟨c0, c1, c2, c3, c4, c5, by omega, c7, c8, c9, c10⟩, ?_, r2, c11, c12, c13, by omega⟩
  refine jR_cut (k := k) (l := ltC h (foF S.2.1 k) v) (r := ltC h (v + 1) (S.2.1 k)) (a := smR (gtF h tr) (foF S.2.1 k) (v + 1)) (b := smR (gtF h tr) (v + 1) (S.2.1 k + 1)) (x := (hvF (S.2.2.1 k) (S.2.2.2 k) (ltC h (foF S.2.1 k) v) (ltC h (v + 1) (S.2.1 k))).1.1 - (hvF (β k) 0 (ltC h (foF S.2.1 k) v) (ltC h (v + 1) (S.2.1 k))).1.1) (y := (hvF (S.2.2.1 k) (S.2.2.2 k) (ltC h (foF S.2.1 k) v) (ltC h (v + 1) (S.2.1 k))).2.1 - (hvF (β k) 0 (ltC h (foF S.2.1 k) v) (ltC h (v + 1) (S.2.1 k))).2.1) (β1 := (hvF (β k) 0 (ltC h (foF S.2.1 k) v) (ltC h (v + 1) (S.2.1 k))).1.1) (β2 := (hvF (β k) 0 (ltC h (foF S.2.1 k) v) (ltC h (v + 1) (S.2.1 k))).2.1) r1 hk hk2 (by omega) (fun j j0 j9 => ⟨lo_ins hk, rr_ins hk, ?_, rfl⟩) ⟨lo, hl, hr⟩ ⟨n3, n1, n2⟩ ?_ ?_ ?_ ?_ ?_ ?_ ?_
  · show insR S.2.2.1 k _ _ j - insR β k _ _ j = _
    rcases (by omega : j < k ∨ j = k ∨ j = k + 1 ∨ k + 1 < j) with a | a | a | a
    · rw [insR_lt a, insR_lt a, insR_lt a]
    · rw [a, insR_k, insR_k, insR_k]
    · rw [insR_k1 a, insR_k1 a, insR_k1 a]
    · rw [insR_gt a, insR_gt a, insR_gt a]
  all_goals
    generalize ltC h (foF S.2.1 k) v = l at *
    generalize ltC h (v + 1) (S.2.1 k) = r at *
    generalize S.2.2.1 k = c at *
    generalize S.2.2.2 k = d at *
    generalize β k = e at *
    by_cases w1 : l = 0
    · unfold hvF
      simp only [if_pos w1]
      first
        | omega
        | (unfold abI; omega)
        | exact fun y => by omega
        | exact fun y => ⟨by omega, z1 y⟩
        | exact fun y => by have := q9 (by omega); exact ⟨by omega, z2 y⟩
        | exact fun y => by intro y2; omega
    · by_cases w2 : r = 0
      · unfold hvF
        simp only [if_neg w1, if_pos w2]
        first
          | omega
          | (unfold abI; omega)
          | exact fun y => by omega
          | exact fun y => ⟨by omega, z2 y⟩
          | exact fun y => by intro y2; omega
      · have sh := sh_two (c := c) (β := e) (l := l) (r := r) (by omega) (by omega)
        have ab := ab_two (β := e) hl hr (by omega)
        unfold hvF
        simp only [if_neg w1, if_neg w2]
        first
          | omega
          | exact ab
          | exact sh.1
          | exact sh.2.1
          | exact fun y => absurd y w1
          | exact fun y => absurd y w2
          | (intro y y2; rw [show c * l / (l + r) - e * l / (l + r) + (c - c * l / (l + r) - (e - e * l / (l + r))) = c - e by omega]; exact sh.2.2)
theorem jK_fuse {h hc tr : Int → Int} {S : SV} {va t q k : Int} (hE : svE S) (ht : ∀ j : Int, 0 ≤ j → j < 40 → 0 ≤ tr j) (hR : ∀ j : Int, 0 ≤ j → j < (fuseV S k).1 → rrS h tr (fuseV S k).2.1 j ≤ 10000) (hk : 0 ≤ k) (hk2 : k + 1 < S.1) (h1 : jK h hc tr S va t q) : jK h hc tr (fuseV S k) va t q := by
  obtain ⟨β, βh, T, K, V0, B1, B2, T1, T2, K1, K2, E1, E2, cc, r1, r2, c11, c12, c13, c14⟩ := h1
  have f0 := foF_ge hE hk (by omega)
  have f1 := foF_ge hE (k := k + 1) (by omega) hk2
  have f2 : foF S.2.1 (k + 1) = S.2.1 k + 1 := by unfold foF; rw [if_pos (by omega), show k + 1 - 1 = k by omega]
  have lod : ∀ j : Int, loN h (delR S.2.1 k (S.2.1 (k + 1))) j = delR (loN h S.2.1) k (loN h S.2.1 k + loN h S.2.1 (k + 1)) j := by
    intro j
    have fd : foF (delR S.2.1 k (S.2.1 (k + 1))) j = if j ≤ k then foF S.2.1 j else foF S.2.1 (j + 1) := by
      unfold foF
      rcases (by omega : j ≤ 0 ∨ (0 < j ∧ j ≤ k) ∨ (j = k + 1) ∨ k + 1 < j) with a | a | a | a
      · rw [if_neg (by omega), if_pos (by omega), if_neg (by omega)]
      · rw [if_pos (by omega), if_pos (by omega), if_pos (by omega), delR_lt (by omega)]
      · rw [if_pos (by omega), if_neg (by omega), if_pos (by omega), show j - 1 = k by omega, delR_k, show j + 1 - 1 = k + 1 by omega]
      · rw [if_pos (by omega), if_neg (by omega), if_pos (by omega), delR_gt (by omega), show j - 1 + 1 = j + 1 - 1 by omega]
    unfold loN
    rw [fd]
    rcases (by omega : j < k ∨ j = k ∨ k < j) with a | a | a
    · rw [if_pos (by omega), delR_lt a, delR_lt a]
    · rw [if_pos (by omega), a, delR_k, delR_k, f2]
      exact (lt_cut f0.1 f0.2.1 (by omega) f1.2.2).symm
    · rw [if_neg (by omega), delR_gt a, delR_gt a]
  have rrd : ∀ j : Int, rrS h tr (delR S.2.1 k (S.2.1 (k + 1))) j = delR (rrS h tr S.2.1) k (rrS h tr S.2.1 k + rrS h tr S.2.1 (k + 1)) j := fun j => by
    rw [rrS_del hE hk hk2]
    rfl
  refine ⟨delR β k (β k + β (k + 1)), βh, T, K, V0, B1, B2, T1, T2, K1, K2, E1, E2, cc, ?_, r2, c11, c12, c13, c14⟩
  have hL : loN h S.2.1 k + loN h S.2.1 (k + 1) ≤ 40 := by
    have := (lod k)
    rw [delR_k] at this
    rw [← this]
    exact (ltC_bd _ _ _).2
  have hR9 : rrS h tr S.2.1 k + rrS h tr S.2.1 (k + 1) ≤ 10000 := by
    have := rrd k
    rw [delR_k] at this
    rw [← this]
    exact hR k hk (by show k < S.1 - 1; omega)
  refine jR_fuse r1 hk hk2 hL hR9 (fun j j0 j9 => ⟨lod j, rrd j, ?_, rfl⟩)
  show delR S.2.2.1 k _ j - delR β k _ j = _
  rcases (by omega : j < k ∨ j = k ∨ k < j) with a | a | a
  · rw [delR_lt a, delR_lt a, delR_lt a]
  · rw [a, delR_k, delR_k, delR_k]; omega
  · rw [delR_gt a, delR_gt a, delR_gt a]
theorem jK_mono {h hc tr : Int → Int} {S : SV} {va t q q' : Int} (hq : q ≤ q') (h1 : jK h hc tr S va t q) : jK h hc tr S va t q' := by
  obtain ⟨β, βh, T, K, V0, B1, B2, T1, T2, K1, K2, E1, E2, cc, r1, r2, c11, c12, c13, c14⟩ := h1
  exact ⟨β, βh, T, K, V0, B1, B2, T1, T2, K1, K2, E1, E2, ⟨cc.1, cc.2.1, cc.2.2.1, cc.2.2.2.1, cc.2.2.2.2.1, cc.2.2.2.2.2.1, by have := cc.2.2.2.2.2.2.1; omega, cc.2.2.2.2.2.2.2⟩, r1, r2, c11, c12, c13, by omega⟩
