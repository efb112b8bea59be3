/-! ===== shares: sums out of JOIN's invariant ===== -/
theorem jW4 {h hc tr : Int → Int} {S : SV} {va t q D : Int} (hE : svE S) (hD : 0 ≤ D) (hd : ∀ k : Int, 0 ≤ k → k < S.1 → 0 < loN h S.2.1 k → loN h S.2.1 k ∣ D) (hva : smR tr 0 40 = va) (hva0 : 0 ≤ va) (hva2 : va ≤ 10000) (hJ : jK h hc tr S va t q) : ∃ (β βh : Int → Int) (T K : Int), (0 ≤ T ∧ 0 ≤ K ∧ t = T + K ∧ 2 * T ≤ t + 10000 ∧ 2 * K ≤ t + 10000 ∧ 0 ≤ q) ∧ smR (fun v => abI (wv h S D β βh v)) 0 40 ≤ D * 100000 ∧ smR (fun v => abI (wv h S D (fun k => S.2.2.1 k - β k) (fun v => hc v - βh v) v)) 0 40 ≤ D * t ∧ 8 * smR (fun v => wv h S D (fun k => S.2.2.1 k - β k) (fun v => hc v - βh v) v * wv h S D (fun k => S.2.2.1 k - β k) (fun v => hc v - βh v) v) 0 40 ≤ D * D * (100000000 * (81 + 9 * q)) ∧ (∀ k : Int, 0 ≤ k → k < S.1 → abI (β k) ≤ 100000 ∧ abI (S.2.2.1 k - β k) ≤ max T K ∧ (loN h S.2.1 k = 1 → 2 * abI (S.2.2.1 k - β k) ≤ max T K + 10001)) ∧ ∀ v : Int, 0 ≤ v → v < 40 → h v ≠ 0 → abI (βh v) ≤ 100000 ∧ 2 * abI (hc v - βh v) ≤ max T K + 10001 := by
  obtain ⟨β, βh, T, K, V0, B1, B2, T1, T2, K1, K2, E1, E2, ⟨c0, c1, c2, c3, c4, c5, c6, c7, c8, c9, c10⟩, r1, r2, c11, c12, c13, c14⟩ := hJ
  have b1 := r1.1
  have b2 := r2.1
  have a1 := jR_abs r1
  have a2 := jR_abs r2
  have s1 := jR_sq r1
  have s2 := jR_sq r2
  have sumr : smR (rrS h tr S.2.1) 0 S.1 + smR (hX h tr) 0 40 = va := by
    rw [rr_all hE, ← smR_add (f := gtF h tr) (g := hX h tr), ← hva]
    refine smR_congr fun v _ _ => ?_
    unfold gtF hX
    split <;> omega
  have nn1 : 0 ≤ smR (fun j => abI (β j)) 0 S.1 := smR_nn fun v _ _ => by unfold abI; omega
  have nn2 : 0 ≤ smR (fun j => abI (hX h βh j)) 0 40 := smR_nn fun v _ _ => by unfold abI; omega
  refine ⟨β, βh, T, K, ⟨c1, c2, c0, by omega, by omega, c6⟩, ?_, ?_, ?_, fun k k0 k1 => ?_, fun v v0 v1 hv => ?_⟩
  · exact Int.le_trans (wv_abs hE hD hd) (Int.mul_le_mul_of_nonneg_left (by omega) hD)
  · exact Int.le_trans (wv_abs hE hD hd) (Int.mul_le_mul_of_nonneg_left (by omega) hD)
  · have w := wv_sq (h := h) (f := fun k => S.2.2.1 k - β k) (g := fun v => hc v - βh v) hE hd
    have DD : 0 ≤ D * D := Int.mul_nonneg hD hD
    obtain ⟨X, hX1⟩ : ∃ X : Int, X = smR (fun v => wv h S D (fun k => S.2.2.1 k - β k) (fun v => hc v - βh v) v * wv h S D (fun k => S.2.2.1 k - β k) (fun v => hc v - βh v) v) 0 40 := ⟨_, rfl⟩
    rw [← hX1] at w ⊢
    obtain ⟨Y1, hY1⟩ : ∃ Y : Int, Y = smR (fun k => wl (loN h S.2.1 k) * ((S.2.2.1 k - β k) * (S.2.2.1 k - β k))) 0 S.1 := ⟨_, rfl⟩
    obtain ⟨Y2, hY2⟩ : ∃ Y : Int, Y = smR (fun v => wl (hL h v) * (hX h (fun v => hc v - βh v) v * hX h (fun v => hc v - βh v) v)) 0 40 := ⟨_, rfl⟩
    have w' : 5342931457063200 * X ≤ D * D * (Y1 + Y2) := by rw [hY1, hY2]; exact w
    have s1' : 8 * Y1 ≤ 9 * E1 + 72 * (5342931457063200 * 10000 * smR (rrS h tr S.2.1) 0 S.1) := by rw [hY1]; exact s1
    have s2' : 8 * Y2 ≤ 9 * E2 + 72 * (5342931457063200 * 10000 * smR (hX h tr) 0 40) := by rw [hY2]; exact s2
    have y : 8 * (Y1 + Y2) ≤ 5342931457063200 * (100000000 * (81 + 9 * q)) := by omega
    have z := Int.mul_le_mul_of_nonneg_left y DD
    refine Int.le_of_mul_le_mul_left (a := 5342931457063200) ?_ (by decide)
    have e1 : D * D * (8 * (Y1 + Y2)) = 8 * (D * D * (Y1 + Y2)) := by grind
    have e2 : D * D * (5342931457063200 * (100000000 * (81 + 9 * q))) = 5342931457063200 * (D * D * (100000000 * (81 + 9 * q))) := by grind
    omega
  · have q1 := smR_one (f := fun j => abI (β j)) (a := 0) (b := S.1) (fun v _ _ => by unfold abI; omega) k0 k1
    have q2 := smR_one (f := fun j => max (S.2.2.1 j - β j) 0) (a := 0) (b := S.1) (fun v _ _ => by omega) k0 k1
    have q3 := smR_one (f := fun j => max (-(S.2.2.1 j - β j)) 0) (a := 0) (b := S.1) (fun v _ _ => by omega) k0 k1
    have p2 : smR (fun j => max (S.2.2.1 j - β j) 0) 0 S.1 ≤ T1 := r1.2.1
    have p3 : smR (fun j => max (-(S.2.2.1 j - β j)) 0) 0 S.1 ≤ K1 := r1.2.2.1
    have j4 := r1.2.2.2.1 k k0 k1
    have j5 : loN h S.2.1 k = 1 → 2 * (S.2.2.1 k - β k) ≤ T + 1 + rrS h tr S.2.1 k ∧ -(2 * (S.2.2.1 k - β k)) ≤ K + 1 + 10000 - rrS h tr S.2.1 k := j4.2.2.1
    have j6 : 0 ≤ rrS h tr S.2.1 k ∧ rrS h tr S.2.1 k ≤ 10000 := j4.2.1
    refine ⟨by omega, by unfold abI; omega, fun z => ?_⟩
    have := j5 z
    unfold abI
    omega
  · have q1 := smR_one (f := fun j => abI (hX h βh j)) (a := 0) (b := 40) (fun v _ _ => by unfold abI; omega) v0 v1
    have j4 := r2.2.2.2.1 v v0 v1
    unfold hX hL at j4
    unfold hX at q1
    rw [if_neg hv] at q1
    rw [if_neg hv, if_neg hv, if_neg hv] at j4
    have j5 : 2 * (hc v - βh v) ≤ T + 1 + tr v ∧ -(2 * (hc v - βh v)) ≤ K + 1 + 10000 - tr v := j4.2.2.1 rfl
    have j6 : 0 ≤ tr v ∧ tr v ≤ 10000 := j4.2.1
    have nz : smR (fun j => abI (hX h βh j)) 0 40 = smR (fun j => abI (if h j = 0 then 0 else βh j)) 0 40 := rfl
    refine ⟨by omega, ?_⟩
    unfold abI
    omega
