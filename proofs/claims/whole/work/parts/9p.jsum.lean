/-! ===== shares summed over values ===== -/
theorem vs_sum {h F : Int → Int} {S : SV} (hE : svE S) : ∀ m : Nat, (m : Int) ≤ S.1 → smR (fun k => loN h S.2.1 k * F k) 0 m = smR (fun v => if h v = 0 then F (spOf S.2.1 S.1 v) else 0) 0 (foF S.2.1 m) := by
  intro m
  induction m with
  | zero => intro _; rw [smR_nil (by omega), smR_nil (by unfold foF; rw [if_neg (by omega)]; omega)]
  | succ m ih =>
    intro hm
    have f := foF_ge hE (k := m) (by omega) (by omega)
    have e : foF S.2.1 ((m + 1 : Nat) : Int) = S.2.1 m + 1 := by unfold foF; rw [if_pos (by omega), show ((m + 1 : Nat) : Int) - 1 = m by omega]
    rw [e, show ((m + 1 : Nat) : Int) = (m : Int) + 1 by omega, smR_last (by omega), ih (by omega), smR_split (a := 0) (b := foF S.2.1 m) (c := S.2.1 m + 1) (by omega) (by omega)]
    congr 1
    rw [smR_congr (f := fun v => if h v = 0 then F (spOf S.2.1 S.1 v) else 0) (g := fun v => F m * (if h v = 0 then 1 else 0)) (a := foF S.2.1 m) (fun v v0 v1 => ?_), smR_mulc]
    · unfold loN ltC
      rw [show max (foF S.2.1 m) 0 = foF S.2.1 m by omega, show min (S.2.1 m + 1) 40 = S.2.1 m + 1 by omega]
      exact Int.mul_comm _ _
    · rw [spOf_at hE (k := m) (by omega) (by omega) v0 (by omega)]
      split
      · exact (Int.mul_one _).symm
      · exact (Int.mul_zero _).symm
theorem vs_all {h F : Int → Int} {S : SV} (hE : svE S) : smR (fun v => if h v = 0 then F (spOf S.2.1 S.1 v) else 0) 0 40 = smR (fun k => loN h S.2.1 k * F k) 0 S.1 := by
  have n1 := hE.1
  have r := vs_sum (h := h) (F := F) hE S.1.toNat (by omega)
  rw [show ((S.1.toNat : Nat) : Int) = S.1 by omega] at r
  rw [r]
  congr 1
  unfold foF
  rw [if_pos (by omega), hE.2.2.2.2]
  rfl
/-! sums of fractions over a common bottom -/
theorem gc_dvd {t d DD N : Int} (hg : gcI t d = 1) (h : t * DD = N * d) : d ∣ DD := by
  have g : Nat.Coprime t.natAbs d.natAbs := by
    unfold gcI at hg
    show Nat.gcd _ _ = 1
    omega
  have e : t.natAbs * DD.natAbs = N.natAbs * d.natAbs := by rw [← Int.natAbs_mul, h, Int.natAbs_mul]
  have q : d.natAbs ∣ t.natAbs * DD.natAbs := by rw [e]; exact Nat.dvd_mul_left _ _
  exact Int.natAbs_dvd_natAbs.mp (g.symm.dvd_of_dvd_mul_left q)
theorem aiD_in {d x y DD : Int} (hd : 0 < d) (hy : 0 < y) (hDD : 0 < DD) (h1 : d ∣ DD) (h2 : frD x y ∣ DD) : aiD d x y ≤ DD := by
  have f := frD_pos (a := x) hy
  unfold aiD
  generalize frD x y = z at *
  have g := gcI_pos (a := d) f
  obtain ⟨p, hp⟩ := gcI_dr d z
  have e2 : z / gcI d z = p := by conv => lhs; arg 1; rw [hp]
                                  exact Int.mul_ediv_cancel_left _ (by omega)
  rw [e2]
  have n1 : Nat.lcm d.natAbs z.natAbs ∣ DD.natAbs := Nat.lcm_dvd (Int.natAbs_dvd_natAbs.mpr h1) (Int.natAbs_dvd_natAbs.mpr h2)
  have n2 := Nat.le_of_dvd (by omega) n1
  have p0 : 0 < p := by
    rcases Int.lt_or_le 0 p with q | q
    · exact q
    · have := Int.mul_nonneg_of_nonpos_of_nonpos (a := -(gcI d z)) (b := p) (by omega) q
      rw [Int.neg_mul, ← hp] at this
      omega
  have n3 : Nat.gcd d.natAbs z.natAbs * Nat.lcm d.natAbs z.natAbs = d.natAbs * z.natAbs := Nat.gcd_mul_lcm _ _
  have gn : Nat.gcd d.natAbs z.natAbs = (gcI d z).toNat := by unfold gcI; omega
  have n4 : ((Nat.lcm d.natAbs z.natAbs : Nat) : Int) = d * p := by
    refine Int.eq_of_mul_eq_mul_left (a := gcI d z) (by omega) ?_
    have c := congrArg (fun n : Nat => (n : Int)) n3
    simp only [Int.natCast_mul] at c
    rw [show ((Nat.gcd d.natAbs z.natAbs : Nat) : Int) = gcI d z by rw [gn]; omega, show ((d.natAbs : Nat) : Int) = d by omega, show ((z.natAbs : Nat) : Int) = z by omega] at c
    rw [c]
    conv => lhs; arg 2; rw [hp]
    grind
  omega
theorem jn_in {T B N : Int → Int} {DD M : Int} (hDD : 0 < DD) {w t d : Int} (hy : 0 < B w) (hd : 0 < d) (hg : gcI t d = 1) (h0 : 0 ≤ w) (hX : N w * B w = T w * DD) (ht : t * DD = smR N 0 w * d) (hM : -M ≤ smR N 0 (w + 1) ∧ smR N 0 (w + 1) ≤ M) : (-M ≤ aiN t d (T w) (B w) ∧ aiN t d (T w) (B w) ≤ M) ∧ 0 < aiD d (T w) (B w) ∧ aiD d (T w) (B w) ≤ DD ∧ aiN t d (T w) (B w) * DD = smR N 0 (w + 1) * aiD d (T w) (B w) := by
  have v := ai_val (t := t) (x := T w) hd hy
  have ad := aiD_le (x := T w) hd hy
  have sl : smR N 0 (w + 1) = smR N 0 w + N w := smR_last h0
  have p : 0 < d * B w := Int.mul_pos hd hy
  have key : aiN t d (T w) (B w) * DD = smR N 0 (w + 1) * aiD d (T w) (B w) := by
    refine Int.eq_of_mul_eq_mul_right (a := d * B w) (by omega) ?_
    rw [sl]
    grind
  have c1 := gc_dvd hg ht
  have fx : frN (T w) (B w) * DD = N w * frD (T w) (B w) := by
    have e1 := frN_mul (T w) (B w)
    have e2 := frD_mul (T w) (B w)
    have g := gcI_pos (a := T w) hy
    refine Int.eq_of_mul_eq_mul_left (a := gcI (T w) (B w)) (by omega) ?_
    grind
  have c2 := gc_dvd (fr_cop (a := T w) hy) fx
  have le := aiD_in (x := T w) hd hy hDD c1 c2
  refine ⟨?_, ad.1, le, key⟩
  have M0 : 0 ≤ M := by omega
  have m1 := Int.mul_le_mul_of_nonneg_right hM.1 (c := aiD d (T w) (B w)) (by omega)
  have m2 := Int.mul_le_mul_of_nonneg_right hM.2 (c := aiD d (T w) (B w)) (by omega)
  have m3 := Int.mul_le_mul_of_nonneg_left le M0
  rw [Int.neg_mul] at m1
  constructor
  · refine Int.le_of_mul_le_mul_right (a := DD) ?_ hDD
    rw [Int.neg_mul]
    omega
  · refine Int.le_of_mul_le_mul_right (a := DD) ?_ hDD
    omega
