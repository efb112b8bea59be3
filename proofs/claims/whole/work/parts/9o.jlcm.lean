/-! ===== the common bottom of a sketch's shares ===== -/
def lcD (L : Int → Int) (k : Int) (d : Nat) : Nat := if L k = 0 then d else Nat.lcm d (L k).toNat
def lcM (L : Int → Int) (m : Int) : Nat := itrR (lcD L) 0 m 1
theorem lc_run {L : Int → Int} {n : Int} (hL : ∀ k : Int, 0 ≤ k → k < n → 0 ≤ L k) (hs : ∀ m : Int, 0 ≤ m → m ≤ n → smR L 0 m ≤ 40) : ∀ m : Nat, (m : Int) ≤ n → lcP (lcM L m) (smR L 0 m).toNat = true ∧ ∀ k : Int, 0 ≤ k → k < m → 0 < L k → ∃ l s : Nat, lcP l s = true ∧ lcM L m = Nat.lcm l (L k).toNat ∧ (s : Int) + L k ≤ smR L 0 m := by
  intro m
  induction m with
  | zero =>
    intro _
    refine ⟨?_, fun k k0 k1 _ => by omega⟩
    unfold lcM
    rw [itrR_nil (by omega), smR_nil (by omega)]
    exact lcP_1
  | succ m ih =>
    intro hm
    obtain ⟨g1, g2⟩ := ih (by omega)
    have hl := hL m (by omega) (by omega)
    have sl : smR L 0 ((m : Int) + 1) = smR L 0 m + L m := smR_last (by omega)
    have s0 : 0 ≤ smR L 0 m := smR_nn fun v v0 v1 => hL v v0 (by omega)
    have s1 := hs ((m : Int) + 1) (by omega) (by omega)
    have step : lcM L ((m : Int) + 1) = lcD L m (lcM L m) := by unfold lcM; exact itrR_right (by omega)
    rw [show ((m + 1 : Nat) : Int) = (m : Int) + 1 by omega, step]
    unfold lcD
    by_cases z : L m = 0
    · rw [if_pos z, sl, z, Int.add_zero]
      refine ⟨g1, fun k k0 k1 kp => ?_⟩
      by_cases y : k = m
      · rw [y] at kp; omega
      · exact g2 k k0 (by omega) kp
    · rw [if_neg z]
      refine ⟨?_, fun k k0 k1 kp => ?_⟩
      · have w := (lc_go g1 (L := (L m).toNat) (by omega) (by omega)).1
        exact lcP_mono (by omega) w
      · by_cases y : k = m
        · subst y
          exact ⟨lcM L m, (smR L 0 m).toNat, g1, rfl, by omega⟩
        · obtain ⟨l, s, e1, e2, e3⟩ := g2 k k0 (by omega) kp
          refine ⟨Nat.lcm l (L m).toNat, s + (L m).toNat, (lc_go e1 (L := (L m).toNat) (by omega) (by omega)).1, ?_, by omega⟩
          rw [e2, Nat.lcm_assoc, Nat.lcm_comm (L k).toNat, ← Nat.lcm_assoc]
/-- every part divides it, and it is small beside small parts -/
theorem lc_fin {L : Int → Int} {n : Int} (hn : 0 ≤ n) (hL : ∀ k : Int, 0 ≤ k → k < n → 0 ≤ L k) (hs : ∀ m : Int, 0 ≤ m → m ≤ n → smR L 0 m ≤ 40) : 1 ≤ lcM L n ∧ lcM L n ≤ 27720 ∧ (smR L 0 n ≤ 39 → lcM L n ≤ 16380) ∧ ∀ k : Int, 0 ≤ k → k < n → 0 < L k → (L k ∣ (lcM L n : Int)) ∧ lcF (L k).toNat (lcM L n) = true := by
  obtain ⟨g1, g2⟩ := lc_run hL hs n.toNat (by omega)
  rw [show ((n.toNat : Nat) : Int) = n by omega] at g1 g2
  have pos : ∀ m : Nat, (m : Int) ≤ n → 1 ≤ lcM L m := by
    intro m
    induction m with
    | zero => intro _; unfold lcM; rw [itrR_nil (by omega)]; exact Nat.le_refl _
    | succ m ih =>
      intro hm
      have step : lcM L ((m : Int) + 1) = lcD L m (lcM L m) := by unfold lcM; exact itrR_right (by omega)
      rw [show ((m + 1 : Nat) : Int) = (m : Int) + 1 by omega, step]
      have ih9 := ih (by omega)
      have l9 := hL m (by omega) (by omega)
      unfold lcD
      split
      · exact ih9
      · next z => exact Nat.lcm_pos (by omega) (by omega)
  have p := pos n.toNat (by omega)
  rw [show ((n.toNat : Nat) : Int) = n by omega] at p
  refine ⟨p, lcP_pos g1, fun q => lc_39 g1 (by omega), fun k k0 k1 kp => ?_⟩
  obtain ⟨l, s, e1, e2, e3⟩ := g2 k k0 k1 kp
  have sn := hs n hn (Int.le_refl _)
  have w := (lc_go e1 (L := (L k).toNat) (by omega) (by omega)).2
  rw [← e2] at w
  refine ⟨?_, w⟩
  have d : (L k).toNat ∣ lcM L n := by rw [e2]; exact Nat.dvd_lcm_right _ _
  have d2 := Int.ofNat_dvd.mpr d
  rw [show (((L k).toNat : Nat) : Int) = L k by omega] at d2
  exact d2
