theorem fw_greedy {lv : Int → Int} {L : Int} (hL : 0 ≤ L) (hl : ∀ j : Int, 0 ≤ j → j < 40 → -1 ≤ lv j ∧ lv j ≤ 10000) : ∀ (n : Nat) (v s m : Int), v = 40 - n → 0 ≤ s → s ≤ v → s < 40 → (s < v → erI lv s (v - 1) ≤ L) →
    m ≤ (itrR (fwF lv L) v 40 (m, itrR (peF lv) s v pe0)).1 ∧ ptP lv L ((itrR (fwF lv L) v 40 (m, itrR (peF lv) s v pe0)).1 - m + 1).toNat s ∧ ∀ k : Nat, ptP lv L k s → (itrR (fwF lv L) v 40 (m, itrR (peF lv) s v pe0)).1 ≤ m + k - 1 := by
  intro n
  induction n with
  | zero =>
    intro v s m hv h0 h1 h2 h3
    rw [itrR_nil (by omega)]
    refine ⟨Int.le_refl _, ?_, fun k hk => ?_⟩
    · rw [show (m - m + 1).toNat = 0 + 1 by omega]
      exact ⟨39, by omega, by omega, by have := h3 (by omega); rw [show v - 1 = 39 by omega] at this; exact this, show (39 : Int) + 1 = 40 by decide⟩
    · cases k with
      | zero => have : s = 40 := hk; omega
      | succ k => dsimp only; omega
  | succ n ih =>
    intro v s m hv h0 h1 h2 h3
    rw [itrR_step (f := fwF lv L) (by omega)]
    have e : peF lv v (itrR (peF lv) s v pe0) = itrR (peF lv) s (v + 1) pe0 := (itrR_right h1).symm
    have e2 : plD (itrR (peF lv) s (v + 1) pe0) = erI lv s v := rfl
    by_cases q : erI lv s v ≤ L
    · have f : fwF lv L v (m, itrR (peF lv) s v pe0) = (m, itrR (peF lv) s (v + 1) pe0) := by unfold fwF; dsimp only; rw [e, if_pos (by rw [e2]; exact q)]
      rw [f]
      exact ih (v + 1) s m (by omega) h0 (by omega) h2 (fun _ => by rw [show v + 1 - 1 = v by omega]; exact q)
    · have f : fwF lv L v (m, itrR (peF lv) s v pe0) = (m + 1, itrR (peF lv) v (v + 1) pe0) := by
        unfold fwF; dsimp only; rw [e, if_neg (by rw [e2]; exact q), itrR_step (by omega), itrR_nil (by omega)]
      have one := erI_one lv v (hl v (by omega) (by omega))
      have hsv : s < v := by
        rcases Int.lt_or_le s v with z | z
        · exact z
        · rw [show s = v by omega] at q; omega
      rw [f]
      obtain ⟨g1, g2, g3⟩ := ih (v + 1) v (m + 1) (by omega) (by omega) (by omega) (by omega) (fun _ => by rw [show v + 1 - 1 = v by omega]; omega)
      generalize (itrR (fwF lv L) (v + 1) 40 (m + 1, itrR (peF lv) v (v + 1) pe0)).1 = N at *
      refine ⟨by omega, ?_, fun k hk => ?_⟩
      · rw [show (N - m + 1).toNat = (N - (m + 1) + 1).toNat + 1 by omega]
        exact ⟨v - 1, by omega, by omega, h3 hsv, by rw [show v - 1 + 1 = v by omega]; exact g2⟩
      · cases k with
        | zero => have : s = 40 := hk; omega
        | succ k =>
          obtain ⟨t, k1, k2, k3, k4⟩ := hk
          have htv : t < v := by
            rcases Int.lt_or_le t v with z | z
            · exact z
            · have := erI_mono (lv := lv) (a := s) (t - v).toNat v t (by omega) h1; omega
          obtain ⟨r, r1, r2⟩ := ptP_drop hl k (t + 1) v (by omega) (by omega) (by omega) k4
          have := g3 r r2
          omega
