/-! ===== a step: both sides answer the same and all holds again ===== -/
theorem shB_in {h : Int → Int} {S : SV} (hE : svE S) {v : Int} (h0 : 0 ≤ v) (h1 : v < 40) : 1 ≤ shB h S.2.1 S.1 v ∧ shB h S.2.1 S.1 v ≤ 40 := by
  unfold shB
  split
  · next q =>
    obtain ⟨k0, k1, k2, k3⟩ := spOf_in hE (v := v) (by omega)
    have fk := spOf_foF hE h0 (by omega : v ≤ 39)
    have fg := foF_ge hE k0 k1
    have e : loN h S.2.1 (spOf S.2.1 S.1 v) = smR (fun v => if h v = 0 then 1 else 0) (max (foF S.2.1 (spOf S.2.1 S.1 v)) 0) (min (S.2.1 (spOf S.2.1 S.1 v) + 1) 40) := rfl
    have o := smR_one (f := fun v => if h v = 0 then (1 : Int) else 0) (a := max (foF S.2.1 (spOf S.2.1 S.1 v)) 0) (b := min (S.2.1 (spOf S.2.1 S.1 v) + 1) 40) (k := v) (fun w _ _ => by split <;> omega) (by omega) (by omega)
    rw [if_pos q] at o
    have b := ltC_bd h (foF S.2.1 (spOf S.2.1 S.1 v)) (S.2.1 (spOf S.2.1 S.1 v))
    unfold loN at e ⊢
    omega
  · omega
theorem Inv.shB {σ : Mem} {b : Nat} {n c v : Int} (h : Inv σ b n) (hc : 0 ≤ c ∧ c < 3) (hz : σ (b + 11) c ≠ 0) (h0 : 0 ≤ v) (h1 : v < 40) : 1 ≤ shB (shR (σ (b + 14)) (40 * c)) (shR (σ (b + 15)) (40 * c)) (σ (b + 11) c) v ∧ shB (shR (σ (b + 14)) (40 * c)) (shR (σ (b + 15)) (40 * c)) (σ (b + 11) c) v ≤ 40 := shB_in (S := moE σ b c) (h.svE hc hz) h0 h1
theorem Inv.mjB {σ : Mem} {b : Nat} {n : Int} (h : Inv σ b n) {i1 i2 : Int} (h1 : 0 ≤ i1 ∧ i1 < 3) (h2 : 0 ≤ i2 ∧ i2 < 3) (z1 : σ (b + 11) i1 ≠ 0) (z2 : σ (b + 11) i2 ≠ 0) : ∀ v : Int, 0 ≤ v → v < 40 → 0 < mjB σ b i1 i2 v := fun v v0 v1 => Int.mul_pos (by have := (h.shB h1 z1 v0 v1).1; omega) (by have := (h.shB h2 z2 v0 v1).1; omega)
set_option maxHeartbeats 1000000 in
theorem fm_status {u w : Mem} {b : Nat} {z9 : Int}   (hm : z9 = u b 0 ∧ w = u) : ∀ a : Nat, a < b → w a = u a := by
  obtain ⟨-, hw⟩ := hm
  rw [hw]
  exact fun _ _ => rfl
set_option maxHeartbeats 1000000 in
theorem fm_top {u w : Mem} {b : Nat} {z9 : Int}   (hm : z9 = u b 100001 ∧ w = u) : ∀ a : Nat, a < b → w a = u a := by
  obtain ⟨-, hw⟩ := hm
  rw [hw]
  exact fun _ _ => rfl
set_option maxHeartbeats 1000000 in
theorem fm_bottom {u w : Mem} {b : Nat} {z9 : Int}   (hm : z9 = u b 100002 ∧ w = u) : ∀ a : Nat, a < b → w a = u a := by
  obtain ⟨-, hw⟩ := hm
  rw [hw]
  exact fun _ _ => rfl
set_option maxHeartbeats 1000000 in
theorem fm_truly {u w : Mem} {b : Nat} {z9 : Int} {i1 x1 : Int}  (hm : (if ¬ ((0 ≤ i1 ∧ i1 < 3) ∧ (-1 ≤ x1 ∧ x1 ≤ 39)) then (z9 = -1 ∧ w = sput u b 0 1) else (z9 = (if x1 = -1 then u (b + 5) i1 else u (b + 4) (40 * i1 + x1)) ∧ w = sput u b 0 0))) : ∀ a : Nat, a < b → w a = u a := by
  by_cases c1 : ¬ ((0 ≤ i1 ∧ i1 < 3) ∧ (-1 ≤ x1 ∧ x1 ≤ 39))
  · rw [if_pos c1] at hm
    obtain ⟨-, hw⟩ := hm
    rw [hw]
    exact fun a q => by rw [sput_r (by omega)]
  · rw [if_neg c1] at hm
    obtain ⟨-, hw⟩ := hm
    rw [hw]
    exact fun a q => by rw [sput_r (by omega)]
set_option maxHeartbeats 1000000 in
theorem fm_rows {u w : Mem} {b : Nat} {z9 : Int} {i1 w1 : Int}  (hm : (if ¬ ((0 ≤ i1 ∧ i1 < 3) ∧ (0 ≤ w1 ∧ w1 ≤ 2)) then (z9 = -1 ∧ w = sput u b 0 1) else (if w1 = 0 then (z9 = u (b + 6) i1 ∧ w = sput u b 0 0) else (if w1 = 1 then (z9 = u (b + 6) i1 + u (b + 5) i1 ∧ w = sput u b 0 0) else (z9 = smR (fun v => if 0 < shR (u (b + 4)) (40 * i1) v then 1 else 0) 0 40 ∧ w = sput u b 0 0))))) : ∀ a : Nat, a < b → w a = u a := by
  by_cases c1 : ¬ ((0 ≤ i1 ∧ i1 < 3) ∧ (0 ≤ w1 ∧ w1 ≤ 2))
  · rw [if_pos c1] at hm
    obtain ⟨-, hw⟩ := hm
    rw [hw]
    exact fun a q => by rw [sput_r (by omega)]
  · rw [if_neg c1] at hm
    by_cases c2 : w1 = 0
    · rw [if_pos c2] at hm
      obtain ⟨-, hw⟩ := hm
      rw [hw]
      exact fun a q => by rw [sput_r (by omega)]
    · rw [if_neg c2] at hm
      by_cases c3 : w1 = 1
      · rw [if_pos c3] at hm
        obtain ⟨-, hw⟩ := hm
        rw [hw]
        exact fun a q => by rw [sput_r (by omega)]
      · rw [if_neg c3] at hm
        obtain ⟨-, hw⟩ := hm
        rw [hw]
        exact fun a q => by rw [sput_r (by omega)]
set_option maxHeartbeats 1000000 in
theorem fm_read {u w : Mem} {b : Nat} {z9 : Int} {i1 p1 : Int}  (hm : (if ¬ (0 ≤ i1 ∧ i1 < 4) then (z9 = -1 ∧ w = sput u b 0 1) else (if u (b + 2) i1 = -1 then (z9 = -1 ∧ w = sput u b 0 2) else (if ¬ (0 ≤ p1 ∧ p1 < u (b + 2) i1) then (z9 = -1 ∧ w = sput u b 0 3) else (z9 = u (b + 3) (100000 + (100 * i1 + p1)) ∧ w = sput u b 0 0))))) : ∀ a : Nat, a < b → w a = u a := by
  by_cases c1 : ¬ (0 ≤ i1 ∧ i1 < 4)
  · rw [if_pos c1] at hm
    obtain ⟨-, hw⟩ := hm
    rw [hw]
    exact fun a q => by rw [sput_r (by omega)]
  · rw [if_neg c1] at hm
    by_cases c2 : u (b + 2) i1 = -1
    · rw [if_pos c2] at hm
      obtain ⟨-, hw⟩ := hm
      rw [hw]
      exact fun a q => by rw [sput_r (by omega)]
    · rw [if_neg c2] at hm
      by_cases c3 : ¬ (0 ≤ p1 ∧ p1 < u (b + 2) i1)
      · rw [if_pos c3] at hm
        obtain ⟨-, hw⟩ := hm
        rw [hw]
        exact fun a q => by rw [sput_r (by omega)]
      · rw [if_neg c3] at hm
        obtain ⟨-, hw⟩ := hm
        rw [hw]
        exact fun a q => by rw [sput_r (by omega)]
set_option maxHeartbeats 1000000 in
theorem fm_sketch {u w : Mem} {b : Nat} {z9 : Int} {i1 w1 : Int}  (hm : (if ¬ ((0 ≤ i1 ∧ i1 < 3) ∧ (0 ≤ w1 ∧ w1 ≤ 3)) then (z9 = -1 ∧ w = sput u b 0 1) else (if (u (b + 11) i1) = 0 then (z9 = -1 ∧ w = sput u b 0 5) else (if w1 = 0 then (z9 = (u (b + 11) i1) ∧ w = sput u b 0 0) else (if w1 = 1 then (z9 = 40 - ltC (shR (u (b + 14)) (40 * i1)) 0 39 ∧ w = sput u b 0 0) else (if w1 = 2 then (z9 = smR (shR (u (b + 17)) (40 * i1)) 0 (u (b + 11) i1) ∧ w = sput u b 0 0) else (z9 = smR (shR (u (b + 16)) (40 * i1)) 0 (u (b + 11) i1) ∧ w = sput u b 0 0))))))) : ∀ a : Nat, a < b → w a = u a := by
  by_cases c1 : ¬ ((0 ≤ i1 ∧ i1 < 3) ∧ (0 ≤ w1 ∧ w1 ≤ 3))
  · rw [if_pos c1] at hm
    obtain ⟨-, hw⟩ := hm
    rw [hw]
    exact fun a q => by rw [sput_r (by omega)]
  · rw [if_neg c1] at hm
    by_cases c2 : (u (b + 11) i1) = 0
    · rw [if_pos c2] at hm
      obtain ⟨-, hw⟩ := hm
      rw [hw]
      exact fun a q => by rw [sput_r (by omega)]
    · rw [if_neg c2] at hm
      by_cases c3 : w1 = 0
      · rw [if_pos c3] at hm
        obtain ⟨-, hw⟩ := hm
        rw [hw]
        exact fun a q => by rw [sput_r (by omega)]
      · rw [if_neg c3] at hm
        by_cases c4 : w1 = 1
        · rw [if_pos c4] at hm
          obtain ⟨-, hw⟩ := hm
          rw [hw]
          exact fun a q => by rw [sput_r (by omega)]
        · rw [if_neg c4] at hm
          by_cases c5 : w1 = 2
          · rw [if_pos c5] at hm
            obtain ⟨-, hw⟩ := hm
            rw [hw]
            exact fun a q => by rw [sput_r (by omega)]
          · rw [if_neg c5] at hm
            obtain ⟨-, hw⟩ := hm
            rw [hw]
            exact fun a q => by rw [sput_r (by omega)]
set_option maxHeartbeats 1000000 in
theorem fm_span {u w : Mem} {b : Nat} {z9 : Int} {i1 k1 w1 : Int}  (hm : (if ¬ (0 ≤ i1 ∧ i1 < 3) then (z9 = -1 ∧ w = sput u b 0 1) else (if (u (b + 11) i1) = 0 then (z9 = -1 ∧ w = sput u b 0 5) else (if ¬ (0 ≤ k1 ∧ k1 ≤ (u (b + 11) i1) - 1) then (z9 = -1 ∧ w = sput u b 0 1) else (if w1 = 0 then (z9 = foF (shR (u (b + 15)) (40 * i1)) k1 ∧ w = sput u b 0 0) else (if w1 = 1 then (z9 = (shR (u (b + 15)) (40 * i1)) k1 ∧ w = sput u b 0 0) else (if w1 = 2 then (z9 = (shR (u (b + 16)) (40 * i1)) k1 ∧ w = sput u b 0 0) else (if w1 = 3 then (z9 = (shR (u (b + 17)) (40 * i1)) k1 ∧ w = sput u b 0 0) else (if w1 = 4 then (z9 = loN (shR (u (b + 14)) (40 * i1)) (shR (u (b + 15)) (40 * i1)) k1 ∧ w = sput u b 0 0) else (z9 = -1 ∧ w = sput u b 0 1)))))))))) : ∀ a : Nat, a < b → w a = u a := by
  by_cases c1 : ¬ (0 ≤ i1 ∧ i1 < 3)
  · rw [if_pos c1] at hm
    obtain ⟨-, hw⟩ := hm
    rw [hw]
    exact fun a q => by rw [sput_r (by omega)]
  · rw [if_neg c1] at hm
    by_cases c2 : (u (b + 11) i1) = 0
    · rw [if_pos c2] at hm
      obtain ⟨-, hw⟩ := hm
      rw [hw]
      exact fun a q => by rw [sput_r (by omega)]
    · rw [if_neg c2] at hm
      by_cases c3 : ¬ (0 ≤ k1 ∧ k1 ≤ (u (b + 11) i1) - 1)
      · rw [if_pos c3] at hm
        obtain ⟨-, hw⟩ := hm
        rw [hw]
        exact fun a q => by rw [sput_r (by omega)]
      · rw [if_neg c3] at hm
        by_cases c4 : w1 = 0
        · rw [if_pos c4] at hm
          obtain ⟨-, hw⟩ := hm
          rw [hw]
          exact fun a q => by rw [sput_r (by omega)]
        · rw [if_neg c4] at hm
          by_cases c5 : w1 = 1
          · rw [if_pos c5] at hm
            obtain ⟨-, hw⟩ := hm
            rw [hw]
            exact fun a q => by rw [sput_r (by omega)]
          · rw [if_neg c5] at hm
            by_cases c6 : w1 = 2
            · rw [if_pos c6] at hm
              obtain ⟨-, hw⟩ := hm
              rw [hw]
              exact fun a q => by rw [sput_r (by omega)]
            · rw [if_neg c6] at hm
              by_cases c7 : w1 = 3
              · rw [if_pos c7] at hm
                obtain ⟨-, hw⟩ := hm
                rw [hw]
                exact fun a q => by rw [sput_r (by omega)]
              · rw [if_neg c7] at hm
                by_cases c8 : w1 = 4
                · rw [if_pos c8] at hm
                  obtain ⟨-, hw⟩ := hm
                  rw [hw]
                  exact fun a q => by rw [sput_r (by omega)]
                · rw [if_neg c8] at hm
                  obtain ⟨-, hw⟩ := hm
                  rw [hw]
                  exact fun a q => by rw [sput_r (by omega)]
set_option maxHeartbeats 1000000 in
theorem fm_heavy {u w : Mem} {b : Nat} {z9 : Int} {i1 x1 : Int}  (hm : (if ¬ ((0 ≤ i1 ∧ i1 < 3) ∧ (0 ≤ x1 ∧ x1 ≤ 39)) then (z9 = -1 ∧ w = sput u b 0 1) else (if (u (b + 11) i1) = 0 then (z9 = -1 ∧ w = sput u b 0 5) else (if (shR (u (b + 14)) (40 * i1)) x1 = 0 then (z9 = -1 ∧ w = sput u b 0 6) else (z9 = (shR (u (b + 13)) (40 * i1)) x1 ∧ w = sput u b 0 0))))) : ∀ a : Nat, a < b → w a = u a := by
  by_cases c1 : ¬ ((0 ≤ i1 ∧ i1 < 3) ∧ (0 ≤ x1 ∧ x1 ≤ 39))
  · rw [if_pos c1] at hm
    obtain ⟨-, hw⟩ := hm
    rw [hw]
    exact fun a q => by rw [sput_r (by omega)]
  · rw [if_neg c1] at hm
    by_cases c2 : (u (b + 11) i1) = 0
    · rw [if_pos c2] at hm
      obtain ⟨-, hw⟩ := hm
      rw [hw]
      exact fun a q => by rw [sput_r (by omega)]
    · rw [if_neg c2] at hm
      by_cases c3 : (shR (u (b + 14)) (40 * i1)) x1 = 0
      · rw [if_pos c3] at hm
        obtain ⟨-, hw⟩ := hm
        rw [hw]
        exact fun a q => by rw [sput_r (by omega)]
      · rw [if_neg c3] at hm
        obtain ⟨-, hw⟩ := hm
        rw [hw]
        exact fun a q => by rw [sput_r (by omega)]
set_option maxHeartbeats 1000000 in
theorem fm_drifts {u w : Mem} {b : Nat} {z9 : Int} {i1 : Int}  (hm : (if ¬ (0 ≤ i1 ∧ i1 < 3) then (z9 = -1 ∧ w = sput u b 0 1) else (if (u (b + 11) i1) = 0 then (z9 = -1 ∧ w = sput u b 0 5) else (z9 = u (b + 12) i1 ∧ w = sput u b 0 0)))) : ∀ a : Nat, a < b → w a = u a := by
  by_cases c1 : ¬ (0 ≤ i1 ∧ i1 < 3)
  · rw [if_pos c1] at hm
    obtain ⟨-, hw⟩ := hm
    rw [hw]
    exact fun a q => by rw [sput_r (by omega)]
  · rw [if_neg c1] at hm
    by_cases c2 : (u (b + 11) i1) = 0
    · rw [if_pos c2] at hm
      obtain ⟨-, hw⟩ := hm
      rw [hw]
      exact fun a q => by rw [sput_r (by omega)]
    · rw [if_neg c2] at hm
      obtain ⟨-, hw⟩ := hm
      rw [hw]
      exact fun a q => by rw [sput_r (by omega)]
set_option maxHeartbeats 1000000 in
theorem fm_bound {u w : Mem} {b : Nat} {z9 : Int} {i1 a1 a2 w1 : Int}  (hm : (if ¬ ((0 ≤ i1 ∧ i1 < 3) ∧ (0 ≤ a1 ∧ a1 ≤ a2 ∧ a2 ≤ 39)) then (z9 = -1 ∧ w = sput u b 0 1) else (if (u (b + 11) i1) = 0 then (z9 = -1 ∧ w = sput u b 0 5) else (if w1 = 0 then (z9 = moL u b i1 a1 a2 ∧ w = sput u b 0 0) else (z9 = moH u b i1 a1 a2 ∧ w = sput u b 0 0))))) : ∀ a : Nat, a < b → w a = u a := by
  by_cases c1 : ¬ ((0 ≤ i1 ∧ i1 < 3) ∧ (0 ≤ a1 ∧ a1 ≤ a2 ∧ a2 ≤ 39))
  · rw [if_pos c1] at hm
    obtain ⟨-, hw⟩ := hm
    rw [hw]
    exact fun a q => by rw [sput_r (by omega)]
  · rw [if_neg c1] at hm
    by_cases c2 : (u (b + 11) i1) = 0
    · rw [if_pos c2] at hm
      obtain ⟨-, hw⟩ := hm
      rw [hw]
      exact fun a q => by rw [sput_r (by omega)]
    · rw [if_neg c2] at hm
      by_cases c3 : w1 = 0
      · rw [if_pos c3] at hm
        obtain ⟨-, hw⟩ := hm
        rw [hw]
        exact fun a q => by rw [sput_r (by omega)]
      · rw [if_neg c3] at hm
        obtain ⟨-, hw⟩ := hm
        rw [hw]
        exact fun a q => by rw [sput_r (by omega)]
set_option maxHeartbeats 1000000 in
theorem fm_drawn {u w : Mem} {b : Nat} {z9 : Int} {i1 k1 : Int}  (hm : (if ¬ ((0 ≤ i1 ∧ i1 < 3) ∧ (0 ≤ k1 ∧ k1 ≤ 15)) then (z9 = -1 ∧ w = sput u b 0 1) else (if u (b + 7) i1 ≤ k1 ∨ u (b + 8) i1 ≤ k1 then (z9 = -1 ∧ w = sput u b 0 6) else (z9 = (if u (b + 9) (16 * i1 + k1) = -1 then -2 else u (b + 9) (16 * i1 + k1)) ∧ w = sput u b 0 0)))) : ∀ a : Nat, a < b → w a = u a := by
  by_cases c1 : ¬ ((0 ≤ i1 ∧ i1 < 3) ∧ (0 ≤ k1 ∧ k1 ≤ 15))
  · rw [if_pos c1] at hm
    obtain ⟨-, hw⟩ := hm
    rw [hw]
    exact fun a q => by rw [sput_r (by omega)]
  · rw [if_neg c1] at hm
    by_cases c2 : u (b + 7) i1 ≤ k1 ∨ u (b + 8) i1 ≤ k1
    · rw [if_pos c2] at hm
      obtain ⟨-, hw⟩ := hm
      rw [hw]
      exact fun a q => by rw [sput_r (by omega)]
    · rw [if_neg c2] at hm
      obtain ⟨-, hw⟩ := hm
      rw [hw]
      exact fun a q => by rw [sput_r (by omega)]
set_option maxHeartbeats 1000000 in
theorem fm_harm {u w : Mem} {b : Nat} {z9 : Int} {i1 a1 a2 i2 b1 b2 : Int}  (hm : (if ¬ ((0 ≤ i1 ∧ i1 < 3) ∧ (0 ≤ i2 ∧ i2 < 3) ∧ (0 ≤ a1 ∧ a1 ≤ a2 ∧ a2 ≤ 39) ∧ (0 ≤ b1 ∧ b1 ≤ b2 ∧ b2 ≤ 39)) then (z9 = -1 ∧ w = sput u b 0 1) else (if (u (b + 11) i1) = 0 ∨ u (b + 11) i2 = 0 then (z9 = -1 ∧ w = sput u b 0 5) else (z9 = sgI (moH u b i1 a1 a2) ∧ w = sput (sput (sput u b 100001 (frN (moH u b i1 a1 a2) (max 1 (moL u b i2 b1 b2)))) b 100002 (frD (moH u b i1 a1 a2) (max 1 (moL u b i2 b1 b2)))) b 0 0)))) : ∀ a : Nat, a < b → w a = u a := by
  by_cases c1 : ¬ ((0 ≤ i1 ∧ i1 < 3) ∧ (0 ≤ i2 ∧ i2 < 3) ∧ (0 ≤ a1 ∧ a1 ≤ a2 ∧ a2 ≤ 39) ∧ (0 ≤ b1 ∧ b1 ≤ b2 ∧ b2 ≤ 39))
  · rw [if_pos c1] at hm
    obtain ⟨-, hw⟩ := hm
    rw [hw]
    exact fun a q => by rw [sput_r (by omega)]
  · rw [if_neg c1] at hm
    by_cases c2 : (u (b + 11) i1) = 0 ∨ u (b + 11) i2 = 0
    · rw [if_pos c2] at hm
      obtain ⟨-, hw⟩ := hm
      rw [hw]
      exact fun a q => by rw [sput_r (by omega)]
    · rw [if_neg c2] at hm
      obtain ⟨-, hw⟩ := hm
      rw [hw]
      exact fun a q => by rw [sput_r (by omega), sput_r (by omega), sput_r (by omega)]
set_option maxHeartbeats 1000000 in
theorem fm_guess {u w : Mem} {b : Nat} {z9 : Int} {i1 a1 a2 : Int}  (hm : (if ¬ ((0 ≤ i1 ∧ i1 < 3) ∧ (0 ≤ a1 ∧ a1 ≤ a2 ∧ a2 ≤ 39)) then (z9 = -1 ∧ w = sput u b 0 1) else (if (u (b + 11) i1) = 0 then (z9 = -1 ∧ w = sput u b 0 5) else (z9 = sgI (moG u b i1 a1 a2).1 ∧ w = sput (sput (sput u b 100001 (frN (moG u b i1 a1 a2).1 (moG u b i1 a1 a2).2)) b 100002 (frD (moG u b i1 a1 a2).1 (moG u b i1 a1 a2).2)) b 0 0)))) : ∀ a : Nat, a < b → w a = u a := by
  by_cases c1 : ¬ ((0 ≤ i1 ∧ i1 < 3) ∧ (0 ≤ a1 ∧ a1 ≤ a2 ∧ a2 ≤ 39))
  · rw [if_pos c1] at hm
    obtain ⟨-, hw⟩ := hm
    rw [hw]
    exact fun a q => by rw [sput_r (by omega)]
  · rw [if_neg c1] at hm
    by_cases c2 : (u (b + 11) i1) = 0
    · rw [if_pos c2] at hm
      obtain ⟨-, hw⟩ := hm
      rw [hw]
      exact fun a q => by rw [sput_r (by omega)]
    · rw [if_neg c2] at hm
      obtain ⟨-, hw⟩ := hm
      rw [hw]
      exact fun a q => by rw [sput_r (by omega), sput_r (by omega), sput_r (by omega)]
set_option maxHeartbeats 1000000 in
theorem fm_join {u w : Mem} {b : Nat} {z9 : Int} {i1 i2 : Int}  (hm : (if ¬ ((0 ≤ i1 ∧ i1 < 3) ∧ (0 ≤ i2 ∧ i2 < 3)) then (z9 = -1 ∧ w = sput u b 0 1) else (if (u (b + 11) i1) = 0 ∨ (u (b + 11) i2) = 0 then (z9 = -1 ∧ w = sput u b 0 5) else (z9 = sgI (moJ u b i1 i2).1 ∧ w = sput (sput (sput u b 100001 (frN (moJ u b i1 i2).1 (moJ u b i1 i2).2)) b 100002 (frD (moJ u b i1 i2).1 (moJ u b i1 i2).2)) b 0 0)))) : ∀ a : Nat, a < b → w a = u a := by
  by_cases c1 : ¬ ((0 ≤ i1 ∧ i1 < 3) ∧ (0 ≤ i2 ∧ i2 < 3))
  · rw [if_pos c1] at hm
    obtain ⟨-, hw⟩ := hm
    rw [hw]
    exact fun a q => by rw [sput_r (by omega)]
  · rw [if_neg c1] at hm
    by_cases c2 : (u (b + 11) i1) = 0 ∨ (u (b + 11) i2) = 0
    · rw [if_pos c2] at hm
      obtain ⟨-, hw⟩ := hm
      rw [hw]
      exact fun a q => by rw [sput_r (by omega)]
    · rw [if_neg c2] at hm
      obtain ⟨-, hw⟩ := hm
      rw [hw]
      exact fun a q => by rw [sput_r (by omega), sput_r (by omega), sput_r (by omega)]
set_option maxHeartbeats 1000000 in
theorem fm_away {u w : Mem} {b : Nat} {z9 : Int} {i1 : Int}  (hm : (if ¬ (0 ≤ i1 ∧ i1 < 3) then (z9 = 0 ∧ w = sput u b 0 1) else (if (u (b + 11) i1) = 0 then (z9 = 0 ∧ w = sput u b 0 5) else (z9 = 1 ∧ w = sput (sput u (b + 11) i1 0) b 0 0)))) : ∀ a : Nat, a < b → w a = u a := by
  by_cases c1 : ¬ (0 ≤ i1 ∧ i1 < 3)
  · rw [if_pos c1] at hm
    obtain ⟨-, hw⟩ := hm
    rw [hw]
    exact fun a q => by rw [sput_r (by omega)]
  · rw [if_neg c1] at hm
    by_cases c2 : (u (b + 11) i1) = 0
    · rw [if_pos c2] at hm
      obtain ⟨-, hw⟩ := hm
      rw [hw]
      exact fun a q => by rw [sput_r (by omega)]
    · rw [if_neg c2] at hm
      obtain ⟨-, hw⟩ := hm
      rw [hw]
      exact fun a q => by rw [sput_r (by omega), sput_r (by omega)]
set_option maxHeartbeats 1000000 in
theorem fm_sample {u w : Mem} {b : Nat} {z9 : Int} {i1 k1 s1 : Int}  (hm : (if ¬ ((0 ≤ i1 ∧ i1 < 3) ∧ (1 ≤ k1 ∧ k1 ≤ 16) ∧ 0 ≤ s1) then (z9 = 0 ∧ w = sput u b 0 1) else (z9 = 1 ∧ w = sput (sput (sput (sput u (b + 7) i1 k1) (b + 8) i1 0) (b + 10) (100000 + i1) s1) b 0 0))) : ∀ a : Nat, a < b → w a = u a := by
  by_cases c1 : ¬ ((0 ≤ i1 ∧ i1 < 3) ∧ (1 ≤ k1 ∧ k1 ≤ 16) ∧ 0 ≤ s1)
  · rw [if_pos c1] at hm
    obtain ⟨-, hw⟩ := hm
    rw [hw]
    exact fun a q => by rw [sput_r (by omega)]
  · rw [if_neg c1] at hm
    obtain ⟨-, hw⟩ := hm
    rw [hw]
    exact fun a q => by rw [sput_r (by omega), sput_r (by omega), sput_r (by omega), sput_r (by omega)]
set_option maxHeartbeats 1000000 in
theorem fm_write {u w : Mem} {b : Nat} {z9 : Int} {i1 p1 x1 : Int}  (hm : (if ¬ (0 ≤ i1 ∧ i1 < 4) then (z9 = 0 ∧ w = sput u b 0 1) else (if u (b + 2) i1 = -1 then (z9 = 0 ∧ w = sput u b 0 2) else (if ¬ (0 ≤ p1 ∧ p1 < u (b + 2) i1) then (z9 = 0 ∧ w = sput u b 0 3) else (z9 = 1 ∧ w = sput (sput u (b + 3) (100000 + (100 * i1 + p1)) (fitI (u (b + 1) i1) x1)) b 0 0))))) : ∀ a : Nat, a < b → w a = u a := by
  by_cases c1 : ¬ (0 ≤ i1 ∧ i1 < 4)
  · rw [if_pos c1] at hm
    obtain ⟨-, hw⟩ := hm
    rw [hw]
    exact fun a q => by rw [sput_r (by omega)]
  · rw [if_neg c1] at hm
    by_cases c2 : u (b + 2) i1 = -1
    · rw [if_pos c2] at hm
      obtain ⟨-, hw⟩ := hm
      rw [hw]
      exact fun a q => by rw [sput_r (by omega)]
    · rw [if_neg c2] at hm
      by_cases c3 : ¬ (0 ≤ p1 ∧ p1 < u (b + 2) i1)
      · rw [if_pos c3] at hm
        obtain ⟨-, hw⟩ := hm
        rw [hw]
        exact fun a q => by rw [sput_r (by omega)]
      · rw [if_neg c3] at hm
        obtain ⟨-, hw⟩ := hm
        rw [hw]
        exact fun a q => by rw [sput_r (by omega), sput_r (by omega)]
set_option maxHeartbeats 1000000 in
theorem fm_pour {u w : Mem} {b : Nat} {z9 : Int} {i1 p1 i2 p2 m1 : Int}  (hm : (if ¬ ((0 ≤ i1 ∧ i1 < 4) ∧ (0 ≤ i2 ∧ i2 < 4) ∧ 0 ≤ p1 ∧ 0 ≤ p2 ∧ 0 ≤ m1) then (z9 = 0 ∧ w = sput u b 0 1) else (if u (b + 2) i1 = -1 ∨ u (b + 2) i2 = -1 then (z9 = 0 ∧ w = sput u b 0 2) else (if u (b + 1) i1 ≠ u (b + 1) i2 then (z9 = 0 ∧ w = sput u b 0 7) else (if ¬ (m1 ≤ u (b + 2) i1 - p1 ∧ m1 ≤ u (b + 2) i2 - p2) then (z9 = 0 ∧ w = sput u b 0 3) else (z9 = 1 ∧ (∀ j : Int, w (b + 3) (100000 + j) = if 0 ≤ (j - (100 * i2 + p2)) ∧ (j - (100 * i2 + p2)) < m1 then u (b + 3) (100000 + (100 * i1 + p1 + (j - (100 * i2 + p2)))) else u (b + 3) (100000 + j)) ∧ ∀ a : Nat, a ≠ b + 3 → w a = sput u b 0 0 a)))))) : ∀ a : Nat, a < b → w a = u a := by
  by_cases c1 : ¬ ((0 ≤ i1 ∧ i1 < 4) ∧ (0 ≤ i2 ∧ i2 < 4) ∧ 0 ≤ p1 ∧ 0 ≤ p2 ∧ 0 ≤ m1)
  · rw [if_pos c1] at hm
    obtain ⟨-, hw⟩ := hm
    rw [hw]
    exact fun a q => by rw [sput_r (by omega)]
  · rw [if_neg c1] at hm
    by_cases c2 : u (b + 2) i1 = -1 ∨ u (b + 2) i2 = -1
    · rw [if_pos c2] at hm
      obtain ⟨-, hw⟩ := hm
      rw [hw]
      exact fun a q => by rw [sput_r (by omega)]
    · rw [if_neg c2] at hm
      by_cases c3 : u (b + 1) i1 ≠ u (b + 1) i2
      · rw [if_pos c3] at hm
        obtain ⟨-, hw⟩ := hm
        rw [hw]
        exact fun a q => by rw [sput_r (by omega)]
      · rw [if_neg c3] at hm
        by_cases c4 : ¬ (m1 ≤ u (b + 2) i1 - p1 ∧ m1 ≤ u (b + 2) i2 - p2)
        · rw [if_pos c4] at hm
          obtain ⟨-, hw⟩ := hm
          rw [hw]
          exact fun a q => by rw [sput_r (by omega)]
        · rw [if_neg c4] at hm
          obtain ⟨-, -, hf⟩ := hm
          exact fun a q => by rw [hf a (by omega), sput_r (by omega)]
set_option maxHeartbeats 1000000 in
theorem fm_split {u w : Mem} {b : Nat} {z9 : Int} {i1 x1 : Int}  (hm : (if ¬ ((0 ≤ i1 ∧ i1 < 3) ∧ (0 ≤ x1 ∧ x1 ≤ 39)) then (z9 = -1 ∧ w = sput u b 0 1) else (if (u (b + 11) i1) = 0 then (z9 = -1 ∧ w = sput u b 0 5) else (if (shR (u (b + 15)) (40 * i1)) (spOf (shR (u (b + 15)) (40 * i1)) (u (b + 11) i1) x1) = x1 ∨ 12 ≤ (u (b + 11) i1) then (z9 = -1 ∧ w = sput u b 0 6) else (z9 = spOf (shR (u (b + 15)) (40 * i1)) (u (b + 11) i1) x1 ∧ moFr (sput u b 0 0) w b i1 ∧ moV w b i1 = cutV (shR (u (b + 14)) (40 * i1)) (moV u b i1) (spOf (shR (u (b + 15)) (40 * i1)) (u (b + 11) i1) x1) x1))))) : ∀ a : Nat, a < b → w a = u a := by
  by_cases c1 : ¬ ((0 ≤ i1 ∧ i1 < 3) ∧ (0 ≤ x1 ∧ x1 ≤ 39))
  · rw [if_pos c1] at hm
    obtain ⟨-, hw⟩ := hm
    rw [hw]
    exact fun a q => by rw [sput_r (by omega)]
  · rw [if_neg c1] at hm
    by_cases c2 : (u (b + 11) i1) = 0
    · rw [if_pos c2] at hm
      obtain ⟨-, hw⟩ := hm
      rw [hw]
      exact fun a q => by rw [sput_r (by omega)]
    · rw [if_neg c2] at hm
      by_cases c3 : (shR (u (b + 15)) (40 * i1)) (spOf (shR (u (b + 15)) (40 * i1)) (u (b + 11) i1) x1) = x1 ∨ 12 ≤ (u (b + 11) i1)
      · rw [if_pos c3] at hm
        obtain ⟨-, hw⟩ := hm
        rw [hw]
        exact fun a q => by rw [sput_r (by omega)]
      · rw [if_neg c3] at hm
        obtain ⟨-, hf, -⟩ := hm
        exact fun a q => by rw [hf.1 a (by omega) (by omega) (by omega) (by omega) (by omega), sput_r (by omega)]
set_option maxHeartbeats 1000000 in
theorem fm_melt {u w : Mem} {b : Nat} {z9 : Int} {i1 k1 : Int}  (hm : (if ¬ (0 ≤ i1 ∧ i1 < 3) then (z9 = 0 ∧ w = sput u b 0 1) else (if (u (b + 11) i1) = 0 then (z9 = 0 ∧ w = sput u b 0 5) else (if ¬ (0 ≤ k1 ∧ k1 ≤ (u (b + 11) i1) - 2) then (z9 = 0 ∧ w = sput u b 0 6) else (z9 = 1 ∧ moFr (sput u b 0 0) w b i1 ∧ moV w b i1 = fuseV (moV u b i1) k1))))) : ∀ a : Nat, a < b → w a = u a := by
  by_cases c1 : ¬ (0 ≤ i1 ∧ i1 < 3)
  · rw [if_pos c1] at hm
    obtain ⟨-, hw⟩ := hm
    rw [hw]
    exact fun a q => by rw [sput_r (by omega)]
  · rw [if_neg c1] at hm
    by_cases c2 : (u (b + 11) i1) = 0
    · rw [if_pos c2] at hm
      obtain ⟨-, hw⟩ := hm
      rw [hw]
      exact fun a q => by rw [sput_r (by omega)]
    · rw [if_neg c2] at hm
      by_cases c3 : ¬ (0 ≤ k1 ∧ k1 ≤ (u (b + 11) i1) - 2)
      · rw [if_pos c3] at hm
        obtain ⟨-, hw⟩ := hm
        rw [hw]
        exact fun a q => by rw [sput_r (by omega)]
      · rw [if_neg c3] at hm
        obtain ⟨-, hf, -⟩ := hm
        exact fun a q => by rw [hf.1 a (by omega) (by omega) (by omega) (by omega) (by omega), sput_r (by omega)]
set_option maxHeartbeats 1000000 in
theorem fm_keep {u w : Mem} {b : Nat} {z9 : Int} {i1 : Int}  (hm : (if ¬ (0 ≤ i1 ∧ i1 < 3) then (z9 = -1 ∧ w = sput u b 0 1) else (if (u (b + 11) i1) = 0 then (z9 = -1 ∧ w = sput u b 0 5) else (z9 = (keepV (shR (u (b + 14)) (40 * i1)) (moV u b i1)).2 ∧ moFr (sput u b 0 0) w b i1 ∧ moV w b i1 = (keepV (shR (u (b + 14)) (40 * i1)) (moV u b i1)).1)))) : ∀ a : Nat, a < b → w a = u a := by
  by_cases c1 : ¬ (0 ≤ i1 ∧ i1 < 3)
  · rw [if_pos c1] at hm
    obtain ⟨-, hw⟩ := hm
    rw [hw]
    exact fun a q => by rw [sput_r (by omega)]
  · rw [if_neg c1] at hm
    by_cases c2 : (u (b + 11) i1) = 0
    · rw [if_pos c2] at hm
      obtain ⟨-, hw⟩ := hm
      rw [hw]
      exact fun a q => by rw [sput_r (by omega)]
    · rw [if_neg c2] at hm
      obtain ⟨-, hf, -⟩ := hm
      exact fun a q => by rw [hf.1 a (by omega) (by omega) (by omega) (by omega) (by omega), sput_r (by omega)]
set_option maxHeartbeats 1000000 in
theorem fm_tray {u w : Mem} {b : Nat} {z9 : Int} {i1 s1 m1 : Int}  (hm : (if ¬ ((0 ≤ i1 ∧ i1 < 4) ∧ (0 ≤ s1 ∧ s1 ≤ 3) ∧ (0 ≤ m1 ∧ m1 ≤ 100)) then (z9 = 0 ∧ w = sput u b 0 1) else (z9 = 1 ∧ (∀ j : Int, 0 ≤ j → j < m1 → w (b + 3) (100000 + (100 * i1 + j)) = 0) ∧ (∀ j : Int, (j < 100000 + 100 * i1 ∨ 100000 + 100 * i1 + 100 ≤ j) → w (b + 3) j = u (b + 3) j) ∧ ∀ a : Nat, a ≠ b + 3 → w a = (sput (sput (sput u (b + 1) i1 s1) (b + 2) i1 m1) b 0 0) a))) : ∀ a : Nat, a < b → w a = u a := by
  by_cases c1 : ¬ ((0 ≤ i1 ∧ i1 < 4) ∧ (0 ≤ s1 ∧ s1 ≤ 3) ∧ (0 ≤ m1 ∧ m1 ≤ 100))
  · rw [if_pos c1] at hm
    obtain ⟨-, hw⟩ := hm
    rw [hw]
    exact fun a q => by rw [sput_r (by omega)]
  · rw [if_neg c1] at hm
    obtain ⟨-, -, -, hf⟩ := hm
    exact fun a q => by rw [hf a (by omega), sput_r (by omega), sput_r (by omega), sput_r (by omega)]
set_option maxHeartbeats 1000000 in
theorem fm_put {u w : Mem} {b : Nat} {z9 : Int} {i1 x1 m1 : Int} (hr : ∀ c : Int, 0 ≤ c → c < 3 → mrB u b c 100000000 ∧ msB u b c 100000000) (hm : (if ¬ ((0 ≤ i1 ∧ i1 < 3) ∧ (-1 ≤ x1 ∧ x1 ≤ 39) ∧ (1 ≤ m1 ∧ m1 ≤ 1000)) then (z9 = 0 ∧ w = sput u b 0 1) else (if 10000 < u (b + 6) i1 + u (b + 5) i1 + m1 then (z9 = 0 ∧ w = sput u b 0 4) else (z9 = 1 ∧ w = sput (itrR (fun _ τ => mpS b i1 x1 τ) 0 m1 u) b 0 0)))) : ∀ a : Nat, a < b → w a = u a := by
  by_cases c1 : ¬ ((0 ≤ i1 ∧ i1 < 3) ∧ (-1 ≤ x1 ∧ x1 ≤ 39) ∧ (1 ≤ m1 ∧ m1 ≤ 1000))
  · rw [if_pos c1] at hm
    obtain ⟨-, hw⟩ := hm
    rw [hw]
    exact fun a q => by rw [sput_r (by omega)]
  · rw [if_neg c1] at hm
    by_cases c2 : 10000 < u (b + 6) i1 + u (b + 5) i1 + m1
    · rw [if_pos c2] at hm
      obtain ⟨-, hw⟩ := hm
      rw [hw]
      exact fun a q => by rw [sput_r (by omega)]
    · rw [if_neg c2] at hm
      obtain ⟨-, hw⟩ := hm
      obtain ⟨r1, r2⟩ := hr i1 (by omega) (by omega)
      obtain ⟨m, hmn⟩ : ∃ m : Nat, m1 = m := ⟨m1.toNat, by omega⟩
      subst hmn
      obtain ⟨-, -, g3⟩ := mp_B (row := fun _ => x1) (N := m) (fun _ _ _ => by omega) r1 r2 m (Int.le_refl _)
      exact fun a q => by rw [hw, sput_r (by omega)]; exact g3.1 a (by omega)
set_option maxHeartbeats 1000000 in
theorem fm_strike {u w : Mem} {b : Nat} {z9 : Int} {i1 x1 m1 : Int} (hr : ∀ c : Int, 0 ≤ c → c < 3 → mrB u b c 100000000 ∧ msB u b c 100000000) (hm : (if ¬ ((0 ≤ i1 ∧ i1 < 3) ∧ (-1 ≤ x1 ∧ x1 ≤ 39) ∧ (1 ≤ m1 ∧ m1 ≤ 1000)) then (z9 = 0 ∧ w = sput u b 0 1) else (if (if x1 = -1 then u (b + 5) i1 else u (b + 4) (40 * i1 + x1)) < m1 then (z9 = 0 ∧ w = sput u b 0 4) else (z9 = 1 ∧ w = sput (itrR (fun _ τ => mcM τ b i1 x1 (-1)) 0 m1 u) b 0 0)))) : ∀ a : Nat, a < b → w a = u a := by
  by_cases c1 : ¬ ((0 ≤ i1 ∧ i1 < 3) ∧ (-1 ≤ x1 ∧ x1 ≤ 39) ∧ (1 ≤ m1 ∧ m1 ≤ 1000))
  · rw [if_pos c1] at hm
    obtain ⟨-, hw⟩ := hm
    rw [hw]
    exact fun a q => by rw [sput_r (by omega)]
  · rw [if_neg c1] at hm
    by_cases c2 : (if x1 = -1 then u (b + 5) i1 else u (b + 4) (40 * i1 + x1)) < m1
    · rw [if_pos c2] at hm
      obtain ⟨-, hw⟩ := hm
      rw [hw]
      exact fun a q => by rw [sput_r (by omega)]
    · rw [if_neg c2] at hm
      obtain ⟨-, hw⟩ := hm
      obtain ⟨r1, r2⟩ := hr i1 (by omega) (by omega)
      obtain ⟨m, hmn⟩ : ∃ m : Nat, m1 = m := ⟨m1.toNat, by omega⟩
      subst hmn
      have g3 := mc_F (x := x1) (s := -1) (c := i1) (b := b) (by omega) m u r1.2.2.2.2.2.1 r2.2.1.1
      exact fun a q => by rw [hw, sput_r (by omega)]; exact g3.1 a (by omega)
set_option maxHeartbeats 1000000 in
theorem fm_pack {u w : Mem} {b : Nat} {z9 : Int} {i1 i2 : Int} (hr : ∀ c : Int, 0 ≤ c → c < 3 → mrB u b c 100000000 ∧ msB u b c 100000000) (hT : mtW u b) [Decidable (∀ j : Int, 0 ≤ j → j < u (b + 2) i2 → -1 ≤ u (b + 3) (100000 + (100 * i2 + j)) ∧ u (b + 3) (100000 + (100 * i2 + j)) ≤ 39)] (hm : (if ¬ ((0 ≤ i1 ∧ i1 < 3) ∧ (0 ≤ i2 ∧ i2 < 4)) then (z9 = -1 ∧ w = sput u b 0 1) else (if u (b + 2) i2 = -1 then (z9 = -1 ∧ w = sput u b 0 2) else (if ¬ (∀ j : Int, 0 ≤ j → j < u (b + 2) i2 → -1 ≤ u (b + 3) (100000 + (100 * i2 + j)) ∧ u (b + 3) (100000 + (100 * i2 + j)) ≤ 39) then (z9 = -1 ∧ w = sput u b 0 1) else (if 10000 < u (b + 6) i1 + u (b + 5) i1 + u (b + 2) i2 then (z9 = -1 ∧ w = sput u b 0 4) else (z9 = u (b + 2) i2 ∧ w = sput (itrR (fun k τ => mpS b i1 (u (b + 3) (100000 + (100 * i2 + k))) τ) 0 (u (b + 2) i2) u) b 0 0)))))) : ∀ a : Nat, a < b → w a = u a := by
  by_cases c1 : ¬ ((0 ≤ i1 ∧ i1 < 3) ∧ (0 ≤ i2 ∧ i2 < 4))
  · rw [if_pos c1] at hm
    obtain ⟨-, hw⟩ := hm
    rw [hw]
    exact fun a q => by rw [sput_r (by omega)]
  · rw [if_neg c1] at hm
    by_cases c2 : u (b + 2) i2 = -1
    · rw [if_pos c2] at hm
      obtain ⟨-, hw⟩ := hm
      rw [hw]
      exact fun a q => by rw [sput_r (by omega)]
    · rw [if_neg c2] at hm
      by_cases c3 : ¬ (∀ j : Int, 0 ≤ j → j < u (b + 2) i2 → -1 ≤ u (b + 3) (100000 + (100 * i2 + j)) ∧ u (b + 3) (100000 + (100 * i2 + j)) ≤ 39)
      · rw [if_pos c3] at hm
        obtain ⟨-, hw⟩ := hm
        rw [hw]
        exact fun a q => by rw [sput_r (by omega)]
      · rw [if_neg c3] at hm
        by_cases c4 : 10000 < u (b + 6) i1 + u (b + 5) i1 + u (b + 2) i2
        · rw [if_pos c4] at hm
          obtain ⟨-, hw⟩ := hm
          rw [hw]
          exact fun a q => by rw [sput_r (by omega)]
        · rw [if_neg c4] at hm
          obtain ⟨-, hw⟩ := hm
          obtain ⟨r1, r2⟩ := hr i1 (by omega) (by omega)
          have t9 := (hT i2 (by omega) (by omega)).2
          obtain ⟨m, hmn⟩ : ∃ m : Nat, u (b + 2) i2 = m := ⟨(u (b + 2) i2).toNat, by omega⟩
          have hall : (∀ j : Int, 0 ≤ j → j < u (b + 2) i2 → -1 ≤ u (b + 3) (100000 + (100 * i2 + j)) ∧ u (b + 3) (100000 + (100 * i2 + j)) ≤ 39) := Classical.byContradiction fun y => c3 y
          rw [hmn] at hw
          obtain ⟨-, -, g3⟩ := mp_B (row := fun k => u (b + 3) (100000 + (100 * i2 + k))) (N := u (b + 2) i2) hall r1 r2 m (by omega)
          exact fun a q => by rw [hw, sput_r (by omega)]; exact g3.1 a (by omega)
set_option maxHeartbeats 1000000 in
theorem fm_together {u w : Mem} {b : Nat} {z9 : Int} {i1 i2 : Int}  (hm : (if ¬ ((0 ≤ i1 ∧ i1 < 3) ∧ (0 ≤ i2 ∧ i2 < 3) ∧ i1 ≠ i2) then (z9 = -1 ∧ w = sput u b 0 1) else (if (u (b + 11) i1) = 0 ∨ (u (b + 11) i2) = 0 then (z9 = -1 ∧ w = sput u b 0 5) else (if 100000 < (hvS (shR (u (b + 14)) (40 * i1)) (shR (u (b + 13)) (40 * i1)) 0 39 + (smR (shR (u (b + 16)) (40 * i1)) 0 (u (b + 11) i1) + smR (shR (u (b + 17)) (40 * i1)) 0 (u (b + 11) i1))) + (hvS (shR (u (b + 14)) (40 * i2)) (shR (u (b + 13)) (40 * i2)) 0 39 + (smR (shR (u (b + 16)) (40 * i2)) 0 (u (b + 11) i2) + smR (shR (u (b + 17)) (40 * i2)) 0 (u (b + 11) i2))) then (z9 = -1 ∧ w = sput u b 0 4) else (z9 = w (b + 11) i1 ∧ moV w b i1 = (tkV (shR (u (b + 14)) (40 * i1)) (shR (u (b + 14)) (40 * i2)) (shR (u (b + 13)) (40 * i2)) (moV u b i1) (moV u b i2)) ∧ (∀ j : Int, 0 ≤ j → j < 40 → w (b + 13) (40 * i1 + j) = if (shR (u (b + 14)) (40 * i1)) j ≠ 0 ∧ (shR (u (b + 14)) (40 * i2)) j ≠ 0 then u (b + 13) (40 * i1 + j) + (shR (u (b + 13)) (40 * i2)) j else u (b + 13) (40 * i1 + j)) ∧ w (b + 12) i1 = 0 ∧ w b 0 = 0 ∧ (∀ a : Nat, a ≠ b → a ≠ b + 11 → a ≠ b + 12 → a ≠ b + 13 → a ≠ b + 15 → a ≠ b + 16 → a ≠ b + 17 → a ≠ b + 21 → a ≠ b + 22 → a ≠ b + 23 → w a = u a) ∧ (∀ j : Int, j ≠ 0 → j ≠ 23 → j ≠ 24 → j ≠ 25 → j ≠ 26 → w b j = u b j) ∧ (∀ j : Int, j ≠ i1 → w (b + 11) j = u (b + 11) j ∧ w (b + 12) j = u (b + 12) j) ∧ ∀ j : Int, j < 40 * i1 ∨ 40 * i1 + 40 ≤ j → w (b + 13) j = u (b + 13) j ∧ w (b + 15) j = u (b + 15) j ∧ w (b + 16) j = u (b + 16) j ∧ w (b + 17) j = u (b + 17) j))))) : ∀ a : Nat, a < b → w a = u a := by
  by_cases c1 : ¬ ((0 ≤ i1 ∧ i1 < 3) ∧ (0 ≤ i2 ∧ i2 < 3) ∧ i1 ≠ i2)
  · rw [if_pos c1] at hm
    obtain ⟨-, hw⟩ := hm
    rw [hw]
    exact fun a q => by rw [sput_r (by omega)]
  · rw [if_neg c1] at hm
    by_cases c2 : (u (b + 11) i1) = 0 ∨ (u (b + 11) i2) = 0
    · rw [if_pos c2] at hm
      obtain ⟨-, hw⟩ := hm
      rw [hw]
      exact fun a q => by rw [sput_r (by omega)]
    · rw [if_neg c2] at hm
      by_cases c3 : 100000 < (hvS (shR (u (b + 14)) (40 * i1)) (shR (u (b + 13)) (40 * i1)) 0 39 + (smR (shR (u (b + 16)) (40 * i1)) 0 (u (b + 11) i1) + smR (shR (u (b + 17)) (40 * i1)) 0 (u (b + 11) i1))) + (hvS (shR (u (b + 14)) (40 * i2)) (shR (u (b + 13)) (40 * i2)) 0 39 + (smR (shR (u (b + 16)) (40 * i2)) 0 (u (b + 11) i2) + smR (shR (u (b + 17)) (40 * i2)) 0 (u (b + 11) i2)))
      · rw [if_pos c3] at hm
        obtain ⟨-, hw⟩ := hm
        rw [hw]
        exact fun a q => by rw [sput_r (by omega)]
      · rw [if_neg c3] at hm
        obtain ⟨-, -, h13, h12, -, hf, -, hj, hg⟩ := hm
        exact fun a q => hf a (by omega) (by omega) (by omega) (by omega) (by omega) (by omega) (by omega) (by omega) (by omega) (by omega)
set_option maxHeartbeats 1000000 in
theorem fm_make {u w : Mem} {b : Nat} {z9 : Int} {i1 b1 n1 d1 : Int}  (hm : (if ¬ ((0 ≤ i1 ∧ i1 < 3) ∧ (1 ≤ b1 ∧ b1 ≤ 12) ∧ (1 ≤ d1 ∧ d1 ≤ 1000) ∧ (0 ≤ n1 ∧ n1 ≤ d1)) then z9 = -1 ∧ w = sput u b 0 1 else z9 = dpL (fun j : Int => if (chV (shR (u (b + 4)) (40 * i1)) (u (b + 6) i1) n1 d1 8 (fun _ => 0, fun _ => 0)).1 j = 0 then (shR (u (b + 4)) (40 * i1)) j else -1) b1.toNat 0 ∧ (∀ j : Int, 0 ≤ j → j < 40 → w (b + 14) (40 * i1 + j) = (chV (shR (u (b + 4)) (40 * i1)) (u (b + 6) i1) n1 d1 8 (fun _ => 0, fun _ => 0)).1 j ∧ ((chV (shR (u (b + 4)) (40 * i1)) (u (b + 6) i1) n1 d1 8 (fun _ => 0, fun _ => 0)).1 j ≠ 0 → w (b + 13) (40 * i1 + j) = (chV (shR (u (b + 4)) (40 * i1)) (u (b + 6) i1) n1 d1 8 (fun _ => 0, fun _ => 0)).2 j) ∧ ((chV (shR (u (b + 4)) (40 * i1)) (u (b + 6) i1) n1 d1 8 (fun _ => 0, fun _ => 0)).1 j = 0 → w (b + 13) (40 * i1 + j) = u (b + 13) (40 * i1 + j))) ∧ (∀ j : Int, 0 ≤ j → j < b1 → w (b + 15) (40 * i1 + j) = plB (fun j : Int => if (chV (shR (u (b + 4)) (40 * i1)) (u (b + 6) i1) n1 d1 8 (fun _ => 0, fun _ => 0)).1 j = 0 then (shR (u (b + 4)) (40 * i1)) j else -1) z9 b1.toNat (j.toNat + 1) - 1 ∧ w (b + 16) (40 * i1 + j) = smR (fun w => if (chV (shR (u (b + 4)) (40 * i1)) (u (b + 6) i1) n1 d1 8 (fun _ => 0, fun _ => 0)).1 w = 0 then (shR (u (b + 4)) (40 * i1)) w else 0) (plB (fun j : Int => if (chV (shR (u (b + 4)) (40 * i1)) (u (b + 6) i1) n1 d1 8 (fun _ => 0, fun _ => 0)).1 j = 0 then (shR (u (b + 4)) (40 * i1)) j else -1) z9 b1.toNat j.toNat) (plB (fun j : Int => if (chV (shR (u (b + 4)) (40 * i1)) (u (b + 6) i1) n1 d1 8 (fun _ => 0, fun _ => 0)).1 j = 0 then (shR (u (b + 4)) (40 * i1)) j else -1) z9 b1.toNat (j.toNat + 1)) ∧ w (b + 17) (40 * i1 + j) = 0) ∧ w (b + 11) i1 = b1 ∧ w (b + 12) i1 = 0 ∧ w b 0 = 0 ∧ (∀ a : Nat, a ≠ b → a ≠ b + 11 → a ≠ b + 12 → a ≠ b + 13 → a ≠ b + 14 → a ≠ b + 15 → a ≠ b + 16 → a ≠ b + 17 → a ≠ b + 18 → a ≠ b + 19 → a ≠ b + 20 → w a = u a) ∧ (∀ j : Int, j ≠ 0 → w b j = u b j) ∧ (∀ j : Int, j ≠ i1 → w (b + 11) j = u (b + 11) j ∧ w (b + 12) j = u (b + 12) j) ∧ ∀ j : Int, j < 40 * i1 ∨ 40 * i1 + 40 ≤ j → w (b + 13) j = u (b + 13) j ∧ w (b + 14) j = u (b + 14) j ∧ w (b + 15) j = u (b + 15) j ∧ w (b + 16) j = u (b + 16) j ∧ w (b + 17) j = u (b + 17) j)) : ∀ a : Nat, a < b → w a = u a := by
  by_cases c1 : ¬ ((0 ≤ i1 ∧ i1 < 3) ∧ (1 ≤ b1 ∧ b1 ≤ 12) ∧ (1 ≤ d1 ∧ d1 ≤ 1000) ∧ (0 ≤ n1 ∧ n1 ≤ d1))
  · rw [if_pos c1] at hm
    obtain ⟨-, hw⟩ := hm
    rw [hw]
    exact fun a q => by rw [sput_r (by omega)]
  · rw [if_neg c1] at hm
    obtain ⟨-, h1, -, h11, h12, -, hf, -, hj, hg⟩ := hm
    exact fun a q => hf a (by omega) (by omega) (by omega) (by omega) (by omega) (by omega) (by omega) (by omega) (by omega) (by omega) (by omega)
set_option maxHeartbeats 1000000 in
theorem st_status {σ u w : Mem} {b : Nat} {z z9 n : Int} (hb : 52 ≤ b)  (hI : Inv σ b n) (hn : 0 ≤ n ∧ n ≤ 511000)  (hc : z = σ 0 5 ∧ u = σ) (hm : z9 = u b 0 ∧ w = u) : z = z9 ∧ Inv w b (n + 1000) := by
  obtain ⟨B1, F1⟩ := ic_status hI.1 hn hc
  have F3 : ∀ a : Nat, b ≤ a → u a = σ a := fun a q => F1 a (by omega)
  have F2 := fm_status hm
  have B2 : BI w (n + 1000) := BI_congr (fun a q1 q2 => F2 a (by omega)) B1
  have r := r_status hI.2.1 hc hm
  exact ⟨r.1, B2, r.2, im_status B2 r.2 (moB_up (Int.le_refl _) (F3 _ (by omega)) (F3 _ (by omega)) (F3 _ (by omega)) (F3 _ (by omega)) hI.2.2) hn hm⟩
set_option maxHeartbeats 1000000 in
theorem st_top {σ u w : Mem} {b : Nat} {z z9 n : Int} (hb : 52 ≤ b)  (hI : Inv σ b n) (hn : 0 ≤ n ∧ n ≤ 511000)  (hc : z = σ 51 100000 ∧ u = σ) (hm : z9 = u b 100001 ∧ w = u) : z = z9 ∧ Inv w b (n + 1000) := by
  obtain ⟨B1, F1⟩ := ic_top hI.1 hn hc
  have F3 : ∀ a : Nat, b ≤ a → u a = σ a := fun a q => F1 a (by omega)
  have F2 := fm_top hm
  have B2 : BI w (n + 1000) := BI_congr (fun a q1 q2 => F2 a (by omega)) B1
  have r := r_top hI.2.1 hc hm
  exact ⟨r.1, B2, r.2, im_top B2 r.2 (moB_up (Int.le_refl _) (F3 _ (by omega)) (F3 _ (by omega)) (F3 _ (by omega)) (F3 _ (by omega)) hI.2.2) hn hm⟩
set_option maxHeartbeats 1000000 in
theorem st_bottom {σ u w : Mem} {b : Nat} {z z9 n : Int} (hb : 52 ≤ b)  (hI : Inv σ b n) (hn : 0 ≤ n ∧ n ≤ 511000)  (hc : z = σ 51 100001 ∧ u = σ) (hm : z9 = u b 100002 ∧ w = u) : z = z9 ∧ Inv w b (n + 1000) := by
  obtain ⟨B1, F1⟩ := ic_bottom hI.1 hn hc
  have F3 : ∀ a : Nat, b ≤ a → u a = σ a := fun a q => F1 a (by omega)
  have F2 := fm_bottom hm
  have B2 : BI w (n + 1000) := BI_congr (fun a q1 q2 => F2 a (by omega)) B1
  have r := r_bottom hI.2.1 hc hm
  exact ⟨r.1, B2, r.2, im_bottom B2 r.2 (moB_up (Int.le_refl _) (F3 _ (by omega)) (F3 _ (by omega)) (F3 _ (by omega)) (F3 _ (by omega)) hI.2.2) hn hm⟩
set_option maxHeartbeats 1000000 in
theorem st_truly {σ u w : Mem} {b : Nat} {z z9 n : Int} (hb : 52 ≤ b) {i1 x1 : Int} (hI : Inv σ b n) (hn : 0 ≤ n ∧ n ≤ 511000)  (hc : (if ¬ ((0 ≤ i1 ∧ i1 < 3) ∧ (-1 ≤ x1 ∧ x1 ≤ 39)) then (z = -1 ∧ u = sput σ 0 5 1) else (z = (if 0 ≤ x1 ∧ x1 ≤ 39 then σ ((11 + 10 * i1.toNat) + 1) x1 else σ (11 + 10 * i1.toNat) 4) ∧ u = sput σ 0 5 0))) (hm : (if ¬ ((0 ≤ i1 ∧ i1 < 3) ∧ (-1 ≤ x1 ∧ x1 ≤ 39)) then (z9 = -1 ∧ w = sput u b 0 1) else (z9 = (if x1 = -1 then u (b + 5) i1 else u (b + 4) (40 * i1 + x1)) ∧ w = sput u b 0 0))) : z = z9 ∧ Inv w b (n + 1000) := by
  obtain ⟨B1, F1⟩ := ic_truly hI.1 hn hc
  have F3 : ∀ a : Nat, b ≤ a → u a = σ a := fun a q => F1 a (by omega)
  have F2 := fm_truly hm
  have B2 : BI w (n + 1000) := BI_congr (fun a q1 q2 => F2 a (by omega)) B1
  have r := r_truly hb hI.2.1 hI.sz hc hm
  exact ⟨r.1, B2, r.2, im_truly B2 r.2 (moB_up (Int.le_refl _) (F3 _ (by omega)) (F3 _ (by omega)) (F3 _ (by omega)) (F3 _ (by omega)) hI.2.2) hn hm⟩
set_option maxHeartbeats 1000000 in
theorem st_rows {σ u w : Mem} {b : Nat} {z z9 n : Int} (hb : 52 ≤ b) {i1 w1 : Int} (hI : Inv σ b n) (hn : 0 ≤ n ∧ n ≤ 511000)  (hc : (if ¬ (0 ≤ i1 ∧ i1 < 3) then (z = -1 ∧ u = sput σ 0 5 1) else (if w1 = 0 then (z = σ (11 + 10 * i1.toNat) 3 ∧ u = sput σ 0 5 0) else (if w1 = 1 then (z = σ (11 + 10 * i1.toNat) 3 + σ (11 + 10 * i1.toNat) 4 ∧ u = sput σ 0 5 0) else (if w1 = 2 then (z = smR (fun v => if 0 < σ ((11 + 10 * i1.toNat) + 1) v then 1 else 0) 0 40 ∧ u = sput σ 0 5 0) else (z = -1 ∧ u = sput σ 0 5 1)))))) (hm : (if ¬ ((0 ≤ i1 ∧ i1 < 3) ∧ (0 ≤ w1 ∧ w1 ≤ 2)) then (z9 = -1 ∧ w = sput u b 0 1) else (if w1 = 0 then (z9 = u (b + 6) i1 ∧ w = sput u b 0 0) else (if w1 = 1 then (z9 = u (b + 6) i1 + u (b + 5) i1 ∧ w = sput u b 0 0) else (z9 = smR (fun v => if 0 < shR (u (b + 4)) (40 * i1) v then 1 else 0) 0 40 ∧ w = sput u b 0 0))))) : z = z9 ∧ Inv w b (n + 1000) := by
  obtain ⟨B1, F1⟩ := ic_rows hI.1 hn hc
  have F3 : ∀ a : Nat, b ≤ a → u a = σ a := fun a q => F1 a (by omega)
  have F2 := fm_rows hm
  have B2 : BI w (n + 1000) := BI_congr (fun a q1 q2 => F2 a (by omega)) B1
  have r := r_rows hb hI.2.1 hI.sz hc hm
  exact ⟨r.1, B2, r.2, im_rows B2 r.2 (moB_up (Int.le_refl _) (F3 _ (by omega)) (F3 _ (by omega)) (F3 _ (by omega)) (F3 _ (by omega)) hI.2.2) hn hm⟩
set_option maxHeartbeats 1000000 in
theorem st_read {σ u w : Mem} {b : Nat} {z z9 n : Int} (hb : 52 ≤ b) {i1 p1 : Int} (hI : Inv σ b n) (hn : 0 ≤ n ∧ n ≤ 511000)  (hc : (if ¬ (0 ≤ i1 ∧ i1 < 4) then (z = -1 ∧ u = sput σ 0 5 1) else (if σ (3 + 2 * i1.toNat) 1 = 0 then (z = -1 ∧ u = sput σ 0 5 2) else (if ¬ (0 ≤ p1 ∧ p1 ≤ σ (3 + 2 * i1.toNat) 3 - 1) then (z = -1 ∧ u = sput σ 0 5 3) else (z = σ ((3 + 2 * i1.toNat) + 1) (100000 + p1) ∧ u = sput σ 0 5 0))))) (hm : (if ¬ (0 ≤ i1 ∧ i1 < 4) then (z9 = -1 ∧ w = sput u b 0 1) else (if u (b + 2) i1 = -1 then (z9 = -1 ∧ w = sput u b 0 2) else (if ¬ (0 ≤ p1 ∧ p1 < u (b + 2) i1) then (z9 = -1 ∧ w = sput u b 0 3) else (z9 = u (b + 3) (100000 + (100 * i1 + p1)) ∧ w = sput u b 0 0))))) : z = z9 ∧ Inv w b (n + 1000) := by
  obtain ⟨B1, F1⟩ := ic_read hI.1 hn hc
  have F3 : ∀ a : Nat, b ≤ a → u a = σ a := fun a q => F1 a (by omega)
  have F2 := fm_read hm
  have B2 : BI w (n + 1000) := BI_congr (fun a q1 q2 => F2 a (by omega)) B1
  have r := r_read hb hI.2.1 hI.sz hc hm
  exact ⟨r.1, B2, r.2, im_read B2 r.2 (moB_up (Int.le_refl _) (F3 _ (by omega)) (F3 _ (by omega)) (F3 _ (by omega)) (F3 _ (by omega)) hI.2.2) hn hm⟩
set_option maxHeartbeats 1000000 in
theorem st_sketch {σ u w : Mem} {b : Nat} {z z9 n : Int} (hb : 52 ≤ b) {i1 w1 : Int} (hI : Inv σ b n) (hn : 0 ≤ n ∧ n ≤ 511000)  (hc : (if ¬ ((0 ≤ i1 ∧ i1 < 3) ∧ (0 ≤ w1 ∧ w1 ≤ 3)) then (z = -1 ∧ u = sput σ 0 5 1) else (if ¬ 0 < σ (11 + 10 * i1.toNat + 2) 5 then (z = -1 ∧ u = sput σ 0 5 5) else (if w1 = 0 then (z = σ (11 + 10 * i1.toNat + 2) 5 ∧ u = sput σ 0 5 0) else (if w1 = 1 then (z = 40 - ltC (σ ((11 + 10 * i1.toNat + 2) + 4)) 0 39 ∧ u = sput σ 0 5 0) else (if w1 = 2 then (z = smR (σ ((11 + 10 * i1.toNat + 2) + 3)) 0 (σ (11 + 10 * i1.toNat + 2) 5) ∧ u = sput σ 0 5 0) else (z = smR (σ ((11 + 10 * i1.toNat + 2) + 2)) 0 (σ (11 + 10 * i1.toNat + 2) 5) ∧ u = sput σ 0 5 0))))))) (hm : (if ¬ ((0 ≤ i1 ∧ i1 < 3) ∧ (0 ≤ w1 ∧ w1 ≤ 3)) then (z9 = -1 ∧ w = sput u b 0 1) else (if (u (b + 11) i1) = 0 then (z9 = -1 ∧ w = sput u b 0 5) else (if w1 = 0 then (z9 = (u (b + 11) i1) ∧ w = sput u b 0 0) else (if w1 = 1 then (z9 = 40 - ltC (shR (u (b + 14)) (40 * i1)) 0 39 ∧ w = sput u b 0 0) else (if w1 = 2 then (z9 = smR (shR (u (b + 17)) (40 * i1)) 0 (u (b + 11) i1) ∧ w = sput u b 0 0) else (z9 = smR (shR (u (b + 16)) (40 * i1)) 0 (u (b + 11) i1) ∧ w = sput u b 0 0))))))) : z = z9 ∧ Inv w b (n + 1000) := by
  obtain ⟨B1, F1⟩ := ic_sketch hI.1 hn hc
  have F3 : ∀ a : Nat, b ≤ a → u a = σ a := fun a q => F1 a (by omega)
  have F2 := fm_sketch hm
  have B2 : BI w (n + 1000) := BI_congr (fun a q1 q2 => F2 a (by omega)) B1
  have r := r_sketch hb hI.2.1 hI.sz hc hm
  exact ⟨r.1, B2, r.2, im_sketch B2 r.2 (moB_up (Int.le_refl _) (F3 _ (by omega)) (F3 _ (by omega)) (F3 _ (by omega)) (F3 _ (by omega)) hI.2.2) hn hm⟩
set_option maxHeartbeats 1000000 in
theorem st_span {σ u w : Mem} {b : Nat} {z z9 n : Int} (hb : 52 ≤ b) {i1 k1 w1 : Int} (hI : Inv σ b n) (hn : 0 ≤ n ∧ n ≤ 511000)  (hc : (if ¬ (0 ≤ i1 ∧ i1 < 3) then (z = -1 ∧ u = sput σ 0 5 1) else (if ¬ 0 < σ (11 + 10 * i1.toNat + 2) 5 then (z = -1 ∧ u = sput σ 0 5 5) else (if ¬ (0 ≤ k1 ∧ k1 ≤ σ (11 + 10 * i1.toNat + 2) 5 - 1) then (z = -1 ∧ u = sput σ 0 5 1) else (if w1 = 0 then (z = foF (σ ((11 + 10 * i1.toNat + 2) + 1)) k1 ∧ u = sput σ 0 5 0) else (if w1 = 1 then (z = σ ((11 + 10 * i1.toNat + 2) + 1) k1 ∧ u = sput σ 0 5 0) else (if w1 = 2 then (z = σ ((11 + 10 * i1.toNat + 2) + 2) k1 ∧ u = sput σ 0 5 0) else (if w1 = 3 then (z = σ ((11 + 10 * i1.toNat + 2) + 3) k1 ∧ u = sput σ 0 5 0) else (if w1 = 4 then (z = loN (σ ((11 + 10 * i1.toNat + 2) + 4)) (σ ((11 + 10 * i1.toNat + 2) + 1)) k1 ∧ u = sput σ 0 5 0) else (z = -1 ∧ u = sput σ 0 5 1)))))))))) (hm : (if ¬ (0 ≤ i1 ∧ i1 < 3) then (z9 = -1 ∧ w = sput u b 0 1) else (if (u (b + 11) i1) = 0 then (z9 = -1 ∧ w = sput u b 0 5) else (if ¬ (0 ≤ k1 ∧ k1 ≤ (u (b + 11) i1) - 1) then (z9 = -1 ∧ w = sput u b 0 1) else (if w1 = 0 then (z9 = foF (shR (u (b + 15)) (40 * i1)) k1 ∧ w = sput u b 0 0) else (if w1 = 1 then (z9 = (shR (u (b + 15)) (40 * i1)) k1 ∧ w = sput u b 0 0) else (if w1 = 2 then (z9 = (shR (u (b + 16)) (40 * i1)) k1 ∧ w = sput u b 0 0) else (if w1 = 3 then (z9 = (shR (u (b + 17)) (40 * i1)) k1 ∧ w = sput u b 0 0) else (if w1 = 4 then (z9 = loN (shR (u (b + 14)) (40 * i1)) (shR (u (b + 15)) (40 * i1)) k1 ∧ w = sput u b 0 0) else (z9 = -1 ∧ w = sput u b 0 1)))))))))) : z = z9 ∧ Inv w b (n + 1000) := by
  obtain ⟨B1, F1⟩ := ic_span hI.1 hn hc
  have F3 : ∀ a : Nat, b ≤ a → u a = σ a := fun a q => F1 a (by omega)
  have F2 := fm_span hm
  have B2 : BI w (n + 1000) := BI_congr (fun a q1 q2 => F2 a (by omega)) B1
  have r := r_span hb hI.2.1 hI.sz hc hm
  exact ⟨r.1, B2, r.2, im_span B2 r.2 (moB_up (Int.le_refl _) (F3 _ (by omega)) (F3 _ (by omega)) (F3 _ (by omega)) (F3 _ (by omega)) hI.2.2) hn hm⟩
set_option maxHeartbeats 1000000 in
theorem st_heavy {σ u w : Mem} {b : Nat} {z z9 n : Int} (hb : 52 ≤ b) {i1 x1 : Int} (hI : Inv σ b n) (hn : 0 ≤ n ∧ n ≤ 511000)  (hc : (if ¬ ((0 ≤ i1 ∧ i1 < 3) ∧ (0 ≤ x1 ∧ x1 ≤ 39)) then (z = -1 ∧ u = sput σ 0 5 1) else (if ¬ 0 < σ (11 + 10 * i1.toNat + 2) 5 then (z = -1 ∧ u = sput σ 0 5 5) else (if σ ((11 + 10 * i1.toNat + 2) + 4) x1 = 0 then (z = -1 ∧ u = sput σ 0 5 6) else (z = σ ((11 + 10 * i1.toNat + 2) + 5) x1 ∧ u = sput σ 0 5 0))))) (hm : (if ¬ ((0 ≤ i1 ∧ i1 < 3) ∧ (0 ≤ x1 ∧ x1 ≤ 39)) then (z9 = -1 ∧ w = sput u b 0 1) else (if (u (b + 11) i1) = 0 then (z9 = -1 ∧ w = sput u b 0 5) else (if (shR (u (b + 14)) (40 * i1)) x1 = 0 then (z9 = -1 ∧ w = sput u b 0 6) else (z9 = (shR (u (b + 13)) (40 * i1)) x1 ∧ w = sput u b 0 0))))) : z = z9 ∧ Inv w b (n + 1000) := by
  obtain ⟨B1, F1⟩ := ic_heavy hI.1 hn hc
  have F3 : ∀ a : Nat, b ≤ a → u a = σ a := fun a q => F1 a (by omega)
  have F2 := fm_heavy hm
  have B2 : BI w (n + 1000) := BI_congr (fun a q1 q2 => F2 a (by omega)) B1
  have r := r_heavy hb hI.2.1 hI.sz hc hm
  exact ⟨r.1, B2, r.2, im_heavy B2 r.2 (moB_up (Int.le_refl _) (F3 _ (by omega)) (F3 _ (by omega)) (F3 _ (by omega)) (F3 _ (by omega)) hI.2.2) hn hm⟩
set_option maxHeartbeats 1000000 in
theorem st_drifts {σ u w : Mem} {b : Nat} {z z9 n : Int} (hb : 52 ≤ b) {i1 : Int} (hI : Inv σ b n) (hn : 0 ≤ n ∧ n ≤ 511000)  (hc : (if ¬ (0 ≤ i1 ∧ i1 < 3) then (z = -1 ∧ u = sput σ 0 5 1) else (if ¬ 0 < σ (11 + 10 * i1.toNat + 2) 5 then (z = -1 ∧ u = sput σ 0 5 5) else (z = σ (11 + 10 * i1.toNat + 2) 6 ∧ u = sput σ 0 5 0)))) (hm : (if ¬ (0 ≤ i1 ∧ i1 < 3) then (z9 = -1 ∧ w = sput u b 0 1) else (if (u (b + 11) i1) = 0 then (z9 = -1 ∧ w = sput u b 0 5) else (z9 = u (b + 12) i1 ∧ w = sput u b 0 0)))) : z = z9 ∧ Inv w b (n + 1000) := by
  obtain ⟨B1, F1⟩ := ic_drifts hI.1 hn hc
  have F3 : ∀ a : Nat, b ≤ a → u a = σ a := fun a q => F1 a (by omega)
  have F2 := fm_drifts hm
  have B2 : BI w (n + 1000) := BI_congr (fun a q1 q2 => F2 a (by omega)) B1
  have r := r_drifts hb hI.2.1 hI.sz hc hm
  exact ⟨r.1, B2, r.2, im_drifts B2 r.2 (moB_up (Int.le_refl _) (F3 _ (by omega)) (F3 _ (by omega)) (F3 _ (by omega)) (F3 _ (by omega)) hI.2.2) hn hm⟩
set_option maxHeartbeats 1000000 in
theorem st_bound {σ u w : Mem} {b : Nat} {z z9 n : Int} (hb : 52 ≤ b) {i1 a1 a2 w1 : Int} (hI : Inv σ b n) (hn : 0 ≤ n ∧ n ≤ 511000)  (hc : (if ¬ ((0 ≤ i1 ∧ i1 < 3) ∧ (0 ≤ a1 ∧ a1 ≤ a2 ∧ a2 ≤ 39)) then (z = -1 ∧ u = sput σ 0 5 1) else (if ¬ 0 < σ (11 + 10 * i1.toNat + 2) 5 then (z = -1 ∧ u = sput σ 0 5 5) else (if w1 = 0 then (z = loV σ (11 + 10 * i1.toNat + 2) a1 a2 ∧ u = sput σ 0 5 0) else (z = hiV σ (11 + 10 * i1.toNat + 2) a1 a2 ∧ u = sput σ 0 5 0))))) (hm : (if ¬ ((0 ≤ i1 ∧ i1 < 3) ∧ (0 ≤ a1 ∧ a1 ≤ a2 ∧ a2 ≤ 39)) then (z9 = -1 ∧ w = sput u b 0 1) else (if (u (b + 11) i1) = 0 then (z9 = -1 ∧ w = sput u b 0 5) else (if w1 = 0 then (z9 = moL u b i1 a1 a2 ∧ w = sput u b 0 0) else (z9 = moH u b i1 a1 a2 ∧ w = sput u b 0 0))))) : z = z9 ∧ Inv w b (n + 1000) := by
  obtain ⟨B1, F1⟩ := ic_bound hI.1 hn hc
  have F3 : ∀ a : Nat, b ≤ a → u a = σ a := fun a q => F1 a (by omega)
  have F2 := fm_bound hm
  have B2 : BI w (n + 1000) := BI_congr (fun a q1 q2 => F2 a (by omega)) B1
  have r := r_bound hb hI.2.1 hI.sz hc hm
  exact ⟨r.1, B2, r.2, im_bound B2 r.2 (moB_up (Int.le_refl _) (F3 _ (by omega)) (F3 _ (by omega)) (F3 _ (by omega)) (F3 _ (by omega)) hI.2.2) hn hm⟩
set_option maxHeartbeats 1000000 in
theorem st_drawn {σ u w : Mem} {b : Nat} {z z9 n : Int} (hb : 52 ≤ b) {i1 k1 : Int} (hI : Inv σ b n) (hn : 0 ≤ n ∧ n ≤ 511000)  (hc : (if ¬ ((0 ≤ i1 ∧ i1 < 3) ∧ (0 ≤ k1 ∧ k1 ≤ 15)) then (z = -1 ∧ u = sput σ 0 5 1) else (if min (σ (11 + 10 * i1.toNat + 8) 3) (σ (11 + 10 * i1.toNat + 8) 1) ≤ k1 then (z = -1 ∧ u = sput σ 0 5 6) else (z = (if σ ((11 + 10 * i1.toNat + 8) + 1) k1 = -1 then -2 else σ ((11 + 10 * i1.toNat + 8) + 1) k1) ∧ u = sput σ 0 5 0)))) (hm : (if ¬ ((0 ≤ i1 ∧ i1 < 3) ∧ (0 ≤ k1 ∧ k1 ≤ 15)) then (z9 = -1 ∧ w = sput u b 0 1) else (if u (b + 7) i1 ≤ k1 ∨ u (b + 8) i1 ≤ k1 then (z9 = -1 ∧ w = sput u b 0 6) else (z9 = (if u (b + 9) (16 * i1 + k1) = -1 then -2 else u (b + 9) (16 * i1 + k1)) ∧ w = sput u b 0 0)))) : z = z9 ∧ Inv w b (n + 1000) := by
  obtain ⟨B1, F1⟩ := ic_drawn hI.1 hn hc
  have F3 : ∀ a : Nat, b ≤ a → u a = σ a := fun a q => F1 a (by omega)
  have F2 := fm_drawn hm
  have B2 : BI w (n + 1000) := BI_congr (fun a q1 q2 => F2 a (by omega)) B1
  have r := r_drawn hb hI.2.1 hI.sz hc hm
  exact ⟨r.1, B2, r.2, im_drawn B2 r.2 (moB_up (Int.le_refl _) (F3 _ (by omega)) (F3 _ (by omega)) (F3 _ (by omega)) (F3 _ (by omega)) hI.2.2) hn hm⟩
set_option maxHeartbeats 1000000 in
theorem st_harm {σ u w : Mem} {b : Nat} {z z9 n : Int} (hb : 52 ≤ b) {i1 a1 a2 i2 b1 b2 : Int} (hI : Inv σ b n) (hn : 0 ≤ n ∧ n ≤ 511000)  (hc : (if ¬ ((0 ≤ i1 ∧ i1 < 3) ∧ (0 ≤ i2 ∧ i2 < 3) ∧ (0 ≤ a1 ∧ a1 ≤ a2 ∧ a2 ≤ 39) ∧ (0 ≤ b1 ∧ b1 ≤ b2 ∧ b2 ≤ 39)) then (z = -1 ∧ u = sput σ 0 5 1) else (if ¬ (0 < σ (11 + 10 * i1.toNat + 2) 5 ∧ 0 < σ (11 + 10 * i2.toNat + 2) 5) then (z = -1 ∧ u = sput σ 0 5 5) else (z = sgI (frN (hiV σ (11 + 10 * i1.toNat + 2) a1 a2) (max 1 (loV σ (11 + 10 * i2.toNat + 2) b1 b2))) ∧ u = sput (sput (sput σ 51 100000 (frN (hiV σ (11 + 10 * i1.toNat + 2) a1 a2) (max 1 (loV σ (11 + 10 * i2.toNat + 2) b1 b2)))) 51 100001 (frD (hiV σ (11 + 10 * i1.toNat + 2) a1 a2) (max 1 (loV σ (11 + 10 * i2.toNat + 2) b1 b2)))) 0 5 0)))) (hm : (if ¬ ((0 ≤ i1 ∧ i1 < 3) ∧ (0 ≤ i2 ∧ i2 < 3) ∧ (0 ≤ a1 ∧ a1 ≤ a2 ∧ a2 ≤ 39) ∧ (0 ≤ b1 ∧ b1 ≤ b2 ∧ b2 ≤ 39)) then (z9 = -1 ∧ w = sput u b 0 1) else (if (u (b + 11) i1) = 0 ∨ u (b + 11) i2 = 0 then (z9 = -1 ∧ w = sput u b 0 5) else (z9 = sgI (moH u b i1 a1 a2) ∧ w = sput (sput (sput u b 100001 (frN (moH u b i1 a1 a2) (max 1 (moL u b i2 b1 b2)))) b 100002 (frD (moH u b i1 a1 a2) (max 1 (moL u b i2 b1 b2)))) b 0 0)))) : z = z9 ∧ Inv w b (n + 1000) := by
  obtain ⟨B1, F1⟩ := ic_harm hI.1 hn hc
  have F3 : ∀ a : Nat, b ≤ a → u a = σ a := fun a q => F1 a (by omega)
  have F2 := fm_harm hm
  have B2 : BI w (n + 1000) := BI_congr (fun a q1 q2 => F2 a (by omega)) B1
  have r := r_harm hb hI.2.1 hI.sz hc hm
  exact ⟨r.1, B2, r.2, im_harm B2 r.2 (moB_up (Int.le_refl _) (F3 _ (by omega)) (F3 _ (by omega)) (F3 _ (by omega)) (F3 _ (by omega)) hI.2.2) hn hm⟩
set_option maxHeartbeats 1000000 in
theorem st_guess {σ u w : Mem} {b : Nat} {z z9 n : Int} (hb : 52 ≤ b) {i1 a1 a2 : Int} (hI : Inv σ b n) (hn : 0 ≤ n ∧ n ≤ 511000)  (hc : (if ¬ ((0 ≤ i1 ∧ i1 < 3) ∧ (0 ≤ a1 ∧ a1 ≤ a2 ∧ a2 ≤ 39)) then (z = -1 ∧ u = sput σ 0 5 1) else (if ¬ 0 < σ (11 + 10 * i1.toNat + 2) 5 then (z = -1 ∧ u = sput σ 0 5 5) else (z = sgI (guV σ (11 + 10 * i1.toNat + 2) a1 a2).1 ∧ ∃ τ : Mem, (∀ a : Nat, a ≠ 51 → τ a = σ a) ∧ τ 51 100000 = (guV σ (11 + 10 * i1.toNat + 2) a1 a2).1 ∧ τ 51 100001 = (guV σ (11 + 10 * i1.toNat + 2) a1 a2).2 ∧ u = sput τ 0 5 0)))) (hm : (if ¬ ((0 ≤ i1 ∧ i1 < 3) ∧ (0 ≤ a1 ∧ a1 ≤ a2 ∧ a2 ≤ 39)) then (z9 = -1 ∧ w = sput u b 0 1) else (if (u (b + 11) i1) = 0 then (z9 = -1 ∧ w = sput u b 0 5) else (z9 = sgI (moG u b i1 a1 a2).1 ∧ w = sput (sput (sput u b 100001 (frN (moG u b i1 a1 a2).1 (moG u b i1 a1 a2).2)) b 100002 (frD (moG u b i1 a1 a2).1 (moG u b i1 a1 a2).2)) b 0 0)))) : z = z9 ∧ Inv w b (n + 1000) := by
  obtain ⟨B1, F1⟩ := ic_guess hI.1 hn hc
  have F3 : ∀ a : Nat, b ≤ a → u a = σ a := fun a q => F1 a (by omega)
  have F2 := fm_guess hm
  have B2 : BI w (n + 1000) := BI_congr (fun a q1 q2 => F2 a (by omega)) B1
  have r := r_guess hb hI.2.1 hI.sz hc hm
  exact ⟨r.1, B2, r.2, im_guess B2 r.2 (moB_up (Int.le_refl _) (F3 _ (by omega)) (F3 _ (by omega)) (F3 _ (by omega)) (F3 _ (by omega)) hI.2.2) hn hm⟩
set_option maxHeartbeats 1000000 in
theorem st_join {σ u w : Mem} {b : Nat} {z z9 n : Int} (hb : 52 ≤ b) {i1 i2 : Int} (hI : Inv σ b n) (hn : 0 ≤ n ∧ n ≤ 511000)  (hc : (if ¬ ((0 ≤ i1 ∧ i1 < 3) ∧ (0 ≤ i2 ∧ i2 < 3)) then (z = -1 ∧ u = sput σ 0 5 1) else (if ¬ (0 < σ (11 + 10 * i1.toNat + 2) 5 ∧ 0 < σ (11 + 10 * i2.toNat + 2) 5) then (z = -1 ∧ u = sput σ 0 5 5) else (z = sgI (joV σ (11 + 10 * i1.toNat + 2) (11 + 10 * i2.toNat + 2)).1 ∧ ∃ τ : Mem, (∀ a : Nat, a ≠ 51 → τ a = σ a) ∧ τ 51 100000 = (joV σ (11 + 10 * i1.toNat + 2) (11 + 10 * i2.toNat + 2)).1 ∧ τ 51 100001 = (joV σ (11 + 10 * i1.toNat + 2) (11 + 10 * i2.toNat + 2)).2 ∧ u = sput τ 0 5 0)))) (hm : (if ¬ ((0 ≤ i1 ∧ i1 < 3) ∧ (0 ≤ i2 ∧ i2 < 3)) then (z9 = -1 ∧ w = sput u b 0 1) else (if (u (b + 11) i1) = 0 ∨ (u (b + 11) i2) = 0 then (z9 = -1 ∧ w = sput u b 0 5) else (z9 = sgI (moJ u b i1 i2).1 ∧ w = sput (sput (sput u b 100001 (frN (moJ u b i1 i2).1 (moJ u b i1 i2).2)) b 100002 (frD (moJ u b i1 i2).1 (moJ u b i1 i2).2)) b 0 0)))) : z = z9 ∧ Inv w b (n + 1000) := by
  obtain ⟨B1, F1⟩ := ic_join hI.1 hn hc
  have F3 : ∀ a : Nat, b ≤ a → u a = σ a := fun a q => F1 a (by omega)
  have F2 := fm_join hm
  have B2 : BI w (n + 1000) := BI_congr (fun a q1 q2 => F2 a (by omega)) B1
  have r := r_join hb hI.2.1 hI.sz (fun q1 q2 q3 q4 => hI.mjB q1 q2 q3 q4) hc hm
  exact ⟨r.1, B2, r.2, im_join B2 r.2 (moB_up (Int.le_refl _) (F3 _ (by omega)) (F3 _ (by omega)) (F3 _ (by omega)) (F3 _ (by omega)) hI.2.2) hn hm⟩
set_option maxHeartbeats 1000000 in
theorem st_away {σ u w : Mem} {b : Nat} {z z9 n : Int} (hb : 52 ≤ b) {i1 : Int} (hI : Inv σ b n) (hn : 0 ≤ n ∧ n ≤ 511000)  (hc : (if ¬ (0 ≤ i1 ∧ i1 < 3) then (z = 0 ∧ u = sput σ 0 5 1) else (if ¬ 0 < σ (11 + 10 * i1.toNat + 2) 5 then (z = 0 ∧ u = sput σ 0 5 5) else (z = 1 ∧ u = sput (sput σ (11 + 10 * i1.toNat + 2) 5 0) 0 5 0)))) (hm : (if ¬ (0 ≤ i1 ∧ i1 < 3) then (z9 = 0 ∧ w = sput u b 0 1) else (if (u (b + 11) i1) = 0 then (z9 = 0 ∧ w = sput u b 0 5) else (z9 = 1 ∧ w = sput (sput u (b + 11) i1 0) b 0 0)))) : z = z9 ∧ Inv w b (n + 1000) := by
  obtain ⟨B1, F1⟩ := ic_away hI.1 hn hc
  have F3 : ∀ a : Nat, b ≤ a → u a = σ a := fun a q => F1 a (by omega)
  have F2 := fm_away hm
  have B2 : BI w (n + 1000) := BI_congr (fun a q1 q2 => F2 a (by omega)) B1
  have r := r_away hb hI.2.1 hI.sz hI.sa hc hm
  exact ⟨r.1, B2, r.2, im_away B2 r.2 (moB_up (Int.le_refl _) (F3 _ (by omega)) (F3 _ (by omega)) (F3 _ (by omega)) (F3 _ (by omega)) hI.2.2) hn hm⟩
set_option maxHeartbeats 1000000 in
theorem st_sample {σ u w : Mem} {b : Nat} {z z9 n : Int} (hb : 52 ≤ b) {i1 k1 s1 : Int} (hI : Inv σ b n) (hn : 0 ≤ n ∧ n ≤ 511000) (h3 : rg s1) (hc : (if ¬ ((0 ≤ i1 ∧ i1 < 3) ∧ (1 ≤ k1 ∧ k1 ≤ 16) ∧ 0 ≤ s1) then (z = 0 ∧ u = sput σ 0 5 1) else (z = 1 ∧ u = sput (sput (sput (sput σ (11 + 10 * i1.toNat + 8) 1 k1) (11 + 10 * i1.toNat + 8) 2 s1) (11 + 10 * i1.toNat + 8) 3 0) 0 5 0))) (hm : (if ¬ ((0 ≤ i1 ∧ i1 < 3) ∧ (1 ≤ k1 ∧ k1 ≤ 16) ∧ 0 ≤ s1) then (z9 = 0 ∧ w = sput u b 0 1) else (z9 = 1 ∧ w = sput (sput (sput (sput u (b + 7) i1 k1) (b + 8) i1 0) (b + 10) (100000 + i1) s1) b 0 0))) : z = z9 ∧ Inv w b (n + 1000) := by
  obtain ⟨B1, F1⟩ := ic_sample hI.1 hn h3 hc
  have F3 : ∀ a : Nat, b ≤ a → u a = σ a := fun a q => F1 a (by omega)
  have F2 := fm_sample hm
  have B2 : BI w (n + 1000) := BI_congr (fun a q1 q2 => F2 a (by omega)) B1
  have r := r_sample hb hI.2.1 hI.sz hI.sa hc hm
  exact ⟨r.1, B2, r.2, im_sample B2 r.2 (moB_up (Int.le_refl _) (F3 _ (by omega)) (F3 _ (by omega)) (F3 _ (by omega)) (F3 _ (by omega)) hI.2.2) hn hm⟩
set_option maxHeartbeats 1000000 in
theorem st_write {σ u w : Mem} {b : Nat} {z z9 n : Int} (hb : 52 ≤ b) {i1 p1 x1 : Int} (hI : Inv σ b n) (hn : 0 ≤ n ∧ n ≤ 511000)  (hc : (if ¬ (0 ≤ i1 ∧ i1 < 4) then (z = 0 ∧ u = sput σ 0 5 1) else (if σ (3 + 2 * i1.toNat) 1 = 0 then (z = 0 ∧ u = sput σ 0 5 2) else (if ¬ (0 ≤ p1 ∧ p1 ≤ σ (3 + 2 * i1.toNat) 3 - 1) then (z = 0 ∧ u = sput σ 0 5 3) else (z = 1 ∧ u = sput (sput σ ((3 + 2 * i1.toNat) + 1) (100000 + p1) (fitI (σ (3 + 2 * i1.toNat) 2) x1)) 0 5 0))))) (hm : (if ¬ (0 ≤ i1 ∧ i1 < 4) then (z9 = 0 ∧ w = sput u b 0 1) else (if u (b + 2) i1 = -1 then (z9 = 0 ∧ w = sput u b 0 2) else (if ¬ (0 ≤ p1 ∧ p1 < u (b + 2) i1) then (z9 = 0 ∧ w = sput u b 0 3) else (z9 = 1 ∧ w = sput (sput u (b + 3) (100000 + (100 * i1 + p1)) (fitI (u (b + 1) i1) x1)) b 0 0))))) : z = z9 ∧ Inv w b (n + 1000) := by
  obtain ⟨B1, F1⟩ := ic_write hI.1 hn hc
  have F3 : ∀ a : Nat, b ≤ a → u a = σ a := fun a q => F1 a (by omega)
  have F2 := fm_write hm
  have B2 : BI w (n + 1000) := BI_congr (fun a q1 q2 => F2 a (by omega)) B1
  have r := r_write hb hI.2.1 hI.sz hI.2.2.1 hc hm
  exact ⟨r.1, B2, r.2, im_write B2 r.2 (moB_up (Int.le_refl _) (F3 _ (by omega)) (F3 _ (by omega)) (F3 _ (by omega)) (F3 _ (by omega)) hI.2.2) hn hm⟩
set_option maxHeartbeats 1000000 in
theorem st_pour {σ u w : Mem} {b : Nat} {z z9 n : Int} (hb : 52 ≤ b) {i1 p1 i2 p2 m1 : Int} (hI : Inv σ b n) (hn : 0 ≤ n ∧ n ≤ 511000)  (hc : (if ¬ ((0 ≤ i1 ∧ i1 < 4) ∧ (0 ≤ i2 ∧ i2 < 4) ∧ 0 ≤ p1 ∧ 0 ≤ p2 ∧ 0 ≤ m1) then (z = 0 ∧ u = sput σ 0 5 1) else (if σ (3 + 2 * i1.toNat) 1 = 0 ∨ σ (3 + 2 * i2.toNat) 1 = 0 then (z = 0 ∧ u = sput σ 0 5 2) else (if σ (3 + 2 * i1.toNat) 2 ≠ σ (3 + 2 * i2.toNat) 2 then (z = 0 ∧ u = sput σ 0 5 7) else (if ¬ (p1 ≤ σ (3 + 2 * i1.toNat) 3 - m1 ∧ p2 ≤ σ (3 + 2 * i2.toNat) 3 - m1) then (z = 0 ∧ u = sput σ 0 5 3) else (z = 1 ∧ u = sput (mset σ ((3 + 2 * i2.toNat) + 1) (mcpy (σ ((3 + 2 * i1.toNat) + 1)) (σ ((3 + 2 * i2.toNat) + 1)) (100000 + p1) (100000 + p2) m1)) 0 5 0)))))) (hm : (if ¬ ((0 ≤ i1 ∧ i1 < 4) ∧ (0 ≤ i2 ∧ i2 < 4) ∧ 0 ≤ p1 ∧ 0 ≤ p2 ∧ 0 ≤ m1) then (z9 = 0 ∧ w = sput u b 0 1) else (if u (b + 2) i1 = -1 ∨ u (b + 2) i2 = -1 then (z9 = 0 ∧ w = sput u b 0 2) else (if u (b + 1) i1 ≠ u (b + 1) i2 then (z9 = 0 ∧ w = sput u b 0 7) else (if ¬ (m1 ≤ u (b + 2) i1 - p1 ∧ m1 ≤ u (b + 2) i2 - p2) then (z9 = 0 ∧ w = sput u b 0 3) else (z9 = 1 ∧ (∀ j : Int, w (b + 3) (100000 + j) = if 0 ≤ (j - (100 * i2 + p2)) ∧ (j - (100 * i2 + p2)) < m1 then u (b + 3) (100000 + (100 * i1 + p1 + (j - (100 * i2 + p2)))) else u (b + 3) (100000 + j)) ∧ ∀ a : Nat, a ≠ b + 3 → w a = sput u b 0 0 a)))))) : z = z9 ∧ Inv w b (n + 1000) := by
  obtain ⟨B1, F1⟩ := ic_pour hI.1 hn hc
  have F3 : ∀ a : Nat, b ≤ a → u a = σ a := fun a q => F1 a (by omega)
  have F2 := fm_pour hm
  have B2 : BI w (n + 1000) := BI_congr (fun a q1 q2 => F2 a (by omega)) B1
  have r := r_pour hb hI.2.1 hI.sz hI.2.2.1 hc hm
  exact ⟨r.1, B2, r.2, im_pour B2 r.2 (moB_up (Int.le_refl _) (F3 _ (by omega)) (F3 _ (by omega)) (F3 _ (by omega)) (F3 _ (by omega)) hI.2.2) hn hm⟩
set_option maxHeartbeats 1000000 in
theorem st_split {σ u w : Mem} {b : Nat} {z z9 n : Int} (hb : 52 ≤ b) {i1 x1 : Int} (hI : Inv σ b n) (hn : 0 ≤ n ∧ n ≤ 511000)  (hc : (if ¬ ((0 ≤ i1 ∧ i1 < 3) ∧ (0 ≤ x1 ∧ x1 ≤ 39)) then (z = -1 ∧ u = sput σ 0 5 1) else (if ¬ 0 < σ (11 + 10 * i1.toNat + 2) 5 then (z = -1 ∧ u = sput σ 0 5 5) else (if σ ((11 + 10 * i1.toNat + 2) + 1) (spOf (σ ((11 + 10 * i1.toNat + 2) + 1)) (σ (11 + 10 * i1.toNat + 2) 5) x1) = x1 ∨ 12 ≤ σ (11 + 10 * i1.toNat + 2) 5 then (z = -1 ∧ u = sput σ 0 5 6) else (z = spOf (σ ((11 + 10 * i1.toNat + 2) + 1)) (σ (11 + 10 * i1.toNat + 2) 5) x1 ∧ ∃ τ : Mem, skFr σ τ (11 + 10 * i1.toNat + 2) ∧ skV τ (11 + 10 * i1.toNat + 2) = cutV (σ ((11 + 10 * i1.toNat + 2) + 4)) (skV σ (11 + 10 * i1.toNat + 2)) (spOf (σ ((11 + 10 * i1.toNat + 2) + 1)) (σ (11 + 10 * i1.toNat + 2) 5) x1) x1 ∧ u = sput τ 0 5 0))))) (hm : (if ¬ ((0 ≤ i1 ∧ i1 < 3) ∧ (0 ≤ x1 ∧ x1 ≤ 39)) then (z9 = -1 ∧ w = sput u b 0 1) else (if (u (b + 11) i1) = 0 then (z9 = -1 ∧ w = sput u b 0 5) else (if (shR (u (b + 15)) (40 * i1)) (spOf (shR (u (b + 15)) (40 * i1)) (u (b + 11) i1) x1) = x1 ∨ 12 ≤ (u (b + 11) i1) then (z9 = -1 ∧ w = sput u b 0 6) else (z9 = spOf (shR (u (b + 15)) (40 * i1)) (u (b + 11) i1) x1 ∧ moFr (sput u b 0 0) w b i1 ∧ moV w b i1 = cutV (shR (u (b + 14)) (40 * i1)) (moV u b i1) (spOf (shR (u (b + 15)) (40 * i1)) (u (b + 11) i1) x1) x1))))) : z = z9 ∧ Inv w b (n + 1000) := by
  obtain ⟨B1, F1⟩ := ic_split hI.1 hn hc
  have F3 : ∀ a : Nat, b ≤ a → u a = σ a := fun a q => F1 a (by omega)
  have F2 := fm_split hm
  have B2 : BI w (n + 1000) := BI_congr (fun a q1 q2 => F2 a (by omega)) B1
  have r := r_split hb hI.2.1 hI.sz hI.sa hc hm
  exact ⟨r.1, B2, r.2, im_split B2 r.2 (moB_up (Int.le_refl _) (F3 _ (by omega)) (F3 _ (by omega)) (F3 _ (by omega)) (F3 _ (by omega)) hI.2.2) hn hm⟩
set_option maxHeartbeats 1000000 in
theorem st_melt {σ u w : Mem} {b : Nat} {z z9 n : Int} (hb : 52 ≤ b) {i1 k1 : Int} (hI : Inv σ b n) (hn : 0 ≤ n ∧ n ≤ 511000)  (hc : (if ¬ (0 ≤ i1 ∧ i1 < 3) then (z = 0 ∧ u = sput σ 0 5 1) else (if ¬ 0 < σ (11 + 10 * i1.toNat + 2) 5 then (z = 0 ∧ u = sput σ 0 5 5) else (if ¬ (0 ≤ k1 ∧ k1 ≤ σ (11 + 10 * i1.toNat + 2) 5 - 2) then (z = 0 ∧ u = sput σ 0 5 6) else (z = 1 ∧ ∃ τ : Mem, skFr σ τ (11 + 10 * i1.toNat + 2) ∧ skV τ (11 + 10 * i1.toNat + 2) = fuseV (skV σ (11 + 10 * i1.toNat + 2)) k1 ∧ u = sput τ 0 5 0))))) (hm : (if ¬ (0 ≤ i1 ∧ i1 < 3) then (z9 = 0 ∧ w = sput u b 0 1) else (if (u (b + 11) i1) = 0 then (z9 = 0 ∧ w = sput u b 0 5) else (if ¬ (0 ≤ k1 ∧ k1 ≤ (u (b + 11) i1) - 2) then (z9 = 0 ∧ w = sput u b 0 6) else (z9 = 1 ∧ moFr (sput u b 0 0) w b i1 ∧ moV w b i1 = fuseV (moV u b i1) k1))))) : z = z9 ∧ Inv w b (n + 1000) := by
  obtain ⟨B1, F1⟩ := ic_melt hI.1 hn hc
  have F3 : ∀ a : Nat, b ≤ a → u a = σ a := fun a q => F1 a (by omega)
  have F2 := fm_melt hm
  have B2 : BI w (n + 1000) := BI_congr (fun a q1 q2 => F2 a (by omega)) B1
  have r := r_melt hb hI.2.1 hI.sz hI.sa hc hm
  exact ⟨r.1, B2, r.2, im_melt B2 r.2 (moB_up (Int.le_refl _) (F3 _ (by omega)) (F3 _ (by omega)) (F3 _ (by omega)) (F3 _ (by omega)) hI.2.2) hn hm⟩
set_option maxHeartbeats 1000000 in
theorem st_keep {σ u w : Mem} {b : Nat} {z z9 n : Int} (hb : 52 ≤ b) {i1 : Int} (hI : Inv σ b n) (hn : 0 ≤ n ∧ n ≤ 511000)  (hc : (if ¬ (0 ≤ i1 ∧ i1 < 3) then (z = -1 ∧ u = sput σ 0 5 1) else (if ¬ 0 < σ (11 + 10 * i1.toNat + 2) 5 then (z = -1 ∧ u = sput σ 0 5 5) else (z = (if (keepV (σ ((11 + 10 * i1.toNat + 2) + 4)) (skV σ (11 + 10 * i1.toNat + 2))).2 = 0 then 0 else 1) ∧ ∃ τ : Mem, skFr σ τ (11 + 10 * i1.toNat + 2) ∧ skV τ (11 + 10 * i1.toNat + 2) = (keepV (σ ((11 + 10 * i1.toNat + 2) + 4)) (skV σ (11 + 10 * i1.toNat + 2))).1 ∧ u = sput τ 0 5 0)))) (hm : (if ¬ (0 ≤ i1 ∧ i1 < 3) then (z9 = -1 ∧ w = sput u b 0 1) else (if (u (b + 11) i1) = 0 then (z9 = -1 ∧ w = sput u b 0 5) else (z9 = (keepV (shR (u (b + 14)) (40 * i1)) (moV u b i1)).2 ∧ moFr (sput u b 0 0) w b i1 ∧ moV w b i1 = (keepV (shR (u (b + 14)) (40 * i1)) (moV u b i1)).1)))) : z = z9 ∧ Inv w b (n + 1000) := by
  obtain ⟨B1, F1⟩ := ic_keep hI.1 hn hc
  have F3 : ∀ a : Nat, b ≤ a → u a = σ a := fun a q => F1 a (by omega)
  have F2 := fm_keep hm
  have B2 : BI w (n + 1000) := BI_congr (fun a q1 q2 => F2 a (by omega)) B1
  have r := r_keep hb hI.2.1 hI.sz hI.sa hc hm
  exact ⟨r.1, B2, r.2, im_keep B2 r.2 (moB_up (Int.le_refl _) (F3 _ (by omega)) (F3 _ (by omega)) (F3 _ (by omega)) (F3 _ (by omega)) hI.2.2) hn hm⟩
set_option maxHeartbeats 1000000 in
theorem st_tray {σ u w : Mem} {b : Nat} {z z9 n : Int} (hb : 52 ≤ b) {i1 s1 m1 : Int} (hI : Inv σ b n) (hn : 0 ≤ n ∧ n ≤ 511000)  (hc : (if (0 ≤ i1 ∧ i1 < 4) ∧ (0 ≤ s1 ∧ s1 ≤ 3) ∧ (0 ≤ m1 ∧ m1 ≤ 100) then (z = 1 ∧ (∀ j : Int, 0 ≤ j → j < 100 → u ((3 + 2 * i1.toNat) + 1) (100000 + j) = 0) ∧ (∀ a : Nat, a ≠ (3 + 2 * i1.toNat) + 1 → u a = sput (sput (sput (sput σ (3 + 2 * i1.toNat) 1 1) (3 + 2 * i1.toNat) 2 s1) (3 + 2 * i1.toNat) 3 m1) 0 5 0 a)) else (z = 0 ∧ u = sput σ 0 5 1))) (hm : (if ¬ ((0 ≤ i1 ∧ i1 < 4) ∧ (0 ≤ s1 ∧ s1 ≤ 3) ∧ (0 ≤ m1 ∧ m1 ≤ 100)) then (z9 = 0 ∧ w = sput u b 0 1) else (z9 = 1 ∧ (∀ j : Int, 0 ≤ j → j < m1 → w (b + 3) (100000 + (100 * i1 + j)) = 0) ∧ (∀ j : Int, (j < 100000 + 100 * i1 ∨ 100000 + 100 * i1 + 100 ≤ j) → w (b + 3) j = u (b + 3) j) ∧ ∀ a : Nat, a ≠ b + 3 → w a = (sput (sput (sput u (b + 1) i1 s1) (b + 2) i1 m1) b 0 0) a))) : z = z9 ∧ Inv w b (n + 1000) := by
  obtain ⟨B1, F1⟩ := ic_tray hI.1 hn hc
  have F3 : ∀ a : Nat, b ≤ a → u a = σ a := fun a q => F1 a (by omega)
  have F2 := fm_tray hm
  have B2 : BI w (n + 1000) := BI_congr (fun a q1 q2 => F2 a (by omega)) B1
  have r := r_tray hb hI.2.1 hI.sz hI.2.2.1 hc hm
  exact ⟨r.1, B2, r.2, im_tray B2 r.2 (moB_up (Int.le_refl _) (F3 _ (by omega)) (F3 _ (by omega)) (F3 _ (by omega)) (F3 _ (by omega)) hI.2.2) hn hm⟩
set_option maxHeartbeats 1000000 in
theorem st_put {σ u w : Mem} {b : Nat} {z z9 n : Int} (hb : 52 ≤ b) {i1 x1 m1 : Int} (hI : Inv σ b n) (hn : 0 ≤ n ∧ n ≤ 511000)  (hc : (if ¬ ((0 ≤ i1 ∧ i1 < 3) ∧ (-1 ≤ x1 ∧ x1 ≤ 39) ∧ (1 ≤ m1 ∧ m1 ≤ 1000)) then (z = 0 ∧ u = sput σ 0 5 1) else (if 10000 < σ (11 + 10 * i1.toNat) 3 + σ (11 + 10 * i1.toNat) 4 + m1 then (z = 0 ∧ u = sput σ 0 5 4) else (z = 1 ∧ u = sput (enM σ (11 + 10 * i1.toNat) x1 m1) 0 5 0)))) (hm : (if ¬ ((0 ≤ i1 ∧ i1 < 3) ∧ (-1 ≤ x1 ∧ x1 ≤ 39) ∧ (1 ≤ m1 ∧ m1 ≤ 1000)) then (z9 = 0 ∧ w = sput u b 0 1) else (if 10000 < u (b + 6) i1 + u (b + 5) i1 + m1 then (z9 = 0 ∧ w = sput u b 0 4) else (z9 = 1 ∧ w = sput (itrR (fun _ τ => mpS b i1 x1 τ) 0 m1 u) b 0 0)))) : z = z9 ∧ Inv w b (n + 1000) := by
  obtain ⟨B1, F1⟩ := ic_put hI.1 hn hc
  have F3 : ∀ a : Nat, b ≤ a → u a = σ a := fun a q => F1 a (by omega)
  have hr8 : ∀ c : Int, 0 ≤ c → c < 3 → mrB u b c 100000000 ∧ msB u b c 100000000 := fun c c0 c1 => ⟨mrB_up F3 (hI.B (M := 100000000) (by omega) (by omega) hn.1 c c0 c1).1, msB_up F3 (hI.B (M := 100000000) (by omega) (by omega) hn.1 c c0 c1).2⟩
  have hr9 : ∀ c : Int, 0 ≤ c → c < 3 → mrB u b c (100000 + n) ∧ msB u b c 100000000 := fun c c0 c1 => ⟨mrB_up F3 (hI.B (M := 100000 + n) (by omega) (by omega) hn.1 c c0 c1).1, (hr8 c c0 c1).2⟩
  have F2 := fm_put hr8 hm
  have B2 : BI w (n + 1000) := BI_congr (fun a q1 q2 => F2 a (by omega)) B1
  have r := r_put hb hI.2.1 hI.sz hI.sa hI.sn hc hm
  exact ⟨r.1, B2, r.2, im_put B2 r.2 (moB_up (Int.le_refl _) (F3 _ (by omega)) (F3 _ (by omega)) (F3 _ (by omega)) (F3 _ (by omega)) hI.2.2) hn hr9 hm⟩
set_option maxHeartbeats 1000000 in
theorem st_strike {σ u w : Mem} {b : Nat} {z z9 n : Int} (hb : 52 ≤ b) {i1 x1 m1 : Int} (hI : Inv σ b n) (hn : 0 ≤ n ∧ n ≤ 511000)  (hc : (if ¬ ((0 ≤ i1 ∧ i1 < 3) ∧ (-1 ≤ x1 ∧ x1 ≤ 39) ∧ (1 ≤ m1 ∧ m1 ≤ 1000)) then (z = 0 ∧ u = sput σ 0 5 1) else (if (if 0 ≤ x1 ∧ x1 ≤ 39 then σ ((11 + 10 * i1.toNat) + 1) x1 else σ (11 + 10 * i1.toNat) 4) < m1 then (z = 0 ∧ u = sput σ 0 5 4) else (z = 1 ∧ u = sput (chM σ (11 + 10 * i1.toNat) x1 (-m1)) 0 5 0)))) (hm : (if ¬ ((0 ≤ i1 ∧ i1 < 3) ∧ (-1 ≤ x1 ∧ x1 ≤ 39) ∧ (1 ≤ m1 ∧ m1 ≤ 1000)) then (z9 = 0 ∧ w = sput u b 0 1) else (if (if x1 = -1 then u (b + 5) i1 else u (b + 4) (40 * i1 + x1)) < m1 then (z9 = 0 ∧ w = sput u b 0 4) else (z9 = 1 ∧ w = sput (itrR (fun _ τ => mcM τ b i1 x1 (-1)) 0 m1 u) b 0 0)))) : z = z9 ∧ Inv w b (n + 1000) := by
  obtain ⟨B1, F1⟩ := ic_strike hI.1 hn hc
  have F3 : ∀ a : Nat, b ≤ a → u a = σ a := fun a q => F1 a (by omega)
  have hr8 : ∀ c : Int, 0 ≤ c → c < 3 → mrB u b c 100000000 ∧ msB u b c 100000000 := fun c c0 c1 => ⟨mrB_up F3 (hI.B (M := 100000000) (by omega) (by omega) hn.1 c c0 c1).1, msB_up F3 (hI.B (M := 100000000) (by omega) (by omega) hn.1 c c0 c1).2⟩
  have hr9 : ∀ c : Int, 0 ≤ c → c < 3 → mrB u b c (100000 + n) ∧ msB u b c 100000000 := fun c c0 c1 => ⟨mrB_up F3 (hI.B (M := 100000 + n) (by omega) (by omega) hn.1 c c0 c1).1, (hr8 c c0 c1).2⟩
  have F2 := fm_strike hr8 hm
  have B2 : BI w (n + 1000) := BI_congr (fun a q1 q2 => F2 a (by omega)) B1
  have r := r_strike hb hI.2.1 hI.sz hI.sa hI.sn hc hm
  exact ⟨r.1, B2, r.2, im_strike B2 r.2 (moB_up (Int.le_refl _) (F3 _ (by omega)) (F3 _ (by omega)) (F3 _ (by omega)) (F3 _ (by omega)) hI.2.2) hn hr9 hm⟩
set_option maxHeartbeats 1000000 in
theorem st_pack {σ u w : Mem} {b : Nat} {z z9 n : Int} (hb : 52 ≤ b) {i1 i2 : Int} (hI : Inv σ b n) (hn : 0 ≤ n ∧ n ≤ 511000) [Decidable (∀ j : Int, 0 ≤ j → j < σ (3 + 2 * i2.toNat) 3 → -1 ≤ σ ((3 + 2 * i2.toNat) + 1) (100000 + j) ∧ σ ((3 + 2 * i2.toNat) + 1) (100000 + j) ≤ 39)] [Decidable (∀ j : Int, 0 ≤ j → j < u (b + 2) i2 → -1 ≤ u (b + 3) (100000 + (100 * i2 + j)) ∧ u (b + 3) (100000 + (100 * i2 + j)) ≤ 39)] (hc : (if ¬ ((0 ≤ i1 ∧ i1 < 3) ∧ (0 ≤ i2 ∧ i2 < 4)) then (z = -1 ∧ u = sput σ 0 5 1) else (if σ (3 + 2 * i2.toNat) 1 = 0 then (z = -1 ∧ u = sput σ 0 5 2) else (if ¬ (∀ j : Int, 0 ≤ j → j < σ (3 + 2 * i2.toNat) 3 → -1 ≤ σ ((3 + 2 * i2.toNat) + 1) (100000 + j) ∧ σ ((3 + 2 * i2.toNat) + 1) (100000 + j) ≤ 39) then (z = -1 ∧ u = sput σ 0 5 1) else (if 10000 < σ (11 + 10 * i1.toNat) 3 + σ (11 + 10 * i1.toNat) 4 + σ (3 + 2 * i2.toNat) 3 then (z = -1 ∧ u = sput σ 0 5 4) else (z = σ (3 + 2 * i2.toNat) 3 ∧ u = sput (itrR (pkF (11 + 10 * i1.toNat) (σ ((3 + 2 * i2.toNat) + 1))) 0 (σ (3 + 2 * i2.toNat) 3) σ) 0 5 0)))))) (hm : (if ¬ ((0 ≤ i1 ∧ i1 < 3) ∧ (0 ≤ i2 ∧ i2 < 4)) then (z9 = -1 ∧ w = sput u b 0 1) else (if u (b + 2) i2 = -1 then (z9 = -1 ∧ w = sput u b 0 2) else (if ¬ (∀ j : Int, 0 ≤ j → j < u (b + 2) i2 → -1 ≤ u (b + 3) (100000 + (100 * i2 + j)) ∧ u (b + 3) (100000 + (100 * i2 + j)) ≤ 39) then (z9 = -1 ∧ w = sput u b 0 1) else (if 10000 < u (b + 6) i1 + u (b + 5) i1 + u (b + 2) i2 then (z9 = -1 ∧ w = sput u b 0 4) else (z9 = u (b + 2) i2 ∧ w = sput (itrR (fun k τ => mpS b i1 (u (b + 3) (100000 + (100 * i2 + k))) τ) 0 (u (b + 2) i2) u) b 0 0)))))) : z = z9 ∧ Inv w b (n + 1000) := by
  obtain ⟨B1, F1⟩ := ic_pack hI.1 hn hc
  have F3 : ∀ a : Nat, b ≤ a → u a = σ a := fun a q => F1 a (by omega)
  have hr8 : ∀ c : Int, 0 ≤ c → c < 3 → mrB u b c 100000000 ∧ msB u b c 100000000 := fun c c0 c1 => ⟨mrB_up F3 (hI.B (M := 100000000) (by omega) (by omega) hn.1 c c0 c1).1, msB_up F3 (hI.B (M := 100000000) (by omega) (by omega) hn.1 c c0 c1).2⟩
  have hr9 : ∀ c : Int, 0 ≤ c → c < 3 → mrB u b c (100000 + n) ∧ msB u b c 100000000 := fun c c0 c1 => ⟨mrB_up F3 (hI.B (M := 100000 + n) (by omega) (by omega) hn.1 c c0 c1).1, (hr8 c c0 c1).2⟩
  have hT9 : mtW u b := mtW_up (F3 _ (by omega)) (F3 _ (by omega)) hI.2.2.1
  have F2 := fm_pack hr8 hT9 hm
  have B2 : BI w (n + 1000) := BI_congr (fun a q1 q2 => F2 a (by omega)) B1
  have r := r_pack hb hI.2.1 hI.sz hI.sa hI.sn hc hm
  exact ⟨r.1, B2, r.2, im_pack B2 r.2 (moB_up (Int.le_refl _) (F3 _ (by omega)) (F3 _ (by omega)) (F3 _ (by omega)) (F3 _ (by omega)) hI.2.2) hn hr9 hm⟩
set_option maxHeartbeats 1000000 in
theorem st_together {σ u w : Mem} {b : Nat} {z z9 n : Int} (hb : 52 ≤ b) {i1 i2 : Int} (hI : Inv σ b n) (hn : 0 ≤ n ∧ n ≤ 511000)  (hc : (if (¬ ((0 ≤ i1 ∧ i1 < 3) ∧ (0 ≤ i2 ∧ i2 < 3) ∧ i1 ≠ i2)) then (z = -1 ∧ u = sput σ 0 5 1) else (if ¬ (0 < σ (11 + 10 * i1.toNat + 2) 5 ∧ 0 < σ (11 + 10 * i2.toNat + 2) 5) then (z = -1 ∧ u = sput σ 0 5 5) else (if 100000 < wtV σ (11 + 10 * i1.toNat + 2) + wtV σ (11 + 10 * i2.toNat + 2) then (z = -1 ∧ u = sput σ 0 5 4) else (∃ (τ : Mem) (ho hc : Int → Int), z = τ (11 + 10 * i1.toNat + 2) 5 ∧ (∀ j : Int, 0 ≤ j → j < 40 → ho j = σ ((11 + 10 * i2.toNat + 2) + 4) j ∧ hc j = σ ((11 + 10 * i2.toNat + 2) + 5) j) ∧ skV τ (11 + 10 * i1.toNat + 2) = tkV (σ ((11 + 10 * i1.toNat + 2) + 4)) ho hc (skV σ (11 + 10 * i1.toNat + 2)) (skV σ (11 + 10 * i2.toNat + 2)) ∧ τ (11 + 10 * i1.toNat + 2) 6 = 0 ∧ (∀ j : Int, 0 ≤ j → j < 40 → τ ((11 + 10 * i1.toNat + 2) + 5) j = (if σ ((11 + 10 * i1.toNat + 2) + 4) j ≠ 0 ∧ ho j ≠ 0 then σ ((11 + 10 * i1.toNat + 2) + 5) j + hc j else σ ((11 + 10 * i1.toNat + 2) + 5) j)) ∧ (∀ a : Nat, a ≠ (11 + 10 * i1.toNat + 2) → a ≠ (11 + 10 * i1.toNat + 2) + 1 → a ≠ (11 + 10 * i1.toNat + 2) + 2 → a ≠ (11 + 10 * i1.toNat + 2) + 3 → a ≠ (11 + 10 * i1.toNat + 2) + 5 → (a < 45 ∨ 50 < a) → τ a = σ a) ∧ u = sput τ 0 5 0))))) (hm : (if ¬ ((0 ≤ i1 ∧ i1 < 3) ∧ (0 ≤ i2 ∧ i2 < 3) ∧ i1 ≠ i2) then (z9 = -1 ∧ w = sput u b 0 1) else (if (u (b + 11) i1) = 0 ∨ (u (b + 11) i2) = 0 then (z9 = -1 ∧ w = sput u b 0 5) else (if 100000 < (hvS (shR (u (b + 14)) (40 * i1)) (shR (u (b + 13)) (40 * i1)) 0 39 + (smR (shR (u (b + 16)) (40 * i1)) 0 (u (b + 11) i1) + smR (shR (u (b + 17)) (40 * i1)) 0 (u (b + 11) i1))) + (hvS (shR (u (b + 14)) (40 * i2)) (shR (u (b + 13)) (40 * i2)) 0 39 + (smR (shR (u (b + 16)) (40 * i2)) 0 (u (b + 11) i2) + smR (shR (u (b + 17)) (40 * i2)) 0 (u (b + 11) i2))) then (z9 = -1 ∧ w = sput u b 0 4) else (z9 = w (b + 11) i1 ∧ moV w b i1 = (tkV (shR (u (b + 14)) (40 * i1)) (shR (u (b + 14)) (40 * i2)) (shR (u (b + 13)) (40 * i2)) (moV u b i1) (moV u b i2)) ∧ (∀ j : Int, 0 ≤ j → j < 40 → w (b + 13) (40 * i1 + j) = if (shR (u (b + 14)) (40 * i1)) j ≠ 0 ∧ (shR (u (b + 14)) (40 * i2)) j ≠ 0 then u (b + 13) (40 * i1 + j) + (shR (u (b + 13)) (40 * i2)) j else u (b + 13) (40 * i1 + j)) ∧ w (b + 12) i1 = 0 ∧ w b 0 = 0 ∧ (∀ a : Nat, a ≠ b → a ≠ b + 11 → a ≠ b + 12 → a ≠ b + 13 → a ≠ b + 15 → a ≠ b + 16 → a ≠ b + 17 → a ≠ b + 21 → a ≠ b + 22 → a ≠ b + 23 → w a = u a) ∧ (∀ j : Int, j ≠ 0 → j ≠ 23 → j ≠ 24 → j ≠ 25 → j ≠ 26 → w b j = u b j) ∧ (∀ j : Int, j ≠ i1 → w (b + 11) j = u (b + 11) j ∧ w (b + 12) j = u (b + 12) j) ∧ ∀ j : Int, j < 40 * i1 ∨ 40 * i1 + 40 ≤ j → w (b + 13) j = u (b + 13) j ∧ w (b + 15) j = u (b + 15) j ∧ w (b + 16) j = u (b + 16) j ∧ w (b + 17) j = u (b + 17) j))))) : z = z9 ∧ Inv w b (n + 1000) := by
  obtain ⟨B1, F1⟩ := ic_together hI.1 hn hc
  have F3 : ∀ a : Nat, b ≤ a → u a = σ a := fun a q => F1 a (by omega)
  have F2 := fm_together hm
  have B2 : BI w (n + 1000) := BI_congr (fun a q1 q2 => F2 a (by omega)) B1
  have r := r_together hb hI.2.1 hI.sz hI.sa hc hm
  exact ⟨r.1, B2, r.2, im_together B2 r.2 (moB_up (Int.le_refl _) (F3 _ (by omega)) (F3 _ (by omega)) (F3 _ (by omega)) (F3 _ (by omega)) hI.2.2) hn hm⟩
set_option maxHeartbeats 1000000 in
theorem st_make {σ u w : Mem} {b : Nat} {z z9 n : Int} (hb : 52 ≤ b) {i1 b1 n1 d1 : Int} (hI : Inv σ b n) (hn : 0 ≤ n ∧ n ≤ 511000)  (hc : (if ¬ ((0 ≤ i1 ∧ i1 < 3) ∧ (1 ≤ b1 ∧ b1 ≤ 12) ∧ (1 ≤ d1 ∧ d1 ≤ 1000) ∧ (0 ≤ n1 ∧ n1 ≤ d1)) then (z = -1 ∧ u = sput σ 0 5 1) else (∃ lv e : Int → Int, (∀ j : Int, 0 ≤ j → j < 40 → lv j = (if (chV (σ ((11 + 10 * i1.toNat) + 1)) (σ (11 + 10 * i1.toNat) 3) n1 d1 8 (fun _ => 0, fun _ => 0)).1 j = 0 then σ ((11 + 10 * i1.toNat) + 1) j else -1)) ∧ ((0 ≤ z ∧ z ≤ 10000) ∧ (z = 10000 ∨ fwI lv z ≤ b1) ∧ (z = 0 ∨ b1 < fwI lv (z - 1))) ∧ (∀ i : Nat, (i : Int) < b1 → e i = plB lv z (b1).toNat (i + 1) - 1) ∧ (∀ j : Int, 0 ≤ j → j < 40 → u ((11 + 10 * i1.toNat + 2) + 4) j = (chV (σ ((11 + 10 * i1.toNat) + 1)) (σ (11 + 10 * i1.toNat) 3) n1 d1 8 (fun _ => 0, fun _ => 0)).1 j ∧ u ((11 + 10 * i1.toNat + 2) + 5) j = (chV (σ ((11 + 10 * i1.toNat) + 1)) (σ (11 + 10 * i1.toNat) 3) n1 d1 8 (fun _ => 0, fun _ => 0)).2 j) ∧ u (11 + 10 * i1.toNat + 2) 5 = b1 ∧ u (11 + 10 * i1.toNat + 2) 6 = 0 ∧ (∀ j : Int, 0 ≤ j → j < b1 → u ((11 + 10 * i1.toNat + 2) + 1) j = e j ∧ u ((11 + 10 * i1.toNat + 2) + 2) j = smR (fun w => if u ((11 + 10 * i1.toNat + 2) + 4) w = 0 then σ ((11 + 10 * i1.toNat) + 1) w else 0) (foF e j) (e j + 1) ∧ u ((11 + 10 * i1.toNat + 2) + 3) j = 0) ∧ u 0 = sput σ 0 5 0 0 ∧ (∀ a : Nat, a ≠ 0 → a ≠ (11 + 10 * i1.toNat + 2) → a ≠ (11 + 10 * i1.toNat + 2) + 1 → a ≠ (11 + 10 * i1.toNat + 2) + 2 → a ≠ (11 + 10 * i1.toNat + 2) + 3 → a ≠ (11 + 10 * i1.toNat + 2) + 4 → a ≠ (11 + 10 * i1.toNat + 2) + 5 → a ≠ 41 → a ≠ 42 → a ≠ 43 → a ≠ 44 → u a = σ a)))) (hm : (if ¬ ((0 ≤ i1 ∧ i1 < 3) ∧ (1 ≤ b1 ∧ b1 ≤ 12) ∧ (1 ≤ d1 ∧ d1 ≤ 1000) ∧ (0 ≤ n1 ∧ n1 ≤ d1)) then z9 = -1 ∧ w = sput u b 0 1 else z9 = dpL (fun j : Int => if (chV (shR (u (b + 4)) (40 * i1)) (u (b + 6) i1) n1 d1 8 (fun _ => 0, fun _ => 0)).1 j = 0 then (shR (u (b + 4)) (40 * i1)) j else -1) b1.toNat 0 ∧ (∀ j : Int, 0 ≤ j → j < 40 → w (b + 14) (40 * i1 + j) = (chV (shR (u (b + 4)) (40 * i1)) (u (b + 6) i1) n1 d1 8 (fun _ => 0, fun _ => 0)).1 j ∧ ((chV (shR (u (b + 4)) (40 * i1)) (u (b + 6) i1) n1 d1 8 (fun _ => 0, fun _ => 0)).1 j ≠ 0 → w (b + 13) (40 * i1 + j) = (chV (shR (u (b + 4)) (40 * i1)) (u (b + 6) i1) n1 d1 8 (fun _ => 0, fun _ => 0)).2 j) ∧ ((chV (shR (u (b + 4)) (40 * i1)) (u (b + 6) i1) n1 d1 8 (fun _ => 0, fun _ => 0)).1 j = 0 → w (b + 13) (40 * i1 + j) = u (b + 13) (40 * i1 + j))) ∧ (∀ j : Int, 0 ≤ j → j < b1 → w (b + 15) (40 * i1 + j) = plB (fun j : Int => if (chV (shR (u (b + 4)) (40 * i1)) (u (b + 6) i1) n1 d1 8 (fun _ => 0, fun _ => 0)).1 j = 0 then (shR (u (b + 4)) (40 * i1)) j else -1) z9 b1.toNat (j.toNat + 1) - 1 ∧ w (b + 16) (40 * i1 + j) = smR (fun w => if (chV (shR (u (b + 4)) (40 * i1)) (u (b + 6) i1) n1 d1 8 (fun _ => 0, fun _ => 0)).1 w = 0 then (shR (u (b + 4)) (40 * i1)) w else 0) (plB (fun j : Int => if (chV (shR (u (b + 4)) (40 * i1)) (u (b + 6) i1) n1 d1 8 (fun _ => 0, fun _ => 0)).1 j = 0 then (shR (u (b + 4)) (40 * i1)) j else -1) z9 b1.toNat j.toNat) (plB (fun j : Int => if (chV (shR (u (b + 4)) (40 * i1)) (u (b + 6) i1) n1 d1 8 (fun _ => 0, fun _ => 0)).1 j = 0 then (shR (u (b + 4)) (40 * i1)) j else -1) z9 b1.toNat (j.toNat + 1)) ∧ w (b + 17) (40 * i1 + j) = 0) ∧ w (b + 11) i1 = b1 ∧ w (b + 12) i1 = 0 ∧ w b 0 = 0 ∧ (∀ a : Nat, a ≠ b → a ≠ b + 11 → a ≠ b + 12 → a ≠ b + 13 → a ≠ b + 14 → a ≠ b + 15 → a ≠ b + 16 → a ≠ b + 17 → a ≠ b + 18 → a ≠ b + 19 → a ≠ b + 20 → w a = u a) ∧ (∀ j : Int, j ≠ 0 → w b j = u b j) ∧ (∀ j : Int, j ≠ i1 → w (b + 11) j = u (b + 11) j ∧ w (b + 12) j = u (b + 12) j) ∧ ∀ j : Int, j < 40 * i1 ∨ 40 * i1 + 40 ≤ j → w (b + 13) j = u (b + 13) j ∧ w (b + 14) j = u (b + 14) j ∧ w (b + 15) j = u (b + 15) j ∧ w (b + 16) j = u (b + 16) j ∧ w (b + 17) j = u (b + 17) j)) : z = z9 ∧ Inv w b (n + 1000) := by
  obtain ⟨B1, F1⟩ := ic_make hI.1 hn hc
  have F3 : ∀ a : Nat, b ≤ a → u a = σ a := fun a q => F1 a (by omega)
  have F2 := fm_make hm
  have B2 : BI w (n + 1000) := BI_congr (fun a q1 q2 => F2 a (by omega)) B1
  have r := r_make hb hI.2.1 hI.sz hI.sa hI.1.T hc hm
  exact ⟨r.1, B2, r.2, im_make B2 r.2 (moB_up (Int.le_refl _) (F3 _ (by omega)) (F3 _ (by omega)) (F3 _ (by omega)) (F3 _ (by omega)) hI.2.2) hn hm⟩
