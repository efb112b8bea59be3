/-! ===== every call of the model keeps its bounds ===== -/
/-- heavy counts come from the class, light ones stay -/
theorem moB_hv {u w : Mem} {b : Nat} {n i : Int} (hB : BI w (n + 1000)) (hR : Rel w b) (hM : moB u b n) (hi : 0 ≤ i ∧ i < 3) (h1 : w (b + 1) = u (b + 1)) (h2 : w (b + 2) = u (b + 2)) (h12 : ∀ c : Int, c ≠ i → w (b + 12) c = u (b + 12) c) (h12i : w (b + 12) i = 0) (h13 : ∀ c : Int, 0 ≤ c → c < 3 → c ≠ i → ∀ j : Int, 0 ≤ j → j < 40 → w (b + 13) (40 * c + j) = u (b + 13) (40 * c + j)) (h13i : ∀ j : Int, 0 ≤ j → j < 40 → w (b + 14) (40 * i + j) = 0 → w (b + 13) (40 * i + j) = u (b + 13) (40 * i + j)) (hn : 0 ≤ n) : moB w b (n + 1000) := by
  refine ⟨mtW_up h1 h2 hM.1, fun c c0 c1 => ?_⟩
  have q := hM.2 c c0 c1
  by_cases z : c = i
  · subst z
    refine ⟨by omega, fun j j0 j1 => ?_⟩
    by_cases y : w (b + 14) (40 * c + j) = 0
    · rw [h13i j j0 j1 y]
      have := q.2 j j0 j1
      omega
    · obtain ⟨-, s1, -⟩ := hR.2.2.2 c c0 c1
      have a3 := (hB.2 c c0 c1).2.1.2.2.1 j j0 j1
      have e := s1.2.2.1 j j0 j1 (by rw [s1.2.1 j j0 j1, shR_e]; exact y)
      rw [shR_e] at e
      omega
  · rw [h12 c z]
    exact ⟨by omega, fun j j0 j1 => by rw [h13 c c0 c1 z j j0 j1]; have := q.2 j j0 j1; omega⟩
theorem mp_B {b : Nat} {c : Int} {row : Int → Int} {N M K : Int} {u : Mem} (hr : ∀ k : Int, 0 ≤ k → k < N → -1 ≤ row k ∧ row k ≤ 39) (h1 : mrB u b c M) (h2 : msB u b c K) : ∀ m : Nat, (m : Int) ≤ N → mrB (itrR (fun k τ => mpS b c (row k) τ) 0 m u) b c (M + m) ∧ msB (itrR (fun k τ => mpS b c (row k) τ) 0 m u) b c (K + m) ∧ mpF u (itrR (fun k τ => mpS b c (row k) τ) 0 m u) b c := by
  intro m
  induction m with
  | zero =>
    intro _
    rw [itrR_nil (by omega)]
    refine ⟨?_, ?_, mpF.rf h2.2.1.1⟩
    · rw [show M + ((0 : Nat) : Int) = M by omega]; exact h1
    · rw [show K + ((0 : Nat) : Int) = K by omega]; exact h2
  | succ m ih =>
    intro hm
    obtain ⟨k1, k2, k3⟩ := ih (by omega)
    rw [show ((m + 1 : Nat) : Int) = (m : Int) + 1 by omega, itrR_right (by omega)]
    generalize itrR (fun k τ => mpS b c (row k) τ) 0 m u = μ at *
    have g := mpS_B (hr m (by omega) (by omega)) k1 k2
    have f := mpS_F (x := row m) (c := c) (b := b) (hr m (by omega) (by omega)) k1.2.2.2.2.2.1 k2.1.2 k2.2.1.1
    rw [show M + ((m : Int) + 1) = M + m + 1 by omega, show K + ((m : Int) + 1) = K + m + 1 by omega]
    exact ⟨g.1, g.2, k3.tr f⟩
theorem mc_B {b : Nat} {c x s : Int} {M : Int} {u : Mem} (hx : -1 ≤ x ∧ x ≤ 39) (hs : s = 1 ∨ s = -1) (h1 : mrB u b c M) : ∀ m : Nat, mrB (itrR (fun _ τ => mcM τ b c x s) 0 m u) b c (M + m) := by
  intro m
  induction m with
  | zero => rw [itrR_nil (by omega), show M + ((0 : Nat) : Int) = M by omega]; exact h1
  | succ m ih =>
    rw [show ((m + 1 : Nat) : Int) = (m : Int) + 1 by omega, itrR_right (by omega), show M + ((m : Int) + 1) = M + m + 1 by omega]
    exact mrB_mc hx hs ih
theorem mrB_le {u : Mem} {b : Nat} {c M N : Int} (h : M ≤ N) (k : mrB u b c M) : mrB u b c N := by
  obtain ⟨k1, k2, k3, k4, k5, k6, k7⟩ := k
  exact ⟨fun j j0 j1 => by have := k1 j j0 j1; omega, fun j j0 j1 => by have := k2 j j0 j1; omega, by omega, by omega, by omega, k6, k7⟩
/-- rows of one column changed -/
theorem moB_rows {u w τ : Mem} {b : Nat} {n i : Int} (hM : moB u b n) (hr : mrB τ b i (100000 + n + 1000)) (hf : mpF u τ b i) (hw : ∀ a : Nat, a ≠ b → w a = τ a) : moB w b (n + 1000) := by
  refine ⟨mtW_up (by rw [hw _ (by omega), hf.1 _ (by omega)]) (by rw [hw _ (by omega), hf.1 _ (by omega)]) hM.1, fun c c0 c1 => ?_⟩
  rw [hw (b + 12) (by omega), hw (b + 13) (by omega)]
  by_cases z : c = i
  · subst z
    have r12 := hr.2.2.2.2.1
    exact ⟨by omega, fun j j0 j1 => by have := (hr.1 j j0 j1).2; omega⟩
  · obtain ⟨-, k2, -⟩ := hf.2.2 c z
    have q := hM.2 c c0 c1
    rw [k2.2.1]
    exact ⟨by omega, fun j j0 j1 => by rw [(k2.2.2 j j0 j1).1]; have := q.2 j j0 j1; omega⟩
set_option maxHeartbeats 1000000 in
theorem im_status {u w : Mem} {b : Nat} {z9 n : Int}  (hB : BI w (n + 1000)) (hR : Rel w b) (hM : moB u b n) (hn : 0 ≤ n ∧ n ≤ 511000)  (hm : z9 = u b 0 ∧ w = u) : moB w b (n + 1000) := by
  obtain ⟨-, hw⟩ := hm
  rw [hw]
  exact moB_up (by omega) rfl rfl rfl rfl hM
set_option maxHeartbeats 1000000 in
theorem im_top {u w : Mem} {b : Nat} {z9 n : Int}  (hB : BI w (n + 1000)) (hR : Rel w b) (hM : moB u b n) (hn : 0 ≤ n ∧ n ≤ 511000)  (hm : z9 = u b 100001 ∧ w = u) : moB w b (n + 1000) := by
  obtain ⟨-, hw⟩ := hm
  rw [hw]
  exact moB_up (by omega) rfl rfl rfl rfl hM
set_option maxHeartbeats 1000000 in
theorem im_bottom {u w : Mem} {b : Nat} {z9 n : Int}  (hB : BI w (n + 1000)) (hR : Rel w b) (hM : moB u b n) (hn : 0 ≤ n ∧ n ≤ 511000)  (hm : z9 = u b 100002 ∧ w = u) : moB w b (n + 1000) := by
  obtain ⟨-, hw⟩ := hm
  rw [hw]
  exact moB_up (by omega) rfl rfl rfl rfl hM
set_option maxHeartbeats 1000000 in
theorem im_truly {u w : Mem} {b : Nat} {z9 n : Int} {i1 x1 : Int} (hB : BI w (n + 1000)) (hR : Rel w b) (hM : moB u b n) (hn : 0 ≤ n ∧ n ≤ 511000)  (hm : (if ¬ ((0 ≤ i1 ∧ i1 < 3) ∧ (-1 ≤ x1 ∧ x1 ≤ 39)) then (z9 = -1 ∧ w = sput u b 0 1) else (z9 = (if x1 = -1 then u (b + 5) i1 else u (b + 4) (40 * i1 + x1)) ∧ w = sput u b 0 0))) : moB w b (n + 1000) := by
  by_cases c1 : ¬ ((0 ≤ i1 ∧ i1 < 3) ∧ (-1 ≤ x1 ∧ x1 ≤ 39))
  · rw [if_pos c1] at hm
    obtain ⟨-, hw⟩ := hm
    rw [hw]
    exact moB_up (by omega) (by rw [sput_r (by omega)]) (by rw [sput_r (by omega)]) (by rw [sput_r (by omega)]) (by rw [sput_r (by omega)]) hM
  · rw [if_neg c1] at hm
    obtain ⟨-, hw⟩ := hm
    rw [hw]
    exact moB_up (by omega) (by rw [sput_r (by omega)]) (by rw [sput_r (by omega)]) (by rw [sput_r (by omega)]) (by rw [sput_r (by omega)]) hM
set_option maxHeartbeats 1000000 in
theorem im_rows {u w : Mem} {b : Nat} {z9 n : Int} {i1 w1 : Int} (hB : BI w (n + 1000)) (hR : Rel w b) (hM : moB u b n) (hn : 0 ≤ n ∧ n ≤ 511000)  (hm : (if ¬ ((0 ≤ i1 ∧ i1 < 3) ∧ (0 ≤ w1 ∧ w1 ≤ 2)) then (z9 = -1 ∧ w = sput u b 0 1) else (if w1 = 0 then (z9 = u (b + 6) i1 ∧ w = sput u b 0 0) else (if w1 = 1 then (z9 = u (b + 6) i1 + u (b + 5) i1 ∧ w = sput u b 0 0) else (z9 = smR (fun v => if 0 < shR (u (b + 4)) (40 * i1) v then 1 else 0) 0 40 ∧ w = sput u b 0 0))))) : moB w b (n + 1000) := by
  by_cases c1 : ¬ ((0 ≤ i1 ∧ i1 < 3) ∧ (0 ≤ w1 ∧ w1 ≤ 2))
  · rw [if_pos c1] at hm
    obtain ⟨-, hw⟩ := hm
    rw [hw]
    exact moB_up (by omega) (by rw [sput_r (by omega)]) (by rw [sput_r (by omega)]) (by rw [sput_r (by omega)]) (by rw [sput_r (by omega)]) hM
  · rw [if_neg c1] at hm
    by_cases c2 : w1 = 0
    · rw [if_pos c2] at hm
      obtain ⟨-, hw⟩ := hm
      rw [hw]
      exact moB_up (by omega) (by rw [sput_r (by omega)]) (by rw [sput_r (by omega)]) (by rw [sput_r (by omega)]) (by rw [sput_r (by omega)]) hM
    · rw [if_neg c2] at hm
      by_cases c3 : w1 = 1
      · rw [if_pos c3] at hm
        obtain ⟨-, hw⟩ := hm
        rw [hw]
        exact moB_up (by omega) (by rw [sput_r (by omega)]) (by rw [sput_r (by omega)]) (by rw [sput_r (by omega)]) (by rw [sput_r (by omega)]) hM
      · rw [if_neg c3] at hm
        obtain ⟨-, hw⟩ := hm
        rw [hw]
        exact moB_up (by omega) (by rw [sput_r (by omega)]) (by rw [sput_r (by omega)]) (by rw [sput_r (by omega)]) (by rw [sput_r (by omega)]) hM
set_option maxHeartbeats 1000000 in
theorem im_read {u w : Mem} {b : Nat} {z9 n : Int} {i1 p1 : Int} (hB : BI w (n + 1000)) (hR : Rel w b) (hM : moB u b n) (hn : 0 ≤ n ∧ n ≤ 511000)  (hm : (if ¬ (0 ≤ i1 ∧ i1 < 4) then (z9 = -1 ∧ w = sput u b 0 1) else (if u (b + 2) i1 = -1 then (z9 = -1 ∧ w = sput u b 0 2) else (if ¬ (0 ≤ p1 ∧ p1 < u (b + 2) i1) then (z9 = -1 ∧ w = sput u b 0 3) else (z9 = u (b + 3) (100000 + (100 * i1 + p1)) ∧ w = sput u b 0 0))))) : moB w b (n + 1000) := by
  by_cases c1 : ¬ (0 ≤ i1 ∧ i1 < 4)
  · rw [if_pos c1] at hm
    obtain ⟨-, hw⟩ := hm
    rw [hw]
    exact moB_up (by omega) (by rw [sput_r (by omega)]) (by rw [sput_r (by omega)]) (by rw [sput_r (by omega)]) (by rw [sput_r (by omega)]) hM
  · rw [if_neg c1] at hm
    by_cases c2 : u (b + 2) i1 = -1
    · rw [if_pos c2] at hm
      obtain ⟨-, hw⟩ := hm
      rw [hw]
      exact moB_up (by omega) (by rw [sput_r (by omega)]) (by rw [sput_r (by omega)]) (by rw [sput_r (by omega)]) (by rw [sput_r (by omega)]) hM
    · rw [if_neg c2] at hm
      by_cases c3 : ¬ (0 ≤ p1 ∧ p1 < u (b + 2) i1)
      · rw [if_pos c3] at hm
        obtain ⟨-, hw⟩ := hm
        rw [hw]
        exact moB_up (by omega) (by rw [sput_r (by omega)]) (by rw [sput_r (by omega)]) (by rw [sput_r (by omega)]) (by rw [sput_r (by omega)]) hM
      · rw [if_neg c3] at hm
        obtain ⟨-, hw⟩ := hm
        rw [hw]
        exact moB_up (by omega) (by rw [sput_r (by omega)]) (by rw [sput_r (by omega)]) (by rw [sput_r (by omega)]) (by rw [sput_r (by omega)]) hM
set_option maxHeartbeats 1000000 in
theorem im_sketch {u w : Mem} {b : Nat} {z9 n : Int} {i1 w1 : Int} (hB : BI w (n + 1000)) (hR : Rel w b) (hM : moB u b n) (hn : 0 ≤ n ∧ n ≤ 511000)  (hm : (if ¬ ((0 ≤ i1 ∧ i1 < 3) ∧ (0 ≤ w1 ∧ w1 ≤ 3)) then (z9 = -1 ∧ w = sput u b 0 1) else (if (u (b + 11) i1) = 0 then (z9 = -1 ∧ w = sput u b 0 5) else (if w1 = 0 then (z9 = (u (b + 11) i1) ∧ w = sput u b 0 0) else (if w1 = 1 then (z9 = 40 - ltC (shR (u (b + 14)) (40 * i1)) 0 39 ∧ w = sput u b 0 0) else (if w1 = 2 then (z9 = smR (shR (u (b + 17)) (40 * i1)) 0 (u (b + 11) i1) ∧ w = sput u b 0 0) else (z9 = smR (shR (u (b + 16)) (40 * i1)) 0 (u (b + 11) i1) ∧ w = sput u b 0 0))))))) : moB w b (n + 1000) := by
  by_cases c1 : ¬ ((0 ≤ i1 ∧ i1 < 3) ∧ (0 ≤ w1 ∧ w1 ≤ 3))
  · rw [if_pos c1] at hm
    obtain ⟨-, hw⟩ := hm
    rw [hw]
    exact moB_up (by omega) (by rw [sput_r (by omega)]) (by rw [sput_r (by omega)]) (by rw [sput_r (by omega)]) (by rw [sput_r (by omega)]) hM
  · rw [if_neg c1] at hm
    by_cases c2 : (u (b + 11) i1) = 0
    · rw [if_pos c2] at hm
      obtain ⟨-, hw⟩ := hm
      rw [hw]
      exact moB_up (by omega) (by rw [sput_r (by omega)]) (by rw [sput_r (by omega)]) (by rw [sput_r (by omega)]) (by rw [sput_r (by omega)]) hM
    · rw [if_neg c2] at hm
      by_cases c3 : w1 = 0
      · rw [if_pos c3] at hm
        obtain ⟨-, hw⟩ := hm
        rw [hw]
        exact moB_up (by omega) (by rw [sput_r (by omega)]) (by rw [sput_r (by omega)]) (by rw [sput_r (by omega)]) (by rw [sput_r (by omega)]) hM
      · rw [if_neg c3] at hm
        by_cases c4 : w1 = 1
        · rw [if_pos c4] at hm
          obtain ⟨-, hw⟩ := hm
          rw [hw]
          exact moB_up (by omega) (by rw [sput_r (by omega)]) (by rw [sput_r (by omega)]) (by rw [sput_r (by omega)]) (by rw [sput_r (by omega)]) hM
        · rw [if_neg c4] at hm
          by_cases c5 : w1 = 2
          · rw [if_pos c5] at hm
            obtain ⟨-, hw⟩ := hm
            rw [hw]
            exact moB_up (by omega) (by rw [sput_r (by omega)]) (by rw [sput_r (by omega)]) (by rw [sput_r (by omega)]) (by rw [sput_r (by omega)]) hM
          · rw [if_neg c5] at hm
            obtain ⟨-, hw⟩ := hm
            rw [hw]
            exact moB_up (by omega) (by rw [sput_r (by omega)]) (by rw [sput_r (by omega)]) (by rw [sput_r (by omega)]) (by rw [sput_r (by omega)]) hM
set_option maxHeartbeats 1000000 in
theorem im_span {u w : Mem} {b : Nat} {z9 n : Int} {i1 k1 w1 : Int} (hB : BI w (n + 1000)) (hR : Rel w b) (hM : moB u b n) (hn : 0 ≤ n ∧ n ≤ 511000)  (hm : (if ¬ (0 ≤ i1 ∧ i1 < 3) then (z9 = -1 ∧ w = sput u b 0 1) else (if (u (b + 11) i1) = 0 then (z9 = -1 ∧ w = sput u b 0 5) else (if ¬ (0 ≤ k1 ∧ k1 ≤ (u (b + 11) i1) - 1) then (z9 = -1 ∧ w = sput u b 0 1) else (if w1 = 0 then (z9 = foF (shR (u (b + 15)) (40 * i1)) k1 ∧ w = sput u b 0 0) else (if w1 = 1 then (z9 = (shR (u (b + 15)) (40 * i1)) k1 ∧ w = sput u b 0 0) else (if w1 = 2 then (z9 = (shR (u (b + 16)) (40 * i1)) k1 ∧ w = sput u b 0 0) else (if w1 = 3 then (z9 = (shR (u (b + 17)) (40 * i1)) k1 ∧ w = sput u b 0 0) else (if w1 = 4 then (z9 = loN (shR (u (b + 14)) (40 * i1)) (shR (u (b + 15)) (40 * i1)) k1 ∧ w = sput u b 0 0) else (z9 = -1 ∧ w = sput u b 0 1)))))))))) : moB w b (n + 1000) := by
  by_cases c1 : ¬ (0 ≤ i1 ∧ i1 < 3)
  · rw [if_pos c1] at hm
    obtain ⟨-, hw⟩ := hm
    rw [hw]
    exact moB_up (by omega) (by rw [sput_r (by omega)]) (by rw [sput_r (by omega)]) (by rw [sput_r (by omega)]) (by rw [sput_r (by omega)]) hM
  · rw [if_neg c1] at hm
    by_cases c2 : (u (b + 11) i1) = 0
    · rw [if_pos c2] at hm
      obtain ⟨-, hw⟩ := hm
      rw [hw]
      exact moB_up (by omega) (by rw [sput_r (by omega)]) (by rw [sput_r (by omega)]) (by rw [sput_r (by omega)]) (by rw [sput_r (by omega)]) hM
    · rw [if_neg c2] at hm
      by_cases c3 : ¬ (0 ≤ k1 ∧ k1 ≤ (u (b + 11) i1) - 1)
      · rw [if_pos c3] at hm
        obtain ⟨-, hw⟩ := hm
        rw [hw]
        exact moB_up (by omega) (by rw [sput_r (by omega)]) (by rw [sput_r (by omega)]) (by rw [sput_r (by omega)]) (by rw [sput_r (by omega)]) hM
      · rw [if_neg c3] at hm
        by_cases c4 : w1 = 0
        · rw [if_pos c4] at hm
          obtain ⟨-, hw⟩ := hm
          rw [hw]
          exact moB_up (by omega) (by rw [sput_r (by omega)]) (by rw [sput_r (by omega)]) (by rw [sput_r (by omega)]) (by rw [sput_r (by omega)]) hM
        · rw [if_neg c4] at hm
          by_cases c5 : w1 = 1
          · rw [if_pos c5] at hm
            obtain ⟨-, hw⟩ := hm
            rw [hw]
            exact moB_up (by omega) (by rw [sput_r (by omega)]) (by rw [sput_r (by omega)]) (by rw [sput_r (by omega)]) (by rw [sput_r (by omega)]) hM
          · rw [if_neg c5] at hm
            by_cases c6 : w1 = 2
            · rw [if_pos c6] at hm
              obtain ⟨-, hw⟩ := hm
              rw [hw]
              exact moB_up (by omega) (by rw [sput_r (by omega)]) (by rw [sput_r (by omega)]) (by rw [sput_r (by omega)]) (by rw [sput_r (by omega)]) hM
            · rw [if_neg c6] at hm
              by_cases c7 : w1 = 3
              · rw [if_pos c7] at hm
                obtain ⟨-, hw⟩ := hm
                rw [hw]
                exact moB_up (by omega) (by rw [sput_r (by omega)]) (by rw [sput_r (by omega)]) (by rw [sput_r (by omega)]) (by rw [sput_r (by omega)]) hM
              · rw [if_neg c7] at hm
                by_cases c8 : w1 = 4
                · rw [if_pos c8] at hm
                  obtain ⟨-, hw⟩ := hm
                  rw [hw]
                  exact moB_up (by omega) (by rw [sput_r (by omega)]) (by rw [sput_r (by omega)]) (by rw [sput_r (by omega)]) (by rw [sput_r (by omega)]) hM
                · rw [if_neg c8] at hm
                  obtain ⟨-, hw⟩ := hm
                  rw [hw]
                  exact moB_up (by omega) (by rw [sput_r (by omega)]) (by rw [sput_r (by omega)]) (by rw [sput_r (by omega)]) (by rw [sput_r (by omega)]) hM
set_option maxHeartbeats 1000000 in
theorem im_heavy {u w : Mem} {b : Nat} {z9 n : Int} {i1 x1 : Int} (hB : BI w (n + 1000)) (hR : Rel w b) (hM : moB u b n) (hn : 0 ≤ n ∧ n ≤ 511000)  (hm : (if ¬ ((0 ≤ i1 ∧ i1 < 3) ∧ (0 ≤ x1 ∧ x1 ≤ 39)) then (z9 = -1 ∧ w = sput u b 0 1) else (if (u (b + 11) i1) = 0 then (z9 = -1 ∧ w = sput u b 0 5) else (if (shR (u (b + 14)) (40 * i1)) x1 = 0 then (z9 = -1 ∧ w = sput u b 0 6) else (z9 = (shR (u (b + 13)) (40 * i1)) x1 ∧ w = sput u b 0 0))))) : moB w b (n + 1000) := by
  by_cases c1 : ¬ ((0 ≤ i1 ∧ i1 < 3) ∧ (0 ≤ x1 ∧ x1 ≤ 39))
  · rw [if_pos c1] at hm
    obtain ⟨-, hw⟩ := hm
    rw [hw]
    exact moB_up (by omega) (by rw [sput_r (by omega)]) (by rw [sput_r (by omega)]) (by rw [sput_r (by omega)]) (by rw [sput_r (by omega)]) hM
  · rw [if_neg c1] at hm
    by_cases c2 : (u (b + 11) i1) = 0
    · rw [if_pos c2] at hm
      obtain ⟨-, hw⟩ := hm
      rw [hw]
      exact moB_up (by omega) (by rw [sput_r (by omega)]) (by rw [sput_r (by omega)]) (by rw [sput_r (by omega)]) (by rw [sput_r (by omega)]) hM
    · rw [if_neg c2] at hm
      by_cases c3 : (shR (u (b + 14)) (40 * i1)) x1 = 0
      · rw [if_pos c3] at hm
        obtain ⟨-, hw⟩ := hm
        rw [hw]
        exact moB_up (by omega) (by rw [sput_r (by omega)]) (by rw [sput_r (by omega)]) (by rw [sput_r (by omega)]) (by rw [sput_r (by omega)]) hM
      · rw [if_neg c3] at hm
        obtain ⟨-, hw⟩ := hm
        rw [hw]
        exact moB_up (by omega) (by rw [sput_r (by omega)]) (by rw [sput_r (by omega)]) (by rw [sput_r (by omega)]) (by rw [sput_r (by omega)]) hM
set_option maxHeartbeats 1000000 in
theorem im_drifts {u w : Mem} {b : Nat} {z9 n : Int} {i1 : Int} (hB : BI w (n + 1000)) (hR : Rel w b) (hM : moB u b n) (hn : 0 ≤ n ∧ n ≤ 511000)  (hm : (if ¬ (0 ≤ i1 ∧ i1 < 3) then (z9 = -1 ∧ w = sput u b 0 1) else (if (u (b + 11) i1) = 0 then (z9 = -1 ∧ w = sput u b 0 5) else (z9 = u (b + 12) i1 ∧ w = sput u b 0 0)))) : moB w b (n + 1000) := by
  by_cases c1 : ¬ (0 ≤ i1 ∧ i1 < 3)
  · rw [if_pos c1] at hm
    obtain ⟨-, hw⟩ := hm
    rw [hw]
    exact moB_up (by omega) (by rw [sput_r (by omega)]) (by rw [sput_r (by omega)]) (by rw [sput_r (by omega)]) (by rw [sput_r (by omega)]) hM
  · rw [if_neg c1] at hm
    by_cases c2 : (u (b + 11) i1) = 0
    · rw [if_pos c2] at hm
      obtain ⟨-, hw⟩ := hm
      rw [hw]
      exact moB_up (by omega) (by rw [sput_r (by omega)]) (by rw [sput_r (by omega)]) (by rw [sput_r (by omega)]) (by rw [sput_r (by omega)]) hM
    · rw [if_neg c2] at hm
      obtain ⟨-, hw⟩ := hm
      rw [hw]
      exact moB_up (by omega) (by rw [sput_r (by omega)]) (by rw [sput_r (by omega)]) (by rw [sput_r (by omega)]) (by rw [sput_r (by omega)]) hM
set_option maxHeartbeats 1000000 in
theorem im_bound {u w : Mem} {b : Nat} {z9 n : Int} {i1 a1 a2 w1 : Int} (hB : BI w (n + 1000)) (hR : Rel w b) (hM : moB u b n) (hn : 0 ≤ n ∧ n ≤ 511000)  (hm : (if ¬ ((0 ≤ i1 ∧ i1 < 3) ∧ (0 ≤ a1 ∧ a1 ≤ a2 ∧ a2 ≤ 39)) then (z9 = -1 ∧ w = sput u b 0 1) else (if (u (b + 11) i1) = 0 then (z9 = -1 ∧ w = sput u b 0 5) else (if w1 = 0 then (z9 = moL u b i1 a1 a2 ∧ w = sput u b 0 0) else (z9 = moH u b i1 a1 a2 ∧ w = sput u b 0 0))))) : moB w b (n + 1000) := by
  by_cases c1 : ¬ ((0 ≤ i1 ∧ i1 < 3) ∧ (0 ≤ a1 ∧ a1 ≤ a2 ∧ a2 ≤ 39))
  · rw [if_pos c1] at hm
    obtain ⟨-, hw⟩ := hm
    rw [hw]
    exact moB_up (by omega) (by rw [sput_r (by omega)]) (by rw [sput_r (by omega)]) (by rw [sput_r (by omega)]) (by rw [sput_r (by omega)]) hM
  · rw [if_neg c1] at hm
    by_cases c2 : (u (b + 11) i1) = 0
    · rw [if_pos c2] at hm
      obtain ⟨-, hw⟩ := hm
      rw [hw]
      exact moB_up (by omega) (by rw [sput_r (by omega)]) (by rw [sput_r (by omega)]) (by rw [sput_r (by omega)]) (by rw [sput_r (by omega)]) hM
    · rw [if_neg c2] at hm
      by_cases c3 : w1 = 0
      · rw [if_pos c3] at hm
        obtain ⟨-, hw⟩ := hm
        rw [hw]
        exact moB_up (by omega) (by rw [sput_r (by omega)]) (by rw [sput_r (by omega)]) (by rw [sput_r (by omega)]) (by rw [sput_r (by omega)]) hM
      · rw [if_neg c3] at hm
        obtain ⟨-, hw⟩ := hm
        rw [hw]
        exact moB_up (by omega) (by rw [sput_r (by omega)]) (by rw [sput_r (by omega)]) (by rw [sput_r (by omega)]) (by rw [sput_r (by omega)]) hM
set_option maxHeartbeats 1000000 in
theorem im_drawn {u w : Mem} {b : Nat} {z9 n : Int} {i1 k1 : Int} (hB : BI w (n + 1000)) (hR : Rel w b) (hM : moB u b n) (hn : 0 ≤ n ∧ n ≤ 511000)  (hm : (if ¬ ((0 ≤ i1 ∧ i1 < 3) ∧ (0 ≤ k1 ∧ k1 ≤ 15)) then (z9 = -1 ∧ w = sput u b 0 1) else (if u (b + 7) i1 ≤ k1 ∨ u (b + 8) i1 ≤ k1 then (z9 = -1 ∧ w = sput u b 0 6) else (z9 = (if u (b + 9) (16 * i1 + k1) = -1 then -2 else u (b + 9) (16 * i1 + k1)) ∧ w = sput u b 0 0)))) : moB w b (n + 1000) := by
  by_cases c1 : ¬ ((0 ≤ i1 ∧ i1 < 3) ∧ (0 ≤ k1 ∧ k1 ≤ 15))
  · rw [if_pos c1] at hm
    obtain ⟨-, hw⟩ := hm
    rw [hw]
    exact moB_up (by omega) (by rw [sput_r (by omega)]) (by rw [sput_r (by omega)]) (by rw [sput_r (by omega)]) (by rw [sput_r (by omega)]) hM
  · rw [if_neg c1] at hm
    by_cases c2 : u (b + 7) i1 ≤ k1 ∨ u (b + 8) i1 ≤ k1
    · rw [if_pos c2] at hm
      obtain ⟨-, hw⟩ := hm
      rw [hw]
      exact moB_up (by omega) (by rw [sput_r (by omega)]) (by rw [sput_r (by omega)]) (by rw [sput_r (by omega)]) (by rw [sput_r (by omega)]) hM
    · rw [if_neg c2] at hm
      obtain ⟨-, hw⟩ := hm
      rw [hw]
      exact moB_up (by omega) (by rw [sput_r (by omega)]) (by rw [sput_r (by omega)]) (by rw [sput_r (by omega)]) (by rw [sput_r (by omega)]) hM
set_option maxHeartbeats 1000000 in
theorem im_harm {u w : Mem} {b : Nat} {z9 n : Int} {i1 a1 a2 i2 b1 b2 : Int} (hB : BI w (n + 1000)) (hR : Rel w b) (hM : moB u b n) (hn : 0 ≤ n ∧ n ≤ 511000)  (hm : (if ¬ ((0 ≤ i1 ∧ i1 < 3) ∧ (0 ≤ i2 ∧ i2 < 3) ∧ (0 ≤ a1 ∧ a1 ≤ a2 ∧ a2 ≤ 39) ∧ (0 ≤ b1 ∧ b1 ≤ b2 ∧ b2 ≤ 39)) then (z9 = -1 ∧ w = sput u b 0 1) else (if (u (b + 11) i1) = 0 ∨ u (b + 11) i2 = 0 then (z9 = -1 ∧ w = sput u b 0 5) else (z9 = sgI (moH u b i1 a1 a2) ∧ w = sput (sput (sput u b 100001 (frN (moH u b i1 a1 a2) (max 1 (moL u b i2 b1 b2)))) b 100002 (frD (moH u b i1 a1 a2) (max 1 (moL u b i2 b1 b2)))) b 0 0)))) : moB w b (n + 1000) := by
  by_cases c1 : ¬ ((0 ≤ i1 ∧ i1 < 3) ∧ (0 ≤ i2 ∧ i2 < 3) ∧ (0 ≤ a1 ∧ a1 ≤ a2 ∧ a2 ≤ 39) ∧ (0 ≤ b1 ∧ b1 ≤ b2 ∧ b2 ≤ 39))
  · rw [if_pos c1] at hm
    obtain ⟨-, hw⟩ := hm
    rw [hw]
    exact moB_up (by omega) (by rw [sput_r (by omega)]) (by rw [sput_r (by omega)]) (by rw [sput_r (by omega)]) (by rw [sput_r (by omega)]) hM
  · rw [if_neg c1] at hm
    by_cases c2 : (u (b + 11) i1) = 0 ∨ u (b + 11) i2 = 0
    · rw [if_pos c2] at hm
      obtain ⟨-, hw⟩ := hm
      rw [hw]
      exact moB_up (by omega) (by rw [sput_r (by omega)]) (by rw [sput_r (by omega)]) (by rw [sput_r (by omega)]) (by rw [sput_r (by omega)]) hM
    · rw [if_neg c2] at hm
      obtain ⟨-, hw⟩ := hm
      rw [hw]
      exact moB_up (by omega) (by rw [sput_r (by omega), sput_r (by omega), sput_r (by omega)]) (by rw [sput_r (by omega), sput_r (by omega), sput_r (by omega)]) (by rw [sput_r (by omega), sput_r (by omega), sput_r (by omega)]) (by rw [sput_r (by omega), sput_r (by omega), sput_r (by omega)]) hM
set_option maxHeartbeats 1000000 in
theorem im_guess {u w : Mem} {b : Nat} {z9 n : Int} {i1 a1 a2 : Int} (hB : BI w (n + 1000)) (hR : Rel w b) (hM : moB u b n) (hn : 0 ≤ n ∧ n ≤ 511000)  (hm : (if ¬ ((0 ≤ i1 ∧ i1 < 3) ∧ (0 ≤ a1 ∧ a1 ≤ a2 ∧ a2 ≤ 39)) then (z9 = -1 ∧ w = sput u b 0 1) else (if (u (b + 11) i1) = 0 then (z9 = -1 ∧ w = sput u b 0 5) else (z9 = sgI (moG u b i1 a1 a2).1 ∧ w = sput (sput (sput u b 100001 (frN (moG u b i1 a1 a2).1 (moG u b i1 a1 a2).2)) b 100002 (frD (moG u b i1 a1 a2).1 (moG u b i1 a1 a2).2)) b 0 0)))) : moB w b (n + 1000) := by
  by_cases c1 : ¬ ((0 ≤ i1 ∧ i1 < 3) ∧ (0 ≤ a1 ∧ a1 ≤ a2 ∧ a2 ≤ 39))
  · rw [if_pos c1] at hm
    obtain ⟨-, hw⟩ := hm
    rw [hw]
    exact moB_up (by omega) (by rw [sput_r (by omega)]) (by rw [sput_r (by omega)]) (by rw [sput_r (by omega)]) (by rw [sput_r (by omega)]) hM
  · rw [if_neg c1] at hm
    by_cases c2 : (u (b + 11) i1) = 0
    · rw [if_pos c2] at hm
      obtain ⟨-, hw⟩ := hm
      rw [hw]
      exact moB_up (by omega) (by rw [sput_r (by omega)]) (by rw [sput_r (by omega)]) (by rw [sput_r (by omega)]) (by rw [sput_r (by omega)]) hM
    · rw [if_neg c2] at hm
      obtain ⟨-, hw⟩ := hm
      rw [hw]
      exact moB_up (by omega) (by rw [sput_r (by omega), sput_r (by omega), sput_r (by omega)]) (by rw [sput_r (by omega), sput_r (by omega), sput_r (by omega)]) (by rw [sput_r (by omega), sput_r (by omega), sput_r (by omega)]) (by rw [sput_r (by omega), sput_r (by omega), sput_r (by omega)]) hM
set_option maxHeartbeats 1000000 in
theorem im_join {u w : Mem} {b : Nat} {z9 n : Int} {i1 i2 : Int} (hB : BI w (n + 1000)) (hR : Rel w b) (hM : moB u b n) (hn : 0 ≤ n ∧ n ≤ 511000)  (hm : (if ¬ ((0 ≤ i1 ∧ i1 < 3) ∧ (0 ≤ i2 ∧ i2 < 3)) then (z9 = -1 ∧ w = sput u b 0 1) else (if (u (b + 11) i1) = 0 ∨ (u (b + 11) i2) = 0 then (z9 = -1 ∧ w = sput u b 0 5) else (z9 = sgI (moJ u b i1 i2).1 ∧ w = sput (sput (sput u b 100001 (frN (moJ u b i1 i2).1 (moJ u b i1 i2).2)) b 100002 (frD (moJ u b i1 i2).1 (moJ u b i1 i2).2)) b 0 0)))) : moB w b (n + 1000) := by
  by_cases c1 : ¬ ((0 ≤ i1 ∧ i1 < 3) ∧ (0 ≤ i2 ∧ i2 < 3))
  · rw [if_pos c1] at hm
    obtain ⟨-, hw⟩ := hm
    rw [hw]
    exact moB_up (by omega) (by rw [sput_r (by omega)]) (by rw [sput_r (by omega)]) (by rw [sput_r (by omega)]) (by rw [sput_r (by omega)]) hM
  · rw [if_neg c1] at hm
    by_cases c2 : (u (b + 11) i1) = 0 ∨ (u (b + 11) i2) = 0
    · rw [if_pos c2] at hm
      obtain ⟨-, hw⟩ := hm
      rw [hw]
      exact moB_up (by omega) (by rw [sput_r (by omega)]) (by rw [sput_r (by omega)]) (by rw [sput_r (by omega)]) (by rw [sput_r (by omega)]) hM
    · rw [if_neg c2] at hm
      obtain ⟨-, hw⟩ := hm
      rw [hw]
      exact moB_up (by omega) (by rw [sput_r (by omega), sput_r (by omega), sput_r (by omega)]) (by rw [sput_r (by omega), sput_r (by omega), sput_r (by omega)]) (by rw [sput_r (by omega), sput_r (by omega), sput_r (by omega)]) (by rw [sput_r (by omega), sput_r (by omega), sput_r (by omega)]) hM
set_option maxHeartbeats 1000000 in
theorem im_away {u w : Mem} {b : Nat} {z9 n : Int} {i1 : Int} (hB : BI w (n + 1000)) (hR : Rel w b) (hM : moB u b n) (hn : 0 ≤ n ∧ n ≤ 511000)  (hm : (if ¬ (0 ≤ i1 ∧ i1 < 3) then (z9 = 0 ∧ w = sput u b 0 1) else (if (u (b + 11) i1) = 0 then (z9 = 0 ∧ w = sput u b 0 5) else (z9 = 1 ∧ w = sput (sput u (b + 11) i1 0) b 0 0)))) : moB w b (n + 1000) := by
  by_cases c1 : ¬ (0 ≤ i1 ∧ i1 < 3)
  · rw [if_pos c1] at hm
    obtain ⟨-, hw⟩ := hm
    rw [hw]
    exact moB_up (by omega) (by rw [sput_r (by omega)]) (by rw [sput_r (by omega)]) (by rw [sput_r (by omega)]) (by rw [sput_r (by omega)]) hM
  · rw [if_neg c1] at hm
    by_cases c2 : (u (b + 11) i1) = 0
    · rw [if_pos c2] at hm
      obtain ⟨-, hw⟩ := hm
      rw [hw]
      exact moB_up (by omega) (by rw [sput_r (by omega)]) (by rw [sput_r (by omega)]) (by rw [sput_r (by omega)]) (by rw [sput_r (by omega)]) hM
    · rw [if_neg c2] at hm
      obtain ⟨-, hw⟩ := hm
      rw [hw]
      exact moB_up (by omega) (by rw [sput_r (by omega), sput_r (by omega)]) (by rw [sput_r (by omega), sput_r (by omega)]) (by rw [sput_r (by omega), sput_r (by omega)]) (by rw [sput_r (by omega), sput_r (by omega)]) hM
set_option maxHeartbeats 1000000 in
theorem im_sample {u w : Mem} {b : Nat} {z9 n : Int} {i1 k1 s1 : Int} (hB : BI w (n + 1000)) (hR : Rel w b) (hM : moB u b n) (hn : 0 ≤ n ∧ n ≤ 511000)  (hm : (if ¬ ((0 ≤ i1 ∧ i1 < 3) ∧ (1 ≤ k1 ∧ k1 ≤ 16) ∧ 0 ≤ s1) then (z9 = 0 ∧ w = sput u b 0 1) else (z9 = 1 ∧ w = sput (sput (sput (sput u (b + 7) i1 k1) (b + 8) i1 0) (b + 10) (100000 + i1) s1) b 0 0))) : moB w b (n + 1000) := by
  by_cases c1 : ¬ ((0 ≤ i1 ∧ i1 < 3) ∧ (1 ≤ k1 ∧ k1 ≤ 16) ∧ 0 ≤ s1)
  · rw [if_pos c1] at hm
    obtain ⟨-, hw⟩ := hm
    rw [hw]
    exact moB_up (by omega) (by rw [sput_r (by omega)]) (by rw [sput_r (by omega)]) (by rw [sput_r (by omega)]) (by rw [sput_r (by omega)]) hM
  · rw [if_neg c1] at hm
    obtain ⟨-, hw⟩ := hm
    rw [hw]
    exact moB_up (by omega) (by rw [sput_r (by omega), sput_r (by omega), sput_r (by omega), sput_r (by omega)]) (by rw [sput_r (by omega), sput_r (by omega), sput_r (by omega), sput_r (by omega)]) (by rw [sput_r (by omega), sput_r (by omega), sput_r (by omega), sput_r (by omega)]) (by rw [sput_r (by omega), sput_r (by omega), sput_r (by omega), sput_r (by omega)]) hM
set_option maxHeartbeats 1000000 in
theorem im_write {u w : Mem} {b : Nat} {z9 n : Int} {i1 p1 x1 : Int} (hB : BI w (n + 1000)) (hR : Rel w b) (hM : moB u b n) (hn : 0 ≤ n ∧ n ≤ 511000)  (hm : (if ¬ (0 ≤ i1 ∧ i1 < 4) then (z9 = 0 ∧ w = sput u b 0 1) else (if u (b + 2) i1 = -1 then (z9 = 0 ∧ w = sput u b 0 2) else (if ¬ (0 ≤ p1 ∧ p1 < u (b + 2) i1) then (z9 = 0 ∧ w = sput u b 0 3) else (z9 = 1 ∧ w = sput (sput u (b + 3) (100000 + (100 * i1 + p1)) (fitI (u (b + 1) i1) x1)) b 0 0))))) : moB w b (n + 1000) := by
  by_cases c1 : ¬ (0 ≤ i1 ∧ i1 < 4)
  · rw [if_pos c1] at hm
    obtain ⟨-, hw⟩ := hm
    rw [hw]
    exact moB_up (by omega) (by rw [sput_r (by omega)]) (by rw [sput_r (by omega)]) (by rw [sput_r (by omega)]) (by rw [sput_r (by omega)]) hM
  · rw [if_neg c1] at hm
    by_cases c2 : u (b + 2) i1 = -1
    · rw [if_pos c2] at hm
      obtain ⟨-, hw⟩ := hm
      rw [hw]
      exact moB_up (by omega) (by rw [sput_r (by omega)]) (by rw [sput_r (by omega)]) (by rw [sput_r (by omega)]) (by rw [sput_r (by omega)]) hM
    · rw [if_neg c2] at hm
      by_cases c3 : ¬ (0 ≤ p1 ∧ p1 < u (b + 2) i1)
      · rw [if_pos c3] at hm
        obtain ⟨-, hw⟩ := hm
        rw [hw]
        exact moB_up (by omega) (by rw [sput_r (by omega)]) (by rw [sput_r (by omega)]) (by rw [sput_r (by omega)]) (by rw [sput_r (by omega)]) hM
      · rw [if_neg c3] at hm
        obtain ⟨-, hw⟩ := hm
        rw [hw]
        exact moB_up (by omega) (by rw [sput_r (by omega), sput_r (by omega)]) (by rw [sput_r (by omega), sput_r (by omega)]) (by rw [sput_r (by omega), sput_r (by omega)]) (by rw [sput_r (by omega), sput_r (by omega)]) hM
set_option maxHeartbeats 1000000 in
theorem im_pour {u w : Mem} {b : Nat} {z9 n : Int} {i1 p1 i2 p2 m1 : Int} (hB : BI w (n + 1000)) (hR : Rel w b) (hM : moB u b n) (hn : 0 ≤ n ∧ n ≤ 511000)  (hm : (if ¬ ((0 ≤ i1 ∧ i1 < 4) ∧ (0 ≤ i2 ∧ i2 < 4) ∧ 0 ≤ p1 ∧ 0 ≤ p2 ∧ 0 ≤ m1) then (z9 = 0 ∧ w = sput u b 0 1) else (if u (b + 2) i1 = -1 ∨ u (b + 2) i2 = -1 then (z9 = 0 ∧ w = sput u b 0 2) else (if u (b + 1) i1 ≠ u (b + 1) i2 then (z9 = 0 ∧ w = sput u b 0 7) else (if ¬ (m1 ≤ u (b + 2) i1 - p1 ∧ m1 ≤ u (b + 2) i2 - p2) then (z9 = 0 ∧ w = sput u b 0 3) else (z9 = 1 ∧ (∀ j : Int, w (b + 3) (100000 + j) = if 0 ≤ (j - (100 * i2 + p2)) ∧ (j - (100 * i2 + p2)) < m1 then u (b + 3) (100000 + (100 * i1 + p1 + (j - (100 * i2 + p2)))) else u (b + 3) (100000 + j)) ∧ ∀ a : Nat, a ≠ b + 3 → w a = sput u b 0 0 a)))))) : moB w b (n + 1000) := by
  by_cases c1 : ¬ ((0 ≤ i1 ∧ i1 < 4) ∧ (0 ≤ i2 ∧ i2 < 4) ∧ 0 ≤ p1 ∧ 0 ≤ p2 ∧ 0 ≤ m1)
  · rw [if_pos c1] at hm
    obtain ⟨-, hw⟩ := hm
    rw [hw]
    exact moB_up (by omega) (by rw [sput_r (by omega)]) (by rw [sput_r (by omega)]) (by rw [sput_r (by omega)]) (by rw [sput_r (by omega)]) hM
  · rw [if_neg c1] at hm
    by_cases c2 : u (b + 2) i1 = -1 ∨ u (b + 2) i2 = -1
    · rw [if_pos c2] at hm
      obtain ⟨-, hw⟩ := hm
      rw [hw]
      exact moB_up (by omega) (by rw [sput_r (by omega)]) (by rw [sput_r (by omega)]) (by rw [sput_r (by omega)]) (by rw [sput_r (by omega)]) hM
    · rw [if_neg c2] at hm
      by_cases c3 : u (b + 1) i1 ≠ u (b + 1) i2
      · rw [if_pos c3] at hm
        obtain ⟨-, hw⟩ := hm
        rw [hw]
        exact moB_up (by omega) (by rw [sput_r (by omega)]) (by rw [sput_r (by omega)]) (by rw [sput_r (by omega)]) (by rw [sput_r (by omega)]) hM
      · rw [if_neg c3] at hm
        by_cases c4 : ¬ (m1 ≤ u (b + 2) i1 - p1 ∧ m1 ≤ u (b + 2) i2 - p2)
        · rw [if_pos c4] at hm
          obtain ⟨-, hw⟩ := hm
          rw [hw]
          exact moB_up (by omega) (by rw [sput_r (by omega)]) (by rw [sput_r (by omega)]) (by rw [sput_r (by omega)]) (by rw [sput_r (by omega)]) hM
        · rw [if_neg c4] at hm
          obtain ⟨-, -, hf⟩ := hm
          have e : ∀ a : Nat, a ≠ b → a ≠ b + 3 → w a = u a := fun a q1 q2 => by rw [hf a q2, sput_r q1]
          exact moB_up (by omega) (e _ (by omega) (by omega)) (e _ (by omega) (by omega)) (e _ (by omega) (by omega)) (e _ (by omega) (by omega)) hM
set_option maxHeartbeats 1000000 in
theorem im_split {u w : Mem} {b : Nat} {z9 n : Int} {i1 x1 : Int} (hB : BI w (n + 1000)) (hR : Rel w b) (hM : moB u b n) (hn : 0 ≤ n ∧ n ≤ 511000)  (hm : (if ¬ ((0 ≤ i1 ∧ i1 < 3) ∧ (0 ≤ x1 ∧ x1 ≤ 39)) then (z9 = -1 ∧ w = sput u b 0 1) else (if (u (b + 11) i1) = 0 then (z9 = -1 ∧ w = sput u b 0 5) else (if (shR (u (b + 15)) (40 * i1)) (spOf (shR (u (b + 15)) (40 * i1)) (u (b + 11) i1) x1) = x1 ∨ 12 ≤ (u (b + 11) i1) then (z9 = -1 ∧ w = sput u b 0 6) else (z9 = spOf (shR (u (b + 15)) (40 * i1)) (u (b + 11) i1) x1 ∧ moFr (sput u b 0 0) w b i1 ∧ moV w b i1 = cutV (shR (u (b + 14)) (40 * i1)) (moV u b i1) (spOf (shR (u (b + 15)) (40 * i1)) (u (b + 11) i1) x1) x1))))) : moB w b (n + 1000) := by
  by_cases c1 : ¬ ((0 ≤ i1 ∧ i1 < 3) ∧ (0 ≤ x1 ∧ x1 ≤ 39))
  · rw [if_pos c1] at hm
    obtain ⟨-, hw⟩ := hm
    rw [hw]
    exact moB_up (by omega) (by rw [sput_r (by omega)]) (by rw [sput_r (by omega)]) (by rw [sput_r (by omega)]) (by rw [sput_r (by omega)]) hM
  · rw [if_neg c1] at hm
    by_cases c2 : (u (b + 11) i1) = 0
    · rw [if_pos c2] at hm
      obtain ⟨-, hw⟩ := hm
      rw [hw]
      exact moB_up (by omega) (by rw [sput_r (by omega)]) (by rw [sput_r (by omega)]) (by rw [sput_r (by omega)]) (by rw [sput_r (by omega)]) hM
    · rw [if_neg c2] at hm
      by_cases c3 : (shR (u (b + 15)) (40 * i1)) (spOf (shR (u (b + 15)) (40 * i1)) (u (b + 11) i1) x1) = x1 ∨ 12 ≤ (u (b + 11) i1)
      · rw [if_pos c3] at hm
        obtain ⟨-, hw⟩ := hm
        rw [hw]
        exact moB_up (by omega) (by rw [sput_r (by omega)]) (by rw [sput_r (by omega)]) (by rw [sput_r (by omega)]) (by rw [sput_r (by omega)]) hM
      · rw [if_neg c3] at hm
        obtain ⟨-, hf, -⟩ := hm
        have e : ∀ a : Nat, a ≠ b → a ≠ b + 11 → a ≠ b + 15 → a ≠ b + 16 → a ≠ b + 17 → w a = u a := fun a q1 q2 q3 q4 q5 => by rw [hf.1 a q1 q2 q3 q4 q5, sput_r q1]
        exact moB_up (by omega) (e _ (by omega) (by omega) (by omega) (by omega) (by omega)) (e _ (by omega) (by omega) (by omega) (by omega) (by omega)) (e _ (by omega) (by omega) (by omega) (by omega) (by omega)) (e _ (by omega) (by omega) (by omega) (by omega) (by omega)) hM
set_option maxHeartbeats 1000000 in
theorem im_melt {u w : Mem} {b : Nat} {z9 n : Int} {i1 k1 : Int} (hB : BI w (n + 1000)) (hR : Rel w b) (hM : moB u b n) (hn : 0 ≤ n ∧ n ≤ 511000)  (hm : (if ¬ (0 ≤ i1 ∧ i1 < 3) then (z9 = 0 ∧ w = sput u b 0 1) else (if (u (b + 11) i1) = 0 then (z9 = 0 ∧ w = sput u b 0 5) else (if ¬ (0 ≤ k1 ∧ k1 ≤ (u (b + 11) i1) - 2) then (z9 = 0 ∧ w = sput u b 0 6) else (z9 = 1 ∧ moFr (sput u b 0 0) w b i1 ∧ moV w b i1 = fuseV (moV u b i1) k1))))) : moB w b (n + 1000) := by
  by_cases c1 : ¬ (0 ≤ i1 ∧ i1 < 3)
  · rw [if_pos c1] at hm
    obtain ⟨-, hw⟩ := hm
    rw [hw]
    exact moB_up (by omega) (by rw [sput_r (by omega)]) (by rw [sput_r (by omega)]) (by rw [sput_r (by omega)]) (by rw [sput_r (by omega)]) hM
  · rw [if_neg c1] at hm
    by_cases c2 : (u (b + 11) i1) = 0
    · rw [if_pos c2] at hm
      obtain ⟨-, hw⟩ := hm
      rw [hw]
      exact moB_up (by omega) (by rw [sput_r (by omega)]) (by rw [sput_r (by omega)]) (by rw [sput_r (by omega)]) (by rw [sput_r (by omega)]) hM
    · rw [if_neg c2] at hm
      by_cases c3 : ¬ (0 ≤ k1 ∧ k1 ≤ (u (b + 11) i1) - 2)
      · rw [if_pos c3] at hm
        obtain ⟨-, hw⟩ := hm
        rw [hw]
        exact moB_up (by omega) (by rw [sput_r (by omega)]) (by rw [sput_r (by omega)]) (by rw [sput_r (by omega)]) (by rw [sput_r (by omega)]) hM
      · rw [if_neg c3] at hm
        obtain ⟨-, hf, -⟩ := hm
        have e : ∀ a : Nat, a ≠ b → a ≠ b + 11 → a ≠ b + 15 → a ≠ b + 16 → a ≠ b + 17 → w a = u a := fun a q1 q2 q3 q4 q5 => by rw [hf.1 a q1 q2 q3 q4 q5, sput_r q1]
        exact moB_up (by omega) (e _ (by omega) (by omega) (by omega) (by omega) (by omega)) (e _ (by omega) (by omega) (by omega) (by omega) (by omega)) (e _ (by omega) (by omega) (by omega) (by omega) (by omega)) (e _ (by omega) (by omega) (by omega) (by omega) (by omega)) hM
set_option maxHeartbeats 1000000 in
theorem im_keep {u w : Mem} {b : Nat} {z9 n : Int} {i1 : Int} (hB : BI w (n + 1000)) (hR : Rel w b) (hM : moB u b n) (hn : 0 ≤ n ∧ n ≤ 511000)  (hm : (if ¬ (0 ≤ i1 ∧ i1 < 3) then (z9 = -1 ∧ w = sput u b 0 1) else (if (u (b + 11) i1) = 0 then (z9 = -1 ∧ w = sput u b 0 5) else (z9 = (keepV (shR (u (b + 14)) (40 * i1)) (moV u b i1)).2 ∧ moFr (sput u b 0 0) w b i1 ∧ moV w b i1 = (keepV (shR (u (b + 14)) (40 * i1)) (moV u b i1)).1)))) : moB w b (n + 1000) := by
  by_cases c1 : ¬ (0 ≤ i1 ∧ i1 < 3)
  · rw [if_pos c1] at hm
    obtain ⟨-, hw⟩ := hm
    rw [hw]
    exact moB_up (by omega) (by rw [sput_r (by omega)]) (by rw [sput_r (by omega)]) (by rw [sput_r (by omega)]) (by rw [sput_r (by omega)]) hM
  · rw [if_neg c1] at hm
    by_cases c2 : (u (b + 11) i1) = 0
    · rw [if_pos c2] at hm
      obtain ⟨-, hw⟩ := hm
      rw [hw]
      exact moB_up (by omega) (by rw [sput_r (by omega)]) (by rw [sput_r (by omega)]) (by rw [sput_r (by omega)]) (by rw [sput_r (by omega)]) hM
    · rw [if_neg c2] at hm
      obtain ⟨-, hf, -⟩ := hm
      have e : ∀ a : Nat, a ≠ b → a ≠ b + 11 → a ≠ b + 15 → a ≠ b + 16 → a ≠ b + 17 → w a = u a := fun a q1 q2 q3 q4 q5 => by rw [hf.1 a q1 q2 q3 q4 q5, sput_r q1]
      exact moB_up (by omega) (e _ (by omega) (by omega) (by omega) (by omega) (by omega)) (e _ (by omega) (by omega) (by omega) (by omega) (by omega)) (e _ (by omega) (by omega) (by omega) (by omega) (by omega)) (e _ (by omega) (by omega) (by omega) (by omega) (by omega)) hM
set_option maxHeartbeats 1000000 in
theorem im_tray {u w : Mem} {b : Nat} {z9 n : Int} {i1 s1 m1 : Int} (hB : BI w (n + 1000)) (hR : Rel w b) (hM : moB u b n) (hn : 0 ≤ n ∧ n ≤ 511000)  (hm : (if ¬ ((0 ≤ i1 ∧ i1 < 4) ∧ (0 ≤ s1 ∧ s1 ≤ 3) ∧ (0 ≤ m1 ∧ m1 ≤ 100)) then (z9 = 0 ∧ w = sput u b 0 1) else (z9 = 1 ∧ (∀ j : Int, 0 ≤ j → j < m1 → w (b + 3) (100000 + (100 * i1 + j)) = 0) ∧ (∀ j : Int, (j < 100000 + 100 * i1 ∨ 100000 + 100 * i1 + 100 ≤ j) → w (b + 3) j = u (b + 3) j) ∧ ∀ a : Nat, a ≠ b + 3 → w a = (sput (sput (sput u (b + 1) i1 s1) (b + 2) i1 m1) b 0 0) a))) : moB w b (n + 1000) := by
  by_cases c1 : ¬ ((0 ≤ i1 ∧ i1 < 4) ∧ (0 ≤ s1 ∧ s1 ≤ 3) ∧ (0 ≤ m1 ∧ m1 ≤ 100))
  · rw [if_pos c1] at hm
    obtain ⟨-, hw⟩ := hm
    rw [hw]
    exact moB_up (by omega) (by rw [sput_r (by omega)]) (by rw [sput_r (by omega)]) (by rw [sput_r (by omega)]) (by rw [sput_r (by omega)]) hM
  · rw [if_neg c1] at hm
    obtain ⟨-, -, -, hf⟩ := hm
    refine ⟨fun i i0 i9 => ?_, fun c c0 c1 => ?_⟩
    · rw [hf (b + 1) (by omega), hf (b + 2) (by omega), sput_r (show b + 1 ≠ b by omega), sput_r (show b + 2 ≠ b by omega), sput_r (show b + 1 ≠ b + 2 by omega)]
      have q := hM.1 i i0 i9
      by_cases y : i = i1
      · rw [y, sput_s, sput_s]; omega
      · rw [sput_j _ _ _ _ _ y, sput_j _ _ _ _ _ y, sput_r (by omega)]; exact q
    · rw [hf (b + 12) (by omega), hf (b + 13) (by omega), sput_r (by omega), sput_r (by omega), sput_r (by omega), sput_r (by omega), sput_r (by omega), sput_r (by omega)]
      have q := hM.2 c c0 c1
      exact ⟨by omega, fun j j0 j1 => by have := q.2 j j0 j1; omega⟩
set_option maxHeartbeats 1000000 in
theorem im_put {u w : Mem} {b : Nat} {z9 n : Int} {i1 x1 m1 : Int} (hB : BI w (n + 1000)) (hR : Rel w b) (hM : moB u b n) (hn : 0 ≤ n ∧ n ≤ 511000) (hr : ∀ c : Int, 0 ≤ c → c < 3 → mrB u b c (100000 + n) ∧ msB u b c 100000000) (hm : (if ¬ ((0 ≤ i1 ∧ i1 < 3) ∧ (-1 ≤ x1 ∧ x1 ≤ 39) ∧ (1 ≤ m1 ∧ m1 ≤ 1000)) then (z9 = 0 ∧ w = sput u b 0 1) else (if 10000 < u (b + 6) i1 + u (b + 5) i1 + m1 then (z9 = 0 ∧ w = sput u b 0 4) else (z9 = 1 ∧ w = sput (itrR (fun _ τ => mpS b i1 x1 τ) 0 m1 u) b 0 0)))) : moB w b (n + 1000) := by
  by_cases c1 : ¬ ((0 ≤ i1 ∧ i1 < 3) ∧ (-1 ≤ x1 ∧ x1 ≤ 39) ∧ (1 ≤ m1 ∧ m1 ≤ 1000))
  · rw [if_pos c1] at hm
    obtain ⟨-, hw⟩ := hm
    rw [hw]
    exact moB_up (by omega) (by rw [sput_r (by omega)]) (by rw [sput_r (by omega)]) (by rw [sput_r (by omega)]) (by rw [sput_r (by omega)]) hM
  · rw [if_neg c1] at hm
    by_cases c2 : 10000 < u (b + 6) i1 + u (b + 5) i1 + m1
    · rw [if_pos c2] at hm
      obtain ⟨-, hw⟩ := hm
      rw [hw]
      exact moB_up (by omega) (by rw [sput_r (by omega)]) (by rw [sput_r (by omega)]) (by rw [sput_r (by omega)]) (by rw [sput_r (by omega)]) hM
    · rw [if_neg c2] at hm
      obtain ⟨-, hw⟩ := hm
      obtain ⟨r1, r2⟩ := hr i1 (by omega) (by omega)
      obtain ⟨m, hmn⟩ : ∃ m : Nat, m1 = m := ⟨m1.toNat, by omega⟩
      subst hmn
      obtain ⟨g1, -, g3⟩ := mp_B (row := fun _ => x1) (N := m) (fun _ _ _ => by omega) r1 r2 m (Int.le_refl _)
      exact moB_rows hM (mrB_le (by omega) g1) g3 (fun a q => by rw [hw, sput_r q])
set_option maxHeartbeats 1000000 in
theorem im_strike {u w : Mem} {b : Nat} {z9 n : Int} {i1 x1 m1 : Int} (hB : BI w (n + 1000)) (hR : Rel w b) (hM : moB u b n) (hn : 0 ≤ n ∧ n ≤ 511000) (hr : ∀ c : Int, 0 ≤ c → c < 3 → mrB u b c (100000 + n) ∧ msB u b c 100000000) (hm : (if ¬ ((0 ≤ i1 ∧ i1 < 3) ∧ (-1 ≤ x1 ∧ x1 ≤ 39) ∧ (1 ≤ m1 ∧ m1 ≤ 1000)) then (z9 = 0 ∧ w = sput u b 0 1) else (if (if x1 = -1 then u (b + 5) i1 else u (b + 4) (40 * i1 + x1)) < m1 then (z9 = 0 ∧ w = sput u b 0 4) else (z9 = 1 ∧ w = sput (itrR (fun _ τ => mcM τ b i1 x1 (-1)) 0 m1 u) b 0 0)))) : moB w b (n + 1000) := by
  by_cases c1 : ¬ ((0 ≤ i1 ∧ i1 < 3) ∧ (-1 ≤ x1 ∧ x1 ≤ 39) ∧ (1 ≤ m1 ∧ m1 ≤ 1000))
  · rw [if_pos c1] at hm
    obtain ⟨-, hw⟩ := hm
    rw [hw]
    exact moB_up (by omega) (by rw [sput_r (by omega)]) (by rw [sput_r (by omega)]) (by rw [sput_r (by omega)]) (by rw [sput_r (by omega)]) hM
  · rw [if_neg c1] at hm
    by_cases c2 : (if x1 = -1 then u (b + 5) i1 else u (b + 4) (40 * i1 + x1)) < m1
    · rw [if_pos c2] at hm
      obtain ⟨-, hw⟩ := hm
      rw [hw]
      exact moB_up (by omega) (by rw [sput_r (by omega)]) (by rw [sput_r (by omega)]) (by rw [sput_r (by omega)]) (by rw [sput_r (by omega)]) hM
    · rw [if_neg c2] at hm
      obtain ⟨-, hw⟩ := hm
      obtain ⟨r1, r2⟩ := hr i1 (by omega) (by omega)
      obtain ⟨m, hmn⟩ : ∃ m : Nat, m1 = m := ⟨m1.toNat, by omega⟩
      subst hmn
      exact moB_rows hM (mrB_le (by omega) (mc_B (x := x1) (by omega) (Or.inr rfl) r1 m)) (mc_F (x := x1) (s := -1) (c := i1) (b := b) (by omega) m u r1.2.2.2.2.2.1 r2.2.1.1) (fun a q => by rw [hw, sput_r q])
set_option maxHeartbeats 1000000 in
theorem im_pack {u w : Mem} {b : Nat} {z9 n : Int} {i1 i2 : Int} (hB : BI w (n + 1000)) (hR : Rel w b) (hM : moB u b n) (hn : 0 ≤ n ∧ n ≤ 511000) (hr : ∀ c : Int, 0 ≤ c → c < 3 → mrB u b c (100000 + n) ∧ msB u b c 100000000) [Decidable (∀ j : Int, 0 ≤ j → j < u (b + 2) i2 → -1 ≤ u (b + 3) (100000 + (100 * i2 + j)) ∧ u (b + 3) (100000 + (100 * i2 + j)) ≤ 39)] (hm : (if ¬ ((0 ≤ i1 ∧ i1 < 3) ∧ (0 ≤ i2 ∧ i2 < 4)) then (z9 = -1 ∧ w = sput u b 0 1) else (if u (b + 2) i2 = -1 then (z9 = -1 ∧ w = sput u b 0 2) else (if ¬ (∀ j : Int, 0 ≤ j → j < u (b + 2) i2 → -1 ≤ u (b + 3) (100000 + (100 * i2 + j)) ∧ u (b + 3) (100000 + (100 * i2 + j)) ≤ 39) then (z9 = -1 ∧ w = sput u b 0 1) else (if 10000 < u (b + 6) i1 + u (b + 5) i1 + u (b + 2) i2 then (z9 = -1 ∧ w = sput u b 0 4) else (z9 = u (b + 2) i2 ∧ w = sput (itrR (fun k τ => mpS b i1 (u (b + 3) (100000 + (100 * i2 + k))) τ) 0 (u (b + 2) i2) u) b 0 0)))))) : moB w b (n + 1000) := by
  by_cases c1 : ¬ ((0 ≤ i1 ∧ i1 < 3) ∧ (0 ≤ i2 ∧ i2 < 4))
  · rw [if_pos c1] at hm
    obtain ⟨-, hw⟩ := hm
    rw [hw]
    exact moB_up (by omega) (by rw [sput_r (by omega)]) (by rw [sput_r (by omega)]) (by rw [sput_r (by omega)]) (by rw [sput_r (by omega)]) hM
  · rw [if_neg c1] at hm
    by_cases c2 : u (b + 2) i2 = -1
    · rw [if_pos c2] at hm
      obtain ⟨-, hw⟩ := hm
      rw [hw]
      exact moB_up (by omega) (by rw [sput_r (by omega)]) (by rw [sput_r (by omega)]) (by rw [sput_r (by omega)]) (by rw [sput_r (by omega)]) hM
    · rw [if_neg c2] at hm
      by_cases c3 : ¬ (∀ j : Int, 0 ≤ j → j < u (b + 2) i2 → -1 ≤ u (b + 3) (100000 + (100 * i2 + j)) ∧ u (b + 3) (100000 + (100 * i2 + j)) ≤ 39)
      · rw [if_pos c3] at hm
        obtain ⟨-, hw⟩ := hm
        rw [hw]
        exact moB_up (by omega) (by rw [sput_r (by omega)]) (by rw [sput_r (by omega)]) (by rw [sput_r (by omega)]) (by rw [sput_r (by omega)]) hM
      · rw [if_neg c3] at hm
        by_cases c4 : 10000 < u (b + 6) i1 + u (b + 5) i1 + u (b + 2) i2
        · rw [if_pos c4] at hm
          obtain ⟨-, hw⟩ := hm
          rw [hw]
          exact moB_up (by omega) (by rw [sput_r (by omega)]) (by rw [sput_r (by omega)]) (by rw [sput_r (by omega)]) (by rw [sput_r (by omega)]) hM
        · rw [if_neg c4] at hm
          obtain ⟨-, hw⟩ := hm
          obtain ⟨r1, r2⟩ := hr i1 (by omega) (by omega)
          have t9 := (hM.1 i2 (by omega) (by omega)).2
          obtain ⟨m, hmn⟩ : ∃ m : Nat, u (b + 2) i2 = m := ⟨(u (b + 2) i2).toNat, by omega⟩
          have hall : (∀ j : Int, 0 ≤ j → j < u (b + 2) i2 → -1 ≤ u (b + 3) (100000 + (100 * i2 + j)) ∧ u (b + 3) (100000 + (100 * i2 + j)) ≤ 39) := Classical.byContradiction fun y => c3 y
          rw [hmn] at hw
          obtain ⟨g1, -, g3⟩ := mp_B (row := fun k => u (b + 3) (100000 + (100 * i2 + k))) (N := u (b + 2) i2) hall r1 r2 m (by omega)
          exact moB_rows hM (mrB_le (by omega) g1) g3 (fun a q => by rw [hw, sput_r q])
set_option maxHeartbeats 1000000 in
theorem im_together {u w : Mem} {b : Nat} {z9 n : Int} {i1 i2 : Int} (hB : BI w (n + 1000)) (hR : Rel w b) (hM : moB u b n) (hn : 0 ≤ n ∧ n ≤ 511000)  (hm : (if ¬ ((0 ≤ i1 ∧ i1 < 3) ∧ (0 ≤ i2 ∧ i2 < 3) ∧ i1 ≠ i2) then (z9 = -1 ∧ w = sput u b 0 1) else (if (u (b + 11) i1) = 0 ∨ (u (b + 11) i2) = 0 then (z9 = -1 ∧ w = sput u b 0 5) else (if 100000 < (hvS (shR (u (b + 14)) (40 * i1)) (shR (u (b + 13)) (40 * i1)) 0 39 + (smR (shR (u (b + 16)) (40 * i1)) 0 (u (b + 11) i1) + smR (shR (u (b + 17)) (40 * i1)) 0 (u (b + 11) i1))) + (hvS (shR (u (b + 14)) (40 * i2)) (shR (u (b + 13)) (40 * i2)) 0 39 + (smR (shR (u (b + 16)) (40 * i2)) 0 (u (b + 11) i2) + smR (shR (u (b + 17)) (40 * i2)) 0 (u (b + 11) i2))) then (z9 = -1 ∧ w = sput u b 0 4) else (z9 = w (b + 11) i1 ∧ moV w b i1 = (tkV (shR (u (b + 14)) (40 * i1)) (shR (u (b + 14)) (40 * i2)) (shR (u (b + 13)) (40 * i2)) (moV u b i1) (moV u b i2)) ∧ (∀ j : Int, 0 ≤ j → j < 40 → w (b + 13) (40 * i1 + j) = if (shR (u (b + 14)) (40 * i1)) j ≠ 0 ∧ (shR (u (b + 14)) (40 * i2)) j ≠ 0 then u (b + 13) (40 * i1 + j) + (shR (u (b + 13)) (40 * i2)) j else u (b + 13) (40 * i1 + j)) ∧ w (b + 12) i1 = 0 ∧ w b 0 = 0 ∧ (∀ a : Nat, a ≠ b → a ≠ b + 11 → a ≠ b + 12 → a ≠ b + 13 → a ≠ b + 15 → a ≠ b + 16 → a ≠ b + 17 → a ≠ b + 21 → a ≠ b + 22 → a ≠ b + 23 → w a = u a) ∧ (∀ j : Int, j ≠ 0 → j ≠ 23 → j ≠ 24 → j ≠ 25 → j ≠ 26 → w b j = u b j) ∧ (∀ j : Int, j ≠ i1 → w (b + 11) j = u (b + 11) j ∧ w (b + 12) j = u (b + 12) j) ∧ ∀ j : Int, j < 40 * i1 ∨ 40 * i1 + 40 ≤ j → w (b + 13) j = u (b + 13) j ∧ w (b + 15) j = u (b + 15) j ∧ w (b + 16) j = u (b + 16) j ∧ w (b + 17) j = u (b + 17) j))))) : moB w b (n + 1000) := by
  by_cases c1 : ¬ ((0 ≤ i1 ∧ i1 < 3) ∧ (0 ≤ i2 ∧ i2 < 3) ∧ i1 ≠ i2)
  · rw [if_pos c1] at hm
    obtain ⟨-, hw⟩ := hm
    rw [hw]
    exact moB_up (by omega) (by rw [sput_r (by omega)]) (by rw [sput_r (by omega)]) (by rw [sput_r (by omega)]) (by rw [sput_r (by omega)]) hM
  · rw [if_neg c1] at hm
    by_cases c2 : (u (b + 11) i1) = 0 ∨ (u (b + 11) i2) = 0
    · rw [if_pos c2] at hm
      obtain ⟨-, hw⟩ := hm
      rw [hw]
      exact moB_up (by omega) (by rw [sput_r (by omega)]) (by rw [sput_r (by omega)]) (by rw [sput_r (by omega)]) (by rw [sput_r (by omega)]) hM
    · rw [if_neg c2] at hm
      by_cases c3 : 100000 < (hvS (shR (u (b + 14)) (40 * i1)) (shR (u (b + 13)) (40 * i1)) 0 39 + (smR (shR (u (b + 16)) (40 * i1)) 0 (u (b + 11) i1) + smR (shR (u (b + 17)) (40 * i1)) 0 (u (b + 11) i1))) + (hvS (shR (u (b + 14)) (40 * i2)) (shR (u (b + 13)) (40 * i2)) 0 39 + (smR (shR (u (b + 16)) (40 * i2)) 0 (u (b + 11) i2) + smR (shR (u (b + 17)) (40 * i2)) 0 (u (b + 11) i2)))
      · rw [if_pos c3] at hm
        obtain ⟨-, hw⟩ := hm
        rw [hw]
        exact moB_up (by omega) (by rw [sput_r (by omega)]) (by rw [sput_r (by omega)]) (by rw [sput_r (by omega)]) (by rw [sput_r (by omega)]) hM
      · rw [if_neg c3] at hm
        obtain ⟨-, -, h13, h12, -, hf, -, hj, hg⟩ := hm
        have hi : 0 ≤ i1 ∧ i1 < 3 := by omega
        refine moB_hv hB hR hM hi (hf _ (by omega) (by omega) (by omega) (by omega) (by omega) (by omega) (by omega) (by omega) (by omega) (by omega)) (hf _ (by omega) (by omega) (by omega) (by omega) (by omega) (by omega) (by omega) (by omega) (by omega) (by omega)) (fun c q => (hj c q).2) h12 (fun c c0 c1 q j j0 j1 => (hg (40 * c + j) (by omega)).1) (fun j j0 j1 q => ?_) hn.1
        rw [hf (b + 14) (by omega) (by omega) (by omega) (by omega) (by omega) (by omega) (by omega) (by omega) (by omega) (by omega)] at q
        rw [h13 j j0 j1, if_neg (fun y => y.1 q)]
set_option maxHeartbeats 1000000 in
theorem im_make {u w : Mem} {b : Nat} {z9 n : Int} {i1 b1 n1 d1 : Int} (hB : BI w (n + 1000)) (hR : Rel w b) (hM : moB u b n) (hn : 0 ≤ n ∧ n ≤ 511000)  (hm : (if ¬ ((0 ≤ i1 ∧ i1 < 3) ∧ (1 ≤ b1 ∧ b1 ≤ 12) ∧ (1 ≤ d1 ∧ d1 ≤ 1000) ∧ (0 ≤ n1 ∧ n1 ≤ d1)) then z9 = -1 ∧ w = sput u b 0 1 else z9 = dpL (fun j : Int => if (chV (shR (u (b + 4)) (40 * i1)) (u (b + 6) i1) n1 d1 8 (fun _ => 0, fun _ => 0)).1 j = 0 then (shR (u (b + 4)) (40 * i1)) j else -1) b1.toNat 0 ∧ (∀ j : Int, 0 ≤ j → j < 40 → w (b + 14) (40 * i1 + j) = (chV (shR (u (b + 4)) (40 * i1)) (u (b + 6) i1) n1 d1 8 (fun _ => 0, fun _ => 0)).1 j ∧ ((chV (shR (u (b + 4)) (40 * i1)) (u (b + 6) i1) n1 d1 8 (fun _ => 0, fun _ => 0)).1 j ≠ 0 → w (b + 13) (40 * i1 + j) = (chV (shR (u (b + 4)) (40 * i1)) (u (b + 6) i1) n1 d1 8 (fun _ => 0, fun _ => 0)).2 j) ∧ ((chV (shR (u (b + 4)) (40 * i1)) (u (b + 6) i1) n1 d1 8 (fun _ => 0, fun _ => 0)).1 j = 0 → w (b + 13) (40 * i1 + j) = u (b + 13) (40 * i1 + j))) ∧ (∀ j : Int, 0 ≤ j → j < b1 → w (b + 15) (40 * i1 + j) = plB (fun j : Int => if (chV (shR (u (b + 4)) (40 * i1)) (u (b + 6) i1) n1 d1 8 (fun _ => 0, fun _ => 0)).1 j = 0 then (shR (u (b + 4)) (40 * i1)) j else -1) z9 b1.toNat (j.toNat + 1) - 1 ∧ w (b + 16) (40 * i1 + j) = smR (fun w => if (chV (shR (u (b + 4)) (40 * i1)) (u (b + 6) i1) n1 d1 8 (fun _ => 0, fun _ => 0)).1 w = 0 then (shR (u (b + 4)) (40 * i1)) w else 0) (plB (fun j : Int => if (chV (shR (u (b + 4)) (40 * i1)) (u (b + 6) i1) n1 d1 8 (fun _ => 0, fun _ => 0)).1 j = 0 then (shR (u (b + 4)) (40 * i1)) j else -1) z9 b1.toNat j.toNat) (plB (fun j : Int => if (chV (shR (u (b + 4)) (40 * i1)) (u (b + 6) i1) n1 d1 8 (fun _ => 0, fun _ => 0)).1 j = 0 then (shR (u (b + 4)) (40 * i1)) j else -1) z9 b1.toNat (j.toNat + 1)) ∧ w (b + 17) (40 * i1 + j) = 0) ∧ w (b + 11) i1 = b1 ∧ w (b + 12) i1 = 0 ∧ w b 0 = 0 ∧ (∀ a : Nat, a ≠ b → a ≠ b + 11 → a ≠ b + 12 → a ≠ b + 13 → a ≠ b + 14 → a ≠ b + 15 → a ≠ b + 16 → a ≠ b + 17 → a ≠ b + 18 → a ≠ b + 19 → a ≠ b + 20 → w a = u a) ∧ (∀ j : Int, j ≠ 0 → w b j = u b j) ∧ (∀ j : Int, j ≠ i1 → w (b + 11) j = u (b + 11) j ∧ w (b + 12) j = u (b + 12) j) ∧ ∀ j : Int, j < 40 * i1 ∨ 40 * i1 + 40 ≤ j → w (b + 13) j = u (b + 13) j ∧ w (b + 14) j = u (b + 14) j ∧ w (b + 15) j = u (b + 15) j ∧ w (b + 16) j = u (b + 16) j ∧ w (b + 17) j = u (b + 17) j)) : moB w b (n + 1000) := by
  by_cases c1 : ¬ ((0 ≤ i1 ∧ i1 < 3) ∧ (1 ≤ b1 ∧ b1 ≤ 12) ∧ (1 ≤ d1 ∧ d1 ≤ 1000) ∧ (0 ≤ n1 ∧ n1 ≤ d1))
  · rw [if_pos c1] at hm
    obtain ⟨-, hw⟩ := hm
    rw [hw]
    exact moB_up (by omega) (by rw [sput_r (by omega)]) (by rw [sput_r (by omega)]) (by rw [sput_r (by omega)]) (by rw [sput_r (by omega)]) hM
  · rw [if_neg c1] at hm
    obtain ⟨-, h1, -, h11, h12, -, hf, -, hj, hg⟩ := hm
    have hi : 0 ≤ i1 ∧ i1 < 3 := by omega
    exact moB_hv hB hR hM hi (hf _ (by omega) (by omega) (by omega) (by omega) (by omega) (by omega) (by omega) (by omega) (by omega) (by omega) (by omega)) (hf _ (by omega) (by omega) (by omega) (by omega) (by omega) (by omega) (by omega) (by omega) (by omega) (by omega) (by omega)) (fun c q => (hj c q).2) h12 (fun c c0 c1 q j j0 j1 => (hg (40 * c + j) (by omega)).1) (fun j j0 j1 q => (h1 j j0 j1).2.2 (by rw [← (h1 j j0 j1).1]; exact q)) hn.1
