/-! ===== every call of the class keeps what holds of it, and no call touches a cell from 52 on ===== -/
def okB (σ u : Mem) (n : Int) : Prop := BI u (n + 1000) ∧ ∀ a : Nat, 52 ≤ a → u a = σ a
theorem BI.same {σ u : Mem} {n : Int} (h : BI σ n) (h1 : ∀ a : Nat, 3 ≤ a → a ≤ 40 → u a = σ a) (h2 : ∀ a : Nat, 52 ≤ a → u a = σ a) : okB σ u n := ⟨BI_mono (by omega) (BI_congr h1 h), h2⟩
theorem BI.st {σ : Mem} {n k : Int} (h : BI σ n) : okB σ (sput σ 0 5 k) n := h.same (fun a _ _ => sput_r (by omega)) (fun a _ => sput_r (by omega))
theorem BI.id {σ : Mem} {n : Int} (h : BI σ n) : okB σ σ n := h.same (fun _ _ _ => rfl) (fun _ _ => rfl)
/-- trays alone changed -/
theorem BI.tr {σ u : Mem} {n : Int} (h : BI σ n) (ht : trW u) (h1 : ∀ a : Nat, 11 ≤ a → u a = σ a) : okB σ u n := ⟨⟨ht, fun i i0 i1 => coB_mono (by omega) (coB_congr (fun a q1 q2 => h1 a (by omega)) (h.2 i i0 i1))⟩, fun a q => h1 a (by omega)⟩
theorem trW_rows {σ u : Mem} (h : trW σ) (h1 : ∀ i : Int, 0 ≤ i → i < 4 → u (3 + 2 * i.toNat) = σ (3 + 2 * i.toNat)) : trW u := by
  intro i i0 i1
  rw [h1 i i0 i1]
  exact h i i0 i1
/-- one column changed, by a sketch alone -/
theorem BI.col {σ u : Mem} {n i : Int} (h : BI σ n) (hi : 0 ≤ i ∧ i < 3) (h1 : ∀ a : Nat, 3 ≤ a → (a < 11 + 10 * i.toNat ∨ 11 + 10 * i.toNat + 9 < a) → (a ≤ 40 ∨ 52 ≤ a) → u a = σ a) (hc : coB u (11 + 10 * i.toNat) (n + 1000)) : okB σ u n := ⟨BI_col hi (by omega) (fun a q1 q2 => h1 a (by omega) (by omega) (by omega)) (fun a q1 q2 q3 => h1 a (by omega) (by omega) (by omega)) hc h, fun a q => h1 a (by omega) (by omega) (by omega)⟩
theorem BI.sk {σ τ : Mem} {n i : Int} {S : SV} (h : BI σ n) (hi : 0 ≤ i ∧ i < 3) (hF : skFr σ τ (11 + 10 * i.toNat + 2)) (hV : skV τ (11 + 10 * i.toNat + 2) = S) (h12 : 1 ≤ S.1 ∧ S.1 ≤ 12) (hz : σ (11 + 10 * i.toNat + 2) 5 ≠ 0) (hI : skI (σ (11 + 10 * i.toNat + 2 + 4)) (σ (11 + 10 * i.toNat + 2 + 5)) (σ (11 + 10 * i.toNat + 1)) S (σ (11 + 10 * i.toNat) 3) n) : okB σ (sput τ 0 5 0) n := by
  have e : ∀ a : Nat, a ≠ 0 → a ≠ 11 + 10 * i.toNat + 2 → a ≠ 11 + 10 * i.toNat + 2 + 1 → a ≠ 11 + 10 * i.toNat + 2 + 2 → a ≠ 11 + 10 * i.toNat + 2 + 3 → sput τ 0 5 0 a = σ a := fun a q0 q1 q2 q3 q4 => by
    rw [sput_r q0]
    funext j
    exact hF a j q2 q3 q4 (Or.inl q1)
  refine h.col hi (fun a q1 q2 q3 => e a (by omega) (by omega) (by omega) (by omega) (by omega)) ?_
  obtain ⟨hr, ⟨a1, a2, a3, a4⟩, hs⟩ := h.2 i hi.1 hi.2
  have e2 : ∀ j : Int, j ≠ 5 → sput τ 0 5 0 (11 + 10 * i.toNat + 2) j = σ (11 + 10 * i.toNat + 2) j := fun j q => by rw [sput_r (by omega)]; exact hF _ j (by omega) (by omega) (by omega) (Or.inr q)
  have ev : skV (sput τ 0 5 0) (11 + 10 * i.toNat + 2) = S := by
    rw [← hV]
    exact skV_congr (by rw [sput_r (by omega)]) (sput_r (by omega)) (sput_r (by omega)) (sput_r (by omega))
  have e5 : sput τ 0 5 0 (11 + 10 * i.toNat + 2) 5 = S.1 := by rw [← ev]; rfl
  refine ⟨rwB_congr (e _ (by omega) (by omega) (by omega) (by omega) (by omega)) (e _ (by omega) (by omega) (by omega) (by omega) (by omega)) hr, ⟨by omega, by rw [e2 6 (by decide)]; omega, fun j j0 j1 => ?_, fun _ => ?_⟩, smW_row (e _ (by omega) (by omega) (by omega) (by omega) (by omega)) (smW_less (by omega) hs)⟩
  · rw [e (11 + 10 * i.toNat + 2 + 4) (by omega) (by omega) (by omega) (by omega) (by omega), e (11 + 10 * i.toNat + 2 + 5) (by omega) (by omega) (by omega) (by omega) (by omega)]
    have := a3 j j0 j1
    exact ⟨this.1, this.2.1, by omega⟩
  · rw [e (11 + 10 * i.toNat + 2 + 4) (by omega) (by omega) (by omega) (by omega) (by omega), e (11 + 10 * i.toNat + 2 + 5) (by omega) (by omega) (by omega) (by omega) (by omega), e (11 + 10 * i.toNat + 1) (by omega) (by omega) (by omega) (by omega) (by omega), e (11 + 10 * i.toNat) (by omega) (by omega) (by omega) (by omega) (by omega), ev]
    exact ⟨skI_mono hI (by omega), (a4 hz).2⟩
set_option maxHeartbeats 1000000 in
theorem ic_status {σ u : Mem} {z n : Int}  (hB : BI σ n) (hn : 0 ≤ n ∧ n ≤ 511000)  (hc : z = σ 0 5 ∧ u = σ) : okB σ u n := by
  obtain ⟨-, hu⟩ := hc
  rw [hu]
  exact hB.id
set_option maxHeartbeats 1000000 in
theorem ic_top {σ u : Mem} {z n : Int}  (hB : BI σ n) (hn : 0 ≤ n ∧ n ≤ 511000)  (hc : z = σ 51 100000 ∧ u = σ) : okB σ u n := by
  obtain ⟨-, hu⟩ := hc
  rw [hu]
  exact hB.id
set_option maxHeartbeats 1000000 in
theorem ic_bottom {σ u : Mem} {z n : Int}  (hB : BI σ n) (hn : 0 ≤ n ∧ n ≤ 511000)  (hc : z = σ 51 100001 ∧ u = σ) : okB σ u n := by
  obtain ⟨-, hu⟩ := hc
  rw [hu]
  exact hB.id
set_option maxHeartbeats 1000000 in
theorem ic_truly {σ u : Mem} {z n : Int} {i1 x1 : Int} (hB : BI σ n) (hn : 0 ≤ n ∧ n ≤ 511000)  (hc : (if ¬ ((0 ≤ i1 ∧ i1 < 3) ∧ (-1 ≤ x1 ∧ x1 ≤ 39)) then (z = -1 ∧ u = sput σ 0 5 1) else (z = (if 0 ≤ x1 ∧ x1 ≤ 39 then σ ((11 + 10 * i1.toNat) + 1) x1 else σ (11 + 10 * i1.toNat) 4) ∧ u = sput σ 0 5 0))) : okB σ u n := by
  by_cases c1 : ¬ ((0 ≤ i1 ∧ i1 < 3) ∧ (-1 ≤ x1 ∧ x1 ≤ 39))
  · rw [if_pos c1] at hc
    obtain ⟨-, hu⟩ := hc
    rw [hu]
    exact hB.st
  · rw [if_neg c1] at hc
    obtain ⟨-, hu⟩ := hc
    rw [hu]
    exact hB.st
set_option maxHeartbeats 1000000 in
theorem ic_rows {σ u : Mem} {z n : Int} {i1 w1 : Int} (hB : BI σ n) (hn : 0 ≤ n ∧ n ≤ 511000)  (hc : (if ¬ (0 ≤ i1 ∧ i1 < 3) then (z = -1 ∧ u = sput σ 0 5 1) else (if w1 = 0 then (z = σ (11 + 10 * i1.toNat) 3 ∧ u = sput σ 0 5 0) else (if w1 = 1 then (z = σ (11 + 10 * i1.toNat) 3 + σ (11 + 10 * i1.toNat) 4 ∧ u = sput σ 0 5 0) else (if w1 = 2 then (z = smR (fun v => if 0 < σ ((11 + 10 * i1.toNat) + 1) v then 1 else 0) 0 40 ∧ u = sput σ 0 5 0) else (z = -1 ∧ u = sput σ 0 5 1)))))) : okB σ u n := by
  by_cases c1 : ¬ (0 ≤ i1 ∧ i1 < 3)
  · rw [if_pos c1] at hc
    obtain ⟨-, hu⟩ := hc
    rw [hu]
    exact hB.st
  · rw [if_neg c1] at hc
    by_cases c2 : w1 = 0
    · rw [if_pos c2] at hc
      obtain ⟨-, hu⟩ := hc
      rw [hu]
      exact hB.st
    · rw [if_neg c2] at hc
      by_cases c3 : w1 = 1
      · rw [if_pos c3] at hc
        obtain ⟨-, hu⟩ := hc
        rw [hu]
        exact hB.st
      · rw [if_neg c3] at hc
        by_cases c4 : w1 = 2
        · rw [if_pos c4] at hc
          obtain ⟨-, hu⟩ := hc
          rw [hu]
          exact hB.st
        · rw [if_neg c4] at hc
          obtain ⟨-, hu⟩ := hc
          rw [hu]
          exact hB.st
set_option maxHeartbeats 1000000 in
theorem ic_read {σ u : Mem} {z n : Int} {i1 p1 : Int} (hB : BI σ n) (hn : 0 ≤ n ∧ n ≤ 511000)  (hc : (if ¬ (0 ≤ i1 ∧ i1 < 4) then (z = -1 ∧ u = sput σ 0 5 1) else (if σ (3 + 2 * i1.toNat) 1 = 0 then (z = -1 ∧ u = sput σ 0 5 2) else (if ¬ (0 ≤ p1 ∧ p1 ≤ σ (3 + 2 * i1.toNat) 3 - 1) then (z = -1 ∧ u = sput σ 0 5 3) else (z = σ ((3 + 2 * i1.toNat) + 1) (100000 + p1) ∧ u = sput σ 0 5 0))))) : okB σ u n := by
  by_cases c1 : ¬ (0 ≤ i1 ∧ i1 < 4)
  · rw [if_pos c1] at hc
    obtain ⟨-, hu⟩ := hc
    rw [hu]
    exact hB.st
  · rw [if_neg c1] at hc
    by_cases c2 : σ (3 + 2 * i1.toNat) 1 = 0
    · rw [if_pos c2] at hc
      obtain ⟨-, hu⟩ := hc
      rw [hu]
      exact hB.st
    · rw [if_neg c2] at hc
      by_cases c3 : ¬ (0 ≤ p1 ∧ p1 ≤ σ (3 + 2 * i1.toNat) 3 - 1)
      · rw [if_pos c3] at hc
        obtain ⟨-, hu⟩ := hc
        rw [hu]
        exact hB.st
      · rw [if_neg c3] at hc
        obtain ⟨-, hu⟩ := hc
        rw [hu]
        exact hB.st
set_option maxHeartbeats 1000000 in
theorem ic_sketch {σ u : Mem} {z n : Int} {i1 w1 : Int} (hB : BI σ n) (hn : 0 ≤ n ∧ n ≤ 511000)  (hc : (if ¬ ((0 ≤ i1 ∧ i1 < 3) ∧ (0 ≤ w1 ∧ w1 ≤ 3)) then (z = -1 ∧ u = sput σ 0 5 1) else (if ¬ 0 < σ (11 + 10 * i1.toNat + 2) 5 then (z = -1 ∧ u = sput σ 0 5 5) else (if w1 = 0 then (z = σ (11 + 10 * i1.toNat + 2) 5 ∧ u = sput σ 0 5 0) else (if w1 = 1 then (z = 40 - ltC (σ ((11 + 10 * i1.toNat + 2) + 4)) 0 39 ∧ u = sput σ 0 5 0) else (if w1 = 2 then (z = smR (σ ((11 + 10 * i1.toNat + 2) + 3)) 0 (σ (11 + 10 * i1.toNat + 2) 5) ∧ u = sput σ 0 5 0) else (z = smR (σ ((11 + 10 * i1.toNat + 2) + 2)) 0 (σ (11 + 10 * i1.toNat + 2) 5) ∧ u = sput σ 0 5 0))))))) : okB σ u n := by
  by_cases c1 : ¬ ((0 ≤ i1 ∧ i1 < 3) ∧ (0 ≤ w1 ∧ w1 ≤ 3))
  · rw [if_pos c1] at hc
    obtain ⟨-, hu⟩ := hc
    rw [hu]
    exact hB.st
  · rw [if_neg c1] at hc
    by_cases c2 : ¬ 0 < σ (11 + 10 * i1.toNat + 2) 5
    · rw [if_pos c2] at hc
      obtain ⟨-, hu⟩ := hc
      rw [hu]
      exact hB.st
    · rw [if_neg c2] at hc
      by_cases c3 : w1 = 0
      · rw [if_pos c3] at hc
        obtain ⟨-, hu⟩ := hc
        rw [hu]
        exact hB.st
      · rw [if_neg c3] at hc
        by_cases c4 : w1 = 1
        · rw [if_pos c4] at hc
          obtain ⟨-, hu⟩ := hc
          rw [hu]
          exact hB.st
        · rw [if_neg c4] at hc
          by_cases c5 : w1 = 2
          · rw [if_pos c5] at hc
            obtain ⟨-, hu⟩ := hc
            rw [hu]
            exact hB.st
          · rw [if_neg c5] at hc
            obtain ⟨-, hu⟩ := hc
            rw [hu]
            exact hB.st
set_option maxHeartbeats 1000000 in
theorem ic_span {σ u : Mem} {z n : Int} {i1 k1 w1 : Int} (hB : BI σ n) (hn : 0 ≤ n ∧ n ≤ 511000)  (hc : (if ¬ (0 ≤ i1 ∧ i1 < 3) then (z = -1 ∧ u = sput σ 0 5 1) else (if ¬ 0 < σ (11 + 10 * i1.toNat + 2) 5 then (z = -1 ∧ u = sput σ 0 5 5) else (if ¬ (0 ≤ k1 ∧ k1 ≤ σ (11 + 10 * i1.toNat + 2) 5 - 1) then (z = -1 ∧ u = sput σ 0 5 1) else (if w1 = 0 then (z = foF (σ ((11 + 10 * i1.toNat + 2) + 1)) k1 ∧ u = sput σ 0 5 0) else (if w1 = 1 then (z = σ ((11 + 10 * i1.toNat + 2) + 1) k1 ∧ u = sput σ 0 5 0) else (if w1 = 2 then (z = σ ((11 + 10 * i1.toNat + 2) + 2) k1 ∧ u = sput σ 0 5 0) else (if w1 = 3 then (z = σ ((11 + 10 * i1.toNat + 2) + 3) k1 ∧ u = sput σ 0 5 0) else (if w1 = 4 then (z = loN (σ ((11 + 10 * i1.toNat + 2) + 4)) (σ ((11 + 10 * i1.toNat + 2) + 1)) k1 ∧ u = sput σ 0 5 0) else (z = -1 ∧ u = sput σ 0 5 1)))))))))) : okB σ u n := by
  by_cases c1 : ¬ (0 ≤ i1 ∧ i1 < 3)
  · rw [if_pos c1] at hc
    obtain ⟨-, hu⟩ := hc
    rw [hu]
    exact hB.st
  · rw [if_neg c1] at hc
    by_cases c2 : ¬ 0 < σ (11 + 10 * i1.toNat + 2) 5
    · rw [if_pos c2] at hc
      obtain ⟨-, hu⟩ := hc
      rw [hu]
      exact hB.st
    · rw [if_neg c2] at hc
      by_cases c3 : ¬ (0 ≤ k1 ∧ k1 ≤ σ (11 + 10 * i1.toNat + 2) 5 - 1)
      · rw [if_pos c3] at hc
        obtain ⟨-, hu⟩ := hc
        rw [hu]
        exact hB.st
      · rw [if_neg c3] at hc
        by_cases c4 : w1 = 0
        · rw [if_pos c4] at hc
          obtain ⟨-, hu⟩ := hc
          rw [hu]
          exact hB.st
        · rw [if_neg c4] at hc
          by_cases c5 : w1 = 1
          · rw [if_pos c5] at hc
            obtain ⟨-, hu⟩ := hc
            rw [hu]
            exact hB.st
          · rw [if_neg c5] at hc
            by_cases c6 : w1 = 2
            · rw [if_pos c6] at hc
              obtain ⟨-, hu⟩ := hc
              rw [hu]
              exact hB.st
            · rw [if_neg c6] at hc
              by_cases c7 : w1 = 3
              · rw [if_pos c7] at hc
                obtain ⟨-, hu⟩ := hc
                rw [hu]
                exact hB.st
              · rw [if_neg c7] at hc
                by_cases c8 : w1 = 4
                · rw [if_pos c8] at hc
                  obtain ⟨-, hu⟩ := hc
                  rw [hu]
                  exact hB.st
                · rw [if_neg c8] at hc
                  obtain ⟨-, hu⟩ := hc
                  rw [hu]
                  exact hB.st
set_option maxHeartbeats 1000000 in
theorem ic_heavy {σ u : Mem} {z n : Int} {i1 x1 : Int} (hB : BI σ n) (hn : 0 ≤ n ∧ n ≤ 511000)  (hc : (if ¬ ((0 ≤ i1 ∧ i1 < 3) ∧ (0 ≤ x1 ∧ x1 ≤ 39)) then (z = -1 ∧ u = sput σ 0 5 1) else (if ¬ 0 < σ (11 + 10 * i1.toNat + 2) 5 then (z = -1 ∧ u = sput σ 0 5 5) else (if σ ((11 + 10 * i1.toNat + 2) + 4) x1 = 0 then (z = -1 ∧ u = sput σ 0 5 6) else (z = σ ((11 + 10 * i1.toNat + 2) + 5) x1 ∧ u = sput σ 0 5 0))))) : okB σ u n := by
  by_cases c1 : ¬ ((0 ≤ i1 ∧ i1 < 3) ∧ (0 ≤ x1 ∧ x1 ≤ 39))
  · rw [if_pos c1] at hc
    obtain ⟨-, hu⟩ := hc
    rw [hu]
    exact hB.st
  · rw [if_neg c1] at hc
    by_cases c2 : ¬ 0 < σ (11 + 10 * i1.toNat + 2) 5
    · rw [if_pos c2] at hc
      obtain ⟨-, hu⟩ := hc
      rw [hu]
      exact hB.st
    · rw [if_neg c2] at hc
      by_cases c3 : σ ((11 + 10 * i1.toNat + 2) + 4) x1 = 0
      · rw [if_pos c3] at hc
        obtain ⟨-, hu⟩ := hc
        rw [hu]
        exact hB.st
      · rw [if_neg c3] at hc
        obtain ⟨-, hu⟩ := hc
        rw [hu]
        exact hB.st
set_option maxHeartbeats 1000000 in
theorem ic_drifts {σ u : Mem} {z n : Int} {i1 : Int} (hB : BI σ n) (hn : 0 ≤ n ∧ n ≤ 511000)  (hc : (if ¬ (0 ≤ i1 ∧ i1 < 3) then (z = -1 ∧ u = sput σ 0 5 1) else (if ¬ 0 < σ (11 + 10 * i1.toNat + 2) 5 then (z = -1 ∧ u = sput σ 0 5 5) else (z = σ (11 + 10 * i1.toNat + 2) 6 ∧ u = sput σ 0 5 0)))) : okB σ u n := by
  by_cases c1 : ¬ (0 ≤ i1 ∧ i1 < 3)
  · rw [if_pos c1] at hc
    obtain ⟨-, hu⟩ := hc
    rw [hu]
    exact hB.st
  · rw [if_neg c1] at hc
    by_cases c2 : ¬ 0 < σ (11 + 10 * i1.toNat + 2) 5
    · rw [if_pos c2] at hc
      obtain ⟨-, hu⟩ := hc
      rw [hu]
      exact hB.st
    · rw [if_neg c2] at hc
      obtain ⟨-, hu⟩ := hc
      rw [hu]
      exact hB.st
set_option maxHeartbeats 1000000 in
theorem ic_bound {σ u : Mem} {z n : Int} {i1 a1 a2 w1 : Int} (hB : BI σ n) (hn : 0 ≤ n ∧ n ≤ 511000)  (hc : (if ¬ ((0 ≤ i1 ∧ i1 < 3) ∧ (0 ≤ a1 ∧ a1 ≤ a2 ∧ a2 ≤ 39)) then (z = -1 ∧ u = sput σ 0 5 1) else (if ¬ 0 < σ (11 + 10 * i1.toNat + 2) 5 then (z = -1 ∧ u = sput σ 0 5 5) else (if w1 = 0 then (z = loV σ (11 + 10 * i1.toNat + 2) a1 a2 ∧ u = sput σ 0 5 0) else (z = hiV σ (11 + 10 * i1.toNat + 2) a1 a2 ∧ u = sput σ 0 5 0))))) : okB σ u n := by
  by_cases c1 : ¬ ((0 ≤ i1 ∧ i1 < 3) ∧ (0 ≤ a1 ∧ a1 ≤ a2 ∧ a2 ≤ 39))
  · rw [if_pos c1] at hc
    obtain ⟨-, hu⟩ := hc
    rw [hu]
    exact hB.st
  · rw [if_neg c1] at hc
    by_cases c2 : ¬ 0 < σ (11 + 10 * i1.toNat + 2) 5
    · rw [if_pos c2] at hc
      obtain ⟨-, hu⟩ := hc
      rw [hu]
      exact hB.st
    · rw [if_neg c2] at hc
      by_cases c3 : w1 = 0
      · rw [if_pos c3] at hc
        obtain ⟨-, hu⟩ := hc
        rw [hu]
        exact hB.st
      · rw [if_neg c3] at hc
        obtain ⟨-, hu⟩ := hc
        rw [hu]
        exact hB.st
set_option maxHeartbeats 1000000 in
theorem ic_drawn {σ u : Mem} {z n : Int} {i1 k1 : Int} (hB : BI σ n) (hn : 0 ≤ n ∧ n ≤ 511000)  (hc : (if ¬ ((0 ≤ i1 ∧ i1 < 3) ∧ (0 ≤ k1 ∧ k1 ≤ 15)) then (z = -1 ∧ u = sput σ 0 5 1) else (if min (σ (11 + 10 * i1.toNat + 8) 3) (σ (11 + 10 * i1.toNat + 8) 1) ≤ k1 then (z = -1 ∧ u = sput σ 0 5 6) else (z = (if σ ((11 + 10 * i1.toNat + 8) + 1) k1 = -1 then -2 else σ ((11 + 10 * i1.toNat + 8) + 1) k1) ∧ u = sput σ 0 5 0)))) : okB σ u n := by
  by_cases c1 : ¬ ((0 ≤ i1 ∧ i1 < 3) ∧ (0 ≤ k1 ∧ k1 ≤ 15))
  · rw [if_pos c1] at hc
    obtain ⟨-, hu⟩ := hc
    rw [hu]
    exact hB.st
  · rw [if_neg c1] at hc
    by_cases c2 : min (σ (11 + 10 * i1.toNat + 8) 3) (σ (11 + 10 * i1.toNat + 8) 1) ≤ k1
    · rw [if_pos c2] at hc
      obtain ⟨-, hu⟩ := hc
      rw [hu]
      exact hB.st
    · rw [if_neg c2] at hc
      obtain ⟨-, hu⟩ := hc
      rw [hu]
      exact hB.st
set_option maxHeartbeats 1000000 in
theorem ic_harm {σ u : Mem} {z n : Int} {i1 a1 a2 i2 b1 b2 : Int} (hB : BI σ n) (hn : 0 ≤ n ∧ n ≤ 511000)  (hc : (if ¬ ((0 ≤ i1 ∧ i1 < 3) ∧ (0 ≤ i2 ∧ i2 < 3) ∧ (0 ≤ a1 ∧ a1 ≤ a2 ∧ a2 ≤ 39) ∧ (0 ≤ b1 ∧ b1 ≤ b2 ∧ b2 ≤ 39)) then (z = -1 ∧ u = sput σ 0 5 1) else (if ¬ (0 < σ (11 + 10 * i1.toNat + 2) 5 ∧ 0 < σ (11 + 10 * i2.toNat + 2) 5) then (z = -1 ∧ u = sput σ 0 5 5) else (z = sgI (frN (hiV σ (11 + 10 * i1.toNat + 2) a1 a2) (max 1 (loV σ (11 + 10 * i2.toNat + 2) b1 b2))) ∧ u = sput (sput (sput σ 51 100000 (frN (hiV σ (11 + 10 * i1.toNat + 2) a1 a2) (max 1 (loV σ (11 + 10 * i2.toNat + 2) b1 b2)))) 51 100001 (frD (hiV σ (11 + 10 * i1.toNat + 2) a1 a2) (max 1 (loV σ (11 + 10 * i2.toNat + 2) b1 b2)))) 0 5 0)))) : okB σ u n := by
  by_cases c1 : ¬ ((0 ≤ i1 ∧ i1 < 3) ∧ (0 ≤ i2 ∧ i2 < 3) ∧ (0 ≤ a1 ∧ a1 ≤ a2 ∧ a2 ≤ 39) ∧ (0 ≤ b1 ∧ b1 ≤ b2 ∧ b2 ≤ 39))
  · rw [if_pos c1] at hc
    obtain ⟨-, hu⟩ := hc
    rw [hu]
    exact hB.st
  · rw [if_neg c1] at hc
    by_cases c2 : ¬ (0 < σ (11 + 10 * i1.toNat + 2) 5 ∧ 0 < σ (11 + 10 * i2.toNat + 2) 5)
    · rw [if_pos c2] at hc
      obtain ⟨-, hu⟩ := hc
      rw [hu]
      exact hB.st
    · rw [if_neg c2] at hc
      obtain ⟨-, hu⟩ := hc
      rw [hu]
      exact hB.same (fun a q1 q2 => by rw [sput_r (by omega), sput_r (by omega), sput_r (by omega)]) (fun a q => by rw [sput_r (by omega), sput_r (by omega), sput_r (by omega)])
set_option maxHeartbeats 1000000 in
theorem ic_guess {σ u : Mem} {z n : Int} {i1 a1 a2 : Int} (hB : BI σ n) (hn : 0 ≤ n ∧ n ≤ 511000)  (hc : (if ¬ ((0 ≤ i1 ∧ i1 < 3) ∧ (0 ≤ a1 ∧ a1 ≤ a2 ∧ a2 ≤ 39)) then (z = -1 ∧ u = sput σ 0 5 1) else (if ¬ 0 < σ (11 + 10 * i1.toNat + 2) 5 then (z = -1 ∧ u = sput σ 0 5 5) else (z = sgI (guV σ (11 + 10 * i1.toNat + 2) a1 a2).1 ∧ ∃ τ : Mem, (∀ a : Nat, a ≠ 51 → τ a = σ a) ∧ τ 51 100000 = (guV σ (11 + 10 * i1.toNat + 2) a1 a2).1 ∧ τ 51 100001 = (guV σ (11 + 10 * i1.toNat + 2) a1 a2).2 ∧ u = sput τ 0 5 0)))) : okB σ u n := by
  by_cases c1 : ¬ ((0 ≤ i1 ∧ i1 < 3) ∧ (0 ≤ a1 ∧ a1 ≤ a2 ∧ a2 ≤ 39))
  · rw [if_pos c1] at hc
    obtain ⟨-, hu⟩ := hc
    rw [hu]
    exact hB.st
  · rw [if_neg c1] at hc
    by_cases c2 : ¬ 0 < σ (11 + 10 * i1.toNat + 2) 5
    · rw [if_pos c2] at hc
      obtain ⟨-, hu⟩ := hc
      rw [hu]
      exact hB.st
    · rw [if_neg c2] at hc
      obtain ⟨-, τ, hτ, -, -, hu⟩ := hc
      rw [hu]
      exact hB.same (fun a q1 q2 => by rw [sput_r (by omega), hτ a (by omega)]) (fun a q => by rw [sput_r (by omega), hτ a (by omega)])
set_option maxHeartbeats 1000000 in
theorem ic_join {σ u : Mem} {z n : Int} {i1 i2 : Int} (hB : BI σ n) (hn : 0 ≤ n ∧ n ≤ 511000)  (hc : (if ¬ ((0 ≤ i1 ∧ i1 < 3) ∧ (0 ≤ i2 ∧ i2 < 3)) then (z = -1 ∧ u = sput σ 0 5 1) else (if ¬ (0 < σ (11 + 10 * i1.toNat + 2) 5 ∧ 0 < σ (11 + 10 * i2.toNat + 2) 5) then (z = -1 ∧ u = sput σ 0 5 5) else (z = sgI (joV σ (11 + 10 * i1.toNat + 2) (11 + 10 * i2.toNat + 2)).1 ∧ ∃ τ : Mem, (∀ a : Nat, a ≠ 51 → τ a = σ a) ∧ τ 51 100000 = (joV σ (11 + 10 * i1.toNat + 2) (11 + 10 * i2.toNat + 2)).1 ∧ τ 51 100001 = (joV σ (11 + 10 * i1.toNat + 2) (11 + 10 * i2.toNat + 2)).2 ∧ u = sput τ 0 5 0)))) : okB σ u n := by
  by_cases c1 : ¬ ((0 ≤ i1 ∧ i1 < 3) ∧ (0 ≤ i2 ∧ i2 < 3))
  · rw [if_pos c1] at hc
    obtain ⟨-, hu⟩ := hc
    rw [hu]
    exact hB.st
  · rw [if_neg c1] at hc
    by_cases c2 : ¬ (0 < σ (11 + 10 * i1.toNat + 2) 5 ∧ 0 < σ (11 + 10 * i2.toNat + 2) 5)
    · rw [if_pos c2] at hc
      obtain ⟨-, hu⟩ := hc
      rw [hu]
      exact hB.st
    · rw [if_neg c2] at hc
      obtain ⟨-, τ, hτ, -, -, hu⟩ := hc
      rw [hu]
      exact hB.same (fun a q1 q2 => by rw [sput_r (by omega), hτ a (by omega)]) (fun a q => by rw [sput_r (by omega), hτ a (by omega)])
set_option maxHeartbeats 1000000 in
theorem ic_away {σ u : Mem} {z n : Int} {i1 : Int} (hB : BI σ n) (hn : 0 ≤ n ∧ n ≤ 511000)  (hc : (if ¬ (0 ≤ i1 ∧ i1 < 3) then (z = 0 ∧ u = sput σ 0 5 1) else (if ¬ 0 < σ (11 + 10 * i1.toNat + 2) 5 then (z = 0 ∧ u = sput σ 0 5 5) else (z = 1 ∧ u = sput (sput σ (11 + 10 * i1.toNat + 2) 5 0) 0 5 0)))) : okB σ u n := by
  by_cases c1 : ¬ (0 ≤ i1 ∧ i1 < 3)
  · rw [if_pos c1] at hc
    obtain ⟨-, hu⟩ := hc
    rw [hu]
    exact hB.st
  · rw [if_neg c1] at hc
    by_cases c2 : ¬ 0 < σ (11 + 10 * i1.toNat + 2) 5
    · rw [if_pos c2] at hc
      obtain ⟨-, hu⟩ := hc
      rw [hu]
      exact hB.st
    · rw [if_neg c2] at hc
      obtain ⟨-, hu⟩ := hc
      have hi : 0 ≤ i1 ∧ i1 < 3 := by omega
      have e : ∀ a : Nat, a ≠ 0 → a ≠ 11 + 10 * i1.toNat + 2 → u a = σ a := fun a q1 q2 => by rw [hu, sput_r q1, sput_r q2]
      refine hB.col hi (fun a q1 q2 q3 => e a (by omega) (by omega)) ?_
      obtain ⟨hr, ⟨a1, a2, a3, a4⟩, hs⟩ := hB.2 i1 hi.1 hi.2
      have e5 : u (11 + 10 * i1.toNat + 2) 5 = 0 := by rw [hu, sput_r (by omega), sput_s]
      have e6 : u (11 + 10 * i1.toNat + 2) 6 = σ (11 + 10 * i1.toNat + 2) 6 := by rw [hu, sput_r (by omega), sput_j _ _ _ _ _ (by decide)]
      refine ⟨rwB_congr (e _ (by omega) (by omega)) (e _ (by omega) (by omega)) hr, ⟨by omega, by omega, fun j j0 j1 => ?_, fun y => absurd e5 y⟩, smW_row (e _ (by omega) (by omega)) (smW_less (by omega) hs)⟩
      rw [e (11 + 10 * i1.toNat + 2 + 4) (by omega) (by omega), e (11 + 10 * i1.toNat + 2 + 5) (by omega) (by omega)]
      have := a3 j j0 j1
      exact ⟨this.1, this.2.1, by omega⟩
set_option maxHeartbeats 1000000 in
theorem ic_sample {σ u : Mem} {z n : Int} {i1 k1 s1 : Int} (hB : BI σ n) (hn : 0 ≤ n ∧ n ≤ 511000) (h3 : rg s1) (hc : (if ¬ ((0 ≤ i1 ∧ i1 < 3) ∧ (1 ≤ k1 ∧ k1 ≤ 16) ∧ 0 ≤ s1) then (z = 0 ∧ u = sput σ 0 5 1) else (z = 1 ∧ u = sput (sput (sput (sput σ (11 + 10 * i1.toNat + 8) 1 k1) (11 + 10 * i1.toNat + 8) 2 s1) (11 + 10 * i1.toNat + 8) 3 0) 0 5 0))) : okB σ u n := by
  by_cases c1 : ¬ ((0 ≤ i1 ∧ i1 < 3) ∧ (1 ≤ k1 ∧ k1 ≤ 16) ∧ 0 ≤ s1)
  · rw [if_pos c1] at hc
    obtain ⟨-, hu⟩ := hc
    rw [hu]
    exact hB.st
  · rw [if_neg c1] at hc
    obtain ⟨-, hu⟩ := hc
    have hi : 0 ≤ i1 ∧ i1 < 3 := by omega
    have e : ∀ a : Nat, a ≠ 0 → a ≠ 11 + 10 * i1.toNat + 8 → u a = σ a := fun a q1 q2 => by rw [hu, sput_r q1, sput_r q2, sput_r q2, sput_r q2]
    refine hB.col hi (fun a q1 q2 q3 => e a (by omega) (by omega)) ?_
    obtain ⟨hr, hk, hs⟩ := hB.2 i1 hi.1 hi.2
    have e1 : u (11 + 10 * i1.toNat + 8) 1 = k1 := by rw [hu, sput_r (by omega), sput_j _ _ _ _ _ (by decide), sput_j _ _ _ _ _ (by decide), sput_s]
    have e2 : u (11 + 10 * i1.toNat + 8) 2 = s1 := by rw [hu, sput_r (by omega), sput_j _ _ _ _ _ (by decide), sput_s]
    have e3 : u (11 + 10 * i1.toNat + 8) 3 = 0 := by rw [hu, sput_r (by omega), sput_s]
    refine ⟨rwB_congr (e _ (by omega) (by omega)) (e _ (by omega) (by omega)) hr, sbB_congr (by rw [e (11 + 10 * i1.toNat) (by omega) (by omega)]) (e _ (by omega) (by omega)) (fun a q1 q2 => e a (by omega) (by omega)) (sbB_mono (by omega) hk), ?_⟩
    unfold smW
    unfold rg at h3
    omega
set_option maxHeartbeats 1000000 in
theorem ic_tray {σ u : Mem} {z n : Int} {i1 s1 m1 : Int} (hB : BI σ n) (hn : 0 ≤ n ∧ n ≤ 511000)  (hc : (if (0 ≤ i1 ∧ i1 < 4) ∧ (0 ≤ s1 ∧ s1 ≤ 3) ∧ (0 ≤ m1 ∧ m1 ≤ 100) then (z = 1 ∧ (∀ j : Int, 0 ≤ j → j < 100 → u ((3 + 2 * i1.toNat) + 1) (100000 + j) = 0) ∧ (∀ a : Nat, a ≠ (3 + 2 * i1.toNat) + 1 → u a = sput (sput (sput (sput σ (3 + 2 * i1.toNat) 1 1) (3 + 2 * i1.toNat) 2 s1) (3 + 2 * i1.toNat) 3 m1) 0 5 0 a)) else (z = 0 ∧ u = sput σ 0 5 1))) : okB σ u n := by
  by_cases c1 : (0 ≤ i1 ∧ i1 < 4) ∧ (0 ≤ s1 ∧ s1 ≤ 3) ∧ (0 ≤ m1 ∧ m1 ≤ 100)
  · rw [if_pos c1] at hc
    obtain ⟨-, -, hF⟩ := hc
    have hi : 0 ≤ i1 ∧ i1 < 4 := by omega
    refine hB.tr (fun i i0 i9 => ?_) (fun a q => by rw [hF a (by omega), sput_r (by omega), sput_r (by omega), sput_r (by omega), sput_r (by omega)])
    rw [hF (3 + 2 * i.toNat) (by omega), sput_r (by omega)]
    by_cases y : i = i1
    · rw [y]
      have e1 : sput (sput (sput σ (3 + 2 * i1.toNat) 1 1) (3 + 2 * i1.toNat) 2 s1) (3 + 2 * i1.toNat) 3 m1 (3 + 2 * i1.toNat) 1 = 1 := by rw [sput_j _ _ _ _ _ (by decide), sput_j _ _ _ _ _ (by decide), sput_s]
      have e2 : sput (sput (sput σ (3 + 2 * i1.toNat) 1 1) (3 + 2 * i1.toNat) 2 s1) (3 + 2 * i1.toNat) 3 m1 (3 + 2 * i1.toNat) 2 = s1 := by rw [sput_j _ _ _ _ _ (by decide), sput_s]
      have e3 : sput (sput (sput σ (3 + 2 * i1.toNat) 1 1) (3 + 2 * i1.toNat) 2 s1) (3 + 2 * i1.toNat) 3 m1 (3 + 2 * i1.toNat) 3 = m1 := by rw [sput_s]
      rw [e1, e2, e3]
      omega
    · rw [sput_r (by omega), sput_r (by omega), sput_r (by omega)]; exact hB.1 i i0 i9
  · rw [if_neg c1] at hc
    obtain ⟨-, hu⟩ := hc
    rw [hu]
    exact hB.st
set_option maxHeartbeats 1000000 in
theorem ic_write {σ u : Mem} {z n : Int} {i1 p1 x1 : Int} (hB : BI σ n) (hn : 0 ≤ n ∧ n ≤ 511000)  (hc : (if ¬ (0 ≤ i1 ∧ i1 < 4) then (z = 0 ∧ u = sput σ 0 5 1) else (if σ (3 + 2 * i1.toNat) 1 = 0 then (z = 0 ∧ u = sput σ 0 5 2) else (if ¬ (0 ≤ p1 ∧ p1 ≤ σ (3 + 2 * i1.toNat) 3 - 1) then (z = 0 ∧ u = sput σ 0 5 3) else (z = 1 ∧ u = sput (sput σ ((3 + 2 * i1.toNat) + 1) (100000 + p1) (fitI (σ (3 + 2 * i1.toNat) 2) x1)) 0 5 0))))) : okB σ u n := by
  by_cases c1 : ¬ (0 ≤ i1 ∧ i1 < 4)
  · rw [if_pos c1] at hc
    obtain ⟨-, hu⟩ := hc
    rw [hu]
    exact hB.st
  · rw [if_neg c1] at hc
    by_cases c2 : σ (3 + 2 * i1.toNat) 1 = 0
    · rw [if_pos c2] at hc
      obtain ⟨-, hu⟩ := hc
      rw [hu]
      exact hB.st
    · rw [if_neg c2] at hc
      by_cases c3 : ¬ (0 ≤ p1 ∧ p1 ≤ σ (3 + 2 * i1.toNat) 3 - 1)
      · rw [if_pos c3] at hc
        obtain ⟨-, hu⟩ := hc
        rw [hu]
        exact hB.st
      · rw [if_neg c3] at hc
        obtain ⟨-, hu⟩ := hc
        rw [hu]
        exact hB.tr (trW_rows hB.1 fun i i0 i9 => by rw [sput_r (by omega), sput_r (by omega)]) (fun a q => by rw [sput_r (by omega), sput_r (by omega)])
set_option maxHeartbeats 1000000 in
theorem ic_pour {σ u : Mem} {z n : Int} {i1 p1 i2 p2 m1 : Int} (hB : BI σ n) (hn : 0 ≤ n ∧ n ≤ 511000)  (hc : (if ¬ ((0 ≤ i1 ∧ i1 < 4) ∧ (0 ≤ i2 ∧ i2 < 4) ∧ 0 ≤ p1 ∧ 0 ≤ p2 ∧ 0 ≤ m1) then (z = 0 ∧ u = sput σ 0 5 1) else (if σ (3 + 2 * i1.toNat) 1 = 0 ∨ σ (3 + 2 * i2.toNat) 1 = 0 then (z = 0 ∧ u = sput σ 0 5 2) else (if σ (3 + 2 * i1.toNat) 2 ≠ σ (3 + 2 * i2.toNat) 2 then (z = 0 ∧ u = sput σ 0 5 7) else (if ¬ (p1 ≤ σ (3 + 2 * i1.toNat) 3 - m1 ∧ p2 ≤ σ (3 + 2 * i2.toNat) 3 - m1) then (z = 0 ∧ u = sput σ 0 5 3) else (z = 1 ∧ u = sput (mset σ ((3 + 2 * i2.toNat) + 1) (mcpy (σ ((3 + 2 * i1.toNat) + 1)) (σ ((3 + 2 * i2.toNat) + 1)) (100000 + p1) (100000 + p2) m1)) 0 5 0)))))) : okB σ u n := by
  by_cases c1 : ¬ ((0 ≤ i1 ∧ i1 < 4) ∧ (0 ≤ i2 ∧ i2 < 4) ∧ 0 ≤ p1 ∧ 0 ≤ p2 ∧ 0 ≤ m1)
  · rw [if_pos c1] at hc
    obtain ⟨-, hu⟩ := hc
    rw [hu]
    exact hB.st
  · rw [if_neg c1] at hc
    by_cases c2 : σ (3 + 2 * i1.toNat) 1 = 0 ∨ σ (3 + 2 * i2.toNat) 1 = 0
    · rw [if_pos c2] at hc
      obtain ⟨-, hu⟩ := hc
      rw [hu]
      exact hB.st
    · rw [if_neg c2] at hc
      by_cases c3 : σ (3 + 2 * i1.toNat) 2 ≠ σ (3 + 2 * i2.toNat) 2
      · rw [if_pos c3] at hc
        obtain ⟨-, hu⟩ := hc
        rw [hu]
        exact hB.st
      · rw [if_neg c3] at hc
        by_cases c4 : ¬ (p1 ≤ σ (3 + 2 * i1.toNat) 3 - m1 ∧ p2 ≤ σ (3 + 2 * i2.toNat) 3 - m1)
        · rw [if_pos c4] at hc
          obtain ⟨-, hu⟩ := hc
          rw [hu]
          exact hB.st
        · rw [if_neg c4] at hc
          obtain ⟨-, hu⟩ := hc
          rw [hu]
          exact hB.tr (trW_rows hB.1 fun i i0 i9 => by rw [sput_r (by omega), mset_n _ _ _ _ (by omega)]) (fun a q => by rw [sput_r (by omega), mset_n _ _ _ _ (by omega)])
set_option maxHeartbeats 1000000 in
theorem ic_split {σ u : Mem} {z n : Int} {i1 x1 : Int} (hB : BI σ n) (hn : 0 ≤ n ∧ n ≤ 511000)  (hc : (if ¬ ((0 ≤ i1 ∧ i1 < 3) ∧ (0 ≤ x1 ∧ x1 ≤ 39)) then (z = -1 ∧ u = sput σ 0 5 1) else (if ¬ 0 < σ (11 + 10 * i1.toNat + 2) 5 then (z = -1 ∧ u = sput σ 0 5 5) else (if σ ((11 + 10 * i1.toNat + 2) + 1) (spOf (σ ((11 + 10 * i1.toNat + 2) + 1)) (σ (11 + 10 * i1.toNat + 2) 5) x1) = x1 ∨ 12 ≤ σ (11 + 10 * i1.toNat + 2) 5 then (z = -1 ∧ u = sput σ 0 5 6) else (z = spOf (σ ((11 + 10 * i1.toNat + 2) + 1)) (σ (11 + 10 * i1.toNat + 2) 5) x1 ∧ ∃ τ : Mem, skFr σ τ (11 + 10 * i1.toNat + 2) ∧ skV τ (11 + 10 * i1.toNat + 2) = cutV (σ ((11 + 10 * i1.toNat + 2) + 4)) (skV σ (11 + 10 * i1.toNat + 2)) (spOf (σ ((11 + 10 * i1.toNat + 2) + 1)) (σ (11 + 10 * i1.toNat + 2) 5) x1) x1 ∧ u = sput τ 0 5 0))))) : okB σ u n := by
  by_cases c1 : ¬ ((0 ≤ i1 ∧ i1 < 3) ∧ (0 ≤ x1 ∧ x1 ≤ 39))
  · rw [if_pos c1] at hc
    obtain ⟨-, hu⟩ := hc
    rw [hu]
    exact hB.st
  · rw [if_neg c1] at hc
    by_cases c2 : ¬ 0 < σ (11 + 10 * i1.toNat + 2) 5
    · rw [if_pos c2] at hc
      obtain ⟨-, hu⟩ := hc
      rw [hu]
      exact hB.st
    · rw [if_neg c2] at hc
      by_cases c3 : σ ((11 + 10 * i1.toNat + 2) + 1) (spOf (σ ((11 + 10 * i1.toNat + 2) + 1)) (σ (11 + 10 * i1.toNat + 2) 5) x1) = x1 ∨ 12 ≤ σ (11 + 10 * i1.toNat + 2) 5
      · rw [if_pos c3] at hc
        obtain ⟨-, hu⟩ := hc
        rw [hu]
        exact hB.st
      · rw [if_neg c3] at hc
        obtain ⟨-, τ, hF, hV, hu⟩ := hc
        rw [hu]
        have hi : 0 ≤ i1 ∧ i1 < 3 := by omega
        obtain ⟨hr, ⟨a1, a2, a3, a4⟩, hs⟩ := hB.2 i1 hi.1 hi.2
        obtain ⟨g, g0⟩ := a4 (by omega)
        have ht : ∀ j : Int, 0 ≤ j → j < 40 → 0 ≤ σ (11 + 10 * i1.toNat + 1) j := hr.1
        have hva : 0 ≤ σ (11 + 10 * i1.toNat) 3 ∧ σ (11 + 10 * i1.toNat) 3 ≤ 10000 := by have := hr.le.2; have := hr.2.2; omega
        have hs1 : (skV σ (11 + 10 * i1.toNat + 2)).1 = σ (11 + 10 * i1.toNat + 2) 5 := rfl
        have esp : spOf (σ (11 + 10 * i1.toNat + 2 + 1)) (σ (11 + 10 * i1.toNat + 2) 5) x1 = spOf (skV σ (11 + 10 * i1.toNat + 2)).2.1 (skV σ (11 + 10 * i1.toNat + 2)).1 x1 := spOf_mk.symm
        obtain ⟨k0, k1, k2, k3⟩ := spOf_in g.1 (v := x1) (by omega)
        have fk := spOf_foF g.1 (v := x1) (by omega) (by omega)
        rw [esp] at hV c3
        have ek := (sk_rows (σ := σ) (p := 11 + 10 * i1.toNat + 2) k0 k1).1
        rw [← ek] at c3
        refine hB.sk hi hF hV (by show 1 ≤ (skV σ (11 + 10 * i1.toNat + 2)).1 + 1 ∧ (skV σ (11 + 10 * i1.toNat + 2)).1 + 1 ≤ 12; omega) (by omega) (skI_cut ht hva (by omega) (by omega) k0 k1 ⟨fk, by omega⟩ g)
set_option maxHeartbeats 1000000 in
theorem ic_melt {σ u : Mem} {z n : Int} {i1 k1 : Int} (hB : BI σ n) (hn : 0 ≤ n ∧ n ≤ 511000)  (hc : (if ¬ (0 ≤ i1 ∧ i1 < 3) then (z = 0 ∧ u = sput σ 0 5 1) else (if ¬ 0 < σ (11 + 10 * i1.toNat + 2) 5 then (z = 0 ∧ u = sput σ 0 5 5) else (if ¬ (0 ≤ k1 ∧ k1 ≤ σ (11 + 10 * i1.toNat + 2) 5 - 2) then (z = 0 ∧ u = sput σ 0 5 6) else (z = 1 ∧ ∃ τ : Mem, skFr σ τ (11 + 10 * i1.toNat + 2) ∧ skV τ (11 + 10 * i1.toNat + 2) = fuseV (skV σ (11 + 10 * i1.toNat + 2)) k1 ∧ u = sput τ 0 5 0))))) : okB σ u n := by
  by_cases c1 : ¬ (0 ≤ i1 ∧ i1 < 3)
  · rw [if_pos c1] at hc
    obtain ⟨-, hu⟩ := hc
    rw [hu]
    exact hB.st
  · rw [if_neg c1] at hc
    by_cases c2 : ¬ 0 < σ (11 + 10 * i1.toNat + 2) 5
    · rw [if_pos c2] at hc
      obtain ⟨-, hu⟩ := hc
      rw [hu]
      exact hB.st
    · rw [if_neg c2] at hc
      by_cases c3 : ¬ (0 ≤ k1 ∧ k1 ≤ σ (11 + 10 * i1.toNat + 2) 5 - 2)
      · rw [if_pos c3] at hc
        obtain ⟨-, hu⟩ := hc
        rw [hu]
        exact hB.st
      · rw [if_neg c3] at hc
        obtain ⟨-, τ, hF, hV, hu⟩ := hc
        rw [hu]
        have hi : 0 ≤ i1 ∧ i1 < 3 := by omega
        obtain ⟨hr, ⟨a1, a2, a3, a4⟩, hs⟩ := hB.2 i1 hi.1 hi.2
        obtain ⟨g, g0⟩ := a4 (by omega)
        have ht : ∀ j : Int, 0 ≤ j → j < 40 → 0 ≤ σ (11 + 10 * i1.toNat + 1) j := hr.1
        have hva : 0 ≤ σ (11 + 10 * i1.toNat) 3 ∧ σ (11 + 10 * i1.toNat) 3 ≤ 10000 := by have := hr.le.2; have := hr.2.2; omega
        have hs1 : (skV σ (11 + 10 * i1.toNat + 2)).1 = σ (11 + 10 * i1.toNat + 2) 5 := rfl
        exact hB.sk hi hF hV (by show 1 ≤ (skV σ (11 + 10 * i1.toNat + 2)).1 - 1 ∧ (skV σ (11 + 10 * i1.toNat + 2)).1 - 1 ≤ 12; omega) (by omega) (skI_fuse ht hva (by omega) (by omega) (by omega) g)
set_option maxHeartbeats 1000000 in
theorem ic_keep {σ u : Mem} {z n : Int} {i1 : Int} (hB : BI σ n) (hn : 0 ≤ n ∧ n ≤ 511000)  (hc : (if ¬ (0 ≤ i1 ∧ i1 < 3) then (z = -1 ∧ u = sput σ 0 5 1) else (if ¬ 0 < σ (11 + 10 * i1.toNat + 2) 5 then (z = -1 ∧ u = sput σ 0 5 5) else (z = (if (keepV (σ ((11 + 10 * i1.toNat + 2) + 4)) (skV σ (11 + 10 * i1.toNat + 2))).2 = 0 then 0 else 1) ∧ ∃ τ : Mem, skFr σ τ (11 + 10 * i1.toNat + 2) ∧ skV τ (11 + 10 * i1.toNat + 2) = (keepV (σ ((11 + 10 * i1.toNat + 2) + 4)) (skV σ (11 + 10 * i1.toNat + 2))).1 ∧ u = sput τ 0 5 0)))) : okB σ u n := by
  by_cases c1 : ¬ (0 ≤ i1 ∧ i1 < 3)
  · rw [if_pos c1] at hc
    obtain ⟨-, hu⟩ := hc
    rw [hu]
    exact hB.st
  · rw [if_neg c1] at hc
    by_cases c2 : ¬ 0 < σ (11 + 10 * i1.toNat + 2) 5
    · rw [if_pos c2] at hc
      obtain ⟨-, hu⟩ := hc
      rw [hu]
      exact hB.st
    · rw [if_neg c2] at hc
      obtain ⟨-, τ, hF, hV, hu⟩ := hc
      rw [hu]
      have hi : 0 ≤ i1 ∧ i1 < 3 := by omega
      obtain ⟨hr, ⟨a1, a2, a3, a4⟩, hs⟩ := hB.2 i1 hi.1 hi.2
      obtain ⟨g, g0⟩ := a4 (by omega)
      have ht : ∀ j : Int, 0 ≤ j → j < 40 → 0 ≤ σ (11 + 10 * i1.toNat + 1) j := hr.1
      have hva : 0 ≤ σ (11 + 10 * i1.toNat) 3 ∧ σ (11 + 10 * i1.toNat) 3 ≤ 10000 := by have := hr.le.2; have := hr.2.2; omega
      have hs1 : (skV σ (11 + 10 * i1.toNat + 2)).1 = σ (11 + 10 * i1.toNat + 2) 5 := rfl
      have w := skI_keep ht hva (by omega) g
      exact hB.sk hi hF hV (by rw [w.2]; omega) (by omega) w.1
set_option maxHeartbeats 1000000 in
theorem ic_put {σ u : Mem} {z n : Int} {i1 x1 m1 : Int} (hB : BI σ n) (hn : 0 ≤ n ∧ n ≤ 511000)  (hc : (if ¬ ((0 ≤ i1 ∧ i1 < 3) ∧ (-1 ≤ x1 ∧ x1 ≤ 39) ∧ (1 ≤ m1 ∧ m1 ≤ 1000)) then (z = 0 ∧ u = sput σ 0 5 1) else (if 10000 < σ (11 + 10 * i1.toNat) 3 + σ (11 + 10 * i1.toNat) 4 + m1 then (z = 0 ∧ u = sput σ 0 5 4) else (z = 1 ∧ u = sput (enM σ (11 + 10 * i1.toNat) x1 m1) 0 5 0)))) : okB σ u n := by
  by_cases c1 : ¬ ((0 ≤ i1 ∧ i1 < 3) ∧ (-1 ≤ x1 ∧ x1 ≤ 39) ∧ (1 ≤ m1 ∧ m1 ≤ 1000))
  · rw [if_pos c1] at hc
    obtain ⟨-, hu⟩ := hc
    rw [hu]
    exact hB.st
  · rw [if_neg c1] at hc
    by_cases c2 : 10000 < σ (11 + 10 * i1.toNat) 3 + σ (11 + 10 * i1.toNat) 4 + m1
    · rw [if_pos c2] at hc
      obtain ⟨-, hu⟩ := hc
      rw [hu]
      exact hB.st
    · rw [if_neg c2] at hc
      obtain ⟨-, hu⟩ := hc
      rw [hu]
      have hi : 0 ≤ i1 ∧ i1 < 3 := by omega
      refine hB.col hi (fun a q1 q2 q3 => by rw [sput_r (by omega)]; exact enM_fr a q2) ?_
      exact coB_mono (by omega) (coB_congr (fun a q1 q2 => sput_r (by omega)) ((hB.2 i1 hi.1 hi.2).en (x := x1) (m := m1) (by omega) (by omega) (by omega)))
set_option maxHeartbeats 1000000 in
theorem ic_strike {σ u : Mem} {z n : Int} {i1 x1 m1 : Int} (hB : BI σ n) (hn : 0 ≤ n ∧ n ≤ 511000)  (hc : (if ¬ ((0 ≤ i1 ∧ i1 < 3) ∧ (-1 ≤ x1 ∧ x1 ≤ 39) ∧ (1 ≤ m1 ∧ m1 ≤ 1000)) then (z = 0 ∧ u = sput σ 0 5 1) else (if (if 0 ≤ x1 ∧ x1 ≤ 39 then σ ((11 + 10 * i1.toNat) + 1) x1 else σ (11 + 10 * i1.toNat) 4) < m1 then (z = 0 ∧ u = sput σ 0 5 4) else (z = 1 ∧ u = sput (chM σ (11 + 10 * i1.toNat) x1 (-m1)) 0 5 0)))) : okB σ u n := by
  by_cases c1 : ¬ ((0 ≤ i1 ∧ i1 < 3) ∧ (-1 ≤ x1 ∧ x1 ≤ 39) ∧ (1 ≤ m1 ∧ m1 ≤ 1000))
  · rw [if_pos c1] at hc
    obtain ⟨-, hu⟩ := hc
    rw [hu]
    exact hB.st
  · rw [if_neg c1] at hc
    by_cases c2 : (if 0 ≤ x1 ∧ x1 ≤ 39 then σ ((11 + 10 * i1.toNat) + 1) x1 else σ (11 + 10 * i1.toNat) 4) < m1
    · rw [if_pos c2] at hc
      obtain ⟨-, hu⟩ := hc
      rw [hu]
      exact hB.st
    · rw [if_neg c2] at hc
      obtain ⟨-, hu⟩ := hc
      rw [hu]
      have hi : 0 ≤ i1 ∧ i1 < 3 := by omega
      refine hB.col hi (fun a q1 q2 q3 => by rw [sput_r (by omega)]; exact chM_fr a (by omega) (by omega) (by omega) (by omega) (by omega)) ?_
      have hb9 := hB.2 i1 hi.1 hi.2
      have r4 := hb9.1.2.2
      exact coB_congr (fun a q1 q2 => sput_r (by omega)) (hb9.ch (x := x1) (m := -m1) (d := 1000) (by omega) (by omega) (fun q => by rw [if_neg (by omega)] at c2; omega) (fun q => by rw [if_pos (by omega)] at c2; omega) (by omega))
set_option maxHeartbeats 1000000 in
theorem ic_pack {σ u : Mem} {z n : Int} {i1 i2 : Int} (hB : BI σ n) (hn : 0 ≤ n ∧ n ≤ 511000) [Decidable (∀ j : Int, 0 ≤ j → j < σ (3 + 2 * i2.toNat) 3 → -1 ≤ σ ((3 + 2 * i2.toNat) + 1) (100000 + j) ∧ σ ((3 + 2 * i2.toNat) + 1) (100000 + j) ≤ 39)] (hc : (if ¬ ((0 ≤ i1 ∧ i1 < 3) ∧ (0 ≤ i2 ∧ i2 < 4)) then (z = -1 ∧ u = sput σ 0 5 1) else (if σ (3 + 2 * i2.toNat) 1 = 0 then (z = -1 ∧ u = sput σ 0 5 2) else (if ¬ (∀ j : Int, 0 ≤ j → j < σ (3 + 2 * i2.toNat) 3 → -1 ≤ σ ((3 + 2 * i2.toNat) + 1) (100000 + j) ∧ σ ((3 + 2 * i2.toNat) + 1) (100000 + j) ≤ 39) then (z = -1 ∧ u = sput σ 0 5 1) else (if 10000 < σ (11 + 10 * i1.toNat) 3 + σ (11 + 10 * i1.toNat) 4 + σ (3 + 2 * i2.toNat) 3 then (z = -1 ∧ u = sput σ 0 5 4) else (z = σ (3 + 2 * i2.toNat) 3 ∧ u = sput (itrR (pkF (11 + 10 * i1.toNat) (σ ((3 + 2 * i2.toNat) + 1))) 0 (σ (3 + 2 * i2.toNat) 3) σ) 0 5 0)))))) : okB σ u n := by
  by_cases c1 : ¬ ((0 ≤ i1 ∧ i1 < 3) ∧ (0 ≤ i2 ∧ i2 < 4))
  · rw [if_pos c1] at hc
    obtain ⟨-, hu⟩ := hc
    rw [hu]
    exact hB.st
  · rw [if_neg c1] at hc
    by_cases c2 : σ (3 + 2 * i2.toNat) 1 = 0
    · rw [if_pos c2] at hc
      obtain ⟨-, hu⟩ := hc
      rw [hu]
      exact hB.st
    · rw [if_neg c2] at hc
      by_cases c3 : ¬ (∀ j : Int, 0 ≤ j → j < σ (3 + 2 * i2.toNat) 3 → -1 ≤ σ ((3 + 2 * i2.toNat) + 1) (100000 + j) ∧ σ ((3 + 2 * i2.toNat) + 1) (100000 + j) ≤ 39)
      · rw [if_pos c3] at hc
        obtain ⟨-, hu⟩ := hc
        rw [hu]
        exact hB.st
      · rw [if_neg c3] at hc
        by_cases c4 : 10000 < σ (11 + 10 * i1.toNat) 3 + σ (11 + 10 * i1.toNat) 4 + σ (3 + 2 * i2.toNat) 3
        · rw [if_pos c4] at hc
          obtain ⟨-, hu⟩ := hc
          rw [hu]
          exact hB.st
        · rw [if_neg c4] at hc
          obtain ⟨-, hu⟩ := hc
          rw [hu]
          have hi : 0 ≤ i1 ∧ i1 < 3 := by omega
          have hj : 0 ≤ i2 ∧ i2 < 4 := by omega
          have tw := hB.1 i2 hj.1 hj.2
          obtain ⟨s, hs⟩ : ∃ s : Nat, σ (3 + 2 * i2.toNat) 3 = s := ⟨(σ (3 + 2 * i2.toNat) 3).toNat, by omega⟩
          have hall : (∀ j : Int, 0 ≤ j → j < σ (3 + 2 * i2.toNat) 3 → -1 ≤ σ ((3 + 2 * i2.toNat) + 1) (100000 + j) ∧ σ ((3 + 2 * i2.toNat) + 1) (100000 + j) ≤ 39) := Classical.byContradiction fun y => c3 y
          obtain ⟨k1, k2, k3⟩ := pk_B (row := σ ((3 + 2 * i2.toNat) + 1)) (s := σ (3 + 2 * i2.toNat) 3) (hB.2 i1 hi.1 hi.2) hall (by omega) s (by omega)
          rw [hs]
          refine hB.col hi (fun a q1 q2 q3 => by rw [sput_r (by omega)]; exact k3 a q2) ?_
          exact coB_mono (by omega) (coB_congr (fun a q1 q2 => sput_r (by omega)) k1)
