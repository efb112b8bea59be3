/-! ===== JOIN's invariant begins anew at make and TOGETHER ===== -/
set_option maxHeartbeats 1000000 in
theorem ij_together {σ u : Mem} {z n N : Int} {i1 i2 : Int} (hB : BI σ N) (hn : 0 ≤ N ∧ N ≤ 511000) (hJ : JI σ n)  (hc : (if (¬ ((0 ≤ i1 ∧ i1 < 3) ∧ (0 ≤ i2 ∧ i2 < 3) ∧ i1 ≠ i2)) then (z = -1 ∧ u = sput σ 0 5 1) else (if ¬ (0 < σ (11 + 10 * i1.toNat + 2) 5 ∧ 0 < σ (11 + 10 * i2.toNat + 2) 5) then (z = -1 ∧ u = sput σ 0 5 5) else (if 100000 < wtV σ (11 + 10 * i1.toNat + 2) + wtV σ (11 + 10 * i2.toNat + 2) then (z = -1 ∧ u = sput σ 0 5 4) else (∃ (τ : Mem) (ho hc : Int → Int), z = τ (11 + 10 * i1.toNat + 2) 5 ∧ (∀ j : Int, 0 ≤ j → j < 40 → ho j = σ ((11 + 10 * i2.toNat + 2) + 4) j ∧ hc j = σ ((11 + 10 * i2.toNat + 2) + 5) j) ∧ skV τ (11 + 10 * i1.toNat + 2) = tkV (σ ((11 + 10 * i1.toNat + 2) + 4)) ho hc (skV σ (11 + 10 * i1.toNat + 2)) (skV σ (11 + 10 * i2.toNat + 2)) ∧ τ (11 + 10 * i1.toNat + 2) 6 = 0 ∧ (∀ j : Int, 0 ≤ j → j < 40 → τ ((11 + 10 * i1.toNat + 2) + 5) j = (if σ ((11 + 10 * i1.toNat + 2) + 4) j ≠ 0 ∧ ho j ≠ 0 then σ ((11 + 10 * i1.toNat + 2) + 5) j + hc j else σ ((11 + 10 * i1.toNat + 2) + 5) j)) ∧ (∀ a : Nat, a ≠ (11 + 10 * i1.toNat + 2) → a ≠ (11 + 10 * i1.toNat + 2) + 1 → a ≠ (11 + 10 * i1.toNat + 2) + 2 → a ≠ (11 + 10 * i1.toNat + 2) + 3 → a ≠ (11 + 10 * i1.toNat + 2) + 5 → (a < 45 ∨ 50 < a) → τ a = σ a) ∧ u = sput τ 0 5 0))))) : JI u (n + 1000) := by
  by_cases c1 : (¬ ((0 ≤ i1 ∧ i1 < 3) ∧ (0 ≤ i2 ∧ i2 < 3) ∧ i1 ≠ i2))
  · rw [if_pos c1] at hc
    obtain ⟨-, hu⟩ := hc
    rw [hu]
    exact hJ.st
  · rw [if_neg c1] at hc
    by_cases c2 : ¬ (0 < σ (11 + 10 * i1.toNat + 2) 5 ∧ 0 < σ (11 + 10 * i2.toNat + 2) 5)
    · rw [if_pos c2] at hc
      obtain ⟨-, hu⟩ := hc
      rw [hu]
      exact hJ.st
    · rw [if_neg c2] at hc
      by_cases c3 : 100000 < wtV σ (11 + 10 * i1.toNat + 2) + wtV σ (11 + 10 * i2.toNat + 2)
      · rw [if_pos c3] at hc
        obtain ⟨-, hu⟩ := hc
        rw [hu]
        exact hJ.st
      · rw [if_neg c3] at hc
        obtain ⟨τ, ho, hco, -, hho, hV, h6, hhc, hF, hu⟩ := hc
        have hi : 0 ≤ i1 ∧ i1 < 3 := by omega
        have hj : 0 ≤ i2 ∧ i2 < 3 := by omega
        rw [hu]
        obtain ⟨hr, ⟨a1, a2, a3, a4⟩, hs⟩ := hB.2 i1 hi.1 hi.2
        obtain ⟨hr2, ⟨b1, b2, b3, b4⟩, -⟩ := hB.2 i2 hj.1 hj.2
        obtain ⟨g, g0⟩ := a4 (by omega)
        obtain ⟨g2, -⟩ := b4 (by omega)
        have ht : ∀ j : Int, 0 ≤ j → j < 40 → 0 ≤ σ (11 + 10 * i1.toNat + 1) j := hr.1
        have ht2 : ∀ j : Int, 0 ≤ j → j < 40 → 0 ≤ σ (11 + 10 * i2.toNat + 1) j := hr2.1
        have hva : 0 ≤ σ (11 + 10 * i1.toNat) 3 ∧ σ (11 + 10 * i1.toNat) 3 ≤ 10000 := by have := hr.le.2; have := hr.2.2; omega
        have hvb : 0 ≤ σ (11 + 10 * i2.toNat) 3 ∧ σ (11 + 10 * i2.toNat) 3 ≤ 10000 := by have := hr2.le.2; have := hr2.2.2; omega
        have g3 := skI_cg (h' := ho) (hc' := hco) (tr' := σ (11 + 10 * i2.toNat + 1)) (fun j j0 j1 => ⟨(hho j j0 j1).1, (hho j j0 j1).2, rfl⟩) g2
        have hs1 : (skV σ (11 + 10 * i1.toNat + 2)).1 = σ (11 + 10 * i1.toNat + 2) 5 := rfl
        have hs2 : (skV σ (11 + 10 * i2.toNat + 2)).1 = σ (11 + 10 * i2.toNat + 2) 5 := rfl
        have w1 : wtV σ (11 + 10 * i1.toNat + 2) = smR (skV σ (11 + 10 * i1.toNat + 2)).2.2.1 0 (skV σ (11 + 10 * i1.toNat + 2)).1 + smR (skV σ (11 + 10 * i1.toNat + 2)).2.2.2 0 (skV σ (11 + 10 * i1.toNat + 2)).1 + hvS (σ (11 + 10 * i1.toNat + 2 + 4)) (σ (11 + 10 * i1.toNat + 2 + 5)) 0 39 := by unfold wtV; rw [hs1, smR_congr (f := (skV σ (11 + 10 * i1.toNat + 2)).2.2.1) (g := σ (11 + 10 * i1.toNat + 2 + 2)) (fun j j0 j1 => (sk_rows j0 j1).2.1), smR_congr (f := (skV σ (11 + 10 * i1.toNat + 2)).2.2.2) (g := σ (11 + 10 * i1.toNat + 2 + 3)) (fun j j0 j1 => (sk_rows j0 j1).2.2)]
        have w2 : wtV σ (11 + 10 * i2.toNat + 2) = smR (skV σ (11 + 10 * i2.toNat + 2)).2.2.1 0 (skV σ (11 + 10 * i2.toNat + 2)).1 + smR (skV σ (11 + 10 * i2.toNat + 2)).2.2.2 0 (skV σ (11 + 10 * i2.toNat + 2)).1 + hvS ho hco 0 39 := by
          have eh : hvS ho hco 0 39 = hvS (σ (11 + 10 * i2.toNat + 2 + 4)) (σ (11 + 10 * i2.toNat + 2 + 5)) 0 39 := by unfold hvS; exact smR_congr fun v v0 v1 => by rw [(hho v (by omega) (by omega)).1, (hho v (by omega) (by omega)).2]
          rw [eh]; unfold wtV; rw [hs2, smR_congr (f := (skV σ (11 + 10 * i2.toNat + 2)).2.2.1) (g := σ (11 + 10 * i2.toNat + 2 + 2)) (fun j j0 j1 => (sk_rows j0 j1).2.1), smR_congr (f := (skV σ (11 + 10 * i2.toNat + 2)).2.2.2) (g := σ (11 + 10 * i2.toNat + 2 + 3)) (fun j j0 j1 => (sk_rows j0 j1).2.2)]
        obtain ⟨k1, k2, k3⟩ := skI_tog (hc' := τ (11 + 10 * i1.toNat + 2 + 5)) (n' := 0) ht ht2 hva hvb (by omega) (by omega) g g3 (by omega) (by omega) (by omega) hhc
        rw [← hV] at k1 k2 k3
        have hs3 : (skV τ (11 + 10 * i1.toNat + 2)).1 = τ (11 + 10 * i1.toNat + 2) 5 := rfl
        have e : ∀ a : Nat, a ≠ 0 → a ≠ 11 + 10 * i1.toNat + 2 → a ≠ 11 + 10 * i1.toNat + 2 + 1 → a ≠ 11 + 10 * i1.toNat + 2 + 2 → a ≠ 11 + 10 * i1.toNat + 2 + 3 → a ≠ 11 + 10 * i1.toNat + 2 + 5 → (a < 45 ∨ 50 < a) → sput τ 0 5 0 a = σ a := fun a q0 q1 q2 q3 q4 q5 q6 => by rw [sput_r q0]; exact hF a q1 q2 q3 q4 q5 q6
        have ev : skV (sput τ 0 5 0) (11 + 10 * i1.toNat + 2) = skV τ (11 + 10 * i1.toNat + 2) := skV_congr (by rw [sput_r (by omega)]) (sput_r (by omega)) (sput_r (by omega)) (sput_r (by omega))
        have e7 : sput τ 0 5 0 (11 + 10 * i1.toNat + 2 + 5) = τ (11 + 10 * i1.toNat + 2 + 5) := sput_r (by omega)
        have e6 : sput τ 0 5 0 (11 + 10 * i1.toNat + 2 + 4) = σ (11 + 10 * i1.toNat + 2 + 4) := e _ (by omega) (by omega) (by omega) (by omega) (by omega) (by omega) (by omega)
        have nn : ∀ j : Int, 0 ≤ j → j < 40 → 0 ≤ τ (11 + 10 * i1.toNat + 2 + 5) j := fun j j0 j1 => by rw [hhc j j0 j1, (hho j j0 j1).2]; have := a3 j j0 j1; have := b3 j j0 j1; split <;> omega
        refine hJ.col hi (fun a q1 q2 q3 => e a (by omega) (by omega) (by omega) (by omega) (by omega) (by omega) (by omega)) (fun w w0 _ _ => ⟨0, 0, by omega, ?_⟩)
        rw [e6, e7, ev, e (11 + 10 * i1.toNat + 1) (by omega) (by omega) (by omega) (by omega) (by omega) (by omega) (by omega), e (11 + 10 * i1.toNat) (by omega) (by omega) (by omega) (by omega) (by omega) (by omega) (by omega)]
        exact jK_reset ht nn hr.2.1 hva.2 k1
set_option maxHeartbeats 1000000 in
theorem ij_make {σ u : Mem} {z n N : Int} {i1 b1 n1 d1 : Int} (hB : BI σ N) (hn : 0 ≤ N ∧ N ≤ 511000) (hJ : JI σ n)  (hc : (if ¬ ((0 ≤ i1 ∧ i1 < 3) ∧ (1 ≤ b1 ∧ b1 ≤ 12) ∧ (1 ≤ d1 ∧ d1 ≤ 1000) ∧ (0 ≤ n1 ∧ n1 ≤ d1)) then (z = -1 ∧ u = sput σ 0 5 1) else (∃ lv e : Int → Int, (∀ j : Int, 0 ≤ j → j < 40 → lv j = (if (chV (σ ((11 + 10 * i1.toNat) + 1)) (σ (11 + 10 * i1.toNat) 3) n1 d1 8 (fun _ => 0, fun _ => 0)).1 j = 0 then σ ((11 + 10 * i1.toNat) + 1) j else -1)) ∧ ((0 ≤ z ∧ z ≤ 10000) ∧ (z = 10000 ∨ fwI lv z ≤ b1) ∧ (z = 0 ∨ b1 < fwI lv (z - 1))) ∧ (∀ i : Nat, (i : Int) < b1 → e i = plB lv z (b1).toNat (i + 1) - 1) ∧ (∀ j : Int, 0 ≤ j → j < 40 → u ((11 + 10 * i1.toNat + 2) + 4) j = (chV (σ ((11 + 10 * i1.toNat) + 1)) (σ (11 + 10 * i1.toNat) 3) n1 d1 8 (fun _ => 0, fun _ => 0)).1 j ∧ u ((11 + 10 * i1.toNat + 2) + 5) j = (chV (σ ((11 + 10 * i1.toNat) + 1)) (σ (11 + 10 * i1.toNat) 3) n1 d1 8 (fun _ => 0, fun _ => 0)).2 j) ∧ u (11 + 10 * i1.toNat + 2) 5 = b1 ∧ u (11 + 10 * i1.toNat + 2) 6 = 0 ∧ (∀ j : Int, 0 ≤ j → j < b1 → u ((11 + 10 * i1.toNat + 2) + 1) j = e j ∧ u ((11 + 10 * i1.toNat + 2) + 2) j = smR (fun w => if u ((11 + 10 * i1.toNat + 2) + 4) w = 0 then σ ((11 + 10 * i1.toNat) + 1) w else 0) (foF e j) (e j + 1) ∧ u ((11 + 10 * i1.toNat + 2) + 3) j = 0) ∧ u 0 = sput σ 0 5 0 0 ∧ (∀ a : Nat, a ≠ 0 → a ≠ (11 + 10 * i1.toNat + 2) → a ≠ (11 + 10 * i1.toNat + 2) + 1 → a ≠ (11 + 10 * i1.toNat + 2) + 2 → a ≠ (11 + 10 * i1.toNat + 2) + 3 → a ≠ (11 + 10 * i1.toNat + 2) + 4 → a ≠ (11 + 10 * i1.toNat + 2) + 5 → a ≠ 41 → a ≠ 42 → a ≠ 43 → a ≠ 44 → u a = σ a)))) : JI u (n + 1000) := by
  by_cases c1 : ¬ ((0 ≤ i1 ∧ i1 < 3) ∧ (1 ≤ b1 ∧ b1 ≤ 12) ∧ (1 ≤ d1 ∧ d1 ≤ 1000) ∧ (0 ≤ n1 ∧ n1 ≤ d1))
  · rw [if_pos c1] at hc
    obtain ⟨-, hu⟩ := hc
    rw [hu]
    exact hJ.st
  · rw [if_neg c1] at hc
    obtain ⟨lv, e, hlv, ⟨hz0, hz1, hz2⟩, he, hH, hN, h6, hS, hu0, hF⟩ := hc
    have hi : 0 ≤ i1 ∧ i1 < 3 := by omega
    obtain ⟨hr, ⟨a1, a2, a3, a4⟩, hs⟩ := hB.2 i1 hi.1 hi.2
    have rl := hr.le
    have r4 := hr.2.2
    have hl : ∀ j : Int, 0 ≤ j → j < 40 → -1 ≤ lv j ∧ lv j ≤ 10000 := fun j j0 j1 => by have := rl.1 j j0 j1; rw [hlv j j0 j1]; split <;> omega
    have hzz : z = dpL lv b1.toNat 0 := lim_eq hl (by omega) (by omega) hz0 (by omega) (by omega)
    have pt9 : ptP lv z b1.toNat 0 := (dpL_pt hz0.1 (by omega) b1.toNat 0 (by omega) (by omega)).mp (by rw [← hzz]; exact Int.le_refl _)
    have fin9 : dpS lv z b1.toNat 0 < 1000000000 := by have h9 := dpS_pt b1.toNat 0 (by omega) (by omega) pt9; have h8 : (b1.toNat : Int) * z ≤ 12 * 10000 := Int.mul_le_mul (by omega) hz0.2 hz0.1 (by omega); omega
    have ci : ∀ v : Int, ((chV (σ (11 + 10 * i1.toNat + 1)) (σ (11 + 10 * i1.toNat) 3) n1 d1 8 (fun _ => 0, fun _ => 0)).1 v = 0 ∧ (chV (σ (11 + 10 * i1.toNat + 1)) (σ (11 + 10 * i1.toNat) 3) n1 d1 8 (fun _ => 0, fun _ => 0)).2 v = 0) ∨ ((chV (σ (11 + 10 * i1.toNat + 1)) (σ (11 + 10 * i1.toNat) 3) n1 d1 8 (fun _ => 0, fun _ => 0)).1 v = 1 ∧ (chV (σ (11 + 10 * i1.toNat + 1)) (σ (11 + 10 * i1.toNat) 3) n1 d1 8 (fun _ => 0, fun _ => 0)).2 v = σ (11 + 10 * i1.toNat + 1) v) := chV_inv 8 _ (fun v => Or.inl ⟨rfl, rfl⟩)
    have hh : ∀ v : Int, 0 ≤ v → v < 40 → (u (11 + 10 * i1.toNat + 2 + 4) v = 0 ∧ u (11 + 10 * i1.toNat + 2 + 5) v = 0) ∨ (u (11 + 10 * i1.toNat + 2 + 4) v = 1 ∧ u (11 + 10 * i1.toNat + 2 + 5) v = σ (11 + 10 * i1.toNat + 1) v) := fun v v0 v1 => by rw [(hH v v0 v1).1, (hH v v0 v1).2]; exact ci v
    have fr : ∀ a : Nat, a ≠ 0 → (a < 11 + 10 * i1.toNat + 2 ∨ 11 + 10 * i1.toNat + 2 + 5 < a) → (a ≤ 40 ∨ 45 ≤ a) → u a = σ a := fun a q0 q1 q2 => hF a (by omega) (by omega) (by omega) (by omega) (by omega) (by omega) (by omega) (by omega) (by omega) (by omega) (by omega)
    have su : (skV u (11 + 10 * i1.toNat + 2)).1 = u (11 + 10 * i1.toNat + 2) 5 := rfl
    have he2 : ∀ j : Int, 0 ≤ j → j < b1 → (skV u (11 + 10 * i1.toNat + 2)).2.1 j = e j := fun j j0 j1 => by rw [(sk_rows j0 (by omega)).1, (hS j j0 j1).1]
    have sk := skI_make (h := u (11 + 10 * i1.toNat + 2 + 4)) (hc := u (11 + 10 * i1.toNat + 2 + 5)) (tr := σ (11 + 10 * i1.toNat + 1)) (lv := lv) (S := skV u (11 + 10 * i1.toNat + 2)) (va := σ (11 + 10 * i1.toNat) 3) (n := 0) (L := z) (many := b1.toNat) (by omega) fin9 (by omega) (fun j j0 j1 => by
      rw [he2 j j0 (by omega)]
      have h9 := he j.toNat (by omega)
      rw [show ((j.toNat : Nat) : Int) = j by omega] at h9
      exact h9) (fun j j0 j1 => by
      rw [(sk_rows j0 (by omega)).2.1, (hS j j0 (by omega)).2.1]
      unfold rrS
      rw [he2 j j0 (by omega), foF_congr (e := e) (e' := (skV u (11 + 10 * i1.toNat + 2)).2.1) (n := b1) (k := j) (fun i q1 q2 => (he2 i q1 q2).symm) (by omega)]
      rfl) (fun j j0 j1 => by
      rw [(sk_rows j0 (by omega)).2.2, (hS j j0 (by omega)).2.2]) (fun v v0 v1 q => by rcases hh v v0 v1 with y | y; exact absurd y.1 q; exact y.2) hr.1 hr.2.1 (by omega) (by omega)
    refine hJ.col hi (fun a q1 q2 q3 => fr a (by omega) (by omega) (by omega)) (fun w w0 _ _ => ⟨0, 0, by omega, ?_⟩)
    rw [fr (11 + 10 * i1.toNat + 1) (by omega) (by omega) (by omega), fr (11 + 10 * i1.toNat) (by omega) (by omega) (by omega)]
    exact jK_reset hr.1 (fun j j0 j1 => by rcases hh j j0 j1 with y | y; (rw [y.2]; exact Int.le_refl _); (rw [y.2]; exact hr.1 j j0 j1)) hr.2.1 (by omega) sk
