/-! ===== how large a common bottom may be ===== -/
def jcl (h : Int → Int) (S : SV) (D : Int) : Prop := D ≤ 16380 ∨ (D ≤ 20020 ∧ ∀ v : Int, 0 ≤ v → v < 40 → h v = 0 ∧ 3 ≤ loN h S.2.1 (spOf S.2.1 S.1 v) ∧ D ≤ 5720 * loN h S.2.1 (spOf S.2.1 S.1 v)) ∨ (D ≤ 27720 ∧ ∀ v : Int, 0 ≤ v → v < 40 → h v = 0 ∧ 5 ≤ loN h S.2.1 (spOf S.2.1 S.1 v) ∧ D ≤ 5544 * loN h S.2.1 (spOf S.2.1 S.1 v))
theorem jcl_all {h : Int → Int} {S : SV} (hE : svE S) : 1 ≤ lcM (loN h S.2.1) S.1 ∧ jcl h S (lcM (loN h S.2.1) S.1) ∧ ∀ k : Int, 0 ≤ k → k < S.1 → 0 < loN h S.2.1 k → loN h S.2.1 k ∣ (lcM (loN h S.2.1) S.1 : Int) := by
  have n1 := hE.1
  have ls := lo_sum (h := h) hE
  obtain ⟨d1, d2, d3, d4⟩ := lc_fin (L := loN h S.2.1) (n := S.1) (by omega) (fun k _ _ => (ltC_bd _ _ _).1) (fun m m0 m1 => (ls m m0 m1).2)
  refine ⟨d1, ?_, fun k k0 k1 kp => (d4 k k0 k1 kp).1⟩
  unfold jcl
  by_cases z : lcM (loN h S.2.1) S.1 ≤ 16380
  · exact Or.inl (by omega)
  · refine Or.inr ?_
    have s40 : ¬ smR (loN h S.2.1) 0 S.1 ≤ 39 := fun y => z (d3 y)
    have e : smR (loN h S.2.1) 0 S.1 = smR (gtF h (fun _ => 1)) 0 40 := by
      rw [← rr_all (h := h) (tr := fun _ => 1) hE]
      refine smR_congr fun k k0 k1 => ?_
      have f := foF_ge hE k0 k1
      unfold loN ltC rrS
      rw [show max (foF S.2.1 k) 0 = foF S.2.1 k by omega, show min (S.2.1 k + 1) 40 = S.2.1 k + 1 by omega]
      rfl
    have light : ∀ v : Int, 0 ≤ v → v < 40 → h v = 0 := by
      intro v v0 v1
      refine Classical.byContradiction fun y => s40 ?_
      have q := smR_le (f := fun w => gtF h (fun _ => 1) w + if w = v then 1 else 0) (g := fun _ => 1) (a := 0) (b := 40) (fun w _ _ => by
        unfold gtF
        by_cases p : w = v
        · rw [if_pos p, p, if_neg y]; decide
        · rw [if_neg p]
          split
          · show (1 : Int) + 0 ≤ 1; decide
          · decide)
      rw [smR_add (f := gtF h (fun _ => 1)) (g := fun w => if w = v then 1 else 0), smR_at, if_pos ⟨v0, v1⟩] at q
      have b := smR_bd (f := fun _ => (1 : Int)) (a := 0) (b := 40) (lo := 1) (hi := 1) (fun _ _ _ => ⟨Int.le_refl _, Int.le_refl _⟩) (by decide)
      omega
    have lo : ∀ v : Int, 0 ≤ v → v < 40 → lcF (loN h S.2.1 (spOf S.2.1 S.1 v)).toNat (lcM (loN h S.2.1) S.1) = true ∧ 1 ≤ loN h S.2.1 (spOf S.2.1 S.1 v) := by
      intro v v0 v1
      obtain ⟨k0, k1, -, -⟩ := spOf_in hE (v := v) (by omega)
      have sb := (shB_in (h := h) hE v0 v1).1
      unfold shB at sb
      rw [if_pos (light v v0 v1)] at sb
      exact ⟨(d4 _ k0 k1 (by omega)).2, sb⟩
    have un : ∀ v : Int, 0 ≤ v → v < 40 → 3 ≤ loN h S.2.1 (spOf S.2.1 S.1 v) ∧ (lcM (loN h S.2.1) S.1 ≤ 20020 ∨ 5 ≤ loN h S.2.1 (spOf S.2.1 S.1 v)) ∧ (lcM (loN h S.2.1) S.1 : Int) ≤ 5720 * loN h S.2.1 (spOf S.2.1 S.1 v) ∧ (loN h S.2.1 (spOf S.2.1 S.1 v) ≤ 4 ∨ (lcM (loN h S.2.1) S.1 : Int) ≤ 5544 * loN h S.2.1 (spOf S.2.1 S.1 v)) := by
      intro v v0 v1
      obtain ⟨l1_, l2_⟩ := lo v v0 v1
      unfold lcF at l1_
      simp only [Bool.and_eq_true, Bool.or_eq_true] at l1_
      obtain ⟨⟨⟨⟨-, b2⟩, b3⟩, b4⟩, b5⟩ := l1_
      have c2 : 3 ≤ (loN h S.2.1 (spOf S.2.1 S.1 v)).toNat := by
        rcases b2 with y | y
        · exact Nat.le_of_ble_eq_true y
        · exact absurd (Nat.le_of_ble_eq_true y) z
      refine ⟨by omega, ?_, ?_, ?_⟩
      · rcases b3 with y | y
        · have := Nat.le_of_ble_eq_true y; omega
        · have := Nat.le_of_ble_eq_true y; omega
      · rcases b4 with y | y
        · have := Nat.le_of_ble_eq_true y; omega
        · have := Nat.le_of_ble_eq_true y; omega
      · rcases b5 with y | y
        · have := Nat.le_of_ble_eq_true y; omega
        · have := Nat.le_of_ble_eq_true y; omega
    by_cases w : lcM (loN h S.2.1) S.1 ≤ 20020
    · refine Or.inl ⟨by omega, fun v v0 v1 => ?_⟩
      have u := un v v0 v1
      exact ⟨light v v0 v1, u.1, u.2.2.1⟩
    · refine Or.inr ⟨by omega, fun v v0 v1 => ?_⟩
      have u := un v v0 v1
      exact ⟨light v v0 v1, by omega, by omega⟩
