/-! ===== what JOIN asks of the class and of the model ===== -/
theorem BI.sh {σ : Mem} {n i : Int} (hn : n ≤ 512000) (h : BI σ n) (hi : 0 ≤ i ∧ i < 3) (hz : 0 < σ (11 + 10 * i.toNat + 2) 5) {D : Int} (hd : ∀ k : Int, 0 ≤ k → k < (skV σ (11 + 10 * i.toNat + 2)).1 → 0 < loN (σ (11 + 10 * i.toNat + 2 + 4)) (skV σ (11 + 10 * i.toNat + 2)).2.1 k → loN (σ (11 + 10 * i.toNat + 2 + 4)) (skV σ (11 + 10 * i.toNat + 2)).2.1 k ∣ D) {v : Int} (v0 : 0 ≤ v) (v1 : v < 40) : (1 ≤ shB (σ (11 + 10 * i.toNat + 2 + 4)) (σ (11 + 10 * i.toNat + 2 + 1)) (σ (11 + 10 * i.toNat + 2) 5) v ∧ shB (σ (11 + 10 * i.toNat + 2 + 4)) (σ (11 + 10 * i.toNat + 2 + 1)) (σ (11 + 10 * i.toNat + 2) 5) v ≤ 40) ∧ (-20000000 ≤ shT (σ (11 + 10 * i.toNat + 2 + 4)) (σ (11 + 10 * i.toNat + 2 + 5)) (σ (11 + 10 * i.toNat + 2 + 1)) (σ (11 + 10 * i.toNat + 2 + 2)) (σ (11 + 10 * i.toNat + 2) 5) v ∧ shT (σ (11 + 10 * i.toNat + 2 + 4)) (σ (11 + 10 * i.toNat + 2 + 5)) (σ (11 + 10 * i.toNat + 2 + 1)) (σ (11 + 10 * i.toNat + 2 + 2)) (σ (11 + 10 * i.toNat + 2) 5) v ≤ 20000000) ∧ wv (σ (11 + 10 * i.toNat + 2 + 4)) (skV σ (11 + 10 * i.toNat + 2)) D (skV σ (11 + 10 * i.toNat + 2)).2.2.1 (σ (11 + 10 * i.toNat + 2 + 5)) v * shB (σ (11 + 10 * i.toNat + 2 + 4)) (σ (11 + 10 * i.toNat + 2 + 1)) (σ (11 + 10 * i.toNat + 2) 5) v = shT (σ (11 + 10 * i.toNat + 2 + 4)) (σ (11 + 10 * i.toNat + 2 + 5)) (σ (11 + 10 * i.toNat + 2 + 1)) (σ (11 + 10 * i.toNat + 2 + 2)) (σ (11 + 10 * i.toNat + 2) 5) v * D := by
  have hc := h.2 i hi.1 hi.2
  obtain ⟨-, k2⟩ := hc.sk hn
  obtain ⟨hr, ⟨a1, a2, a3, a4⟩, -⟩ := hc
  have hE := (a4 (by omega)).1.1
  have a39 := a3 v v0 v1
  generalize 11 + 10 * i.toNat + 2 = p at *
  have sb := shB_in (h := σ (p + 4)) hE v0 v1
  obtain ⟨j0, j1, -, -⟩ := spOf_in hE (v := v) (by omega)
  have es : spOf (skV σ p).2.1 (skV σ p).1 v = spOf (σ (p + 1)) (σ p 5) v := spOf_mk
  have eB : shB (σ (p + 4)) (σ (p + 1)) (σ p 5) v = shB (σ (p + 4)) (skV σ p).2.1 (skV σ p).1 v := by
    unfold shB
    rw [es]
    rw [es] at j0 j1
    split
    · exact (loN_congr (n := σ p 5) (fun _ _ _ => rfl) (fun j q1 q2 => (sk_rows q1 q2).1) j0 j1).symm
    · rfl
  refine ⟨by rw [eB]; exact sb, ?_, ?_⟩
  · unfold shT
    rw [es] at j0 j1
    split
    · have := (k2 _ j0 j1).1; omega
    · omega
  · rw [eB]
    unfold wv shB shT
    by_cases z : σ (p + 4) v = 0
    · rw [if_pos z, if_pos z, if_pos z]
      have bz := sb.1
      unfold shB at bz
      rw [if_pos z] at bz
      have dv := Int.mul_ediv_cancel' (hd _ j0 j1 (by omega))
      have er : (skV σ p).2.2.1 (spOf (skV σ p).2.1 (skV σ p).1 v) = σ (p + 2) (spOf (σ (p + 1)) (σ p 5) v) := by
        rw [← es]
        exact (sk_rows j0 j1).2.1
      rw [er]
      generalize loN (σ (p + 4)) (skV σ p).2.1 (spOf (skV σ p).2.1 (skV σ p).1 v) = L at *
      generalize σ (p + 2) (spOf (σ (p + 1)) (σ p 5) v) = c at *
      rw [Int.mul_right_comm, Int.mul_comm (D / L) L, dv, Int.mul_comm]
    · rw [if_neg z, if_neg z, if_neg z, Int.mul_one, Int.mul_comm]
theorem BI.jv {σ : Mem} {n i t q : Int} (h : BI σ n) (hi : 0 ≤ i ∧ i < 3) (hz : 0 < σ (11 + 10 * i.toNat + 2) 5) (hK : jK (σ (11 + 10 * i.toNat + 2 + 4)) (σ (11 + 10 * i.toNat + 2 + 5)) (σ (11 + 10 * i.toNat + 1)) (skV σ (11 + 10 * i.toNat + 2)) (σ (11 + 10 * i.toNat) 3) t q) : ∃ D : Int, (1 ≤ D ∧ D ≤ 27720) ∧ (∀ k : Int, 0 ≤ k → k < (skV σ (11 + 10 * i.toNat + 2)).1 → 0 < loN (σ (11 + 10 * i.toNat + 2 + 4)) (skV σ (11 + 10 * i.toNat + 2)).2.1 k → loN (σ (11 + 10 * i.toNat + 2 + 4)) (skV σ (11 + 10 * i.toNat + 2)).2.1 k ∣ D) ∧ jV (wv (σ (11 + 10 * i.toNat + 2 + 4)) (skV σ (11 + 10 * i.toNat + 2)) D (skV σ (11 + 10 * i.toNat + 2)).2.2.1 (σ (11 + 10 * i.toNat + 2 + 5))) D t q ∧ 0 ≤ q ∧ 0 ≤ t := by
  obtain ⟨hr, ⟨a1, a2, a3, a4⟩, -⟩ := h.2 i hi.1 hi.2
  have hE := (a4 (by omega)).1.1
  have r2 := hr.le.2
  have r3 := hr.2.1
  have r4 := hr.2.2
  obtain ⟨d1, d2, d3⟩ := jcl_all (h := σ (11 + 10 * i.toNat + 2 + 4)) hE
  obtain ⟨v1, v2, v3⟩ := jV_of (D := (lcM (loN (σ (11 + 10 * i.toNat + 2 + 4)) (skV σ (11 + 10 * i.toNat + 2)).2.1) (skV σ (11 + 10 * i.toNat + 2)).1 : Int)) hE (by omega) d2 d3 r3 r2 (by omega) hK
  refine ⟨_, ⟨by omega, ?_⟩, d3, v1, v2, v3⟩
  rcases d2 with d | d | d
  · omega
  · omega
  · omega
theorem BI.ja {σ : Mem} {n i : Int} (hn : 0 ≤ n ∧ n ≤ 511000) (h : BI σ n) (hi : 0 ≤ i ∧ i < 3) (hz : 0 < σ (11 + 10 * i.toNat + 2) 5) {D : Int} (hD : 1 ≤ D) (hd : ∀ k : Int, 0 ≤ k → k < (skV σ (11 + 10 * i.toNat + 2)).1 → 0 < loN (σ (11 + 10 * i.toNat + 2 + 4)) (skV σ (11 + 10 * i.toNat + 2)).2.1 k → loN (σ (11 + 10 * i.toNat + 2 + 4)) (skV σ (11 + 10 * i.toNat + 2)).2.1 k ∣ D) : svE (skV σ (11 + 10 * i.toNat + 2)) ∧ smR (fun v => abI (wv (σ (11 + 10 * i.toNat + 2 + 4)) (skV σ (11 + 10 * i.toNat + 2)) D (skV σ (11 + 10 * i.toNat + 2)).2.2.1 (σ (11 + 10 * i.toNat + 2 + 5)) v)) 0 40 ≤ D * 612000 := by
  obtain ⟨hr, ⟨a1, a2, a3, a4⟩, -⟩ := h.2 i hi.1 hi.2
  have g := (a4 (by omega)).1
  have l6 := g.2.2.2.2.2
  refine ⟨g.1, Int.le_trans (wv_abs g.1 (by omega) hd) (Int.mul_le_mul_of_nonneg_left ?_ (by omega))⟩
  have e1 : smR (fun v => abI (hX (σ (11 + 10 * i.toNat + 2 + 4)) (σ (11 + 10 * i.toNat + 2 + 5)) v)) 0 40 = hvS (σ (11 + 10 * i.toNat + 2 + 4)) (σ (11 + 10 * i.toNat + 2 + 5)) 0 39 := by
    have e9 : hvS (σ (11 + 10 * i.toNat + 2 + 4)) (σ (11 + 10 * i.toNat + 2 + 5)) 0 39 = smR (fun v => if σ (11 + 10 * i.toNat + 2 + 4) v = 0 then 0 else σ (11 + 10 * i.toNat + 2 + 5) v) 0 40 := rfl
    rw [e9]
    refine smR_congr fun v v0 v1 => ?_
    have q := (a3 v v0 v1).2.1
    unfold hX abI
    split
    · rfl
    · omega
  have e2 : l1 (skV σ (11 + 10 * i.toNat + 2)) = smR (fun k => abI ((skV σ (11 + 10 * i.toNat + 2)).2.2.1 k)) 0 (skV σ (11 + 10 * i.toNat + 2)).1 := rfl
  omega
theorem mul4 (a b c d : Int) : a * b * (c * d) = a * c * (b * d) := by rw [Int.mul_assoc, Int.mul_left_comm b, ← Int.mul_assoc]
theorem BI.jAll {σ : Mem} {n i1 i2 : Int} (hn : 0 ≤ n ∧ n ≤ 511000) (h : BI σ n) (hJ : JI σ n) (h1 : 0 ≤ i1 ∧ i1 < 3) (h2 : 0 ≤ i2 ∧ i2 < 3) (z1 : 0 < σ (11 + 10 * i1.toNat + 2) 5) (z2 : 0 < σ (11 + 10 * i2.toNat + 2) 5) : ∃ (DD : Int) (F : Int → Int), jStep 9223372036854775807 DD F (fun w => (shT (σ (11 + 10 * i1.toNat + 2 + 4)) (σ (11 + 10 * i1.toNat + 2 + 5)) (σ (11 + 10 * i1.toNat + 2 + 1)) (σ (11 + 10 * i1.toNat + 2 + 2)) (σ (11 + 10 * i1.toNat + 2) 5) w) * (shT (σ (11 + 10 * i2.toNat + 2 + 4)) (σ (11 + 10 * i2.toNat + 2 + 5)) (σ (11 + 10 * i2.toNat + 2 + 1)) (σ (11 + 10 * i2.toNat + 2 + 2)) (σ (11 + 10 * i2.toNat + 2) 5) w)) (fun w => (shB (σ (11 + 10 * i1.toNat + 2 + 4)) (σ (11 + 10 * i1.toNat + 2 + 1)) (σ (11 + 10 * i1.toNat + 2) 5) w) * (shB (σ (11 + 10 * i2.toNat + 2 + 4)) (σ (11 + 10 * i2.toNat + 2 + 1)) (σ (11 + 10 * i2.toNat + 2) 5) w)) := by
  obtain ⟨wt, hw, hs⟩ := hJ
  obtain ⟨t1, q1, b1, K1⟩ := (hw i1 h1.1 h1.2).2 (by omega)
  obtain ⟨t2, q2, b2, K2⟩ := (hw i2 h2.1 h2.2).2 (by omega)
  obtain ⟨D1, D1b, d1, V1, n1, n2⟩ := h.jv h1 z1 K1
  obtain ⟨D2, D2b, d2, V2, n3, n4⟩ := h.jv h2 z2 K2
  have s1 : ∀ v : Int, 0 ≤ v → v < 40 → _ := fun v v0 v1 => h.sh (by omega) h1 z1 d1 v0 v1
  have s2 : ∀ v : Int, 0 ≤ v → v < 40 → _ := fun v v0 v1 => h.sh (by omega) h2 z2 d2 v0 v1
  by_cases e : i1 = i2
  · subst e
    obtain ⟨hE, ha⟩ := h.ja hn h1 z1 D1b.1 d1
    refine ⟨D1 * D1, _, jStep_self hE D1b.1 D1b.2 d1 ha (fun w w0 w1 => Int.mul_pos (by have := (s1 w w0 w1).1.1; omega) (by have := (s1 w w0 w1).1.1; omega)) (fun w w0 w1 => ?_)⟩
    have k := (s1 w w0 w1).2.2
    rw [mul4, k, mul4]
  · have w12 : wt i1 + wt i2 ≤ n := by
      have c0 := (hw 0 (by decide) (by decide)).1
      have c1 := (hw 1 (by decide) (by decide)).1
      have c2 := (hw 2 (by decide) (by decide)).1
      rcases (by omega : i1 = 0 ∨ i1 = 1 ∨ i1 = 2) with rfl | rfl | rfl <;> rcases (by omega : i2 = 0 ∨ i2 = 1 ∨ i2 = 2) with rfl | rfl | rfl <;> first | exact absurd rfl e | omega
    have two := jV_two D1b.1 D2b.1 V1 V2 ⟨n2, n4, n1, n3, by omega⟩
    have DD : D1 * D2 ≤ 27720 * 27720 := Int.mul_le_mul D1b.2 D2b.2 (by omega) (by decide)
    refine ⟨D1 * D2, _, jStep_two (Int.mul_pos (by omega) (by omega)) (by omega) (fun w w0 w1 => Int.mul_pos (by have := (s1 w w0 w1).1.1; omega) (by have := (s2 w w0 w1).1.1; omega)) (fun w w0 w1 => ?_) two⟩
    have k1 := (s1 w w0 w1).2.2
    have k2 := (s2 w w0 w1).2.2
    rw [mul4, k1, k2, mul4]
theorem BI.jo {σ : Mem} {n i1 i2 : Int} (hn : 0 ≤ n ∧ n ≤ 511000) (h : BI σ n) (hJ : JI σ n) (h1 : 0 ≤ i1 ∧ i1 < 3) (h2 : 0 ≤ i2 ∧ i2 < 3) (z1 : 0 < σ (11 + 10 * i1.toNat + 2) 5) (z2 : 0 < σ (11 + 10 * i2.toNat + 2) 5) : joOK σ (11 + 10 * i1.toNat + 2) (11 + 10 * i2.toNat + 2) := by
  obtain ⟨DD, F, hS⟩ := h.jAll hn hJ h1 h2 z1 z2
  have t1 := fun v v0 v1 => h.sh (D := 0) (by omega) h1 z1 (fun _ _ _ _ => Int.dvd_zero _) (v := v) v0 v1
  have t2 := fun v v0 v1 => h.sh (D := 0) (by omega) h2 z2 (fun _ _ _ _ => Int.dvd_zero _) (v := v) v0 v1
  refine ⟨fun w w0 w1 => (t1 w w0 w1).2.1, fun w w0 w1 => (t2 w w0 w1).2.1, fun w w0 w1 => (t1 w w0 w1).1, fun w w0 w1 => (t2 w w0 w1).1, jP 9223372036854775807 DD F, ?_, fun w t d w0 w1 hP => ?_⟩
  · rw [show frN 0 1 = 0 by decide, show frD 0 1 = 1 by decide]
    exact jP_0 (by decide)
  · have s := hS w t d w0 w1 hP.1.1 hP.2.2.1 hP.2.2.2
    exact ⟨hP.1.1, s.1, s.2.1.2, jP_s (by decide) hS w0 w1 hP⟩
theorem mjo_of {σ : Mem} {b : Nat} {n i1 i2 : Int} (hn : 0 ≤ n ∧ n ≤ 511000) (h : Inv σ b n) (hJ : JI σ n) (h1 : 0 ≤ i1 ∧ i1 < 3) (h2 : 0 ≤ i2 ∧ i2 < 3) (z1 : σ (b + 11) i1 ≠ 0) (z2 : σ (b + 11) i2 ≠ 0) : mjOK σ b i1 i2 := by
  have k1 := (h.2.1.2.2.2 i1 h1.1 h1.2).2.1
  have k2 := (h.2.1.2.2.2 i2 h2.1 h2.2).2.1
  have y1 := h.sz i1 h1.1 h1.2
  have y2 := h.sz i2 h2.1 h2.2
  obtain ⟨DD, F, hS⟩ := h.1.jAll hn hJ h1 h2 (by have := k1.1; omega) (by have := k2.1; omega)
  have hT : ∀ w : Int, 0 ≤ w → w < 40 → mjT σ b i1 i2 w = (fun w => (shT (σ (11 + 10 * i1.toNat + 2 + 4)) (σ (11 + 10 * i1.toNat + 2 + 5)) (σ (11 + 10 * i1.toNat + 2 + 1)) (σ (11 + 10 * i1.toNat + 2 + 2)) (σ (11 + 10 * i1.toNat + 2) 5) w) * (shT (σ (11 + 10 * i2.toNat + 2 + 4)) (σ (11 + 10 * i2.toNat + 2 + 5)) (σ (11 + 10 * i2.toNat + 2 + 1)) (σ (11 + 10 * i2.toNat + 2 + 2)) (σ (11 + 10 * i2.toNat + 2) 5) w)) w := fun w w0 w1 => by
    unfold mjT
    dsimp only
    rw [(sh_eq k1 z1 y1.1 w0 w1).1, (sh_eq k2 z2 y2.1 w0 w1).1]
  have hB : ∀ w : Int, 0 ≤ w → w < 40 → mjB σ b i1 i2 w = (fun w => (shB (σ (11 + 10 * i1.toNat + 2 + 4)) (σ (11 + 10 * i1.toNat + 2 + 1)) (σ (11 + 10 * i1.toNat + 2) 5) w) * (shB (σ (11 + 10 * i2.toNat + 2 + 4)) (σ (11 + 10 * i2.toNat + 2 + 1)) (σ (11 + 10 * i2.toNat + 2) 5) w)) w := fun w w0 w1 => by
    unfold mjB
    dsimp only
    rw [(sh_eq k1 z1 y1.1 w0 w1).2, (sh_eq k2 z2 y2.1 w0 w1).2]
  refine ⟨fun w w0 w1 => h.shB h1 z1 w0 w1, fun w w0 w1 => h.shB h2 z2 w0 w1, jP 9223372036854775807 DD F, jP_0 (by decide), fun w t d w0 w1 hP => ?_, fun t d hP => ⟨hP.2.1, hP.1⟩⟩
  have s := hS w t d w0 w1 hP.1.1 hP.2.2.1 hP.2.2.2
  unfold jnF
  dsimp only
  rw [hT w w0 w1, hB w w0 w1]
  exact ⟨hP.1, s.1, s.2.1.2, jP_s (by decide) hS w0 w1 hP⟩
theorem mjOK_up {σ u : Mem} {b : Nat} {i1 i2 : Int} (h : ∀ a : Nat, b ≤ a → u a = σ a) (k : mjOK σ b i1 i2) : mjOK u b i1 i2 := by
  unfold mjOK mjT mjB at *
  rw [h (b + 11) (by omega), h (b + 13) (by omega), h (b + 14) (by omega), h (b + 15) (by omega), h (b + 16) (by omega)]
  exact k
