/-! ===== rows keep what holds of a column ===== -/
theorem smR_up {f g : Int → Int} {x m : Int} (hx : 0 ≤ x ∧ x < 40) (h : ∀ j : Int, 0 ≤ j → j < 40 → g j = f j + if j = x then m else 0) : smR g 0 40 = smR f 0 40 + m := by
  rw [smR_congr h, smR_add (f := f) (g := fun j => if j = x then m else 0), smR_at, if_pos (by omega)]
theorem coB.ch {σ : Mem} {c : Nat} {n x m d : Int} (h : coB σ c n) (hx : -1 ≤ x ∧ x ≤ 39) (hm : -d ≤ m ∧ m ≤ d) (h0 : x = -1 → 0 ≤ σ c 4 + m) (h1 : 0 ≤ x → 0 ≤ σ (c + 1) x + m) (h2 : σ c 3 + σ c 4 + m ≤ 10000) : coB (chM σ c x m) c (n + d) := by
  obtain ⟨⟨r1, r2, r3, r4⟩, hk, hs⟩ := h
  have h8 : smW (chM σ c x m) (c + 8) (n + d) := smW_row (chM_fr (c + 8) (by omega) (by omega) (by omega) (by omega) (by omega)) (smW_less (by omega) hs)
  refine ⟨?_, ?_, h8⟩
  · unfold chM
    by_cases q : 0 ≤ x ∧ x ≤ 39
    · rw [if_pos q]
      have ec : ∀ T : Mem, shM T (c + 2) x m c = T c := fun T => shM_fr c (by omega) (by omega) (by omega)
      have ec1 : ∀ T : Mem, shM T (c + 2) x m (c + 1) = T (c + 1) := fun T => shM_fr (c + 1) (by omega) (by omega) (by omega)
      unfold rwB
      rw [ec, ec1, sput_s, sput_j _ _ _ _ _ (show (4 : Int) ≠ 3 by decide), sput_r (show c ≠ c + 1 by omega), sput_r (show c + 1 ≠ c by omega)]
      refine ⟨fun j j0 j1 => ?_, ?_, r3, by omega⟩
      · by_cases z : j = x
        · rw [z, sput_s]; exact h1 q.1
        · rw [sput_j _ _ _ _ _ z]; exact r1 j j0 j1
      · rw [smR_up (f := σ (c + 1)) (x := x) (m := m) (by omega) (fun j j0 j1 => ?_), r2]
        by_cases z : j = x
        · rw [z, sput_s, if_pos rfl]
        · rw [sput_j _ _ _ _ _ z, if_neg z]; omega
    · rw [if_neg q]
      unfold rwB
      rw [sput_r (show c + 1 ≠ c by omega), sput_s, sput_j _ _ _ _ _ (show (3 : Int) ≠ 4 by decide)]
      exact ⟨r1, r2, h0 (by omega), by omega⟩
  · unfold chM
    by_cases q : 0 ≤ x ∧ x ≤ 39
    · rw [if_pos q]
      obtain ⟨T, hT⟩ : ∃ T : Mem, T = sput (sput σ (c + 1) x (σ (c + 1) x + m)) c 3 (σ c 3 + m) := ⟨_, rfl⟩
      rw [← hT]
      have t0 : ∀ a : Nat, a ≠ c → a ≠ c + 1 → T a = σ a := fun a q1 q2 => by rw [hT, sput_r q1, sput_r q2]
      have t3 : T c 3 = σ c 3 + m := by rw [hT, sput_s]
      have t1 : ∀ j : Int, 0 ≤ j → j < 40 → T (c + 1) j = σ (c + 1) j + if j = x then m else 0 := fun j _ _ => by
        rw [hT, sput_r (show c + 1 ≠ c by omega)]
        by_cases z : j = x
        · rw [z, sput_s, if_pos rfl]
        · rw [sput_j _ _ _ _ _ z, if_neg z]; omega
      obtain ⟨a1, a2, a3, a4⟩ := hk
      have e2 := t0 (c + 2) (by omega) (by omega)
      have e6 := t0 (c + 2 + 4) (by omega) (by omega)
      have e7 := t0 (c + 2 + 5) (by omega) (by omega)
      have e3 := t0 (c + 2 + 1) (by omega) (by omega)
      have e4 := t0 (c + 2 + 2) (by omega) (by omega)
      have e5 := t0 (c + 2 + 3) (by omega) (by omega)
      unfold shM
      rw [e2, e6]
      by_cases z1 : 0 < σ (c + 2) 5
      · rw [if_pos z1]
        obtain ⟨g, g0⟩ := a4 (by omega)
        have ev : σ c 3 + m = T c 3 := t3.symm
        have nn : ∀ j : Int, 0 ≤ j → j < 40 → 0 ≤ σ (c + 1) j := r1
        by_cases z2 : σ (c + 2 + 4) x = 0
        · rw [if_pos z2]
          obtain ⟨u, hu⟩ : ∃ u : Mem, u = sput (sput T (c + 2) 6 (σ (c + 2) 6 + if 0 ≤ m then m else -m)) (c + 2 + 2) (spOf (T (c + 2 + 1)) (σ (c + 2) 5) x) (T (c + 2 + 2) (spOf (T (c + 2 + 1)) (σ (c + 2) 5) x) + m) := ⟨_, rfl⟩
          rw [← hu]
          have u0 : ∀ a : Nat, a ≠ c + 2 → a ≠ c + 2 + 2 → u a = T a := fun a q1 q2 => by rw [hu, sput_r q2, sput_r q1]
          have u5 : u (c + 2) 5 = σ (c + 2) 5 := by rw [hu, sput_r (by omega), sput_j _ _ _ _ _ (by decide), e2]
          have u6 : u (c + 2) 6 = σ (c + 2) 6 + if 0 ≤ m then m else -m := by rw [hu, sput_r (by omega), sput_s]
          have esp : spOf (T (c + 2 + 1)) (σ (c + 2) 5) x = spOf (skV σ (c + 2)).2.1 (skV σ (c + 2)).1 x := by rw [e3]; exact (spOf_mk).symm
          have w := skI_row (h := σ (c + 2 + 4)) (hc := σ (c + 2 + 5)) (tr := σ (c + 1)) (tr' := T (c + 1)) (S := skV σ (c + 2)) (S' := skV u (c + 2)) (va := σ c 3) (n := n) (x := x) (m := m) (d := d) (by omega) z2 hm t1 u5 (by unfold skV; rw [u5, u0 (c + 2 + 1) (by omega) (by omega), e3]) (fun j j0 j1 => by
            have k1 : j < u (c + 2) 5 := by rw [u5]; exact j1
            rw [(sk_rows j0 k1).2.1, (sk_rows j0 j1).2.1, ← esp, hu]
            by_cases z : j = spOf (T (c + 2 + 1)) (σ (c + 2) 5) x
            · rw [if_pos z, z, sput_s, e4]
            · rw [if_neg z, sput_j _ _ _ _ _ z, sput_r (by omega), e4]; omega) (by unfold skV; rw [u5, u0 (c + 2 + 3) (by omega) (by omega), e5]) g
          have v1 : u (c + 1) = T (c + 1) := u0 _ (by omega) (by omega)
          have v0 : u c 3 = T c 3 := by rw [u0 _ (by omega) (by omega)]
          refine ⟨by omega, by rw [u6]; split <;> omega, fun j j0 j1 => ?_, fun _ => ⟨?_, fun j j0 j1 y => ?_⟩⟩
          · rw [u0 (c + 2 + 4) (by omega) (by omega), u0 (c + 2 + 5) (by omega) (by omega), e6, e7]
            have := a3 j j0 j1
            exact ⟨this.1, this.2.1, by omega⟩
          · rw [u0 (c + 2 + 4) (by omega) (by omega), u0 (c + 2 + 5) (by omega) (by omega), e6, e7, v1, v0, t3]
            exact w
          · rw [u0 (c + 2 + 4) (by omega) (by omega), e6] at y
            rw [u0 (c + 2 + 5) (by omega) (by omega), e7]
            exact g0 j j0 j1 y
        · rw [if_neg z2]
          obtain ⟨u, hu⟩ : ∃ u : Mem, u = sput (sput T (c + 2) 6 (σ (c + 2) 6 + if 0 ≤ m then m else -m)) (c + 2 + 5) x (T (c + 2 + 5) x + m) := ⟨_, rfl⟩
          rw [← hu]
          have u0 : ∀ a : Nat, a ≠ c + 2 → a ≠ c + 2 + 5 → u a = T a := fun a q1 q2 => by rw [hu, sput_r q2, sput_r q1]
          have u5 : u (c + 2) 5 = σ (c + 2) 5 := by rw [hu, sput_r (by omega), sput_j _ _ _ _ _ (by decide), e2]
          have u6 : u (c + 2) 6 = σ (c + 2) 6 + if 0 ≤ m then m else -m := by rw [hu, sput_r (by omega), sput_s]
          have u7 : ∀ j : Int, 0 ≤ j → j < 40 → u (c + 2 + 5) j = σ (c + 2 + 5) j + if j = x then m else 0 := fun j _ _ => by
            rw [hu]
            by_cases z : j = x
            · rw [z, sput_s, if_pos rfl, e7]
            · rw [sput_j _ _ _ _ _ z, if_neg z, sput_r (by omega), e7]; omega
          have w := skI_rowh (h := σ (c + 2 + 4)) (hc := σ (c + 2 + 5)) (hc' := u (c + 2 + 5)) (tr := σ (c + 1)) (tr' := T (c + 1)) (S := skV σ (c + 2)) (va := σ c 3) (n := n) (x := x) (m := m) (d := d) (by omega) z2 hm t1 u7 g
          have v1 : u (c + 1) = T (c + 1) := u0 _ (by omega) (by omega)
          have v0 : u c 3 = T c 3 := by rw [u0 _ (by omega) (by omega)]
          have vs : skV u (c + 2) = skV σ (c + 2) := skV_congr u5 (by rw [u0 _ (by omega) (by omega), e3]) (by rw [u0 _ (by omega) (by omega), e4]) (by rw [u0 _ (by omega) (by omega), e5])
          refine ⟨by omega, by rw [u6]; split <;> omega, fun j j0 j1 => ?_, fun _ => ⟨?_, fun j j0 j1 y => ?_⟩⟩
          · rw [u0 (c + 2 + 4) (by omega) (by omega), e6, u7 j j0 j1]
            have k3 := a3 j j0 j1
            refine ⟨k3.1, ?_⟩
            by_cases z : j = x
            · rw [if_pos z]
              have k4 := g.2.2.2.1 x (by omega) (by omega) z2
              have k5 := h1 q.1
              rw [z] at k3 ⊢
              omega
            · rw [if_neg z]; omega
          · rw [u0 (c + 2 + 4) (by omega) (by omega), e6, v1, v0, t3, vs]
            exact w
          · rw [u0 (c + 2 + 4) (by omega) (by omega), e6] at y
            rw [u7 j j0 j1, if_neg (fun y2 => z2 (by rw [← y2]; exact y)), g0 j j0 j1 y]
            rfl
      · rw [if_neg z1]
        refine ⟨by rw [e2]; exact a1, by rw [e2]; omega, fun j j0 j1 => ?_, fun y => absurd y (by rw [e2]; omega)⟩
        rw [e6, e7]
        have := a3 j j0 j1
        exact ⟨this.1, this.2.1, by omega⟩
    · rw [if_neg q]
      exact sbB_congr (sput_j _ _ _ _ _ (by decide)) (sput_r (by omega)) (fun a q1 q2 => sput_r (by omega)) (sbB_mono (by omega) hk)
theorem coB.en {σ : Mem} {c : Nat} {n x m : Int} (h : coB σ c n) (hx : -1 ≤ x ∧ x ≤ 39) (hm : 0 ≤ m) (h2 : σ c 3 + σ c 4 + m ≤ 10000) : coB (enM σ c x m) c (n + m) := by
  have r := h.1
  have k := h.ch (x := x) (m := m) (d := m) hx (by omega) (fun _ => by have := r.2.2.1; omega) (fun q => by have := r.1 x q (by omega); omega) h2
  unfold enM
  split
  · exact k
  · have f := fun a q1 q2 => smT_fr (s := c + 8) (val := x) m.toNat (chM σ c x m) a q1 q2
    have r8 : chM σ c x m (c + 8) = σ (c + 8) := chM_fr (c + 8) (by omega) (by omega) (by omega) (by omega) (by omega)
    have g := smT_W (s := c + 8) (val := x) m.toNat _ _ (smW_row r8 h.2.2)
    exact ⟨rwB_congr (f _ (by omega) (by omega)) (f _ (by omega) (by omega)) k.1, sbB_congr (by rw [f c (by omega) (by omega)]) (f _ (by omega) (by omega)) (fun a q1 q2 => f a (by omega) (by omega)) k.2.1, smW_less (by omega) g⟩
/-- what the rows together are, behind a change -/
theorem chM_va {σ : Mem} {c : Nat} {x m : Int} : chM σ c x m c 3 + chM σ c x m c 4 = σ c 3 + σ c 4 + m := by
  unfold chM
  by_cases q : 0 ≤ x ∧ x ≤ 39
  · rw [if_pos q, shM_fr c (by omega) (by omega) (by omega), sput_s, sput_j _ _ _ _ _ (show (4 : Int) ≠ 3 by decide), sput_r (show c ≠ c + 1 by omega)]; omega
  · rw [if_neg q, sput_s, sput_j _ _ _ _ _ (show (3 : Int) ≠ 4 by decide)]; omega
theorem enM_va {σ : Mem} {c : Nat} {x m : Int} : enM σ c x m c 3 + enM σ c x m c 4 = σ c 3 + σ c 4 + m := by
  unfold enM
  split
  · exact chM_va
  · rw [smT_fr _ _ c (by omega) (by omega)]; exact chM_va
theorem pk_B {σ : Mem} {c : Nat} {row : Int → Int} {n s : Int} (h : coB σ c n) (hr : ∀ k : Int, 0 ≤ k → k < s → -1 ≤ row (100000 + k) ∧ row (100000 + k) ≤ 39) (h2 : σ c 3 + σ c 4 + s ≤ 10000) : ∀ m : Nat, (m : Int) ≤ s → coB (itrR (pkF c row) 0 m σ) c (n + m) ∧ itrR (pkF c row) 0 m σ c 3 + itrR (pkF c row) 0 m σ c 4 = σ c 3 + σ c 4 + m ∧ ∀ a : Nat, (a < c ∨ c + 9 < a) → itrR (pkF c row) 0 m σ a = σ a := by
  intro m
  induction m with
  | zero => intro _; rw [itrR_nil (by omega)]; exact ⟨coB_mono (by omega) h, by omega, fun _ _ => rfl⟩
  | succ m ih =>
    intro hm
    obtain ⟨k1, k2, k3⟩ := ih (by omega)
    rw [show ((m + 1 : Nat) : Int) = (m : Int) + 1 by omega, itrR_right (by omega)]
    generalize itrR (pkF c row) 0 m σ = τ at *
    unfold pkF
    refine ⟨?_, by rw [enM_va]; omega, fun a q => by rw [enM_fr a q]; exact k3 a q⟩
    have w := k1.en (x := row (100000 + m)) (m := 1) (hr m (by omega) (by omega)) (by decide) (by omega)
    rw [show n + ((m : Int) + 1) = n + m + 1 by omega]
    exact w
