/-! ===== what JOIN asks, through every call of the class ===== -/
def jcol (σ : Mem) (c : Nat) (w : Int) : Prop := σ (c + 2) 5 ≠ 0 → ∃ t q : Int, t + 1000 * q ≤ w ∧ jK (σ (c + 2 + 4)) (σ (c + 2 + 5)) (σ (c + 1)) (skV σ (c + 2)) (σ c 3) t q
def JI (σ : Mem) (n : Int) : Prop := ∃ w : Int → Int, (∀ i : Int, 0 ≤ i → i < 3 → 0 ≤ w i ∧ jcol σ (11 + 10 * i.toNat) (w i)) ∧ w 0 + w 1 + w 2 ≤ n
theorem jcol_mono {σ : Mem} {c : Nat} {w w' : Int} (h : w ≤ w') (k : jcol σ c w) : jcol σ c w' := fun q => by
  obtain ⟨t, p, e, j⟩ := k q
  exact ⟨t, p, by omega, j⟩
theorem jcol_congr {σ u : Mem} {c : Nat} {w : Int} (h : ∀ a : Nat, c ≤ a → a ≤ c + 7 → u a = σ a) (k : jcol σ c w) : jcol u c w := by
  unfold jcol at *
  rw [h c (by omega) (by omega), h (c + 1) (by omega) (by omega), h (c + 2) (by omega) (by omega), h (c + 2 + 4) (by omega) (by omega), h (c + 2 + 5) (by omega) (by omega), skV_congr (u := u) (σ := σ) (p := c + 2) (by rw [h (c + 2) (by omega) (by omega)]) (h _ (by omega) (by omega)) (h _ (by omega) (by omega)) (h _ (by omega) (by omega))]
  exact k
theorem JI.same {σ u : Mem} {n : Int} (h : JI σ n) (h1 : ∀ a : Nat, 11 ≤ a → a ≤ 40 → u a = σ a) : JI u (n + 1000) := by
  obtain ⟨w, k1, k2⟩ := h
  exact ⟨w, fun i i0 i1 => ⟨(k1 i i0 i1).1, jcol_congr (fun a q1 q2 => h1 a (by omega) (by omega)) (k1 i i0 i1).2⟩, by omega⟩
theorem JI.st {σ : Mem} {n k : Int} (h : JI σ n) : JI (sput σ 0 5 k) (n + 1000) := h.same (fun a _ _ => sput_r (by omega))
theorem JI.id {σ : Mem} {n : Int} (h : JI σ n) : JI σ (n + 1000) := h.same (fun _ _ _ => rfl)
theorem JI.col {σ u : Mem} {n i : Int} (h : JI σ n) (hi : 0 ≤ i ∧ i < 3) (h1 : ∀ a : Nat, 11 ≤ a → a ≤ 40 → (a < 11 + 10 * i.toNat ∨ 11 + 10 * i.toNat + 9 < a) → u a = σ a) (hc : ∀ w : Int, 0 ≤ w → jcol σ (11 + 10 * i.toNat) w → jcol u (11 + 10 * i.toNat) (w + 1000)) : JI u (n + 1000) := by
  obtain ⟨w, k1, k2⟩ := h
  refine ⟨fun j => if j = i then w j + 1000 else w j, fun j j0 j1 => ?_, ?_⟩
  · obtain ⟨a1, a2⟩ := k1 j j0 j1
    dsimp only
    by_cases z : j = i
    · rw [if_pos z]
      subst z
      exact ⟨by omega, hc _ a1 a2⟩
    · rw [if_neg z]
      exact ⟨a1, jcol_congr (fun a q1 q2 => h1 a (by omega) (by omega) (by omega)) a2⟩
  · rcases (by omega : i = 0 ∨ i = 1 ∨ i = 2) with z | z | z <;> subst z
    · dsimp only; rw [if_pos (rfl : (0 : Int) = 0), if_neg (show ¬ (1 : Int) = 0 by decide), if_neg (show ¬ (2 : Int) = 0 by decide)]; omega
    · dsimp only; rw [if_pos (rfl : (1 : Int) = 1), if_neg (show ¬ (0 : Int) = 1 by decide), if_neg (show ¬ (2 : Int) = 1 by decide)]; omega
    · dsimp only; rw [if_pos (rfl : (2 : Int) = 2), if_neg (show ¬ (0 : Int) = 2 by decide), if_neg (show ¬ (1 : Int) = 2 by decide)]; omega
theorem JI.sk {σ τ : Mem} {n i : Int} {S : SV} (h : JI σ n) (hi : 0 ≤ i ∧ i < 3) (hF : skFr σ τ (11 + 10 * i.toNat + 2)) (hV : skV τ (11 + 10 * i.toNat + 2) = S) (hz : σ (11 + 10 * i.toNat + 2) 5 ≠ 0) (hI : ∀ t q : Int, jK (σ (11 + 10 * i.toNat + 2 + 4)) (σ (11 + 10 * i.toNat + 2 + 5)) (σ (11 + 10 * i.toNat + 1)) (skV σ (11 + 10 * i.toNat + 2)) (σ (11 + 10 * i.toNat) 3) t q → jK (σ (11 + 10 * i.toNat + 2 + 4)) (σ (11 + 10 * i.toNat + 2 + 5)) (σ (11 + 10 * i.toNat + 1)) S (σ (11 + 10 * i.toNat) 3) t (q + 1)) : JI (sput τ 0 5 0) (n + 1000) := by
  have e : ∀ a : Nat, a ≠ 0 → a ≠ 11 + 10 * i.toNat + 2 → a ≠ 11 + 10 * i.toNat + 2 + 1 → a ≠ 11 + 10 * i.toNat + 2 + 2 → a ≠ 11 + 10 * i.toNat + 2 + 3 → sput τ 0 5 0 a = σ a := fun a q0 q1 q2 q3 q4 => by
    rw [sput_r q0]
    funext j
    exact hF a j q2 q3 q4 (Or.inl q1)
  refine h.col hi (fun a q1 q2 q3 => e a (by omega) (by omega) (by omega) (by omega) (by omega)) (fun w _ k _ => ?_)
  obtain ⟨t, q, k1, k2⟩ := k hz
  refine ⟨t, q + 1, by omega, ?_⟩
  have ev : skV (sput τ 0 5 0) (11 + 10 * i.toNat + 2) = S := by
    rw [← hV]
    exact skV_congr (by rw [sput_r (by omega)]) (sput_r (by omega)) (sput_r (by omega)) (sput_r (by omega))
  rw [ev, e (11 + 10 * i.toNat + 2 + 4) (by omega) (by omega) (by omega) (by omega) (by omega), e (11 + 10 * i.toNat + 2 + 5) (by omega) (by omega) (by omega) (by omega) (by omega), e (11 + 10 * i.toNat + 1) (by omega) (by omega) (by omega) (by omega) (by omega), e (11 + 10 * i.toNat) (by omega) (by omega) (by omega) (by omega) (by omega)]
  exact hI t q k2
theorem jcol.ch {σ : Mem} {c : Nat} {n x m w : Int} (h : coB σ c n) (hx : -1 ≤ x ∧ x ≤ 39) (h1 : 0 ≤ x → 0 ≤ σ (c + 1) x + m) (h0 : x = -1 → 0 ≤ σ c 4 + m) (h2 : σ c 3 + σ c 4 + m ≤ 10000) (k : jcol σ c w) : jcol (chM σ c x m) c (w + abI m) := by
  have nb := (h.ch (d := abI m) hx (by unfold abI; omega) h0 h1 h2).1
  have ab : 0 ≤ abI m := by unfold abI; omega
  obtain ⟨⟨r1, r2, r3, r4⟩, hk, hs⟩ := h
  obtain ⟨a1, a2, a3, a4⟩ := hk
  have nb1 := nb.1
  have nb2 : smR (chM σ c x m (c + 1)) 0 40 ≤ 10000 := by have := nb.2.1; have := nb.2.2; omega
  by_cases q : 0 ≤ x ∧ x ≤ 39
  · revert nb1 nb2
    unfold chM
    rw [if_pos q]
    obtain ⟨T, hT⟩ : ∃ T : Mem, T = sput (sput σ (c + 1) x (σ (c + 1) x + m)) c 3 (σ c 3 + m) := ⟨_, rfl⟩
    rw [← hT]
    have t0 : ∀ a : Nat, a ≠ c → a ≠ c + 1 → T a = σ a := fun a q1 q2 => by rw [hT, sput_r q1, sput_r q2]
    have t3 : T c 3 = σ c 3 + m := by rw [hT, sput_s]
    have t1 : ∀ j : Int, 0 ≤ j → j < 40 → T (c + 1) j = σ (c + 1) j + if j = x then m else 0 := fun j _ _ => by
      rw [hT, sput_r (show c + 1 ≠ c by omega)]
      by_cases z : j = x
      · rw [z, sput_s, if_pos rfl]
      · rw [sput_j _ _ _ _ _ z, if_neg z]; omega
    have ec1 : shM T (c + 2) x m (c + 1) = T (c + 1) := shM_fr (c + 1) (by omega) (by omega) (by omega)
    have ec0 : shM T (c + 2) x m c = T c := shM_fr c (by omega) (by omega) (by omega)
    rw [ec1]
    intro nb1 nb2
    intro z9
    have e2 := t0 (c + 2) (by omega) (by omega)
    have e6 := t0 (c + 2 + 4) (by omega) (by omega)
    have e7 := t0 (c + 2 + 5) (by omega) (by omega)
    have e3 := t0 (c + 2 + 1) (by omega) (by omega)
    have e4 := t0 (c + 2 + 2) (by omega) (by omega)
    have e5 := t0 (c + 2 + 3) (by omega) (by omega)
    rw [ec1, ec0]
    by_cases z1 : 0 < σ (c + 2) 5
    · obtain ⟨g, g0⟩ := a4 (by omega)
      obtain ⟨t, p, k1, k2⟩ := k (by omega)
      refine ⟨t + abI m, p, by omega, ?_⟩
      rw [t3]
      unfold shM
      rw [e2, e6, if_pos z1]
      by_cases z2 : σ (c + 2 + 4) x = 0
      · rw [if_pos z2]
        obtain ⟨u, hu⟩ : ∃ u : Mem, u = sput (sput T (c + 2) 6 (σ (c + 2) 6 + if 0 ≤ m then m else -m)) (c + 2 + 2) (spOf (T (c + 2 + 1)) (σ (c + 2) 5) x) (T (c + 2 + 2) (spOf (T (c + 2 + 1)) (σ (c + 2) 5) x) + m) := ⟨_, rfl⟩
        rw [← hu]
        have u0 : ∀ a : Nat, a ≠ c + 2 → a ≠ c + 2 + 2 → u a = T a := fun a q1 q2 => by rw [hu, sput_r q2, sput_r q1]
        have u5 : u (c + 2) 5 = σ (c + 2) 5 := by rw [hu, sput_r (by omega), sput_j _ _ _ _ _ (by decide), e2]
        have esp : spOf (T (c + 2 + 1)) (σ (c + 2) 5) x = spOf (skV σ (c + 2)).2.1 (skV σ (c + 2)).1 x := by rw [e3]; exact (spOf_mk).symm
        rw [u0 (c + 2 + 4) (by omega) (by omega), u0 (c + 2 + 5) (by omega) (by omega), e6, e7]
        exact jK_row (S := skV σ (c + 2)) (S' := skV u (c + 2)) (x := x) (m := m) g.1 (by omega) z2 nb1 nb2 t1 u5 (by unfold skV; rw [u5, u0 (c + 2 + 1) (by omega) (by omega), e3]) (fun j j0 j1 => by
          have k1 : j < u (c + 2) 5 := by rw [u5]; exact j1
          rw [(sk_rows j0 k1).2.1, (sk_rows j0 j1).2.1, ← esp, hu]
          by_cases z : j = spOf (T (c + 2 + 1)) (σ (c + 2) 5) x
          · rw [if_pos z, z, sput_s, e4]
          · rw [if_neg z, sput_j _ _ _ _ _ z, sput_r (by omega), e4]; omega) k2
      · rw [if_neg z2]
        obtain ⟨u, hu⟩ : ∃ u : Mem, u = sput (sput T (c + 2) 6 (σ (c + 2) 6 + if 0 ≤ m then m else -m)) (c + 2 + 5) x (T (c + 2 + 5) x + m) := ⟨_, rfl⟩
        rw [← hu]
        have u0 : ∀ a : Nat, a ≠ c + 2 → a ≠ c + 2 + 5 → u a = T a := fun a q1 q2 => by rw [hu, sput_r q2, sput_r q1]
        have u5 : u (c + 2) 5 = σ (c + 2) 5 := by rw [hu, sput_r (by omega), sput_j _ _ _ _ _ (by decide), e2]
        have u7 : ∀ j : Int, 0 ≤ j → j < 40 → u (c + 2 + 5) j = σ (c + 2 + 5) j + if j = x then m else 0 := fun j _ _ => by
          rw [hu]
          by_cases z : j = x
          · rw [z, sput_s, if_pos rfl, e7]
          · rw [sput_j _ _ _ _ _ z, if_neg z, sput_r (by omega), e7]; omega
        have vs : skV u (c + 2) = skV σ (c + 2) := skV_congr u5 (by rw [u0 _ (by omega) (by omega), e3]) (by rw [u0 _ (by omega) (by omega), e4]) (by rw [u0 _ (by omega) (by omega), e5])
        rw [u0 (c + 2 + 4) (by omega) (by omega), e6, vs]
        exact jK_rowh (x := x) (m := m) g.1 (by omega) z2 nb1 nb2 t1 u7 k2
    · exfalso
      apply z9
      unfold shM
      rw [e2, if_neg z1, e2]
      omega
  · unfold chM
    rw [if_neg q]
    refine jcol_mono (w := w) (by omega) ?_
    unfold jcol at *
    rw [sput_j _ _ _ _ _ (show (3 : Int) ≠ 4 by decide), sput_r (show c + 1 ≠ c by omega), sput_r (show c + 2 ≠ c by omega), sput_r (show c + 2 + 4 ≠ c by omega), sput_r (show c + 2 + 5 ≠ c by omega), skV_congr (u := sput σ c 4 (σ c 4 + m)) (σ := σ) (p := c + 2) (by rw [sput_r (show c + 2 ≠ c by omega)]) (sput_r (by omega)) (sput_r (by omega)) (sput_r (by omega))]
    exact k
theorem jcol.en {σ : Mem} {c : Nat} {n x m w : Int} (h : coB σ c n) (hx : -1 ≤ x ∧ x ≤ 39) (hm : 0 ≤ m) (h2 : σ c 3 + σ c 4 + m ≤ 10000) (k : jcol σ c w) : jcol (enM σ c x m) c (w + m) := by
  have r := h.1
  have g := jcol.ch (x := x) (m := m) h hx (fun q => by have := r.1 x q (by omega); omega) (fun _ => by have := r.2.2.1; omega) h2 k
  rw [show abI m = m by unfold abI; omega] at g
  unfold enM
  split
  · exact g
  · exact jcol_congr (fun a q1 q2 => smT_fr (s := c + 8) (val := x) m.toNat (chM σ c x m) a (by omega) (by omega)) g
theorem pk_J {σ : Mem} {c : Nat} {row : Int → Int} {n s w : Int} (h : coB σ c n) (hr : ∀ k : Int, 0 ≤ k → k < s → -1 ≤ row (100000 + k) ∧ row (100000 + k) ≤ 39) (h2 : σ c 3 + σ c 4 + s ≤ 10000) (k : jcol σ c w) : ∀ m : Nat, (m : Int) ≤ s → jcol (itrR (pkF c row) 0 m σ) c (w + m) := by
  intro m
  induction m with
  | zero => intro _; rw [itrR_nil (by omega)]; exact jcol_mono (by omega) k
  | succ m ih =>
    intro hm
    have g := ih (by omega)
    obtain ⟨k1, k2, k3⟩ := pk_B h hr h2 m (by omega)
    rw [show ((m + 1 : Nat) : Int) = (m : Int) + 1 by omega, itrR_right (by omega)]
    generalize itrR (pkF c row) 0 m σ = τ at *
    unfold pkF
    have z := jcol.en (x := row (100000 + m)) (m := 1) k1 (hr m (by omega) (by omega)) (by decide) (by omega) g
    rw [show w + ((m : Int) + 1) = w + m + 1 by omega]
    exact z
set_option maxHeartbeats 1000000 in
theorem ij_status {σ u : Mem} {z n N : Int}  (hB : BI σ N) (hn : 0 ≤ N ∧ N ≤ 511000) (hJ : JI σ n)  (hc : z = σ 0 5 ∧ u = σ) : JI u (n + 1000) := by
  obtain ⟨-, hu⟩ := hc
  rw [hu]
  exact hJ.id
set_option maxHeartbeats 1000000 in
theorem ij_top {σ u : Mem} {z n N : Int}  (hB : BI σ N) (hn : 0 ≤ N ∧ N ≤ 511000) (hJ : JI σ n)  (hc : z = σ 51 100000 ∧ u = σ) : JI u (n + 1000) := by
  obtain ⟨-, hu⟩ := hc
  rw [hu]
  exact hJ.id
set_option maxHeartbeats 1000000 in
theorem ij_bottom {σ u : Mem} {z n N : Int}  (hB : BI σ N) (hn : 0 ≤ N ∧ N ≤ 511000) (hJ : JI σ n)  (hc : z = σ 51 100001 ∧ u = σ) : JI u (n + 1000) := by
  obtain ⟨-, hu⟩ := hc
  rw [hu]
  exact hJ.id
set_option maxHeartbeats 1000000 in
theorem ij_truly {σ u : Mem} {z n N : Int} {i1 x1 : Int} (hB : BI σ N) (hn : 0 ≤ N ∧ N ≤ 511000) (hJ : JI σ n)  (hc : (if ¬ ((0 ≤ i1 ∧ i1 < 3) ∧ (-1 ≤ x1 ∧ x1 ≤ 39)) then (z = -1 ∧ u = sput σ 0 5 1) else (z = (if 0 ≤ x1 ∧ x1 ≤ 39 then σ ((11 + 10 * i1.toNat) + 1) x1 else σ (11 + 10 * i1.toNat) 4) ∧ u = sput σ 0 5 0))) : JI u (n + 1000) := by
  by_cases c1 : ¬ ((0 ≤ i1 ∧ i1 < 3) ∧ (-1 ≤ x1 ∧ x1 ≤ 39))
  · rw [if_pos c1] at hc
    obtain ⟨-, hu⟩ := hc
    rw [hu]
    exact hJ.st
  · rw [if_neg c1] at hc
    obtain ⟨-, hu⟩ := hc
    rw [hu]
    exact hJ.st
set_option maxHeartbeats 1000000 in
theorem ij_rows {σ u : Mem} {z n N : Int} {i1 w1 : Int} (hB : BI σ N) (hn : 0 ≤ N ∧ N ≤ 511000) (hJ : JI σ n)  (hc : (if ¬ (0 ≤ i1 ∧ i1 < 3) then (z = -1 ∧ u = sput σ 0 5 1) else (if w1 = 0 then (z = σ (11 + 10 * i1.toNat) 3 ∧ u = sput σ 0 5 0) else (if w1 = 1 then (z = σ (11 + 10 * i1.toNat) 3 + σ (11 + 10 * i1.toNat) 4 ∧ u = sput σ 0 5 0) else (if w1 = 2 then (z = smR (fun v => if 0 < σ ((11 + 10 * i1.toNat) + 1) v then 1 else 0) 0 40 ∧ u = sput σ 0 5 0) else (z = -1 ∧ u = sput σ 0 5 1)))))) : JI u (n + 1000) := by
  by_cases c1 : ¬ (0 ≤ i1 ∧ i1 < 3)
  · rw [if_pos c1] at hc
    obtain ⟨-, hu⟩ := hc
    rw [hu]
    exact hJ.st
  · rw [if_neg c1] at hc
    by_cases c2 : w1 = 0
    · rw [if_pos c2] at hc
      obtain ⟨-, hu⟩ := hc
      rw [hu]
      exact hJ.st
    · rw [if_neg c2] at hc
      by_cases c3 : w1 = 1
      · rw [if_pos c3] at hc
        obtain ⟨-, hu⟩ := hc
        rw [hu]
        exact hJ.st
      · rw [if_neg c3] at hc
        by_cases c4 : w1 = 2
        · rw [if_pos c4] at hc
          obtain ⟨-, hu⟩ := hc
          rw [hu]
          exact hJ.st
        · rw [if_neg c4] at hc
          obtain ⟨-, hu⟩ := hc
          rw [hu]
          exact hJ.st
set_option maxHeartbeats 1000000 in
theorem ij_read {σ u : Mem} {z n N : Int} {i1 p1 : Int} (hB : BI σ N) (hn : 0 ≤ N ∧ N ≤ 511000) (hJ : JI σ n)  (hc : (if ¬ (0 ≤ i1 ∧ i1 < 4) then (z = -1 ∧ u = sput σ 0 5 1) else (if σ (3 + 2 * i1.toNat) 1 = 0 then (z = -1 ∧ u = sput σ 0 5 2) else (if ¬ (0 ≤ p1 ∧ p1 ≤ σ (3 + 2 * i1.toNat) 3 - 1) then (z = -1 ∧ u = sput σ 0 5 3) else (z = σ ((3 + 2 * i1.toNat) + 1) (100000 + p1) ∧ u = sput σ 0 5 0))))) : JI u (n + 1000) := by
  by_cases c1 : ¬ (0 ≤ i1 ∧ i1 < 4)
  · rw [if_pos c1] at hc
    obtain ⟨-, hu⟩ := hc
    rw [hu]
    exact hJ.st
  · rw [if_neg c1] at hc
    by_cases c2 : σ (3 + 2 * i1.toNat) 1 = 0
    · rw [if_pos c2] at hc
      obtain ⟨-, hu⟩ := hc
      rw [hu]
      exact hJ.st
    · rw [if_neg c2] at hc
      by_cases c3 : ¬ (0 ≤ p1 ∧ p1 ≤ σ (3 + 2 * i1.toNat) 3 - 1)
      · rw [if_pos c3] at hc
        obtain ⟨-, hu⟩ := hc
        rw [hu]
        exact hJ.st
      · rw [if_neg c3] at hc
        obtain ⟨-, hu⟩ := hc
        rw [hu]
        exact hJ.st
set_option maxHeartbeats 1000000 in
theorem ij_sketch {σ u : Mem} {z n N : Int} {i1 w1 : Int} (hB : BI σ N) (hn : 0 ≤ N ∧ N ≤ 511000) (hJ : JI σ n)  (hc : (if ¬ ((0 ≤ i1 ∧ i1 < 3) ∧ (0 ≤ w1 ∧ w1 ≤ 3)) then (z = -1 ∧ u = sput σ 0 5 1) else (if ¬ 0 < σ (11 + 10 * i1.toNat + 2) 5 then (z = -1 ∧ u = sput σ 0 5 5) else (if w1 = 0 then (z = σ (11 + 10 * i1.toNat + 2) 5 ∧ u = sput σ 0 5 0) else (if w1 = 1 then (z = 40 - ltC (σ ((11 + 10 * i1.toNat + 2) + 4)) 0 39 ∧ u = sput σ 0 5 0) else (if w1 = 2 then (z = smR (σ ((11 + 10 * i1.toNat + 2) + 3)) 0 (σ (11 + 10 * i1.toNat + 2) 5) ∧ u = sput σ 0 5 0) else (z = smR (σ ((11 + 10 * i1.toNat + 2) + 2)) 0 (σ (11 + 10 * i1.toNat + 2) 5) ∧ u = sput σ 0 5 0))))))) : JI u (n + 1000) := by
  by_cases c1 : ¬ ((0 ≤ i1 ∧ i1 < 3) ∧ (0 ≤ w1 ∧ w1 ≤ 3))
  · rw [if_pos c1] at hc
    obtain ⟨-, hu⟩ := hc
    rw [hu]
    exact hJ.st
  · rw [if_neg c1] at hc
    by_cases c2 : ¬ 0 < σ (11 + 10 * i1.toNat + 2) 5
    · rw [if_pos c2] at hc
      obtain ⟨-, hu⟩ := hc
      rw [hu]
      exact hJ.st
    · rw [if_neg c2] at hc
      by_cases c3 : w1 = 0
      · rw [if_pos c3] at hc
        obtain ⟨-, hu⟩ := hc
        rw [hu]
        exact hJ.st
      · rw [if_neg c3] at hc
        by_cases c4 : w1 = 1
        · rw [if_pos c4] at hc
          obtain ⟨-, hu⟩ := hc
          rw [hu]
          exact hJ.st
        · rw [if_neg c4] at hc
          by_cases c5 : w1 = 2
          · rw [if_pos c5] at hc
            obtain ⟨-, hu⟩ := hc
            rw [hu]
            exact hJ.st
          · rw [if_neg c5] at hc
            obtain ⟨-, hu⟩ := hc
            rw [hu]
            exact hJ.st
set_option maxHeartbeats 1000000 in
theorem ij_span {σ u : Mem} {z n N : Int} {i1 k1 w1 : Int} (hB : BI σ N) (hn : 0 ≤ N ∧ N ≤ 511000) (hJ : JI σ n)  (hc : (if ¬ (0 ≤ i1 ∧ i1 < 3) then (z = -1 ∧ u = sput σ 0 5 1) else (if ¬ 0 < σ (11 + 10 * i1.toNat + 2) 5 then (z = -1 ∧ u = sput σ 0 5 5) else (if ¬ (0 ≤ k1 ∧ k1 ≤ σ (11 + 10 * i1.toNat + 2) 5 - 1) then (z = -1 ∧ u = sput σ 0 5 1) else (if w1 = 0 then (z = foF (σ ((11 + 10 * i1.toNat + 2) + 1)) k1 ∧ u = sput σ 0 5 0) else (if w1 = 1 then (z = σ ((11 + 10 * i1.toNat + 2) + 1) k1 ∧ u = sput σ 0 5 0) else (if w1 = 2 then (z = σ ((11 + 10 * i1.toNat + 2) + 2) k1 ∧ u = sput σ 0 5 0) else (if w1 = 3 then (z = σ ((11 + 10 * i1.toNat + 2) + 3) k1 ∧ u = sput σ 0 5 0) else (if w1 = 4 then (z = loN (σ ((11 + 10 * i1.toNat + 2) + 4)) (σ ((11 + 10 * i1.toNat + 2) + 1)) k1 ∧ u = sput σ 0 5 0) else (z = -1 ∧ u = sput σ 0 5 1)))))))))) : JI u (n + 1000) := by
  by_cases c1 : ¬ (0 ≤ i1 ∧ i1 < 3)
  · rw [if_pos c1] at hc
    obtain ⟨-, hu⟩ := hc
    rw [hu]
    exact hJ.st
  · rw [if_neg c1] at hc
    by_cases c2 : ¬ 0 < σ (11 + 10 * i1.toNat + 2) 5
    · rw [if_pos c2] at hc
      obtain ⟨-, hu⟩ := hc
      rw [hu]
      exact hJ.st
    · rw [if_neg c2] at hc
      by_cases c3 : ¬ (0 ≤ k1 ∧ k1 ≤ σ (11 + 10 * i1.toNat + 2) 5 - 1)
      · rw [if_pos c3] at hc
        obtain ⟨-, hu⟩ := hc
        rw [hu]
        exact hJ.st
      · rw [if_neg c3] at hc
        by_cases c4 : w1 = 0
        · rw [if_pos c4] at hc
          obtain ⟨-, hu⟩ := hc
          rw [hu]
          exact hJ.st
        · rw [if_neg c4] at hc
          by_cases c5 : w1 = 1
          · rw [if_pos c5] at hc
            obtain ⟨-, hu⟩ := hc
            rw [hu]
            exact hJ.st
          · rw [if_neg c5] at hc
            by_cases c6 : w1 = 2
            · rw [if_pos c6] at hc
              obtain ⟨-, hu⟩ := hc
              rw [hu]
              exact hJ.st
            · rw [if_neg c6] at hc
              by_cases c7 : w1 = 3
              · rw [if_pos c7] at hc
                obtain ⟨-, hu⟩ := hc
                rw [hu]
                exact hJ.st
              · rw [if_neg c7] at hc
                by_cases c8 : w1 = 4
                · rw [if_pos c8] at hc
                  obtain ⟨-, hu⟩ := hc
                  rw [hu]
                  exact hJ.st
                · rw [if_neg c8] at hc
                  obtain ⟨-, hu⟩ := hc
                  rw [hu]
                  exact hJ.st
set_option maxHeartbeats 1000000 in
theorem ij_heavy {σ u : Mem} {z n N : Int} {i1 x1 : Int} (hB : BI σ N) (hn : 0 ≤ N ∧ N ≤ 511000) (hJ : JI σ n)  (hc : (if ¬ ((0 ≤ i1 ∧ i1 < 3) ∧ (0 ≤ x1 ∧ x1 ≤ 39)) then (z = -1 ∧ u = sput σ 0 5 1) else (if ¬ 0 < σ (11 + 10 * i1.toNat + 2) 5 then (z = -1 ∧ u = sput σ 0 5 5) else (if σ ((11 + 10 * i1.toNat + 2) + 4) x1 = 0 then (z = -1 ∧ u = sput σ 0 5 6) else (z = σ ((11 + 10 * i1.toNat + 2) + 5) x1 ∧ u = sput σ 0 5 0))))) : JI u (n + 1000) := by
  by_cases c1 : ¬ ((0 ≤ i1 ∧ i1 < 3) ∧ (0 ≤ x1 ∧ x1 ≤ 39))
  · rw [if_pos c1] at hc
    obtain ⟨-, hu⟩ := hc
    rw [hu]
    exact hJ.st
  · rw [if_neg c1] at hc
    by_cases c2 : ¬ 0 < σ (11 + 10 * i1.toNat + 2) 5
    · rw [if_pos c2] at hc
      obtain ⟨-, hu⟩ := hc
      rw [hu]
      exact hJ.st
    · rw [if_neg c2] at hc
      by_cases c3 : σ ((11 + 10 * i1.toNat + 2) + 4) x1 = 0
      · rw [if_pos c3] at hc
        obtain ⟨-, hu⟩ := hc
        rw [hu]
        exact hJ.st
      · rw [if_neg c3] at hc
        obtain ⟨-, hu⟩ := hc
        rw [hu]
        exact hJ.st
set_option maxHeartbeats 1000000 in
theorem ij_drifts {σ u : Mem} {z n N : Int} {i1 : Int} (hB : BI σ N) (hn : 0 ≤ N ∧ N ≤ 511000) (hJ : JI σ n)  (hc : (if ¬ (0 ≤ i1 ∧ i1 < 3) then (z = -1 ∧ u = sput σ 0 5 1) else (if ¬ 0 < σ (11 + 10 * i1.toNat + 2) 5 then (z = -1 ∧ u = sput σ 0 5 5) else (z = σ (11 + 10 * i1.toNat + 2) 6 ∧ u = sput σ 0 5 0)))) : JI u (n + 1000) := by
  by_cases c1 : ¬ (0 ≤ i1 ∧ i1 < 3)
  · rw [if_pos c1] at hc
    obtain ⟨-, hu⟩ := hc
    rw [hu]
    exact hJ.st
  · rw [if_neg c1] at hc
    by_cases c2 : ¬ 0 < σ (11 + 10 * i1.toNat + 2) 5
    · rw [if_pos c2] at hc
      obtain ⟨-, hu⟩ := hc
      rw [hu]
      exact hJ.st
    · rw [if_neg c2] at hc
      obtain ⟨-, hu⟩ := hc
      rw [hu]
      exact hJ.st
set_option maxHeartbeats 1000000 in
theorem ij_bound {σ u : Mem} {z n N : Int} {i1 a1 a2 w1 : Int} (hB : BI σ N) (hn : 0 ≤ N ∧ N ≤ 511000) (hJ : JI σ n)  (hc : (if ¬ ((0 ≤ i1 ∧ i1 < 3) ∧ (0 ≤ a1 ∧ a1 ≤ a2 ∧ a2 ≤ 39)) then (z = -1 ∧ u = sput σ 0 5 1) else (if ¬ 0 < σ (11 + 10 * i1.toNat + 2) 5 then (z = -1 ∧ u = sput σ 0 5 5) else (if w1 = 0 then (z = loV σ (11 + 10 * i1.toNat + 2) a1 a2 ∧ u = sput σ 0 5 0) else (z = hiV σ (11 + 10 * i1.toNat + 2) a1 a2 ∧ u = sput σ 0 5 0))))) : JI u (n + 1000) := by
  by_cases c1 : ¬ ((0 ≤ i1 ∧ i1 < 3) ∧ (0 ≤ a1 ∧ a1 ≤ a2 ∧ a2 ≤ 39))
  · rw [if_pos c1] at hc
    obtain ⟨-, hu⟩ := hc
    rw [hu]
    exact hJ.st
  · rw [if_neg c1] at hc
    by_cases c2 : ¬ 0 < σ (11 + 10 * i1.toNat + 2) 5
    · rw [if_pos c2] at hc
      obtain ⟨-, hu⟩ := hc
      rw [hu]
      exact hJ.st
    · rw [if_neg c2] at hc
      by_cases c3 : w1 = 0
      · rw [if_pos c3] at hc
        obtain ⟨-, hu⟩ := hc
        rw [hu]
        exact hJ.st
      · rw [if_neg c3] at hc
        obtain ⟨-, hu⟩ := hc
        rw [hu]
        exact hJ.st
set_option maxHeartbeats 1000000 in
theorem ij_drawn {σ u : Mem} {z n N : Int} {i1 k1 : Int} (hB : BI σ N) (hn : 0 ≤ N ∧ N ≤ 511000) (hJ : JI σ n)  (hc : (if ¬ ((0 ≤ i1 ∧ i1 < 3) ∧ (0 ≤ k1 ∧ k1 ≤ 15)) then (z = -1 ∧ u = sput σ 0 5 1) else (if min (σ (11 + 10 * i1.toNat + 8) 3) (σ (11 + 10 * i1.toNat + 8) 1) ≤ k1 then (z = -1 ∧ u = sput σ 0 5 6) else (z = (if σ ((11 + 10 * i1.toNat + 8) + 1) k1 = -1 then -2 else σ ((11 + 10 * i1.toNat + 8) + 1) k1) ∧ u = sput σ 0 5 0)))) : JI u (n + 1000) := by
  by_cases c1 : ¬ ((0 ≤ i1 ∧ i1 < 3) ∧ (0 ≤ k1 ∧ k1 ≤ 15))
  · rw [if_pos c1] at hc
    obtain ⟨-, hu⟩ := hc
    rw [hu]
    exact hJ.st
  · rw [if_neg c1] at hc
    by_cases c2 : min (σ (11 + 10 * i1.toNat + 8) 3) (σ (11 + 10 * i1.toNat + 8) 1) ≤ k1
    · rw [if_pos c2] at hc
      obtain ⟨-, hu⟩ := hc
      rw [hu]
      exact hJ.st
    · rw [if_neg c2] at hc
      obtain ⟨-, hu⟩ := hc
      rw [hu]
      exact hJ.st
set_option maxHeartbeats 1000000 in
theorem ij_harm {σ u : Mem} {z n N : Int} {i1 a1 a2 i2 b1 b2 : Int} (hB : BI σ N) (hn : 0 ≤ N ∧ N ≤ 511000) (hJ : JI σ n)  (hc : (if ¬ ((0 ≤ i1 ∧ i1 < 3) ∧ (0 ≤ i2 ∧ i2 < 3) ∧ (0 ≤ a1 ∧ a1 ≤ a2 ∧ a2 ≤ 39) ∧ (0 ≤ b1 ∧ b1 ≤ b2 ∧ b2 ≤ 39)) then (z = -1 ∧ u = sput σ 0 5 1) else (if ¬ (0 < σ (11 + 10 * i1.toNat + 2) 5 ∧ 0 < σ (11 + 10 * i2.toNat + 2) 5) then (z = -1 ∧ u = sput σ 0 5 5) else (z = sgI (frN (hiV σ (11 + 10 * i1.toNat + 2) a1 a2) (max 1 (loV σ (11 + 10 * i2.toNat + 2) b1 b2))) ∧ u = sput (sput (sput σ 51 100000 (frN (hiV σ (11 + 10 * i1.toNat + 2) a1 a2) (max 1 (loV σ (11 + 10 * i2.toNat + 2) b1 b2)))) 51 100001 (frD (hiV σ (11 + 10 * i1.toNat + 2) a1 a2) (max 1 (loV σ (11 + 10 * i2.toNat + 2) b1 b2)))) 0 5 0)))) : JI u (n + 1000) := by
  by_cases c1 : ¬ ((0 ≤ i1 ∧ i1 < 3) ∧ (0 ≤ i2 ∧ i2 < 3) ∧ (0 ≤ a1 ∧ a1 ≤ a2 ∧ a2 ≤ 39) ∧ (0 ≤ b1 ∧ b1 ≤ b2 ∧ b2 ≤ 39))
  · rw [if_pos c1] at hc
    obtain ⟨-, hu⟩ := hc
    rw [hu]
    exact hJ.st
  · rw [if_neg c1] at hc
    by_cases c2 : ¬ (0 < σ (11 + 10 * i1.toNat + 2) 5 ∧ 0 < σ (11 + 10 * i2.toNat + 2) 5)
    · rw [if_pos c2] at hc
      obtain ⟨-, hu⟩ := hc
      rw [hu]
      exact hJ.st
    · rw [if_neg c2] at hc
      obtain ⟨-, hu⟩ := hc
      rw [hu]
      exact hJ.same (fun a q1 q2 => by rw [sput_r (by omega), sput_r (by omega), sput_r (by omega)])
set_option maxHeartbeats 1000000 in
theorem ij_guess {σ u : Mem} {z n N : Int} {i1 a1 a2 : Int} (hB : BI σ N) (hn : 0 ≤ N ∧ N ≤ 511000) (hJ : JI σ n)  (hc : (if ¬ ((0 ≤ i1 ∧ i1 < 3) ∧ (0 ≤ a1 ∧ a1 ≤ a2 ∧ a2 ≤ 39)) then (z = -1 ∧ u = sput σ 0 5 1) else (if ¬ 0 < σ (11 + 10 * i1.toNat + 2) 5 then (z = -1 ∧ u = sput σ 0 5 5) else (z = sgI (guV σ (11 + 10 * i1.toNat + 2) a1 a2).1 ∧ ∃ τ : Mem, (∀ a : Nat, a ≠ 51 → τ a = σ a) ∧ τ 51 100000 = (guV σ (11 + 10 * i1.toNat + 2) a1 a2).1 ∧ τ 51 100001 = (guV σ (11 + 10 * i1.toNat + 2) a1 a2).2 ∧ u = sput τ 0 5 0)))) : JI u (n + 1000) := by
  by_cases c1 : ¬ ((0 ≤ i1 ∧ i1 < 3) ∧ (0 ≤ a1 ∧ a1 ≤ a2 ∧ a2 ≤ 39))
  · rw [if_pos c1] at hc
    obtain ⟨-, hu⟩ := hc
    rw [hu]
    exact hJ.st
  · rw [if_neg c1] at hc
    by_cases c2 : ¬ 0 < σ (11 + 10 * i1.toNat + 2) 5
    · rw [if_pos c2] at hc
      obtain ⟨-, hu⟩ := hc
      rw [hu]
      exact hJ.st
    · rw [if_neg c2] at hc
      obtain ⟨-, τ, hτ, -, -, hu⟩ := hc
      rw [hu]
      exact hJ.same (fun a q1 q2 => by rw [sput_r (by omega), hτ a (by omega)])
set_option maxHeartbeats 1000000 in
theorem ij_join {σ u : Mem} {z n N : Int} {i1 i2 : Int} (hB : BI σ N) (hn : 0 ≤ N ∧ N ≤ 511000) (hJ : JI σ n)  (hc : (if ¬ ((0 ≤ i1 ∧ i1 < 3) ∧ (0 ≤ i2 ∧ i2 < 3)) then (z = -1 ∧ u = sput σ 0 5 1) else (if ¬ (0 < σ (11 + 10 * i1.toNat + 2) 5 ∧ 0 < σ (11 + 10 * i2.toNat + 2) 5) then (z = -1 ∧ u = sput σ 0 5 5) else (z = sgI (joV σ (11 + 10 * i1.toNat + 2) (11 + 10 * i2.toNat + 2)).1 ∧ ∃ τ : Mem, (∀ a : Nat, a ≠ 51 → τ a = σ a) ∧ τ 51 100000 = (joV σ (11 + 10 * i1.toNat + 2) (11 + 10 * i2.toNat + 2)).1 ∧ τ 51 100001 = (joV σ (11 + 10 * i1.toNat + 2) (11 + 10 * i2.toNat + 2)).2 ∧ u = sput τ 0 5 0)))) : JI u (n + 1000) := by
  by_cases c1 : ¬ ((0 ≤ i1 ∧ i1 < 3) ∧ (0 ≤ i2 ∧ i2 < 3))
  · rw [if_pos c1] at hc
    obtain ⟨-, hu⟩ := hc
    rw [hu]
    exact hJ.st
  · rw [if_neg c1] at hc
    by_cases c2 : ¬ (0 < σ (11 + 10 * i1.toNat + 2) 5 ∧ 0 < σ (11 + 10 * i2.toNat + 2) 5)
    · rw [if_pos c2] at hc
      obtain ⟨-, hu⟩ := hc
      rw [hu]
      exact hJ.st
    · rw [if_neg c2] at hc
      obtain ⟨-, τ, hτ, -, -, hu⟩ := hc
      rw [hu]
      exact hJ.same (fun a q1 q2 => by rw [sput_r (by omega), hτ a (by omega)])
set_option maxHeartbeats 1000000 in
theorem ij_tray {σ u : Mem} {z n N : Int} {i1 s1 m1 : Int} (hB : BI σ N) (hn : 0 ≤ N ∧ N ≤ 511000) (hJ : JI σ n)  (hc : (if (0 ≤ i1 ∧ i1 < 4) ∧ (0 ≤ s1 ∧ s1 ≤ 3) ∧ (0 ≤ m1 ∧ m1 ≤ 100) then (z = 1 ∧ (∀ j : Int, 0 ≤ j → j < 100 → u ((3 + 2 * i1.toNat) + 1) (100000 + j) = 0) ∧ (∀ a : Nat, a ≠ (3 + 2 * i1.toNat) + 1 → u a = sput (sput (sput (sput σ (3 + 2 * i1.toNat) 1 1) (3 + 2 * i1.toNat) 2 s1) (3 + 2 * i1.toNat) 3 m1) 0 5 0 a)) else (z = 0 ∧ u = sput σ 0 5 1))) : JI u (n + 1000) := by
  by_cases c1 : (0 ≤ i1 ∧ i1 < 4) ∧ (0 ≤ s1 ∧ s1 ≤ 3) ∧ (0 ≤ m1 ∧ m1 ≤ 100)
  · rw [if_pos c1] at hc
    obtain ⟨-, -, hF⟩ := hc
    exact hJ.same (fun a q1 q2 => by rw [hF a (by omega), sput_r (by omega), sput_r (by omega), sput_r (by omega), sput_r (by omega)])
  · rw [if_neg c1] at hc
    obtain ⟨-, hu⟩ := hc
    rw [hu]
    exact hJ.st
set_option maxHeartbeats 1000000 in
theorem ij_write {σ u : Mem} {z n N : Int} {i1 p1 x1 : Int} (hB : BI σ N) (hn : 0 ≤ N ∧ N ≤ 511000) (hJ : JI σ n)  (hc : (if ¬ (0 ≤ i1 ∧ i1 < 4) then (z = 0 ∧ u = sput σ 0 5 1) else (if σ (3 + 2 * i1.toNat) 1 = 0 then (z = 0 ∧ u = sput σ 0 5 2) else (if ¬ (0 ≤ p1 ∧ p1 ≤ σ (3 + 2 * i1.toNat) 3 - 1) then (z = 0 ∧ u = sput σ 0 5 3) else (z = 1 ∧ u = sput (sput σ ((3 + 2 * i1.toNat) + 1) (100000 + p1) (fitI (σ (3 + 2 * i1.toNat) 2) x1)) 0 5 0))))) : JI u (n + 1000) := by
  by_cases c1 : ¬ (0 ≤ i1 ∧ i1 < 4)
  · rw [if_pos c1] at hc
    obtain ⟨-, hu⟩ := hc
    rw [hu]
    exact hJ.st
  · rw [if_neg c1] at hc
    by_cases c2 : σ (3 + 2 * i1.toNat) 1 = 0
    · rw [if_pos c2] at hc
      obtain ⟨-, hu⟩ := hc
      rw [hu]
      exact hJ.st
    · rw [if_neg c2] at hc
      by_cases c3 : ¬ (0 ≤ p1 ∧ p1 ≤ σ (3 + 2 * i1.toNat) 3 - 1)
      · rw [if_pos c3] at hc
        obtain ⟨-, hu⟩ := hc
        rw [hu]
        exact hJ.st
      · rw [if_neg c3] at hc
        obtain ⟨-, hu⟩ := hc
        rw [hu]
        exact hJ.same (fun a q1 q2 => by rw [sput_r (by omega), sput_r (by omega)])
set_option maxHeartbeats 1000000 in
theorem ij_pour {σ u : Mem} {z n N : Int} {i1 p1 i2 p2 m1 : Int} (hB : BI σ N) (hn : 0 ≤ N ∧ N ≤ 511000) (hJ : JI σ n)  (hc : (if ¬ ((0 ≤ i1 ∧ i1 < 4) ∧ (0 ≤ i2 ∧ i2 < 4) ∧ 0 ≤ p1 ∧ 0 ≤ p2 ∧ 0 ≤ m1) then (z = 0 ∧ u = sput σ 0 5 1) else (if σ (3 + 2 * i1.toNat) 1 = 0 ∨ σ (3 + 2 * i2.toNat) 1 = 0 then (z = 0 ∧ u = sput σ 0 5 2) else (if σ (3 + 2 * i1.toNat) 2 ≠ σ (3 + 2 * i2.toNat) 2 then (z = 0 ∧ u = sput σ 0 5 7) else (if ¬ (p1 ≤ σ (3 + 2 * i1.toNat) 3 - m1 ∧ p2 ≤ σ (3 + 2 * i2.toNat) 3 - m1) then (z = 0 ∧ u = sput σ 0 5 3) else (z = 1 ∧ u = sput (mset σ ((3 + 2 * i2.toNat) + 1) (mcpy (σ ((3 + 2 * i1.toNat) + 1)) (σ ((3 + 2 * i2.toNat) + 1)) (100000 + p1) (100000 + p2) m1)) 0 5 0)))))) : JI u (n + 1000) := by
  by_cases c1 : ¬ ((0 ≤ i1 ∧ i1 < 4) ∧ (0 ≤ i2 ∧ i2 < 4) ∧ 0 ≤ p1 ∧ 0 ≤ p2 ∧ 0 ≤ m1)
  · rw [if_pos c1] at hc
    obtain ⟨-, hu⟩ := hc
    rw [hu]
    exact hJ.st
  · rw [if_neg c1] at hc
    by_cases c2 : σ (3 + 2 * i1.toNat) 1 = 0 ∨ σ (3 + 2 * i2.toNat) 1 = 0
    · rw [if_pos c2] at hc
      obtain ⟨-, hu⟩ := hc
      rw [hu]
      exact hJ.st
    · rw [if_neg c2] at hc
      by_cases c3 : σ (3 + 2 * i1.toNat) 2 ≠ σ (3 + 2 * i2.toNat) 2
      · rw [if_pos c3] at hc
        obtain ⟨-, hu⟩ := hc
        rw [hu]
        exact hJ.st
      · rw [if_neg c3] at hc
        by_cases c4 : ¬ (p1 ≤ σ (3 + 2 * i1.toNat) 3 - m1 ∧ p2 ≤ σ (3 + 2 * i2.toNat) 3 - m1)
        · rw [if_pos c4] at hc
          obtain ⟨-, hu⟩ := hc
          rw [hu]
          exact hJ.st
        · rw [if_neg c4] at hc
          obtain ⟨-, hu⟩ := hc
          rw [hu]
          exact hJ.same (fun a q1 q2 => by rw [sput_r (by omega), mset_n _ _ _ _ (by omega)])
set_option maxHeartbeats 1000000 in
theorem ij_away {σ u : Mem} {z n N : Int} {i1 : Int} (hB : BI σ N) (hn : 0 ≤ N ∧ N ≤ 511000) (hJ : JI σ n)  (hc : (if ¬ (0 ≤ i1 ∧ i1 < 3) then (z = 0 ∧ u = sput σ 0 5 1) else (if ¬ 0 < σ (11 + 10 * i1.toNat + 2) 5 then (z = 0 ∧ u = sput σ 0 5 5) else (z = 1 ∧ u = sput (sput σ (11 + 10 * i1.toNat + 2) 5 0) 0 5 0)))) : JI u (n + 1000) := by
  by_cases c1 : ¬ (0 ≤ i1 ∧ i1 < 3)
  · rw [if_pos c1] at hc
    obtain ⟨-, hu⟩ := hc
    rw [hu]
    exact hJ.st
  · rw [if_neg c1] at hc
    by_cases c2 : ¬ 0 < σ (11 + 10 * i1.toNat + 2) 5
    · rw [if_pos c2] at hc
      obtain ⟨-, hu⟩ := hc
      rw [hu]
      exact hJ.st
    · rw [if_neg c2] at hc
      obtain ⟨-, hu⟩ := hc
      have hi : 0 ≤ i1 ∧ i1 < 3 := by omega
      have e5 : u (11 + 10 * i1.toNat + 2) 5 = 0 := by rw [hu, sput_r (by omega), sput_s]
      exact hJ.col hi (fun a q1 q2 q3 => by rw [hu, sput_r (by omega), sput_r (by omega)]) (fun w _ _ y => absurd e5 y)
set_option maxHeartbeats 1000000 in
theorem ij_sample {σ u : Mem} {z n N : Int} {i1 k1 s1 : Int} (hB : BI σ N) (hn : 0 ≤ N ∧ N ≤ 511000) (hJ : JI σ n)  (hc : (if ¬ ((0 ≤ i1 ∧ i1 < 3) ∧ (1 ≤ k1 ∧ k1 ≤ 16) ∧ 0 ≤ s1) then (z = 0 ∧ u = sput σ 0 5 1) else (z = 1 ∧ u = sput (sput (sput (sput σ (11 + 10 * i1.toNat + 8) 1 k1) (11 + 10 * i1.toNat + 8) 2 s1) (11 + 10 * i1.toNat + 8) 3 0) 0 5 0))) : JI u (n + 1000) := by
  by_cases c1 : ¬ ((0 ≤ i1 ∧ i1 < 3) ∧ (1 ≤ k1 ∧ k1 ≤ 16) ∧ 0 ≤ s1)
  · rw [if_pos c1] at hc
    obtain ⟨-, hu⟩ := hc
    rw [hu]
    exact hJ.st
  · rw [if_neg c1] at hc
    obtain ⟨-, hu⟩ := hc
    have hi : 0 ≤ i1 ∧ i1 < 3 := by omega
    exact hJ.col hi (fun a q1 q2 q3 => by rw [hu, sput_r (by omega), sput_r (by omega), sput_r (by omega), sput_r (by omega)]) (fun w _ k => jcol_mono (w := w) (by omega) (jcol_congr (fun a q1 q2 => by rw [hu, sput_r (by omega), sput_r (by omega), sput_r (by omega), sput_r (by omega)]) k))
set_option maxHeartbeats 1000000 in
theorem ij_split {σ u : Mem} {z n N : Int} {i1 x1 : Int} (hB : BI σ N) (hn : 0 ≤ N ∧ N ≤ 511000) (hJ : JI σ n)  (hc : (if ¬ ((0 ≤ i1 ∧ i1 < 3) ∧ (0 ≤ x1 ∧ x1 ≤ 39)) then (z = -1 ∧ u = sput σ 0 5 1) else (if ¬ 0 < σ (11 + 10 * i1.toNat + 2) 5 then (z = -1 ∧ u = sput σ 0 5 5) else (if σ ((11 + 10 * i1.toNat + 2) + 1) (spOf (σ ((11 + 10 * i1.toNat + 2) + 1)) (σ (11 + 10 * i1.toNat + 2) 5) x1) = x1 ∨ 12 ≤ σ (11 + 10 * i1.toNat + 2) 5 then (z = -1 ∧ u = sput σ 0 5 6) else (z = spOf (σ ((11 + 10 * i1.toNat + 2) + 1)) (σ (11 + 10 * i1.toNat + 2) 5) x1 ∧ ∃ τ : Mem, skFr σ τ (11 + 10 * i1.toNat + 2) ∧ skV τ (11 + 10 * i1.toNat + 2) = cutV (σ ((11 + 10 * i1.toNat + 2) + 4)) (skV σ (11 + 10 * i1.toNat + 2)) (spOf (σ ((11 + 10 * i1.toNat + 2) + 1)) (σ (11 + 10 * i1.toNat + 2) 5) x1) x1 ∧ u = sput τ 0 5 0))))) : JI u (n + 1000) := by
  by_cases c1 : ¬ ((0 ≤ i1 ∧ i1 < 3) ∧ (0 ≤ x1 ∧ x1 ≤ 39))
  · rw [if_pos c1] at hc
    obtain ⟨-, hu⟩ := hc
    rw [hu]
    exact hJ.st
  · rw [if_neg c1] at hc
    by_cases c2 : ¬ 0 < σ (11 + 10 * i1.toNat + 2) 5
    · rw [if_pos c2] at hc
      obtain ⟨-, hu⟩ := hc
      rw [hu]
      exact hJ.st
    · rw [if_neg c2] at hc
      by_cases c3 : σ ((11 + 10 * i1.toNat + 2) + 1) (spOf (σ ((11 + 10 * i1.toNat + 2) + 1)) (σ (11 + 10 * i1.toNat + 2) 5) x1) = x1 ∨ 12 ≤ σ (11 + 10 * i1.toNat + 2) 5
      · rw [if_pos c3] at hc
        obtain ⟨-, hu⟩ := hc
        rw [hu]
        exact hJ.st
      · rw [if_neg c3] at hc
        obtain ⟨-, τ, hF, hV, hu⟩ := hc
        rw [hu]
        have hi : 0 ≤ i1 ∧ i1 < 3 := by omega
        obtain ⟨hr, ⟨a1, a2, a3, a4⟩, hs⟩ := hB.2 i1 hi.1 hi.2
        obtain ⟨g, g0⟩ := a4 (by omega)
        have ht : ∀ j : Int, 0 ≤ j → j < 40 → 0 ≤ σ (11 + 10 * i1.toNat + 1) j := hr.1
        have hva : 0 ≤ σ (11 + 10 * i1.toNat) 3 ∧ σ (11 + 10 * i1.toNat) 3 ≤ 10000 := by have := hr.le.2; have := hr.2.2; omega
        have hs1 : (skV σ (11 + 10 * i1.toNat + 2)).1 = σ (11 + 10 * i1.toNat + 2) 5 := rfl
        have esp : spOf (σ (11 + 10 * i1.toNat + 2 + 1)) (σ (11 + 10 * i1.toNat + 2) 5) x1 = spOf (skV σ (11 + 10 * i1.toNat + 2)).2.1 (skV σ (11 + 10 * i1.toNat + 2)).1 x1 := spOf_mk.symm
        obtain ⟨k0, k1, k2, k3⟩ := spOf_in g.1 (v := x1) (by omega)
        have fk := spOf_foF g.1 (v := x1) (by omega) (by omega)
        rw [esp] at hV c3
        have ek := (sk_rows (σ := σ) (p := 11 + 10 * i1.toNat + 2) k0 k1).1
        rw [← ek] at c3
        exact hJ.sk hi hF hV (by omega) (fun t q y => jK_cut g.1 ht k0 k1 ⟨fk, by omega⟩ y)
set_option maxHeartbeats 1000000 in
theorem ij_melt {σ u : Mem} {z n N : Int} {i1 k1 : Int} (hB : BI σ N) (hn : 0 ≤ N ∧ N ≤ 511000) (hJ : JI σ n)  (hc : (if ¬ (0 ≤ i1 ∧ i1 < 3) then (z = 0 ∧ u = sput σ 0 5 1) else (if ¬ 0 < σ (11 + 10 * i1.toNat + 2) 5 then (z = 0 ∧ u = sput σ 0 5 5) else (if ¬ (0 ≤ k1 ∧ k1 ≤ σ (11 + 10 * i1.toNat + 2) 5 - 2) then (z = 0 ∧ u = sput σ 0 5 6) else (z = 1 ∧ ∃ τ : Mem, skFr σ τ (11 + 10 * i1.toNat + 2) ∧ skV τ (11 + 10 * i1.toNat + 2) = fuseV (skV σ (11 + 10 * i1.toNat + 2)) k1 ∧ u = sput τ 0 5 0))))) : JI u (n + 1000) := by
  by_cases c1 : ¬ (0 ≤ i1 ∧ i1 < 3)
  · rw [if_pos c1] at hc
    obtain ⟨-, hu⟩ := hc
    rw [hu]
    exact hJ.st
  · rw [if_neg c1] at hc
    by_cases c2 : ¬ 0 < σ (11 + 10 * i1.toNat + 2) 5
    · rw [if_pos c2] at hc
      obtain ⟨-, hu⟩ := hc
      rw [hu]
      exact hJ.st
    · rw [if_neg c2] at hc
      by_cases c3 : ¬ (0 ≤ k1 ∧ k1 ≤ σ (11 + 10 * i1.toNat + 2) 5 - 2)
      · rw [if_pos c3] at hc
        obtain ⟨-, hu⟩ := hc
        rw [hu]
        exact hJ.st
      · rw [if_neg c3] at hc
        obtain ⟨-, τ, hF, hV, hu⟩ := hc
        rw [hu]
        have hi : 0 ≤ i1 ∧ i1 < 3 := by omega
        obtain ⟨hr, ⟨a1, a2, a3, a4⟩, hs⟩ := hB.2 i1 hi.1 hi.2
        obtain ⟨g, g0⟩ := a4 (by omega)
        have ht : ∀ j : Int, 0 ≤ j → j < 40 → 0 ≤ σ (11 + 10 * i1.toNat + 1) j := hr.1
        have hva : 0 ≤ σ (11 + 10 * i1.toNat) 3 ∧ σ (11 + 10 * i1.toNat) 3 ≤ 10000 := by have := hr.le.2; have := hr.2.2; omega
        have hv9 : smR (σ (11 + 10 * i1.toNat + 1)) 0 40 ≤ 10000 := by have := hr.2.1; omega
        have hs1 : (skV σ (11 + 10 * i1.toNat + 2)).1 = σ (11 + 10 * i1.toNat + 2) 5 := rfl
        have hf := skI_fuse ht hva (by omega) (k := k1) (by omega) (by omega) g
        exact hJ.sk hi hF hV (by omega) (fun t q y => jK_mono (by omega) (jK_fuse g.1 ht (fun j j0 j1 => (rr_le hf.1 ht hv9 j0 j1).2) (by omega) (by omega) y))
set_option maxHeartbeats 1000000 in
theorem ij_keep {σ u : Mem} {z n N : Int} {i1 : Int} (hB : BI σ N) (hn : 0 ≤ N ∧ N ≤ 511000) (hJ : JI σ n)  (hc : (if ¬ (0 ≤ i1 ∧ i1 < 3) then (z = -1 ∧ u = sput σ 0 5 1) else (if ¬ 0 < σ (11 + 10 * i1.toNat + 2) 5 then (z = -1 ∧ u = sput σ 0 5 5) else (z = (if (keepV (σ ((11 + 10 * i1.toNat + 2) + 4)) (skV σ (11 + 10 * i1.toNat + 2))).2 = 0 then 0 else 1) ∧ ∃ τ : Mem, skFr σ τ (11 + 10 * i1.toNat + 2) ∧ skV τ (11 + 10 * i1.toNat + 2) = (keepV (σ ((11 + 10 * i1.toNat + 2) + 4)) (skV σ (11 + 10 * i1.toNat + 2))).1 ∧ u = sput τ 0 5 0)))) : JI u (n + 1000) := by
  by_cases c1 : ¬ (0 ≤ i1 ∧ i1 < 3)
  · rw [if_pos c1] at hc
    obtain ⟨-, hu⟩ := hc
    rw [hu]
    exact hJ.st
  · rw [if_neg c1] at hc
    by_cases c2 : ¬ 0 < σ (11 + 10 * i1.toNat + 2) 5
    · rw [if_pos c2] at hc
      obtain ⟨-, hu⟩ := hc
      rw [hu]
      exact hJ.st
    · rw [if_neg c2] at hc
      obtain ⟨-, τ, hF, hV, hu⟩ := hc
      rw [hu]
      have hi : 0 ≤ i1 ∧ i1 < 3 := by omega
      obtain ⟨hr, ⟨a1, a2, a3, a4⟩, hs⟩ := hB.2 i1 hi.1 hi.2
      obtain ⟨g, g0⟩ := a4 (by omega)
      have ht : ∀ j : Int, 0 ≤ j → j < 40 → 0 ≤ σ (11 + 10 * i1.toNat + 1) j := hr.1
      have hva : 0 ≤ σ (11 + 10 * i1.toNat) 3 ∧ σ (11 + 10 * i1.toNat) 3 ≤ 10000 := by have := hr.le.2; have := hr.2.2; omega
      have hv9 : smR (σ (11 + 10 * i1.toNat + 1)) 0 40 ≤ 10000 := by have := hr.2.1; omega
      exact hJ.sk hi hF hV (by omega) (fun t q y => jK_keep ht hva hv9 (by omega) g y)
set_option maxHeartbeats 1000000 in
theorem ij_put {σ u : Mem} {z n N : Int} {i1 x1 m1 : Int} (hB : BI σ N) (hn : 0 ≤ N ∧ N ≤ 511000) (hJ : JI σ n)  (hc : (if ¬ ((0 ≤ i1 ∧ i1 < 3) ∧ (-1 ≤ x1 ∧ x1 ≤ 39) ∧ (1 ≤ m1 ∧ m1 ≤ 1000)) then (z = 0 ∧ u = sput σ 0 5 1) else (if 10000 < σ (11 + 10 * i1.toNat) 3 + σ (11 + 10 * i1.toNat) 4 + m1 then (z = 0 ∧ u = sput σ 0 5 4) else (z = 1 ∧ u = sput (enM σ (11 + 10 * i1.toNat) x1 m1) 0 5 0)))) : JI u (n + 1000) := by
  by_cases c1 : ¬ ((0 ≤ i1 ∧ i1 < 3) ∧ (-1 ≤ x1 ∧ x1 ≤ 39) ∧ (1 ≤ m1 ∧ m1 ≤ 1000))
  · rw [if_pos c1] at hc
    obtain ⟨-, hu⟩ := hc
    rw [hu]
    exact hJ.st
  · rw [if_neg c1] at hc
    by_cases c2 : 10000 < σ (11 + 10 * i1.toNat) 3 + σ (11 + 10 * i1.toNat) 4 + m1
    · rw [if_pos c2] at hc
      obtain ⟨-, hu⟩ := hc
      rw [hu]
      exact hJ.st
    · rw [if_neg c2] at hc
      obtain ⟨-, hu⟩ := hc
      rw [hu]
      have hi : 0 ≤ i1 ∧ i1 < 3 := by omega
      exact hJ.col hi (fun a q1 q2 q3 => by rw [sput_r (by omega)]; exact enM_fr a q3) (fun w _ k => jcol_mono (by omega) (jcol_congr (fun a q1 q2 => sput_r (by omega)) (jcol.en (x := x1) (m := m1) (hB.2 i1 hi.1 hi.2) (by omega) (by omega) (by omega) k)))
set_option maxHeartbeats 1000000 in
theorem ij_strike {σ u : Mem} {z n N : Int} {i1 x1 m1 : Int} (hB : BI σ N) (hn : 0 ≤ N ∧ N ≤ 511000) (hJ : JI σ n)  (hc : (if ¬ ((0 ≤ i1 ∧ i1 < 3) ∧ (-1 ≤ x1 ∧ x1 ≤ 39) ∧ (1 ≤ m1 ∧ m1 ≤ 1000)) then (z = 0 ∧ u = sput σ 0 5 1) else (if (if 0 ≤ x1 ∧ x1 ≤ 39 then σ ((11 + 10 * i1.toNat) + 1) x1 else σ (11 + 10 * i1.toNat) 4) < m1 then (z = 0 ∧ u = sput σ 0 5 4) else (z = 1 ∧ u = sput (chM σ (11 + 10 * i1.toNat) x1 (-m1)) 0 5 0)))) : JI u (n + 1000) := by
  by_cases c1 : ¬ ((0 ≤ i1 ∧ i1 < 3) ∧ (-1 ≤ x1 ∧ x1 ≤ 39) ∧ (1 ≤ m1 ∧ m1 ≤ 1000))
  · rw [if_pos c1] at hc
    obtain ⟨-, hu⟩ := hc
    rw [hu]
    exact hJ.st
  · rw [if_neg c1] at hc
    by_cases c2 : (if 0 ≤ x1 ∧ x1 ≤ 39 then σ ((11 + 10 * i1.toNat) + 1) x1 else σ (11 + 10 * i1.toNat) 4) < m1
    · rw [if_pos c2] at hc
      obtain ⟨-, hu⟩ := hc
      rw [hu]
      exact hJ.st
    · rw [if_neg c2] at hc
      obtain ⟨-, hu⟩ := hc
      rw [hu]
      have hi : 0 ≤ i1 ∧ i1 < 3 := by omega
      have hb9 := hB.2 i1 hi.1 hi.2
      have r4 := hb9.1.2.2
      have ab9 : abI (-m1) ≤ 1000 := by unfold abI; omega
      exact hJ.col hi (fun a q1 q2 q3 => by rw [sput_r (by omega)]; exact chM_fr a (by omega) (by omega) (by omega) (by omega) (by omega)) (fun w _ k => jcol_mono (w := w + abI (-m1)) (by omega) (jcol_congr (fun a q1 q2 => sput_r (by omega)) (jcol.ch (x := x1) (m := -m1) hb9 (by omega) (fun q => by rw [if_pos (by omega)] at c2; omega) (fun q => by rw [if_neg (by omega)] at c2; omega) (by omega) k)))
set_option maxHeartbeats 1000000 in
theorem ij_pack {σ u : Mem} {z n N : Int} {i1 i2 : Int} (hB : BI σ N) (hn : 0 ≤ N ∧ N ≤ 511000) (hJ : JI σ n) [Decidable (∀ j : Int, 0 ≤ j → j < σ (3 + 2 * i2.toNat) 3 → -1 ≤ σ ((3 + 2 * i2.toNat) + 1) (100000 + j) ∧ σ ((3 + 2 * i2.toNat) + 1) (100000 + j) ≤ 39)] (hc : (if ¬ ((0 ≤ i1 ∧ i1 < 3) ∧ (0 ≤ i2 ∧ i2 < 4)) then (z = -1 ∧ u = sput σ 0 5 1) else (if σ (3 + 2 * i2.toNat) 1 = 0 then (z = -1 ∧ u = sput σ 0 5 2) else (if ¬ (∀ j : Int, 0 ≤ j → j < σ (3 + 2 * i2.toNat) 3 → -1 ≤ σ ((3 + 2 * i2.toNat) + 1) (100000 + j) ∧ σ ((3 + 2 * i2.toNat) + 1) (100000 + j) ≤ 39) then (z = -1 ∧ u = sput σ 0 5 1) else (if 10000 < σ (11 + 10 * i1.toNat) 3 + σ (11 + 10 * i1.toNat) 4 + σ (3 + 2 * i2.toNat) 3 then (z = -1 ∧ u = sput σ 0 5 4) else (z = σ (3 + 2 * i2.toNat) 3 ∧ u = sput (itrR (pkF (11 + 10 * i1.toNat) (σ ((3 + 2 * i2.toNat) + 1))) 0 (σ (3 + 2 * i2.toNat) 3) σ) 0 5 0)))))) : JI u (n + 1000) := by
  by_cases c1 : ¬ ((0 ≤ i1 ∧ i1 < 3) ∧ (0 ≤ i2 ∧ i2 < 4))
  · rw [if_pos c1] at hc
    obtain ⟨-, hu⟩ := hc
    rw [hu]
    exact hJ.st
  · rw [if_neg c1] at hc
    by_cases c2 : σ (3 + 2 * i2.toNat) 1 = 0
    · rw [if_pos c2] at hc
      obtain ⟨-, hu⟩ := hc
      rw [hu]
      exact hJ.st
    · rw [if_neg c2] at hc
      by_cases c3 : ¬ (∀ j : Int, 0 ≤ j → j < σ (3 + 2 * i2.toNat) 3 → -1 ≤ σ ((3 + 2 * i2.toNat) + 1) (100000 + j) ∧ σ ((3 + 2 * i2.toNat) + 1) (100000 + j) ≤ 39)
      · rw [if_pos c3] at hc
        obtain ⟨-, hu⟩ := hc
        rw [hu]
        exact hJ.st
      · rw [if_neg c3] at hc
        by_cases c4 : 10000 < σ (11 + 10 * i1.toNat) 3 + σ (11 + 10 * i1.toNat) 4 + σ (3 + 2 * i2.toNat) 3
        · rw [if_pos c4] at hc
          obtain ⟨-, hu⟩ := hc
          rw [hu]
          exact hJ.st
        · rw [if_neg c4] at hc
          obtain ⟨-, hu⟩ := hc
          rw [hu]
          have hi : 0 ≤ i1 ∧ i1 < 3 := by omega
          have hj : 0 ≤ i2 ∧ i2 < 4 := by omega
          have tw := hB.1 i2 hj.1 hj.2
          obtain ⟨s, hs⟩ : ∃ s : Nat, σ (3 + 2 * i2.toNat) 3 = s := ⟨(σ (3 + 2 * i2.toNat) 3).toNat, by omega⟩
          have hall : (∀ j : Int, 0 ≤ j → j < σ (3 + 2 * i2.toNat) 3 → -1 ≤ σ ((3 + 2 * i2.toNat) + 1) (100000 + j) ∧ σ ((3 + 2 * i2.toNat) + 1) (100000 + j) ≤ 39) := Classical.byContradiction fun y => c3 y
          obtain ⟨k1, k2, k3⟩ := pk_B (row := σ ((3 + 2 * i2.toNat) + 1)) (s := σ (3 + 2 * i2.toNat) 3) (hB.2 i1 hi.1 hi.2) hall (by omega) s (by omega)
          have k4 := fun w9 k9 => pk_J (row := σ ((3 + 2 * i2.toNat) + 1)) (s := σ (3 + 2 * i2.toNat) 3) (w := w9) (hB.2 i1 hi.1 hi.2) hall (by omega) k9 s (by omega)
          rw [hs]
          exact hJ.col hi (fun a q1 q2 q3 => by rw [sput_r (by omega)]; exact k3 a q3) (fun w _ k => jcol_mono (w := w + s) (by omega) (jcol_congr (fun a q1 q2 => sput_r (by omega)) (k4 w k)))
