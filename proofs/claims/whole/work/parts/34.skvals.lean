/-! ===== what holds of a sketch's value ===== -/
def svW (S : SV) : Prop := 0 ≤ S.1 ∧ S.1 ≤ 24 ∧ ∀ j : Int, 0 ≤ j → j < S.1 → 0 ≤ S.2.1 j ∧ S.2.1 j ≤ 39
def svB (S : SV) (M : Int) : Prop := ∀ j : Int, 0 ≤ j → j < S.1 → (-M ≤ S.2.2.1 j ∧ S.2.2.1 j ≤ M) ∧ 0 ≤ S.2.2.2 j ∧ S.2.2.2 j ≤ 1000000
theorem skW_iff {σ : Mem} {b : Nat} : skW σ b ↔ svW (skV σ b) := by
  unfold skW svW skV
  constructor
  · rintro ⟨h1, h2, h3⟩
    exact ⟨h1, h2, fun j q1 q2 => by have := h3 j q1 q2; simp only; rw [mkR_in q1 q2]; exact this⟩
  · rintro ⟨h1, h2, h3⟩
    exact ⟨h1, h2, fun j q1 q2 => by have := h3 j q1 q2; simp only at this; rw [mkR_in q1 q2] at this; exact this⟩
theorem svB_of {σ : Mem} {b : Nat} {M : Int} (h : ∀ j : Int, 0 ≤ j → j < σ b 5 → (-M ≤ σ (b + 2) j ∧ σ (b + 2) j ≤ M) ∧ 0 ≤ σ (b + 3) j ∧ σ (b + 3) j ≤ 1000000) : svB (skV σ b) M := by
  intro j q1 q2
  have := h j q1 q2
  simp only [skV] at q2 ⊢
  rw [mkR_in q1 q2, mkR_in q1 q2]
  exact this
theorem svB_to {σ : Mem} {b : Nat} {M : Int} (h : svB (skV σ b) M) : ∀ j : Int, 0 ≤ j → j < σ b 5 → (-M ≤ σ (b + 2) j ∧ σ (b + 2) j ≤ M) ∧ 0 ≤ σ (b + 3) j ∧ σ (b + 3) j ≤ 1000000 := by
  intro j q1 q2
  have := h j q1 q2
  simp only [skV] at this
  rw [mkR_in q1 q2, mkR_in q1 q2] at this
  exact this
theorem svB_mono {S : SV} {M N : Int} (h : svB S M) (hMN : M ≤ N) : svB S N := fun j q1 q2 => by have := h j q1 q2; omega
/-- the heavy counts' bound -/
def hcB (σ : Mem) (b : Nat) : Prop := ∀ j : Int, 0 ≤ j → j < 40 → -5000000 ≤ σ (b + 5) j ∧ σ (b + 5) j ≤ 5000000
theorem skB_of {σ : Mem} {b : Nat} (h : svB (skV σ b) 20000000) (h2 : hcB σ b) : skB σ b := ⟨fun j q1 q2 => (svB_to h j q1 q2).1, fun j q1 q2 => (svB_to h j q1 q2).2, h2⟩
theorem skB_to {σ : Mem} {b : Nat} (h : skB σ b) : svB (skV σ b) 20000000 ∧ hcB σ b := ⟨svB_of fun j q1 q2 => ⟨h.1 j q1 q2, h.2.1 j q1 q2⟩, h.2.2⟩
theorem skFr.h {σ u : Mem} {b : Nat} (h : skFr σ u b) : u (b + 4) = σ (b + 4) := by funext j; exact h (b + 4) j (by omega) (by omega) (by omega) (by omega)
theorem skFr.hc {σ u : Mem} {b : Nat} (h : skFr σ u b) : u (b + 5) = σ (b + 5) := by funext j; exact h (b + 5) j (by omega) (by omega) (by omega) (by omega)
theorem skFr.b6 {σ u : Mem} {b : Nat} (h : skFr σ u b) : u b 6 = σ b 6 := h b 6 (by omega) (by omega) (by omega) (by omega)
theorem skFr.hcB {σ u : Mem} {b : Nat} (h : skFr σ u b) (h2 : hcB σ b) : hcB u b := by intro j q1 q2; rw [h.hc]; exact h2 j q1 q2
theorem svW_fuse {S : SV} {k : Int} (h : svW S) (hk : 0 ≤ k) (hk2 : k + 1 < S.1) : svW (fuseV S k) := by
  refine ⟨by have := h.2.1; simp only [fuseV]; omega, by have := h.2.1; simp only [fuseV]; omega, fun j q1 q2 => ?_⟩
  simp only [fuseV] at q2 ⊢
  rcases (by omega : j < k ∨ j = k ∨ k < j) with a | a | a
  · rw [delR_lt a]; exact h.2.2 j q1 (by omega)
  · rw [a, delR_k]; exact h.2.2 (k + 1) (by omega) (by omega)
  · rw [delR_gt a]; exact h.2.2 (j + 1) (by omega) (by omega)
theorem svB_fuse {S : SV} {k M : Int} (h : svB S M) (hk : 0 ≤ k) (hk2 : k + 1 < S.1) (hM : 0 ≤ M) : svB (fuseV S k) (2 * M) := by
  intro j q1 q2
  simp only [fuseV] at q2 ⊢
  rcases (by omega : j < k ∨ j = k ∨ k < j) with a | a | a
  · rw [delR_lt a, delR_lt a]; have := h j q1 (by omega); omega
  · rw [a, delR_k, delR_k]; have := h k (by omega) (by omega); have := h (k + 1) (by omega) (by omega); omega
  · rw [delR_gt a, delR_gt a]; have := h (j + 1) (by omega) (by omega); omega
theorem hvF_bd {c d L R M : Int} (hc : -M ≤ c ∧ c ≤ M) (hd : 0 ≤ d ∧ d ≤ 1000000) (hL : 0 ≤ L) (hR : 0 ≤ R) (hM : 0 ≤ M) : ((-M ≤ (hvF c d L R).1.1 ∧ (hvF c d L R).1.1 ≤ M) ∧ 0 ≤ (hvF c d L R).1.2 ∧ (hvF c d L R).1.2 ≤ 1000000) ∧ (-M ≤ (hvF c d L R).2.1 ∧ (hvF c d L R).2.1 ≤ M) ∧ 0 ≤ (hvF c d L R).2.2 ∧ (hvF c d L R).2.2 ≤ 1000000 := by
  unfold hvF
  split
  · dsimp only; omega
  · split
    · dsimp only; omega
    · have g := share_bd (c := c) hL hR (by omega)
      dsimp only [pdF]
      omega
theorem svW_cut {h : Int → Int} {S : SV} {k val : Int} (hW : svW S) (hn : S.1 < 24) (hk : 0 ≤ k) (hk2 : k < S.1) (hv : 0 ≤ val ∧ val ≤ 39) : svW (cutV h S k val) := by
  have hW1 := hW.1
  refine ⟨by simp only [cutV]; omega, by simp only [cutV]; omega, fun j q1 q2 => ?_⟩
  simp only [cutV] at q2 ⊢
  rcases (by omega : j < k ∨ j = k ∨ j = k + 1 ∨ k + 1 < j) with a | a | a | a
  · rw [insR_lt a]; exact hW.2.2 j q1 (by omega)
  · rw [a, insR_k]; exact hv
  · rw [insR_k1 a]; exact hW.2.2 k (by omega) (by omega)
  · rw [insR_gt a]; exact hW.2.2 (j - 1) (by omega) (by omega)
theorem svB_cut {h : Int → Int} {S : SV} {k val M : Int} (hB : svB S M) (hM : 0 ≤ M) (hk : 0 ≤ k) (hk2 : k < S.1) : svB (cutV h S k val) M := by
  intro j q1 q2
  have g := hvF_bd (hB k hk hk2).1 (hB k hk hk2).2 (ltC_bd h (foF S.2.1 k) val).1 (ltC_bd h (val + 1) (S.2.1 k)).1 hM
  simp only [cutV] at q2 ⊢
  rcases (by omega : j < k ∨ j = k ∨ j = k + 1 ∨ k + 1 < j) with a | a | a | a
  · rw [insR_lt a, insR_lt a]; exact hB j q1 (by omega)
  · rw [a, insR_k, insR_k]; exact g.1
  · rw [insR_k1 a, insR_k1 a]; exact g.2
  · rw [insR_gt a, insR_gt a]; exact hB (j - 1) (by omega) (by omega)
theorem itrR_congrI {α : Type} {f g : Int → α → α} {a b : Int} (P : Int → α → Prop) (h : ∀ k s, a ≤ k → k < b → P k s → f k s = g k s ∧ P (k + 1) (g k s)) (s : α) (hs : P a s) : itrR f a b s = itrR g a b s := by
  obtain ⟨n, hn⟩ : ∃ n : Nat, n = (b - a).toNat := ⟨_, rfl⟩
  induction n generalizing a s with
  | zero => rw [itrR_nil (by omega), itrR_nil (by omega)]
  | succ n ih =>
    have q := h a s (by omega) (by omega) hs
    rw [itrR_step (f := f) (by omega), itrR_step (f := g) (by omega), q.1]
    exact ih (fun k s q1 q2 => h k s (by omega) q2) _ q.2 (by omega)
theorem loN_mk {n k : Int} {h e : Int → Int} (h0 : 0 ≤ k) (h1 : k < n) : loN h (mkR n e) k = loN h e k := by unfold loN; rw [foF_mk (by omega), mkR_in h0 h1]
theorem gl_mk {n : Int} {h e c : Int → Int} : itrR (glF h (mkR n e) (mkR n c)) 0 n (-1) = itrR (glF h e c) 0 n (-1) := by
  refine itrR_congrI (fun k s => -1 ≤ s ∧ s < k) (fun k s q1 q2 q3 => ?_) (-1) (by omega)
  have e1 : glF h (mkR n e) (mkR n c) k s = glF h e c k s := by
    unfold glF
    rw [loN_mk q1 q2, mkR_in q1 q2]
    by_cases hs : s = -1
    · simp [hs]
    · rw [mkR_in (by omega) (by omega)]
  refine ⟨e1, ?_⟩
  unfold glF
  split <;> omega
theorem gl_bd {n : Int} {h e c : Int → Int} (hn : 0 ≤ n) : -1 ≤ itrR (glF h e c) 0 n (-1) ∧ itrR (glF h e c) 0 n (-1) < n := by
  have := itrR_ind (f := glF h e c) (b := n) (fun k s => -1 ≤ s ∧ s < k) (fun k s q1 q2 => by unfold glF; split <;> omega) 0 (-1) hn (by omega)
  exact this
theorem lp_mk {n w : Int} {c : Int → Int} : itrR (lpF (mkR n c) w) 0 (n - 1) (-1) = itrR (lpF c w) 0 (n - 1) (-1) := by
  refine itrR_congrI (fun k s => -1 ≤ s ∧ s < k) (fun k s q1 q2 q3 => ?_) (-1) (by omega)
  have e1 : lpF (mkR n c) w k s = lpF c w k s := by
    unfold lpF
    rw [mkR_in q1 (by omega), mkR_in (j := k + 1) (by omega) (by omega)]
    by_cases hs : s = -1
    · simp [hs]
    · rw [mkR_in (by omega) (by omega), mkR_in (j := s + 1) (by omega) (by omega)]
  refine ⟨e1, ?_⟩
  unfold lpF
  split
  · omega
  · split <;> omega
theorem lp_bd {n w : Int} {c : Int → Int} (hn : 1 ≤ n) : -1 ≤ itrR (lpF c w) 0 (n - 1) (-1) ∧ itrR (lpF c w) 0 (n - 1) (-1) < n - 1 := by
  have := itrR_ind (f := lpF c w) (b := n - 1) (fun k s => -1 ≤ s ∧ s < k) (fun k s q1 q2 => by unfold lpF; split; omega; split <;> omega) 0 (-1) (by omega) (by omega)
  exact this
theorem lp_ne {n w : Int} {c : Int → Int} (hn : 1 ≤ n) : itrR (lpF c w) 0 (n - 1) (-1) = -1 ∨ (itrR (lpF c w) 0 (n - 1) (-1) ≠ w ∧ itrR (lpF c w) 0 (n - 1) (-1) + 1 ≠ w) := by
  have := itrR_ind (f := lpF c w) (b := n - 1) (fun k s => s = -1 ∨ (s ≠ w ∧ s + 1 ≠ w)) (fun k s q1 q2 => by unfold lpF; split; exact q2; split; (right; omega); exact q2) 0 (-1) (by omega) (Or.inl rfl)
  exact this
theorem haF_mk {n k : Int} {h e : Int → Int} (h0 : 0 ≤ k) (h1 : k < n) : haF h (mkR n e) k = haF h e k := by unfold haF; rw [loN_mk h0 h1, foF_mk (by omega), mkR_in h0 h1]
theorem haF_bd (h e : Int → Int) (k : Int) : foF e k ≤ haF h e k ∧ haF h e k ≤ max (foF e k) (e k) := by
  have := fnd_spec (fun w => decide (loN h e k ≤ 2 * ltC h (foF e k) w)) (e k - foF e k).toNat (foF e k)
  unfold haF
  omega
theorem spOf_mk {n val : Int} {e : Int → Int} : spOf (mkR n e) n val = spOf e n val := by
  unfold spOf
  obtain ⟨g1, g2, g3, g4⟩ := fnd_spec (fun k => decide (val ≤ mkR n e k)) (n - 1).toNat 0
  refine fnd_uniq _ _ _ _ g1 g2 (fun j q1 q2 => ?_) (fun q => ?_)
  · have := g3 j q1 q2
    rw [mkR_in q1 (by omega)] at this
    exact this
  · have := g4 q
    rw [mkR_in g1 (by omega)] at this
    exact this
/-- KEEPING: the sketch behind it, and 1 if something was done -/
def keepV (h : Int → Int) (S : SV) : SV × Int :=
  if itrR (glF h S.2.1 S.2.2.1) 0 S.1 (-1) = -1 ∨ itrR (lpF S.2.2.1 (itrR (glF h S.2.1 S.2.2.1) 0 S.1 (-1))) 0 (S.1 - 1) (-1) = -1 then (S, 0)
  else if S.2.2.1 (itrR (glF h S.2.1 S.2.2.1) 0 S.1 (-1)) ≤ 2 * (S.2.2.1 (itrR (lpF S.2.2.1 (itrR (glF h S.2.1 S.2.2.1) 0 S.1 (-1))) 0 (S.1 - 1) (-1)) + S.2.2.1 (itrR (lpF S.2.2.1 (itrR (glF h S.2.1 S.2.2.1) 0 S.1 (-1))) 0 (S.1 - 1) (-1) + 1)) then (S, 0)
  else (let p := itrR (lpF S.2.2.1 (itrR (glF h S.2.1 S.2.2.1) 0 S.1 (-1))) 0 (S.1 - 1) (-1)
    let g := itrR (glF h S.2.1 S.2.2.1) 0 S.1 (-1)
    let S1 := fuseV S p
    let k := if p < g then g - 1 else g
    (cutV h S1 k (haF h S1.2.1 k), 1))
theorem gl_two {n : Int} {h e c : Int → Int} (hn : 0 ≤ n) : itrR (glF h e c) 0 n (-1) = -1 ∨ 2 ≤ loN h e (itrR (glF h e c) 0 n (-1)) := by
  have := itrR_ind (f := glF h e c) (b := n) (fun k s => s = -1 ∨ 2 ≤ loN h e s) (fun k s q1 q2 => by unfold glF; split; (next q => exact Or.inr q.1); exact q2) 0 (-1) hn (Or.inl rfl)
  exact this
theorem fuse_E {E : Int → Int} {p g : Int} (h1 : p ≠ g) (h2 : p + 1 ≠ g) (h3 : 0 ≤ p) (h4 : 0 ≤ g) : delR E p (E (p + 1)) (if p < g then g - 1 else g) = E g ∧ foF (delR E p (E (p + 1))) (if p < g then g - 1 else g) = foF E g := by
  split
  · next h =>
    refine ⟨by rw [delR_gt (by omega)]; congr 1; omega, ?_⟩
    unfold foF
    rw [if_pos (by omega), if_pos (by omega)]
    by_cases q : g - 1 - 1 = p
    · rw [q, delR_k]; congr 2; omega
    · rw [delR_gt (by omega)]; congr 2; omega
  · next h =>
    refine ⟨by rw [delR_lt (by omega)], ?_⟩
    unfold foF
    split
    · rw [delR_lt (by omega)]
    · rfl
theorem lo_pos {h e : Int → Int} {k : Int} (h1 : 1 ≤ loN h e k) : foF e k ≤ e k ∧ foF e k ≤ 39 := by
  unfold loN ltC at h1
  rcases Int.lt_or_le (max (foF e k) 0) (min (e k + 1) 40) with q | q
  · omega
  · rw [smR_nil q] at h1; omega
theorem keepV_0 {h : Int → Int} {σ : Mem} {b : Nat} (hc : (itrR (glF h (σ (b + 1)) (σ (b + 2))) 0 (σ b 5) (-1) = -1 ∨ itrR (lpF (σ (b + 2)) (itrR (glF h (σ (b + 1)) (σ (b + 2))) 0 (σ b 5) (-1))) 0 (σ b 5 - 1) (-1) = -1) ∨ (0 ≤ itrR (glF h (σ (b + 1)) (σ (b + 2))) 0 (σ b 5) (-1) ∧ 0 ≤ itrR (lpF (σ (b + 2)) (itrR (glF h (σ (b + 1)) (σ (b + 2))) 0 (σ b 5) (-1))) 0 (σ b 5 - 1) (-1) ∧ 1 ≤ σ b 5 ∧ σ (b + 2) (itrR (glF h (σ (b + 1)) (σ (b + 2))) 0 (σ b 5) (-1)) ≤ 2 * (σ (b + 2) (itrR (lpF (σ (b + 2)) (itrR (glF h (σ (b + 1)) (σ (b + 2))) 0 (σ b 5) (-1))) 0 (σ b 5 - 1) (-1)) + σ (b + 2) (itrR (lpF (σ (b + 2)) (itrR (glF h (σ (b + 1)) (σ (b + 2))) 0 (σ b 5) (-1))) 0 (σ b 5 - 1) (-1) + 1)))) : keepV h (skV σ b) = (skV σ b, 0) := by
  unfold keepV
  simp only [skV, gl_mk, lp_mk]
  rcases hc with hc | ⟨g0, p0, n1, hc⟩
  · rw [if_pos hc]
  · rw [if_neg (by omega), if_pos]
    have q1 := gl_bd (h := h) (e := σ (b + 1)) (c := σ (b + 2)) (n := σ b 5) (by omega)
    have q2 := lp_bd (w := itrR (glF h (σ (b + 1)) (σ (b + 2))) 0 (σ b 5) (-1)) (c := σ (b + 2)) n1
    rw [mkR_in g0 q1.2, mkR_in p0 (by omega), mkR_in (j := _ + 1) (by omega) (by omega)]
    exact hc
theorem keepV_1 {h : Int → Int} {σ : Mem} {b : Nat} (hc : 0 ≤ itrR (glF h (σ (b + 1)) (σ (b + 2))) 0 (σ b 5) (-1) ∧ 0 ≤ itrR (lpF (σ (b + 2)) (itrR (glF h (σ (b + 1)) (σ (b + 2))) 0 (σ b 5) (-1))) 0 (σ b 5 - 1) (-1) ∧ 1 ≤ σ b 5 ∧ ¬ σ (b + 2) (itrR (glF h (σ (b + 1)) (σ (b + 2))) 0 (σ b 5) (-1)) ≤ 2 * (σ (b + 2) (itrR (lpF (σ (b + 2)) (itrR (glF h (σ (b + 1)) (σ (b + 2))) 0 (σ b 5) (-1))) 0 (σ b 5 - 1) (-1)) + σ (b + 2) (itrR (lpF (σ (b + 2)) (itrR (glF h (σ (b + 1)) (σ (b + 2))) 0 (σ b 5) (-1))) 0 (σ b 5 - 1) (-1) + 1))) : keepV h (skV σ b) = (cutV h (fuseV (skV σ b) (itrR (lpF (σ (b + 2)) (itrR (glF h (σ (b + 1)) (σ (b + 2))) 0 (σ b 5) (-1))) 0 (σ b 5 - 1) (-1))) (if itrR (lpF (σ (b + 2)) (itrR (glF h (σ (b + 1)) (σ (b + 2))) 0 (σ b 5) (-1))) 0 (σ b 5 - 1) (-1) < itrR (glF h (σ (b + 1)) (σ (b + 2))) 0 (σ b 5) (-1) then itrR (glF h (σ (b + 1)) (σ (b + 2))) 0 (σ b 5) (-1) - 1 else itrR (glF h (σ (b + 1)) (σ (b + 2))) 0 (σ b 5) (-1)) (haF h (fuseV (skV σ b) (itrR (lpF (σ (b + 2)) (itrR (glF h (σ (b + 1)) (σ (b + 2))) 0 (σ b 5) (-1))) 0 (σ b 5 - 1) (-1))).2.1 (if itrR (lpF (σ (b + 2)) (itrR (glF h (σ (b + 1)) (σ (b + 2))) 0 (σ b 5) (-1))) 0 (σ b 5 - 1) (-1) < itrR (glF h (σ (b + 1)) (σ (b + 2))) 0 (σ b 5) (-1) then itrR (glF h (σ (b + 1)) (σ (b + 2))) 0 (σ b 5) (-1) - 1 else itrR (glF h (σ (b + 1)) (σ (b + 2))) 0 (σ b 5) (-1))), 1) := by
  obtain ⟨g0, p0, n1, hc⟩ := hc
  have q1 := gl_bd (h := h) (e := σ (b + 1)) (c := σ (b + 2)) (n := σ b 5) (by omega)
  have q2 := lp_bd (w := itrR (glF h (σ (b + 1)) (σ (b + 2))) 0 (σ b 5) (-1)) (c := σ (b + 2)) n1
  unfold keepV
  simp only [skV, gl_mk, lp_mk]
  rw [if_neg (by omega), if_neg]
  rw [mkR_in g0 q1.2, mkR_in p0 (by omega), mkR_in (j := _ + 1) (by omega) (by omega)]
  exact hc
set_option maxHeartbeats 4000000 in
set_option maxRecDepth 100000 in
theorem c_X4_rebalance (l : Launch) (v : VC) (σ : Mem) (b : Nat) (hS : shSk v b) (hW : skW σ b) (hn : 1 ≤ σ b 5) (hB0 : svB (skV σ b) 10000000) (hH : hcB σ b) : CtI l yX4_rebalance wsX4_rebalance 4 92 v [.ref (vq v b)] σ (fun z u => z = (keepV (σ (b + 4)) (skV σ b)).2 ∧ skFr σ u b ∧ skV u b = (keepV (σ (b + 4)) (skV σ b)).1) := by
  refine mkZ (cc := cX4_rebalance) (n := 4) (by decide +kernel) rfl (Nat.le_of_ble_eq_true rfl) (fun x A Q hx C hret => ?_)
  subst hx
  show At x v A Q _ 0 [(0, .ref (vq v b))] [] σ
  have iX4 : ∀ w ∈ wsX40, w ∈ wsX4_rebalance := by decide +kernel
  have k15 : Cond.fieldLink RX4 15 (TX4 1).1 (TX4 1).2.1 (TX4 1).2.2.1 ∈ wsX4_rebalance := by decide +kernel
  have hw1 := hW.1
  have hw2 := hW.2.1
  have hB : skB σ b := skB_of (svB_mono hB0 (by decide)) hH
  have g1 := gl_bd (n := σ b 5) (h := σ (b + 4)) (e := σ (b + 1)) (c := σ (b + 2)) hw1
  have g2 := gl_two (n := σ b 5) (h := σ (b + 4)) (e := σ (b + 1)) (c := σ (b + 2)) hw1
  refine a_aload_n C dX4_rebalance_0 0 rfl rfl ?_
  refine a_cVI C (k0 := 0) (As := []) (rest := []) (c_X4_greatestLong x.2.1 v σ b hS hW) gX4_rebalance_X4_greatestLong rfl (by decide +kernel) (by decide) hS.f0 rfl hS.n0 rfl rfl (Nat.le_of_ble_eq_true rfl) dX4_rebalance_1 (fun z1 u1 r1 p1 => ?_)
  obtain ⟨e1, p1⟩ := p1
  subst u1
  rw [← e1] at g1 g2
  have g3 := lp_bd (n := σ b 5) (w := z1) (c := σ (b + 2)) hn
  have g4 := lp_ne (n := σ b 5) (w := z1) (c := σ (b + 2)) hn
  refine a_istore_n C 1 [(1, vI z1), (0, .ref (vq v b))] dX4_rebalance_4 rfl (by decide) rfl ?_
  refine a_aload_n C dX4_rebalance_5 1 rfl rfl ?_
  refine a_iload_n C dX4_rebalance_6 0 rfl rfl ?_
  refine a_cVI C (k0 := 1) (As := [vI z1]) (rest := []) (c_X4_leastPair x.2.1 v σ b hS z1 r1 hW hB.C) gX4_rebalance_X4_leastPair rfl (by decide +kernel) (by decide) hS.f0 rfl hS.n0 rfl rfl (Nat.le_of_ble_eq_true rfl) dX4_rebalance_7 (fun z7 u7 r7 p7 => ?_)
  obtain ⟨e7, p7⟩ := p7
  subst u7
  rw [← e7] at g3 g4
  refine a_istore_n C 2 [(2, vI z7), (1, vI z1), (0, .ref (vq v b))] dX4_rebalance_10 rfl (by decide) rfl ?_
  refine a_iload_n C dX4_rebalance_11 1 rfl rfl ?_
  refine a_iconst C dX4_rebalance_12 ?_
  refine a_icmp_eq C 21 r1 (by decide) dX4_rebalance_13 (by decide) (fun c13 => ?_) (fun c13 => ?_)
  · skip
    refine a_iconst C dX4_rebalance_21 ?_
    exact hret _ _ _ _ dX4_rebalance_22 (by decide) (by rw [keepV_0 (by rw [← e1, ← e7]; omega)]; exact ⟨rfl, skFr.rf, rfl⟩)
  · skip
    refine a_iload_n C dX4_rebalance_16 0 rfl rfl ?_
    refine a_iconst C dX4_rebalance_17 ?_
    refine a_icmp_ne C 23 r7 (by decide) dX4_rebalance_18 (by decide) (fun c18 => ?_) (fun c18 => ?_)
    · skip
      refine a_aload_n C dX4_rebalance_23 2 rfl rfl ?_
      refine a_getf C hS.f0 hS.n0 (Cn := RX4) (T := TX4) (N := 7) rfl iX4 1 (by decide) k15 (w := .ref (vq v (b + 2))) rfl dX4_rebalance_24 ?_
      refine a_iload_n C dX4_rebalance_27 1 rfl rfl ?_
      refine a_iald C hS.f2 hS.n2 0 hS.tI (by omega) (by omega) (by decide) dX4_rebalance_28 (fun z28 e28 r28 => ?_)
      have q28 := hB.1 z1 (by omega) (by omega)
      rw [← e28] at q28
      refine a_iconst C dX4_rebalance_29 ?_
      refine a_aload_n C dX4_rebalance_30 2 rfl rfl ?_
      refine a_getf C hS.f0 hS.n0 (Cn := RX4) (T := TX4) (N := 7) rfl iX4 1 (by decide) k15 (w := .ref (vq v (b + 2))) rfl dX4_rebalance_31 ?_
      refine a_iload_n C dX4_rebalance_34 0 rfl rfl ?_
      refine a_iald C hS.f2 hS.n2 0 hS.tI (by omega) (by omega) (by decide) dX4_rebalance_35 (fun z35 e35 r35 => ?_)
      have q35 := hB.1 z7 (by omega) (by omega)
      rw [← e35] at q35
      refine a_aload_n C dX4_rebalance_36 2 rfl rfl ?_
      refine a_getf C hS.f0 hS.n0 (Cn := RX4) (T := TX4) (N := 7) rfl iX4 1 (by decide) k15 (w := .ref (vq v (b + 2))) rfl dX4_rebalance_37 ?_
      refine a_iload_n C dX4_rebalance_40 0 rfl rfl ?_
      refine a_iconst C dX4_rebalance_41 ?_
      refine a_iadd C dX4_rebalance_42 ?_
      refine a_iald C hS.f2 hS.n2 0 hS.tI (by omega) (by omega) (by decide) dX4_rebalance_43 (fun z43 e43 r43 => ?_)
      have q43 := hB.1 (z7 + 1) (by omega) (by omega)
      rw [← e43] at q43
      refine a_iadd C dX4_rebalance_44 ?_
      refine a_imul C dX4_rebalance_45 ?_
      refine a_icmp_gt C 51 r28 (by omega) dX4_rebalance_46 (by decide) (fun c46 => ?_) (fun c46 => ?_)
      · skip
        refine a_aload_n C dX4_rebalance_51 2 rfl rfl ?_
        refine a_iload_n C dX4_rebalance_52 0 rfl rfl ?_
        refine a_cVV C (k0 := 1) (As := [vI z7]) (rest := []) (c_X4_fuse x.2.1 v σ b hS z7 (by omega) hW hB.C) gX4_rebalance_X4_fuse rfl (by decide +kernel) (by decide) hS.f0 rfl hS.n0 rfl rfl (Nat.le_of_ble_eq_true rfl) dX4_rebalance_53 (fun u53 p53 => ?_)
        have h5 : u53 b 5 = σ b 5 - 1 := congrArg Prod.fst p53.2
        have hW2 : skW u53 b := skW_iff.mpr (by rw [p53.2]; exact svW_fuse (skW_iff.mp hW) (by omega) (by show z7 + 1 < σ b 5; omega))
        have hB2 : skB u53 b := skB_of (by rw [p53.2]; exact svB_fuse hB0 (by omega) (by show z7 + 1 < σ b 5; omega) (by decide)) (p53.1.hcB hH)
        refine a_iload_n C dX4_rebalance_56 0 rfl rfl ?_
        refine a_iload_n C dX4_rebalance_57 1 rfl rfl ?_
        refine a_icmp_ge C 67 r7 r1 dX4_rebalance_58 (by decide) (fun c58 => ?_) (fun c58 => ?_)
        · skip
          have hk0 : 0 ≤ z1 ∧ z1 < u53 b 5 := by rw [h5]; omega
          have hE := fuse_E (E := mkR (σ b 5) (σ (b + 1))) (p := z7) (g := z1) (by omega) (by omega) (by omega) (by omega)
          have hv1 : mkR (u53 b 5) (u53 (b + 1)) = delR (mkR (σ b 5) (σ (b + 1))) z7 (mkR (σ b 5) (σ (b + 1)) (z7 + 1)) := congrArg (fun S : SV => S.2.1) p53.2
          rw [← hv1] at hE
          (first | rw [if_neg (by omega)] at hE | rw [if_pos (by omega)] at hE)
          rw [mkR_in hk0.1 hk0.2, foF_mk (by omega), mkR_in (by omega) (by omega), foF_mk (by omega)] at hE
          have hb2 := lo_pos (show 1 ≤ loN (σ (b + 4)) (σ (b + 1)) z1 by omega)
          have hz1 := hW.2.2 z1 (by omega) (by omega)
          have hf1 := foF_bd hW (k := z1) (by omega)
          refine a_iload_n C dX4_rebalance_67 1 rfl rfl ?_
          refine a_istore_n C 3 [(3, vI z1), (2, vI z7), (1, vI z1), (0, .ref (vq v b))] dX4_rebalance_68 rfl (by decide) rfl ?_
          refine a_aload_n C dX4_rebalance_69 3 rfl rfl ?_
          refine a_iload_n C dX4_rebalance_70 0 rfl rfl ?_
          refine a_aload_n C dX4_rebalance_71 3 rfl rfl ?_
          refine a_iload_n C dX4_rebalance_72 0 rfl rfl ?_
          refine a_cVI C (k0 := 1) (As := [vI z1]) (rest := [vI z1, .ref (vq v b)]) (c_X4_halfOf x.2.1 v u53 b hS z1 hk0 hW2) gX4_rebalance_X4_halfOf rfl (by decide +kernel) (by decide) hS.f0 rfl hS.n0 rfl rfl (Nat.le_of_ble_eq_true rfl) dX4_rebalance_73 (fun z73 u73 r73 p73 => ?_)
          obtain ⟨e73, p73⟩ := p73
          subst u73
          have hh := haF_bd (u53 (b + 4)) (u53 (b + 1)) z1
          rw [← e73] at hh
          refine a_cVV C (k0 := 2) (As := [vI z1, vI z73]) (rest := []) (c_X4_cut x.2.1 v u53 b hS z1 z73 hk0 (by omega) (by omega) hW2 hB2) gX4_rebalance_X4_cut rfl (by decide +kernel) (by decide) hS.f0 rfl hS.n0 rfl rfl (Nat.le_of_ble_eq_true rfl) dX4_rebalance_76 (fun u76 p76 => ?_)
          refine a_iconst C dX4_rebalance_79 ?_
          refine hret _ _ _ _ dX4_rebalance_80 (by decide) ?_
          rw [keepV_1 (by rw [← e1, ← e7]; omega), ← e1, ← e7]
          refine ⟨rfl, p53.1.tr p76.1, ?_⟩
          rw [p76.2, p53.2, p53.1.h]
          dsimp only
          (first | rw [if_neg (by omega)] | rw [if_pos (by omega)])
          rw [e73, p53.1.h]
          congr 1
          rw [← haF_mk (n := u53 b 5) hk0.1 hk0.2]
          have hv := congrArg (fun S : SV => S.2.1) p53.2
          simp only [skV] at hv ⊢
          rw [hv]
        · skip
          have hk0 : 0 ≤ (z1 - 1) ∧ (z1 - 1) < u53 b 5 := by rw [h5]; omega
          have hE := fuse_E (E := mkR (σ b 5) (σ (b + 1))) (p := z7) (g := z1) (by omega) (by omega) (by omega) (by omega)
          have hv1 : mkR (u53 b 5) (u53 (b + 1)) = delR (mkR (σ b 5) (σ (b + 1))) z7 (mkR (σ b 5) (σ (b + 1)) (z7 + 1)) := congrArg (fun S : SV => S.2.1) p53.2
          rw [← hv1] at hE
          (first | rw [if_neg (by omega)] at hE | rw [if_pos (by omega)] at hE)
          rw [mkR_in hk0.1 hk0.2, foF_mk (by omega), mkR_in (by omega) (by omega), foF_mk (by omega)] at hE
          have hb2 := lo_pos (show 1 ≤ loN (σ (b + 4)) (σ (b + 1)) z1 by omega)
          have hz1 := hW.2.2 z1 (by omega) (by omega)
          have hf1 := foF_bd hW (k := z1) (by omega)
          refine a_iload_n C dX4_rebalance_61 1 rfl rfl ?_
          refine a_iconst C dX4_rebalance_62 ?_
          refine a_isub C dX4_rebalance_63 ?_
          refine a_goto C 68 dX4_rebalance_64 (by decide) ?_
          refine a_istore_n C 3 [(3, vI (z1 - 1)), (2, vI z7), (1, vI z1), (0, .ref (vq v b))] dX4_rebalance_68 rfl (by decide) rfl ?_
          refine a_aload_n C dX4_rebalance_69 3 rfl rfl ?_
          refine a_iload_n C dX4_rebalance_70 0 rfl rfl ?_
          refine a_aload_n C dX4_rebalance_71 3 rfl rfl ?_
          refine a_iload_n C dX4_rebalance_72 0 rfl rfl ?_
          refine a_cVI C (k0 := 1) (As := [vI (z1 - 1)]) (rest := [vI (z1 - 1), .ref (vq v b)]) (c_X4_halfOf x.2.1 v u53 b hS (z1 - 1) hk0 hW2) gX4_rebalance_X4_halfOf rfl (by decide +kernel) (by decide) hS.f0 rfl hS.n0 rfl rfl (Nat.le_of_ble_eq_true rfl) dX4_rebalance_73 (fun z73 u73 r73 p73 => ?_)
          obtain ⟨e73, p73⟩ := p73
          subst u73
          have hh := haF_bd (u53 (b + 4)) (u53 (b + 1)) (z1 - 1)
          rw [← e73] at hh
          refine a_cVV C (k0 := 2) (As := [vI (z1 - 1), vI z73]) (rest := []) (c_X4_cut x.2.1 v u53 b hS (z1 - 1) z73 hk0 (by omega) (by omega) hW2 hB2) gX4_rebalance_X4_cut rfl (by decide +kernel) (by decide) hS.f0 rfl hS.n0 rfl rfl (Nat.le_of_ble_eq_true rfl) dX4_rebalance_76 (fun u76 p76 => ?_)
          refine a_iconst C dX4_rebalance_79 ?_
          refine hret _ _ _ _ dX4_rebalance_80 (by decide) ?_
          rw [keepV_1 (by rw [← e1, ← e7]; omega), ← e1, ← e7]
          refine ⟨rfl, p53.1.tr p76.1, ?_⟩
          rw [p76.2, p53.2, p53.1.h]
          dsimp only
          (first | rw [if_neg (by omega)] | rw [if_pos (by omega)])
          rw [e73, p53.1.h]
          congr 1
          rw [← haF_mk (n := u53 b 5) hk0.1 hk0.2]
          have hv := congrArg (fun S : SV => S.2.1) p53.2
          simp only [skV] at hv ⊢
          rw [hv]
      · skip
        refine a_iconst C dX4_rebalance_49 ?_
        exact hret _ _ _ _ dX4_rebalance_50 (by decide) (by rw [keepV_0 (by rw [← e1, ← e7]; omega)]; exact ⟨rfl, skFr.rf, rfl⟩)
    · skip
      refine a_iconst C dX4_rebalance_21 ?_
      exact hret _ _ _ _ dX4_rebalance_22 (by decide) (by rw [keepV_0 (by rw [← e1, ← e7]; omega)]; exact ⟨rfl, skFr.rf, rfl⟩)
