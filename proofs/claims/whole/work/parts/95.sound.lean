/-! ===== soundness of a sketch: virtual rows U of each span, at least its true plain rows, within its doubt of its count ===== -/
def gtF (h tr : Int → Int) (v : Int) : Int := if h v = 0 then tr v else 0
def rrS (h tr e : Int → Int) (k : Int) : Int := smR (gtF h tr) (foF e k) (e k + 1)
def sdI (h tr : Int → Int) (S : SV) : Prop := ∃ U : Int → Int, (∀ k : Int, 0 ≤ k → k < S.1 → rrS h tr S.2.1 k ≤ U k ∧ -(S.2.2.2 k) ≤ S.2.2.1 k - U k ∧ S.2.2.1 k - U k ≤ S.2.2.2 k) ∧ smR S.2.2.1 0 S.1 = smR U 0 S.1
theorem smR_one {f : Int → Int} {a b k : Int} (h : ∀ v, a ≤ v → v < b → 0 ≤ f v) (h0 : a ≤ k) (h1 : k < b) : f k ≤ smR f a b := by
  rw [smR_split (b := k) h0 (by omega), smR_step (a := k) h1]
  have g1 : 0 ≤ smR f a k := smR_nn fun v q1 q2 => h v q1 (by omega)
  have g2 : 0 ≤ smR f (k + 1) b := smR_nn fun v q1 q2 => h v (by omega) q2
  omega
theorem smR_le {f g : Int → Int} {a b : Int} (h : ∀ v, a ≤ v → v < b → f v ≤ g v) : smR f a b ≤ smR g a b := by
  obtain ⟨n, hn⟩ : ∃ n : Nat, n = (b - a).toNat := ⟨_, rfl⟩
  induction n generalizing a with
  | zero => rw [smR_nil (by omega), smR_nil (by omega)]; omega
  | succ n ih =>
    rw [smR_step (f := f) (by omega), smR_step (f := g) (by omega)]
    have h1 := h a (by omega) (by omega)
    have h2 := ih (a := a + 1) (fun v q1 q2 => h v (by omega) q2) (by omega)
    omega
theorem gt_nn {h tr : Int → Int} (ht : ∀ j : Int, 0 ≤ j → j < 40 → 0 ≤ tr j) {a b : Int} (h0 : 0 ≤ a) (h1 : b ≤ 40) : 0 ≤ smR (gtF h tr) a b := smR_nn fun v q1 q2 => by
  unfold gtF
  split
  · exact ht v (by omega) (by omega)
  · exact Int.le_refl _
/-- a stretch without plain values has no plain rows -/
theorem gt_zero {h tr : Int → Int} {a b : Int} (h0 : 0 ≤ a) (h1 : b ≤ 39) (hL : ltC h a b = 0) : smR (gtF h tr) a (b + 1) = 0 := by
  have key : ∀ v : Int, a ≤ v → v < b + 1 → h v ≠ 0 := by
    intro v q1 q2 q3
    have : (fun v => if h v = 0 then (1 : Int) else 0) v ≤ smR (fun v => if h v = 0 then 1 else 0) (max a 0) (min (b + 1) 40) := smR_one (fun v _ _ => by split <;> omega) (by omega) (by omega)
    have e : ltC h a b = smR (fun v => if h v = 0 then 1 else 0) (max a 0) (min (b + 1) 40) := rfl
    dsimp only at this
    rw [if_pos q3] at this
    omega
  rw [smR_congr (g := fun _ => 0) (fun v q1 q2 => by unfold gtF; rw [if_neg (key v q1 q2)])]
  have := smR_bd (f := fun _ => (0 : Int)) (a := a) (b := max a (b + 1)) (lo := 0) (hi := 0) (fun _ _ _ => ⟨Int.le_refl _, Int.le_refl _⟩) (by omega)
  rcases Int.lt_or_le a (b + 1) with q | q
  · rw [show max a (b + 1) = b + 1 by omega] at this; omega
  · rw [smR_nil q]
theorem foF_ge {S : SV} (hE : svE S) {k : Int} (h0 : 0 ≤ k) (h1 : k < S.1) : 0 ≤ foF S.2.1 k ∧ foF S.2.1 k ≤ S.2.1 k ∧ S.2.1 k ≤ 39 := by
  have e := hE.2.2.1 k h0 h1
  unfold foF
  split
  · next q =>
    have := hE.2.2.2.1 (k - 1) k (by omega) (by omega) h1
    have := hE.2.2.1 (k - 1) (by omega) (by omega)
    omega
  · omega
theorem rrS_nn {h tr : Int → Int} {S : SV} (hE : svE S) (ht : ∀ j : Int, 0 ≤ j → j < 40 → 0 ≤ tr j) {k : Int} (h0 : 0 ≤ k) (h1 : k < S.1) : 0 ≤ rrS h tr S.2.1 k := by
  have := foF_ge hE h0 h1
  exact gt_nn ht (by omega) (by omega)
/-! ends behind a cut, behind a melt -/
theorem foF_ins {e : Int → Int} {k v x j : Int} (hk : 0 ≤ k) : foF (insR e k v x) j = if j ≤ k then foF e j else if j = k + 1 then v + 1 else if j = k + 2 then x + 1 else foF e (j - 1) := by
  unfold foF
  rcases (by omega : j ≤ 0 ∨ (0 < j ∧ j ≤ k) ∨ j = k + 1 ∨ j = k + 2 ∨ k + 2 < j) with a | a | a | a | a
  · rw [if_neg (by omega), if_pos (by omega), if_neg (by omega)]
  · rw [if_pos (by omega), if_pos (by omega), if_pos (by omega), insR_lt (by omega)]
  · rw [if_pos (by omega), if_neg (by omega), if_pos a, show j - 1 = k by omega, insR_k]
  · rw [if_pos (by omega), if_neg (by omega), if_neg (by omega), if_pos a, insR_k1 (by omega)]
  · rw [if_pos (by omega), if_neg (by omega), if_neg (by omega), if_neg (by omega), if_pos (by omega), insR_gt (by omega)]
theorem rrS_ins {h tr e : Int → Int} {k v j : Int} (hk : 0 ≤ k) : rrS h tr (insR e k v (e k)) j = if j < k then rrS h tr e j else if j = k then smR (gtF h tr) (foF e k) (v + 1) else if j = k + 1 then smR (gtF h tr) (v + 1) (e k + 1) else rrS h tr e (j - 1) := by
  unfold rrS
  rw [foF_ins hk]
  rcases (by omega : j < k ∨ j = k ∨ j = k + 1 ∨ j = k + 2 ∨ k + 2 < j) with a | a | a | a | a
  · rw [if_pos (by omega), if_pos a, insR_lt a]
  · rw [if_pos (by omega), if_neg (by omega), if_pos a, a, insR_k]
  · rw [if_neg (by omega), if_pos a, if_neg (by omega), if_neg (by omega), if_pos a, insR_k1 a]
  · rw [if_neg (by omega), if_neg (by omega), if_pos a, if_neg (by omega), if_neg (by omega), if_neg (by omega), insR_gt (by omega)]
    congr 1
    unfold foF
    rw [if_pos (by omega)]
    congr 2
    omega
  · rw [if_neg (by omega), if_neg (by omega), if_neg (by omega), if_neg (by omega), if_neg (by omega), if_neg (by omega), insR_gt (by omega)]
theorem rrS_del {h tr : Int → Int} {S : SV} {k j : Int} (hE : svE S) (hk : 0 ≤ k) (hk2 : k + 1 < S.1) : rrS h tr (delR S.2.1 k (S.2.1 (k + 1))) j = if j < k then rrS h tr S.2.1 j else if j = k then rrS h tr S.2.1 k + rrS h tr S.2.1 (k + 1) else rrS h tr S.2.1 (j + 1) := by
  have f0 := foF_ge hE hk (by omega)
  have f1 := foF_ge hE (k := k + 1) (by omega) hk2
  have f2 : foF S.2.1 (k + 1) = S.2.1 k + 1 := by unfold foF; rw [if_pos (by omega), show k + 1 - 1 = k by omega]
  unfold rrS
  have fd : foF (delR S.2.1 k (S.2.1 (k + 1))) j = if j ≤ k then foF S.2.1 j else foF S.2.1 (j + 1) := by
    unfold foF
    rcases (by omega : j ≤ 0 ∨ (0 < j ∧ j ≤ k) ∨ (j = k + 1) ∨ k + 1 < j) with a | a | a | a
    · by_cases z : j ≤ k
      · rw [if_neg (by omega), if_pos z, if_neg (by omega)]
      · exfalso; omega
    · rw [if_pos (by omega), if_pos (by omega), if_pos (by omega), delR_lt (by omega)]
    · rw [if_pos (by omega), if_neg (by omega), if_pos (by omega), show j - 1 = k by omega, delR_k, show j + 1 - 1 = k + 1 by omega]
    · rw [if_pos (by omega), if_neg (by omega), if_pos (by omega), delR_gt (by omega), show j - 1 + 1 = j + 1 - 1 by omega]
  rw [fd]
  rcases (by omega : j < k ∨ j = k ∨ k < j) with a | a | a
  · rw [if_pos (by omega), if_pos a, delR_lt a]
  · rw [if_pos (by omega), if_neg (by omega), if_pos a, a, delR_k, f2]
    exact smR_split (by omega) (by omega)
  · rw [if_neg (by omega), if_neg (by omega), if_neg (by omega), delR_gt a]
/-- U is nonnegative and no more than all counts together -/
theorem sd_U {h tr : Int → Int} {S : SV} {U : Int → Int} (hE : svE S) (ht : ∀ j : Int, 0 ≤ j → j < 40 → 0 ≤ tr j) (hU : ∀ k : Int, 0 ≤ k → k < S.1 → rrS h tr S.2.1 k ≤ U k ∧ -(S.2.2.2 k) ≤ S.2.2.1 k - U k ∧ S.2.2.1 k - U k ≤ S.2.2.2 k) (hs : smR S.2.2.1 0 S.1 = smR U 0 S.1) {k : Int} (h0 : 0 ≤ k) (h1 : k < S.1) : 0 ≤ U k ∧ U k ≤ smR S.2.2.1 0 S.1 := by
  have nn : ∀ v : Int, 0 ≤ v → v < S.1 → 0 ≤ U v := fun v q1 q2 => by have := rrS_nn (h := h) hE ht q1 q2; have := (hU v q1 q2).1; omega
  exact ⟨nn k h0 h1, by rw [hs]; exact smR_one nn h0 h1⟩
theorem sdI_cut {h tr : Int → Int} {S : SV} {k v : Int} (hE : svE S) (ht : ∀ j : Int, 0 ≤ j → j < 40 → 0 ≤ tr j) (hk : 0 ≤ k) (hk2 : k < S.1) (hv : foF S.2.1 k ≤ v ∧ v < S.2.1 k) (hc : ∀ j : Int, 0 ≤ j → j < S.1 → -800000 ≤ S.2.2.1 j ∧ S.2.2.1 j ≤ 800000) (hT : smR S.2.2.1 0 S.1 ≤ 200000) (hS : sdI h tr S) : sdI h tr (cutV h S k v) ∧ smR (cutV h S k v).2.2.1 0 (cutV h S k v).1 = smR S.2.2.1 0 S.1 := by
  obtain ⟨U, hU, hs⟩ := hS
  have f0 := foF_ge hE hk hk2
  have hUk := hU k hk hk2
  have u := sd_U hE ht hU hs hk hk2
  have hck := hc k hk hk2
  have hL := (ltC_bd h (foF S.2.1 k) v).1
  have hR := (ltC_bd h (v + 1) (S.2.1 k)).1
  have r1 : 0 ≤ smR (gtF h tr) (foF S.2.1 k) (v + 1) := gt_nn ht (by omega) (by omega)
  have r2 : 0 ≤ smR (gtF h tr) (v + 1) (S.2.1 k + 1) := gt_nn ht (by omega) (by omega)
  have r3 : rrS h tr S.2.1 k = smR (gtF h tr) (foF S.2.1 k) (v + 1) + smR (gtF h tr) (v + 1) (S.2.1 k + 1) := smR_split (by omega) (by omega)
  have z1 : ltC h (foF S.2.1 k) v = 0 → smR (gtF h tr) (foF S.2.1 k) (v + 1) = 0 := fun q => gt_zero (by omega) (by omega) q
  have z2 : ltC h (v + 1) (S.2.1 k) = 0 → smR (gtF h tr) (v + 1) (S.2.1 k + 1) = 0 := fun q => gt_zero (by omega) (by omega) q
  have e1 := smR_ins (f := S.2.2.1) (g := fun z => z) (n := S.1) (k := k) (x := (hvF (S.2.2.1 k) (S.2.2.2 k) (ltC h (foF S.2.1 k) v) (ltC h (v + 1) (S.2.1 k))).1.1) (y := (hvF (S.2.2.1 k) (S.2.2.2 k) (ltC h (foF S.2.1 k) v) (ltC h (v + 1) (S.2.1 k))).2.1) hk hk2
  obtain ⟨L, hLe⟩ : ∃ L : Int, ltC h (foF S.2.1 k) v = L := ⟨_, rfl⟩
  obtain ⟨R, hRe⟩ : ∃ R : Int, ltC h (v + 1) (S.2.1 k) = R := ⟨_, rfl⟩
  obtain ⟨rl, hle⟩ : ∃ r : Int, smR (gtF h tr) (foF S.2.1 k) (v + 1) = r := ⟨_, rfl⟩
  obtain ⟨rr, hre⟩ : ∃ r : Int, smR (gtF h tr) (v + 1) (S.2.1 k + 1) = r := ⟨_, rfl⟩
  rw [hLe] at hL z1 e1
  rw [hRe] at hR z2 e1
  rw [hle] at r1 r3 z1
  rw [hre] at r2 r3 z2
  obtain ⟨Ul, Ur, p1, p2, p3, p4, p5, p6, p7⟩ : ∃ Ul Ur : Int, Ul + Ur = U k ∧ rl ≤ Ul ∧ rr ≤ Ur ∧ (-((hvF (S.2.2.1 k) (S.2.2.2 k) L R).1.2) ≤ (hvF (S.2.2.1 k) (S.2.2.2 k) L R).1.1 - Ul ∧ (hvF (S.2.2.1 k) (S.2.2.2 k) L R).1.1 - Ul ≤ (hvF (S.2.2.1 k) (S.2.2.2 k) L R).1.2) ∧ -((hvF (S.2.2.1 k) (S.2.2.2 k) L R).2.2) ≤ (hvF (S.2.2.1 k) (S.2.2.2 k) L R).2.1 - Ur ∧ (hvF (S.2.2.1 k) (S.2.2.2 k) L R).2.1 - Ur ≤ (hvF (S.2.2.1 k) (S.2.2.2 k) L R).2.2 ∧ (hvF (S.2.2.1 k) (S.2.2.2 k) L R).1.1 + (hvF (S.2.2.1 k) (S.2.2.2 k) L R).2.1 = S.2.2.1 k := by
    generalize S.2.2.1 k = c at *
    generalize S.2.2.2 k = d at *
    unfold hvF
    by_cases q1 : L = 0
    · have := z1 q1
      rw [if_pos q1]
      exact ⟨0, U k, by omega, by omega, by omega, ⟨by dsimp only; omega, by dsimp only; omega⟩, by dsimp only; omega, by dsimp only; omega, by dsimp only; omega⟩
    · by_cases q2 : R = 0
      · have := z2 q2
        rw [if_neg q1, if_pos q2]
        exact ⟨U k, 0, by omega, by omega, by omega, ⟨by dsimp only; omega, by dsimp only; omega⟩, by dsimp only; omega, by dsimp only; omega, by dsimp only; omega⟩
      · rw [if_neg q1, if_neg q2]
        have g := share_bd (c := c) hL hR (by omega)
        refine ⟨rl, U k - rl, by omega, by omega, by omega, ?_, ?_, ?_, ?_⟩
        · dsimp only [pdF]; omega
        · dsimp only [pdF]; omega
        · dsimp only [pdF]; omega
        · dsimp only; omega
  have e2 := smR_ins (f := U) (g := fun z => z) (n := S.1) (k := k) (x := Ul) (y := Ur) hk hk2
  try dsimp only at e1 e2
  refine ⟨⟨insR U k Ul Ur, fun j j0 j1 => ?_, ?_⟩, ?_⟩
  · simp only [cutV] at j1 ⊢
    rw [rrS_ins hk, hLe, hRe, hle, hre]
    rcases (by omega : j < k ∨ j = k ∨ j = k + 1 ∨ k + 1 < j) with a | a | a | a
    · rw [if_pos a, insR_lt a, insR_lt a, insR_lt a]; exact hU j j0 (by omega)
    · rw [if_neg (by omega), if_pos a, a, insR_k, insR_k, insR_k]; exact ⟨p2, p4⟩
    · rw [if_neg (by omega), if_neg (by omega), if_pos a, insR_k1 a, insR_k1 a, insR_k1 a]; exact ⟨p3, p5, p6⟩
    · rw [if_neg (by omega), if_neg (by omega), if_neg (by omega), insR_gt a, insR_gt a, insR_gt a]; exact hU (j - 1) (by omega) (by omega)
  · simp only [cutV]
    rw [hLe, hRe]
    refine e1.trans (Eq.trans ?_ e2.symm)
    have e3 : smR (fun j => S.2.2.1 j) 0 S.1 = smR (fun j => U j) 0 S.1 := hs
    omega
  · simp only [cutV]
    rw [hLe, hRe]
    refine e1.trans ?_
    have e3 : smR (fun j => S.2.2.1 j) 0 S.1 = smR S.2.2.1 0 S.1 := rfl
    omega
theorem sdI_fuse {h tr : Int → Int} {S : SV} {k : Int} (hE : svE S) (ht : ∀ j : Int, 0 ≤ j → j < 40 → 0 ≤ tr j) (hk : 0 ≤ k) (hk2 : k + 1 < S.1) (hc : ∀ j : Int, 0 ≤ j → j < S.1 → -300000 ≤ S.2.2.1 j ∧ S.2.2.1 j ≤ 300000 ∨ -800000 ≤ S.2.2.1 k + S.2.2.1 (k + 1) ∧ S.2.2.1 k + S.2.2.1 (k + 1) ≤ 800000) (hT : smR S.2.2.1 0 S.1 ≤ 200000) (hS : sdI h tr S) : sdI h tr (fuseV S k) ∧ smR (fuseV S k).2.2.1 0 (fuseV S k).1 = smR S.2.2.1 0 S.1 := by
  obtain ⟨U, hU, hs⟩ := hS
  have nn : ∀ v : Int, 0 ≤ v → v < S.1 → 0 ≤ U v := fun v q1 q2 => (sd_U hE ht hU hs q1 q2).1
  have u2 : U k + U (k + 1) ≤ 200000 := by
    have g1 : 0 ≤ smR U 0 k := smR_nn fun v q1 q2 => nn v q1 (by omega)
    have g2 : 0 ≤ smR U (k + 1 + 1) S.1 := smR_nn fun v q1 q2 => nn v (by omega) q2
    have g3 : smR U 0 S.1 = smR U 0 k + (U k + (U (k + 1) + smR U (k + 1 + 1) S.1)) := by rw [smR_split (b := k) hk (by omega), smR_step (a := k) (by omega), smR_step (a := k + 1) (by omega)]
    omega
  have a1 := hU k hk (by omega)
  have a2 := hU (k + 1) (by omega) hk2
  have n1 := nn k hk (by omega)
  have n2 := nn (k + 1) (by omega) hk2
  have c1 := hc k hk (by omega)
  have c2 := hc (k + 1) (by omega) hk2
  have e1 := smR_del (f := S.2.2.1) (g := fun z => z) (n := S.1) (k := k) (x := S.2.2.1 k + S.2.2.1 (k + 1)) hk hk2
  have e2 := smR_del (f := U) (g := fun z => z) (n := S.1) (k := k) (x := U k + U (k + 1)) hk hk2
  try dsimp only at e1 e2
  refine ⟨⟨delR U k (U k + U (k + 1)), fun j j0 j1 => ?_, ?_⟩, ?_⟩
  · simp only [fuseV] at j1 ⊢
    rw [rrS_del hE hk hk2]
    rcases (by omega : j < k ∨ j = k ∨ k < j) with a | a | a
    · rw [if_pos a, delR_lt a, delR_lt a, delR_lt a]; exact hU j j0 (by omega)
    · rw [if_neg (by omega), if_pos a, a, delR_k, delR_k, delR_k]; omega
    · rw [if_neg (by omega), if_neg (by omega), delR_gt a, delR_gt a, delR_gt a]; exact hU (j + 1) (by omega) (by omega)
  · simp only [fuseV]
    refine e1.trans (Eq.trans ?_ e2.symm)
    have e3 : smR (fun j => S.2.2.1 j) 0 S.1 = smR (fun j => U j) 0 S.1 := hs
    omega
  · simp only [fuseV]
    refine e1.trans ?_
    have e3 : smR (fun j => S.2.2.1 j) 0 S.1 = smR S.2.2.1 0 S.1 := rfl
    omega
