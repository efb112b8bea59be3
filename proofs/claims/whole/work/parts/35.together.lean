/-! ===== ends in order; TOGETHER as a walk over the values ===== -/
def svE (S : SV) : Prop := 1 ≤ S.1 ∧ S.1 ≤ 24 ∧ (∀ j : Int, 0 ≤ j → j < S.1 → 0 ≤ S.2.1 j ∧ S.2.1 j ≤ 39) ∧ (∀ i j : Int, 0 ≤ i → i < j → j < S.1 → S.2.1 i < S.2.1 j) ∧ S.2.1 (S.1 - 1) = 39
theorem svE.W {S : SV} (h : svE S) : svW S := ⟨by have := h.1; omega, h.2.1, h.2.2.1⟩
theorem spOf_eq {e : Int → Int} {n v k : Int} (h0 : 0 ≤ k) (h1 : k < n) (h2 : ∀ j, 0 ≤ j → j < k → e j < v) (h3 : v ≤ e k) : spOf e n v = k := by
  symm
  exact fnd_uniq _ _ _ _ h0 (by omega) (fun j q1 q2 => by simp only [decide_eq_false_iff_not]; have := h2 j q1 q2; omega) (fun _ => by simpa using h3)
theorem spOf_in {S : SV} (h : svE S) {v : Int} (hv : v ≤ 39) : 0 ≤ spOf S.2.1 S.1 v ∧ spOf S.2.1 S.1 v < S.1 ∧ (∀ j, 0 ≤ j → j < spOf S.2.1 S.1 v → S.2.1 j < v) ∧ v ≤ S.2.1 (spOf S.2.1 S.1 v) := by
  have hn := h.1
  obtain ⟨b1, b2, -⟩ := spOf_bd S.2.1 S.1 v
  obtain ⟨g1, g2, g3, g4⟩ := fnd_spec (fun k => decide (v ≤ S.2.1 k)) (S.1 - 1).toNat 0
  refine ⟨b1, b2 (by omega), fun j q1 q2 => ?_, ?_⟩
  · have := g3 j q1 q2
    simp only [decide_eq_false_iff_not] at this
    omega
  · by_cases q : spOf S.2.1 S.1 v < S.1 - 1
    · have := g4 (by unfold spOf at q; omega)
      exact of_decide_eq_true this
    · have : spOf S.2.1 S.1 v = S.1 - 1 := by have := b2 (by omega); omega
      rw [this, h.2.2.2.2]
      exact hv
theorem svE_cut {h : Int → Int} {S : SV} {v : Int} (hE : svE S) (hn : S.1 < 24) (hv : 0 ≤ v) (hv2 : v < 39) (hne : S.2.1 (spOf S.2.1 S.1 v) ≠ v) : svE (cutV h S (spOf S.2.1 S.1 v) v) := by
  obtain ⟨k0, k1, k2, k3⟩ := spOf_in hE (v := v) (by omega)
  generalize hk : spOf S.2.1 S.1 v = k at *
  have hn1 := hE.1
  refine ⟨by simp only [cutV]; omega, by simp only [cutV]; omega, (svW_cut hE.W hn k0 k1 (by omega)).2.2, ?_, ?_⟩
  · intro i j q1 q2 q3
    simp only [cutV] at q3 ⊢
    have key : ∀ j : Int, 0 ≤ j → j < S.1 + 1 → insR S.2.1 k v (S.2.1 k) j = if j < k then S.2.1 j else if j = k then v else S.2.1 (j - 1) := by
      intro j _ _
      unfold insR
      split
      · rfl
      · split
        · rfl
        · split
          · rw [show j - 1 = k by omega]
          · rfl
    rw [key i q1 (by omega), key j (by omega) q3]
    rcases (by omega : (j < k) ∨ (i < k ∧ j = k) ∨ (i < k ∧ k < j) ∨ (i = k ∧ k < j) ∨ (k < i)) with q | q | q | q | q
    · rw [if_pos (by omega), if_pos q]; exact hE.2.2.2.1 i j q1 q2 (by omega)
    · rw [if_pos q.1, if_neg (by omega), if_pos q.2]; exact k2 i q1 q.1
    · rw [if_pos q.1, if_neg (by omega), if_neg (by omega)]; exact hE.2.2.2.1 i (j - 1) q1 (by omega) (by omega)
    · rw [if_neg (by omega), if_pos q.1, if_neg (by omega), if_neg (by omega)]
      by_cases z : j - 1 = k
      · rw [z]; omega
      · have := hE.2.2.2.1 k (j - 1) k0 (by omega) (by omega); omega
    · rw [if_neg (by omega), if_neg (by omega), if_neg (by omega), if_neg (by omega)]; exact hE.2.2.2.1 (i - 1) (j - 1) (by omega) (by omega) (by omega)
  · simp only [cutV]
    rw [show S.1 + 1 - 1 = S.1 by omega]
    by_cases z : S.1 = k + 1
    · have q : S.1 - 1 = k := by omega
      rw [insR_k1 z, ← q]; exact hE.2.2.2.2
    · rw [insR_gt (by omega)]; exact hE.2.2.2.2
/-- one value of TOGETHER's first walk: where one sketch ends a span, the other is split -/
def tkS (h ho : Int → Int) (v : Int) (st : SV × SV) : SV × SV :=
  (if st.2.2.1 (spOf st.2.2.1 st.2.1 v) = v ∧ ¬ st.1.2.1 (spOf st.1.2.1 st.1.1 v) = v then cutV h st.1 (spOf st.1.2.1 st.1.1 v) v else st.1,
   if st.1.2.1 (spOf st.1.2.1 st.1.1 v) = v ∧ ¬ st.2.2.1 (spOf st.2.2.1 st.2.1 v) = v then cutV ho st.2 (spOf st.2.2.1 st.2.1 v) v else st.2)
def tkI (v : Int) (st : SV × SV) : Prop := svE st.1 ∧ svE st.2 ∧ spOf st.1.2.1 st.1.1 v = spOf st.2.2.1 st.2.1 v ∧ (∀ j : Int, 0 ≤ j → j < spOf st.1.2.1 st.1.1 v → st.1.2.1 j = st.2.2.1 j) ∧ st.1.1 + st.2.1 - spOf st.1.2.1 st.1.1 v ≤ 24
/-- the walk's place behind value v, in a sketch that ends a span at v, and in one that doesn't -/
theorem spOf_next {S : SV} (hE : svE S) {v : Int} (hv : 0 ≤ v) (hv2 : v < 39) : spOf S.2.1 S.1 (v + 1) = if S.2.1 (spOf S.2.1 S.1 v) = v then spOf S.2.1 S.1 v + 1 else spOf S.2.1 S.1 v := by
  obtain ⟨k0, k1, k2, k3⟩ := spOf_in hE (v := v) (by omega)
  generalize hk : spOf S.2.1 S.1 v = k at *
  split
  · next q =>
    have hl : k < S.1 - 1 := by
      rcases Int.lt_or_le k (S.1 - 1) with z | z
      · exact z
      · have : k = S.1 - 1 := by omega
        rw [this, hE.2.2.2.2] at q
        omega
    refine spOf_eq (by omega) (by omega) (fun j q1 q2 => ?_) ?_
    · by_cases z : j = k
      · rw [z]; omega
      · have := k2 j q1 (by omega); omega
    · have := hE.2.2.2.1 k (k + 1) k0 (by omega) (by omega); omega
  · next q => exact spOf_eq k0 k1 (fun j q1 q2 => by have := k2 j q1 q2; omega) (by omega)
theorem spOf_cut {h : Int → Int} {S : SV} (hE : svE S) (hn : S.1 < 24) {v : Int} (hv : 0 ≤ v) (hv2 : v < 39) (hne : S.2.1 (spOf S.2.1 S.1 v) ≠ v) : spOf (cutV h S (spOf S.2.1 S.1 v) v).2.1 (cutV h S (spOf S.2.1 S.1 v) v).1 (v + 1) = spOf S.2.1 S.1 v + 1 ∧ (cutV h S (spOf S.2.1 S.1 v) v).2.1 (spOf S.2.1 S.1 v) = v ∧ (cutV h S (spOf S.2.1 S.1 v) v).1 = S.1 + 1 ∧ ∀ j, j < spOf S.2.1 S.1 v → (cutV h S (spOf S.2.1 S.1 v) v).2.1 j = S.2.1 j := by
  obtain ⟨k0, k1, k2, k3⟩ := spOf_in hE (v := v) (by omega)
  generalize hk : spOf S.2.1 S.1 v = k at *
  have e1 : (cutV h S k v).2.1 k = v := by simp only [cutV]; exact insR_k
  have e2 : ∀ j, j < k → (cutV h S k v).2.1 j = S.2.1 j := fun j q => by simp only [cutV]; exact insR_lt q
  refine ⟨?_, e1, rfl, e2⟩
  refine spOf_eq (by omega) (by simp only [cutV]; omega) (fun j q1 q2 => ?_) ?_
  · by_cases z : j = k
    · rw [z, e1]; omega
    · rw [e2 j (by omega)]; have := k2 j q1 (by omega); omega
  · simp only [cutV]
    rw [insR_k1 rfl]
    omega
theorem tkI_step {h ho : Int → Int} {v : Int} {st : SV × SV} (hv : 0 ≤ v) (hv2 : v < 39) (hI : tkI v st) : tkI (v + 1) (tkS h ho v st) := by
  obtain ⟨S, T⟩ := st
  obtain ⟨h1, h2, h3, h4, h5⟩ := hI
  dsimp only at h1 h2 h3 h4 h5
  obtain ⟨k0, k1, k2, k3⟩ := spOf_in h1 (v := v) (by omega)
  obtain ⟨l0, l1, l2, l3⟩ := spOf_in h2 (v := v) (by omega)
  have n1 := spOf_next h1 hv hv2
  have n2 := spOf_next h2 hv hv2
  by_cases a : S.2.1 (spOf S.2.1 S.1 v) = v
  · by_cases b : T.2.1 (spOf T.2.1 T.1 v) = v
    · have e : tkS h ho v (S, T) = (S, T) := by simp only [tkS, a, b]; simp
      rw [e]
      rw [if_pos a] at n1
      rw [if_pos b] at n2
      refine ⟨h1, h2, by dsimp only; omega, fun j q1 q2 => ?_, by dsimp only; omega⟩
      dsimp only at q2 ⊢
      by_cases z : j = spOf S.2.1 S.1 v
      · rw [z, a, h3, b]
      · exact h4 j q1 (by omega)
    · have e : tkS h ho v (S, T) = (S, cutV ho T (spOf T.2.1 T.1 v) v) := by simp only [tkS, a, b]; simp
      rw [e]
      rw [if_pos a] at n1
      have hTn : T.1 < 24 := by
        rcases Int.lt_or_le (spOf S.2.1 S.1 v) (S.1 - 1) with z | z
        · omega
        · have q : spOf S.2.1 S.1 v = S.1 - 1 := by omega
          rw [q, h1.2.2.2.2] at a; omega
      obtain ⟨c1, c2, c3, c4⟩ := spOf_cut (h := ho) h2 hTn hv hv2 b
      refine ⟨h1, svE_cut h2 hTn hv hv2 b, by dsimp only; omega, fun j q1 q2 => ?_, by dsimp only; omega⟩
      dsimp only at q2 ⊢
      by_cases z : j = spOf S.2.1 S.1 v
      · rw [z, a, h3, c2]
      · rw [c4 j (by omega)]; exact h4 j q1 (by omega)
  · by_cases b : T.2.1 (spOf T.2.1 T.1 v) = v
    · have e : tkS h ho v (S, T) = (cutV h S (spOf S.2.1 S.1 v) v, T) := by simp only [tkS, a, b]; simp
      rw [e]
      rw [if_pos b] at n2
      have hSn : S.1 < 24 := by
        rcases Int.lt_or_le (spOf T.2.1 T.1 v) (T.1 - 1) with z | z
        · omega
        · have q : spOf T.2.1 T.1 v = T.1 - 1 := by omega
          rw [q, h2.2.2.2.2] at b; omega
      obtain ⟨c1, c2, c3, c4⟩ := spOf_cut (h := h) h1 hSn hv hv2 a
      refine ⟨svE_cut h1 hSn hv hv2 a, h2, by dsimp only; omega, fun j q1 q2 => ?_, by dsimp only; omega⟩
      dsimp only at q2 ⊢
      by_cases z : j = spOf S.2.1 S.1 v
      · rw [z, c2, h3, b]
      · rw [c4 j (by omega)]; exact h4 j q1 (by omega)
    · have e : tkS h ho v (S, T) = (S, T) := by simp only [tkS, a, b]; simp
      rw [e]
      rw [if_neg a] at n1
      rw [if_neg b] at n2
      exact ⟨h1, h2, by dsimp only; omega, fun j q1 q2 => h4 j q1 (by dsimp only at q2; omega), by dsimp only; omega⟩
/-- where a cut of the first (of the other) is made, there is room for it -/
theorem tkI_room {v : Int} {st : SV × SV} (hv2 : v < 39) (hv : 0 ≤ v) (hI : tkI v st) : (st.2.2.1 (spOf st.2.2.1 st.2.1 v) = v → st.1.1 < 24) ∧ (st.1.2.1 (spOf st.1.2.1 st.1.1 v) = v → st.2.1 < 24) := by
  obtain ⟨h1, h2, h3, h4, h5⟩ := hI
  obtain ⟨k0, k1, k2, k3⟩ := spOf_in h1 (v := v) (by omega)
  obtain ⟨l0, l1, l2, l3⟩ := spOf_in h2 (v := v) (by omega)
  constructor
  · intro b
    rcases Int.lt_or_le (spOf st.2.2.1 st.2.1 v) (st.2.1 - 1) with z | z
    · omega
    · have q : spOf st.2.2.1 st.2.1 v = st.2.1 - 1 := by omega
      rw [q, h2.2.2.2.2] at b; omega
  · intro a
    rcases Int.lt_or_le (spOf st.1.2.1 st.1.1 v) (st.1.1 - 1) with z | z
    · omega
    · have q : spOf st.1.2.1 st.1.1 v = st.1.1 - 1 := by omega
      rw [q, h1.2.2.2.2] at a; omega
theorem tkI_end {st : SV × SV} (hI : tkI 39 st) : st.1.1 = st.2.1 ∧ st.1.1 ≤ 23 ∧ ∀ j : Int, 0 ≤ j → j < st.1.1 → st.1.2.1 j = st.2.2.1 j := by
  obtain ⟨h1, h2, h3, h4, h5⟩ := hI
  have key : ∀ S : SV, svE S → spOf S.2.1 S.1 39 = S.1 - 1 := by
    intro S hS
    have := hS.1
    refine spOf_eq (by omega) (by omega) (fun j q1 q2 => ?_) (by rw [hS.2.2.2.2]; omega)
    have := hS.2.2.2.1 j (S.1 - 1) q1 (by omega) (by omega)
    rw [hS.2.2.2.2] at this
    exact this
  have e1 := key _ h1
  have e2 := key _ h2
  refine ⟨by omega, by omega, fun j q1 q2 => ?_⟩
  by_cases z : j = st.1.1 - 1
  · rw [z, h1.2.2.2.2, show st.1.1 - 1 = st.2.1 - 1 by omega, h2.2.2.2.2]
  · exact h4 j q1 (by omega)
/-! sums of a row with a place doubled, or two made one -/
def abI (x : Int) : Int := max x (-x)
theorem abI_bd (x : Int) : x ≤ abI x ∧ -x ≤ abI x ∧ 0 ≤ abI x := by unfold abI; omega
theorem smR_ins {f : Int → Int} {g : Int → Int} {n k x y : Int} (hk : 0 ≤ k) (hk2 : k < n) : smR (fun j => g (insR f k x y j)) 0 (n + 1) = smR (fun j => g (f j)) 0 n - g (f k) + g x + g y := by
  have sh : ∀ c : Int, c ≤ n → k + 1 ≤ c → smR (fun j => g (insR f k x y j)) (c + 1) (n + 1) = smR (fun j => g (f j)) c n := by
    intro c hc hc2
    obtain ⟨m, hm⟩ : ∃ m : Nat, m = (n - c).toNat := ⟨_, rfl⟩
    induction m generalizing c with
    | zero => rw [smR_nil (by omega), smR_nil (by omega)]
    | succ m ih => rw [smR_step (by omega), smR_step (a := c) (by omega), ih (c + 1) (by omega) (by omega) (by omega), insR_gt (by omega), show c + 1 - 1 = c by omega]
  rw [smR_split (a := 0) (b := k) (c := n + 1) hk (by omega), smR_step (a := k) (by omega), smR_step (a := k + 1) (by omega), sh (k + 1) (by omega) (by omega), insR_k, insR_k1 rfl, smR_congr (g := fun j => g (f j)) (fun v q1 q2 => by rw [insR_lt q2]), smR_split (f := fun j => g (f j)) (a := 0) (b := k) (c := n) hk (by omega), smR_step (f := fun j => g (f j)) (a := k) hk2]
  omega
theorem smR_del {f : Int → Int} {g : Int → Int} {n k x : Int} (hk : 0 ≤ k) (hk2 : k + 1 < n) : smR (fun j => g (delR f k x j)) 0 (n - 1) = smR (fun j => g (f j)) 0 n - g (f k) - g (f (k + 1)) + g x := by
  have sh : ∀ c : Int, c ≤ n - 1 → k < c → smR (fun j => g (delR f k x j)) c (n - 1) = smR (fun j => g (f j)) (c + 1) n := by
    intro c hc hc2
    obtain ⟨m, hm⟩ : ∃ m : Nat, m = (n - 1 - c).toNat := ⟨_, rfl⟩
    induction m generalizing c with
    | zero => rw [smR_nil (by omega), smR_nil (by omega)]
    | succ m ih => rw [smR_step (a := c) (b := n - 1) (by omega), ih (c + 1) (by omega) (by omega) (by omega), delR_gt (by omega), smR_step (a := c + 1) (b := n) (by omega)]
  rw [smR_split (a := 0) (b := k) (c := n - 1) hk (by omega), smR_step (a := k) (b := n - 1) (by omega), sh (k + 1) (by omega) (by omega), delR_k, smR_congr (f := fun j => g (delR f k x j)) (g := fun j => g (f j)) (fun v q1 q2 => by rw [delR_lt q2]), smR_split (f := fun j => g (f j)) (a := 0) (b := k) (c := n) hk (by omega), smR_step (f := fun j => g (f j)) (a := k) (b := n) (by omega), smR_step (f := fun j => g (f j)) (a := k + 1) (b := n) (by omega)]
  omega
/-- what all counts weigh, without their signs -/
def l1 (S : SV) : Int := smR (fun j => abI (S.2.2.1 j)) 0 S.1
theorem l1_at {S : SV} {j : Int} (h0 : 0 ≤ j) (h1 : j < S.1) : -(l1 S) ≤ S.2.2.1 j ∧ S.2.2.1 j ≤ l1 S := by
  have e : l1 S = smR (fun j => abI (S.2.2.1 j)) 0 j + (abI (S.2.2.1 j) + smR (fun j => abI (S.2.2.1 j)) (j + 1) S.1) := by
    unfold l1
    rw [smR_split (b := j) h0 (by omega), smR_step (a := j) h1]
  have g1 : 0 ≤ smR (fun j => abI (S.2.2.1 j)) 0 j := smR_nn fun v _ _ => (abI_bd _).2.2
  have g2 : 0 ≤ smR (fun j => abI (S.2.2.1 j)) (j + 1) S.1 := smR_nn fun v _ _ => (abI_bd _).2.2
  have g3 := abI_bd (S.2.2.1 j)
  omega
theorem hvF_l1 {c d L R : Int} (hL : 0 ≤ L) (hR : 0 ≤ R) : abI (hvF c d L R).1.1 + abI (hvF c d L R).2.1 ≤ abI c := by
  unfold hvF
  split
  · dsimp only; unfold abI; omega
  · split
    · dsimp only; unfold abI; omega
    · have g := share_bd (c := c) hL hR (by omega)
      dsimp only
      unfold abI
      omega
theorem l1_cut {h : Int → Int} {S : SV} {k val : Int} (hk : 0 ≤ k) (hk2 : k < S.1) : l1 (cutV h S k val) ≤ l1 S := by
  have e := smR_ins (f := S.2.2.1) (g := abI) (n := S.1) (k := k) (x := (hvF (S.2.2.1 k) (S.2.2.2 k) (ltC h (foF S.2.1 k) val) (ltC h (val + 1) (S.2.1 k))).1.1) (y := (hvF (S.2.2.1 k) (S.2.2.2 k) (ltC h (foF S.2.1 k) val) (ltC h (val + 1) (S.2.1 k))).2.1) hk hk2
  have g := hvF_l1 (c := S.2.2.1 k) (d := S.2.2.2 k) (ltC_bd h (foF S.2.1 k) val).1 (ltC_bd h (val + 1) (S.2.1 k)).1
  show smR (fun j => abI (insR S.2.2.1 k _ _ j)) 0 (S.1 + 1) ≤ _
  rw [e]
  unfold l1
  omega
theorem l1_fuse {S : SV} {k : Int} (hk : 0 ≤ k) (hk2 : k + 1 < S.1) : l1 (fuseV S k) ≤ l1 S := by
  have e := smR_del (f := S.2.2.1) (g := abI) (n := S.1) (k := k) (x := S.2.2.1 k + S.2.2.1 (k + 1)) hk hk2
  show smR (fun j => abI (delR S.2.2.1 k _ j)) 0 (S.1 - 1) ≤ _
  rw [e]
  unfold l1
  have : abI (S.2.2.1 k + S.2.2.1 (k + 1)) ≤ abI (S.2.2.1 k) + abI (S.2.2.1 (k + 1)) := by unfold abI; omega
  omega
/-- the doubts are in their range -/
def svD (S : SV) : Prop := ∀ j : Int, 0 ≤ j → j < S.1 → 0 ≤ S.2.2.2 j ∧ S.2.2.2 j ≤ 1000000
theorem svB_l1 {S : SV} {M : Int} (hD : svD S) (hM : l1 S ≤ M) : svB S M := fun j q1 q2 => ⟨by have := l1_at q1 q2; omega, hD j q1 q2⟩
theorem svD_cut {h : Int → Int} {S : SV} {k val : Int} (hD : svD S) (hk : 0 ≤ k) (hk2 : k < S.1) : svD (cutV h S k val) := fun j q1 q2 => (svB_cut (svB_l1 hD (Int.le_refl _)) (by have := l1_at hk hk2; omega) hk hk2 j q1 q2).2
theorem svD_fuse {S : SV} {k : Int} (hD : svD S) (hk : 0 ≤ k) (hk2 : k + 1 < S.1) : svD (fuseV S k) := by
  intro j q1 q2
  simp only [fuseV] at q2 ⊢
  rcases (by omega : j < k ∨ j = k ∨ k < j) with a | a | a
  · rw [delR_lt a]; exact hD j q1 (by omega)
  · rw [a, delR_k]; have := hD k (by omega) (by omega); have := hD (k + 1) (by omega) (by omega); omega
  · rw [delR_gt a]; exact hD (j + 1) (by omega) (by omega)
theorem lp_some {n : Int} {c : Int → Int} (hn : 2 ≤ n) : 0 ≤ itrR (lpF c (-1)) 0 (n - 1) (-1) := by
  rw [itrR_step (by omega)]
  have := itrR_ind (f := lpF c (-1)) (b := n - 1) (fun k s => 0 ≤ k ∧ 0 ≤ s) (fun k s q1 q2 => by
    refine ⟨by omega, ?_⟩
    unfold lpF
    split
    · omega
    · split <;> omega) (0 + 1) (lpF c (-1) 0 (-1)) (by omega) ⟨by omega, by unfold lpF; rw [if_neg (by omega), if_pos (by omega)]; omega⟩
  exact this.2
/-- MELTS until there are no more than twelve -/
def fzV : Nat → SV → SV
  | 0, S => S
  | m + 1, S => fzV m (fuseV S (itrR (lpF S.2.2.1 (-1)) 0 (S.1 - 1) (-1)))
/-- counts and doubts of two put together, place by place -/
def addV (S T : SV) : SV := (S.1, S.2.1, mkR S.1 (fun j => S.2.2.1 j + T.2.2.1 j), mkR S.1 (fun j => min (S.2.2.2 j + T.2.2.2 j) 1000000))
/-- what comes to span k of the other's heavy values -/
def thF (h ho hco e : Int → Int) (n k v : Int) : Int := if ho v ≠ 0 ∧ h v = 0 ∧ spOf e n v = k then hco v else 0
def thV (h ho hco : Int → Int) (S : SV) : SV := (S.1, S.2.1, mkR S.1 (fun k => S.2.2.1 k + smR (thF h ho hco S.2.1 S.1 k) 0 40), S.2.2.2)
def tkV (h ho hco : Int → Int) (S T : SV) : SV :=
  let st := itrR (tkS h ho) 0 39 (S, T)
  let W := thV h ho hco (addV st.1 st.2)
  fzV (W.1 - 12).toNat W
