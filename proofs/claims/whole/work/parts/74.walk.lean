/-! ===== the class's walk for TOGETHER, and pieces by cuts ===== -/
/-- behind place p a refined sketch is the old one from v's span on -/
def tlI (S T : SV) (v p : Int) : Prop := T.1 - p = S.1 - spOf S.2.1 S.1 v ∧ ∀ j : Int, 0 ≤ j → p + j < T.1 → T.2.1 (p + j) = S.2.1 (spOf S.2.1 S.1 v + j)
def cnS (S : SV) : Prop := S.2.1 = mkR S.1 S.2.1 ∧ S.2.2.1 = mkR S.1 S.2.2.1 ∧ S.2.2.2 = mkR S.1 S.2.2.2
theorem cnS_cut {h : Int → Int} {S : SV} {k v : Int} (hS : cnS S) (h0 : 0 ≤ k) (h1 : k < S.1) : cnS (cutV h S k v) := by
  obtain ⟨c1, c2, c3⟩ := hS
  unfold cnS cutV
  refine ⟨?_, ?_, ?_⟩
  · dsimp only
    conv => lhs; rw [c1]
    exact (mkR_ins h0 h1 (fun j _ _ => by rw [← c1])).symm
  · dsimp only
    conv => lhs; rw [c2]
    exact (mkR_ins h0 h1 (fun j _ _ => by rw [← c2])).symm
  · dsimp only
    conv => lhs; rw [c3]
    exact (mkR_ins h0 h1 (fun j _ _ => by rw [← c3])).symm
theorem cnS_mk {n : Int} {E C D : Int → Int} : cnS (n, mkR n E, mkR n C, mkR n D) := ⟨mkR_mk.symm, mkR_mk.symm, mkR_mk.symm⟩
/-- the walk's state at value v: both are refined at the cuts so far -/
def wkI (h ho K : Int → Int) (S So : SV) (v p : Int) : Prop :=
  itrR (tkS h ho) 0 v (S, So) = (itrR (rfS h K) 0 p S, itrR (rfS ho K) 0 p So) ∧ tkI v (itrR (tkS h ho) 0 v (S, So)) ∧ spOf (itrR (tkS h ho) 0 v (S, So)).1.2.1 (itrR (tkS h ho) 0 v (S, So)).1.1 v = p ∧ tlI S (itrR (tkS h ho) 0 v (S, So)).1 v p ∧ tlI So (itrR (tkS h ho) 0 v (S, So)).2 v p ∧ (∀ j : Int, 0 ≤ j → j < p → (itrR (tkS h ho) 0 v (S, So)).1.2.1 j = K j) ∧ cnS (itrR (tkS h ho) 0 v (S, So)).1 ∧ cnS (itrR (tkS h ho) 0 v (S, So)).2
theorem wkI_0 {h ho K : Int → Int} {S So : SV} (hS : svE S) (hSo : svE So) (cS : cnS S) (cSo : cnS So) (hn : S.1 + So.1 ≤ 24) : wkI h ho K S So 0 0 := by
  have z : ∀ X : SV, svE X → spOf X.2.1 X.1 0 = 0 := by
    intro X hX
    obtain ⟨k0, k1, k2, k3⟩ := spOf_in hX (v := 0) (by decide)
    rcases Int.lt_or_le 0 (spOf X.2.1 X.1 0) with q | q
    · have := k2 0 (by omega) q; have := hX.2.2.1 0 (by omega) (by have := hX.1; omega); omega
    · omega
  unfold wkI
  rw [itrR_nil (by omega), itrR_nil (by omega), itrR_nil (by omega)]
  refine ⟨rfl, ⟨hS, hSo, by dsimp only; rw [z S hS, z So hSo], fun j q1 q2 => by dsimp only at q2; rw [z S hS] at q2; omega, by dsimp only; rw [z S hS]; omega⟩, z S hS, ⟨by dsimp only; rw [z S hS], fun j q1 q2 => by dsimp only; rw [z S hS]⟩, ⟨by dsimp only; rw [z So hSo], fun j q1 q2 => by dsimp only; rw [z So hSo]⟩, fun j q1 q2 => by omega, cS, cSo⟩
theorem rf_congr {h K K' : Int → Int} {p : Int} {S : SV} (hK : ∀ j : Int, 0 ≤ j → j < p → K' j = K j) : itrR (rfS h K') 0 p S = itrR (rfS h K) 0 p S :=
  itrR_congr (fun k s q1 q2 => by unfold rfS; rw [hK k q1 q2]) S
/-- one sketch's part of a step with a cut at v -/
theorem wk_one {h : Int → Int} {S T : SV} {v p : Int} (hS : svE S) (hT : svE T) (hv : 0 ≤ v) (hv2 : v < 39) (hp : spOf T.2.1 T.1 v = p) (hl : tlI S T v p) (hroom : ¬ S.2.1 (spOf S.2.1 S.1 v) = v → T.1 < 24) (hc : cnS T) :
    (T.2.1 p = v ↔ S.2.1 (spOf S.2.1 S.1 v) = v) ∧ tlI S (if S.2.1 (spOf S.2.1 S.1 v) = v then T else cutV h T p v) (v + 1) (p + 1) ∧ (if S.2.1 (spOf S.2.1 S.1 v) = v then T else cutV h T p v).2.1 p = v ∧ (∀ j : Int, j < p → (if S.2.1 (spOf S.2.1 S.1 v) = v then T else cutV h T p v).2.1 j = T.2.1 j) ∧ spOf (if S.2.1 (spOf S.2.1 S.1 v) = v then T else cutV h T p v).2.1 (if S.2.1 (spOf S.2.1 S.1 v) = v then T else cutV h T p v).1 (v + 1) = p + 1 ∧ cnS (if S.2.1 (spOf S.2.1 S.1 v) = v then T else cutV h T p v) := by
  obtain ⟨k0, k1, k2, k3⟩ := spOf_in hS (v := v) (by omega)
  obtain ⟨l0, l1_, l2, l3⟩ := spOf_in hT (v := v) (by omega)
  have nS := spOf_next hS hv hv2
  have nT := spOf_next hT hv hv2
  have e0 : T.2.1 p = S.2.1 (spOf S.2.1 S.1 v) := by
    have := hl.2 0 (by omega) (by omega)
    rw [Int.add_zero, Int.add_zero] at this
    exact this
  rw [hp] at nT l0 l1_ l2 l3
  by_cases a : S.2.1 (spOf S.2.1 S.1 v) = v
  · simp only [if_pos a] at nS ⊢
    rw [if_pos (by omega)] at nT
    refine ⟨by rw [e0], ⟨by rw [nS]; have := hl.1; omega, fun j q1 q2 => ?_⟩, by omega, fun j _ => trivial, nT, hc⟩
    have := hl.2 (j + 1) (by omega) (by omega)
    rw [nS, show p + 1 + j = p + (j + 1) by omega, this]
    exact congrArg S.2.1 (by omega)
  · simp only [if_neg a] at nS ⊢
    have hne : T.2.1 (spOf T.2.1 T.1 v) ≠ v := by rw [hp]; omega
    obtain ⟨c1, c2, c3, c4⟩ := spOf_cut (h := h) hT (hroom a) hv hv2 hne
    rw [hp] at c1 c2 c3 c4
    refine ⟨by rw [e0], ⟨by rw [nS, c3]; have := hl.1; omega, fun j q1 q2 => ?_⟩, c2, c4, c1, cnS_cut hc l0 l1_⟩
    rw [nS]
    simp only [cutV]
    rw [c3] at q2
    by_cases z : j = 0
    · rw [z, insR_k1 (by omega), Int.add_zero]; exact e0
    · rw [insR_gt (by omega)]
      have := hl.2 j q1 (by omega)
      rw [show p + 1 + j - 1 = p + j by omega, this]
theorem wk_none {S T : SV} {v p : Int} (hS : svE S) (hT : svE T) (hv : 0 ≤ v) (hv2 : v < 39) (hp : spOf T.2.1 T.1 v = p) (hl : tlI S T v p) (a : ¬ S.2.1 (spOf S.2.1 S.1 v) = v) : ¬ T.2.1 p = v ∧ tlI S T (v + 1) p ∧ spOf T.2.1 T.1 (v + 1) = p := by
  obtain ⟨k0, k1, k2, k3⟩ := spOf_in hS (v := v) (by omega)
  obtain ⟨l0, l1_, l2, l3⟩ := spOf_in hT (v := v) (by omega)
  have nS := spOf_next hS hv hv2
  have nT := spOf_next hT hv hv2
  have e0 : T.2.1 p = S.2.1 (spOf S.2.1 S.1 v) := by
    have := hl.2 0 (by omega) (by omega)
    rw [Int.add_zero, Int.add_zero] at this
    exact this
  rw [hp] at nT
  rw [if_neg a] at nS
  rw [if_neg (by omega)] at nT
  exact ⟨by omega, ⟨by rw [nS]; exact hl.1, fun j q1 q2 => by rw [nS]; exact hl.2 j q1 q2⟩, nT⟩
theorem wkI_skip {h ho K : Int → Int} {S So : SV} {v p : Int} (hS : svE S) (hSo : svE So) (hv : 0 ≤ v) (hv2 : v < 39) (hI : wkI h ho K S So v p) (a : ¬ S.2.1 (spOf S.2.1 S.1 v) = v) (b : ¬ So.2.1 (spOf So.2.1 So.1 v) = v) : wkI h ho K S So (v + 1) p := by
  unfold wkI at *
  rw [itrR_right hv]
  generalize itrR (tkS h ho) 0 v (S, So) = st at *
  obtain ⟨T, U⟩ := st
  obtain ⟨h1, h2, h3, h4, h5, h6, h7, h8⟩ := hI
  dsimp only at h3 h4 h5 h6 h7 h8
  have h3b : spOf U.2.1 U.1 v = p := by rw [← h3]; exact h2.2.2.1.symm
  obtain ⟨n1, n2, n3⟩ := wk_none hS h2.1 hv hv2 h3 h4 a
  obtain ⟨m1, m2, m3⟩ := wk_none hSo h2.2.1 hv hv2 h3b h5 b
  have e : tkS h ho v (T, U) = (T, U) := by
    unfold tkS
    dsimp only
    rw [h3, h3b, if_neg (fun q => m1 q.1), if_neg (fun q => n1 q.1)]
  have h9 := tkI_step (h := h) (ho := ho) hv hv2 h2
  rw [e] at h9 ⊢
  exact ⟨h1, h9, n3, n2, m2, h6, h7, h8⟩
theorem wkI_cut {h ho K K' : Int → Int} {S So : SV} {v p : Int} (hS : svE S) (hSo : svE So) (hv : 0 ≤ v) (hv2 : v < 39) (hp : 0 ≤ p) (hI : wkI h ho K S So v p) (a : S.2.1 (spOf S.2.1 S.1 v) = v ∨ So.2.1 (spOf So.2.1 So.1 v) = v) (hK : ∀ j : Int, 0 ≤ j → j < p → K' j = K j) (hKp : K' p = v) : wkI h ho K' S So (v + 1) (p + 1) := by
  unfold wkI at *
  rw [itrR_right hv, itrR_right (f := rfS h K') hp, itrR_right (f := rfS ho K') hp, rf_congr hK, rf_congr hK]
  generalize itrR (tkS h ho) 0 v (S, So) = st at *
  obtain ⟨T, U⟩ := st
  obtain ⟨h1, h2, h3, h4, h5, h6, h7, h8⟩ := hI
  obtain ⟨e1, e2⟩ := Prod.mk.inj h1
  rw [← e1, ← e2]
  dsimp only at h3 h4 h5 h6 h7 h8
  have h3b : spOf U.2.1 U.1 v = p := by rw [← h3]; exact h2.2.2.1.symm
  have room := tkI_room hv2 hv h2
  dsimp only at room
  rw [h3, h3b] at room
  obtain ⟨k0, k1, k2, k3⟩ := spOf_in hS (v := v) (by omega)
  obtain ⟨q0, q1, q2, q3⟩ := spOf_in hSo (v := v) (by omega)
  have et : T.2.1 p = S.2.1 (spOf S.2.1 S.1 v) := by have := h4.2 0 (by omega) (by have := h4.1; omega); rw [Int.add_zero, Int.add_zero] at this; exact this
  have eu : U.2.1 p = So.2.1 (spOf So.2.1 So.1 v) := by have := h5.2 0 (by omega) (by have := h5.1; omega); rw [Int.add_zero, Int.add_zero] at this; exact this
  obtain ⟨n1, n2, n3, n4, n5, n6⟩ := wk_one (h := h) hS h2.1 hv hv2 h3 h4 (fun z => room.1 (by omega)) h7
  obtain ⟨m1, m2, m3, m4, m5, m6⟩ := wk_one (h := ho) hSo h2.2.1 hv hv2 h3b h5 (fun z => room.2 (by omega)) h8
  have e : tkS h ho v (T, U) = (if S.2.1 (spOf S.2.1 S.1 v) = v then T else cutV h T p v, if So.2.1 (spOf So.2.1 So.1 v) = v then U else cutV ho U p v) := by
    unfold tkS
    dsimp only
    rw [h3, h3b]
    refine Prod.ext ?_ ?_
    · dsimp only
      by_cases z : S.2.1 (spOf S.2.1 S.1 v) = v
      · rw [if_pos z, if_neg (fun y => y.2 (n1.mpr z))]
      · rw [if_neg z, if_pos ⟨by omega, fun y => z (n1.mp y)⟩]
    · dsimp only
      by_cases z : So.2.1 (spOf So.2.1 So.1 v) = v
      · rw [if_pos z, if_neg (fun y => y.2 (m1.mpr z))]
      · rw [if_neg z, if_pos ⟨by omega, fun y => z (m1.mp y)⟩]
  have f1 : rfS h K' p T = if S.2.1 (spOf S.2.1 S.1 v) = v then T else cutV h T p v := by
    unfold rfS
    rw [hKp]
    by_cases z : S.2.1 (spOf S.2.1 S.1 v) = v
    · rw [if_pos z, if_pos (n1.mpr z)]
    · rw [if_neg z, if_neg (fun y => z (n1.mp y))]
  have f2 : rfS ho K' p U = if So.2.1 (spOf So.2.1 So.1 v) = v then U else cutV ho U p v := by
    unfold rfS
    rw [hKp]
    by_cases z : So.2.1 (spOf So.2.1 So.1 v) = v
    · rw [if_pos z, if_pos (m1.mpr z)]
    · rw [if_neg z, if_neg (fun y => z (m1.mp y))]
  have h9 := tkI_step (h := h) (ho := ho) hv hv2 h2
  rw [e] at h9 ⊢
  refine ⟨by rw [f1, f2], h9, n5, n2, m2, fun j j0 j1 => ?_, n6, m6⟩
  by_cases z : j = p
  · rw [z]; dsimp only; rw [n3, hKp]
  · dsimp only; rw [n4 j (by omega), hK j j0 (by omega)]; exact h6 j j0 (by omega)
/-- the last value is an end of both -/
theorem wkI_end {h ho K K' : Int → Int} {S So : SV} {p : Int} (hS : svE S) (hSo : svE So) (hp : 0 ≤ p) (hI : wkI h ho K S So 39 p) (hK : ∀ j : Int, 0 ≤ j → j < p → K' j = K j) (hKp : K' p = 39) :
    itrR (tkS h ho) 0 39 (S, So) = (itrR (rfS h K') 0 (p + 1) S, itrR (rfS ho K') 0 (p + 1) So) ∧ (itrR (rfS h K') 0 (p + 1) S).1 = p + 1 ∧ (itrR (rfS ho K') 0 (p + 1) So).1 = p + 1 ∧ p + 1 ≤ 23 ∧ (∀ j : Int, 0 ≤ j → j < p + 1 → (itrR (rfS h K') 0 (p + 1) S).2.1 j = K' j) ∧ cnS (itrR (rfS h K') 0 (p + 1) S) := by
  unfold wkI at *
  rw [itrR_right (f := rfS h K') hp, itrR_right (f := rfS ho K') hp, rf_congr hK, rf_congr hK]
  generalize itrR (tkS h ho) 0 39 (S, So) = st at *
  obtain ⟨T, U⟩ := st
  obtain ⟨h1, h2, h3, h4, h5, h6, h7, h8⟩ := hI
  obtain ⟨e1, e2⟩ := Prod.mk.inj h1
  rw [← e1, ← e2]
  dsimp only at h3 h4 h5 h6 h7 h8
  have key : ∀ X : SV, svE X → spOf X.2.1 X.1 39 = X.1 - 1 := by
    intro X hX
    have := hX.1
    refine spOf_eq (by omega) (by omega) (fun j q1 q2 => ?_) (by rw [hX.2.2.2.2]; omega)
    have := hX.2.2.2.1 j (X.1 - 1) q1 (by omega) (by omega)
    rw [hX.2.2.2.2] at this
    exact this
  have kT := key T h2.1
  have kU := key U h2.2.1
  have h3b : spOf U.2.1 U.1 39 = p := by rw [← h3]; exact h2.2.2.1.symm
  have tE : T.2.1 p = 39 := by rw [show p = T.1 - 1 by omega]; exact h2.1.2.2.2.2
  have uE : U.2.1 p = 39 := by rw [show p = U.1 - 1 by omega]; exact h2.2.1.2.2.2.2
  have f1 : rfS h K' p T = T := by unfold rfS; rw [if_pos (by omega)]
  have f2 : rfS ho K' p U = U := by unfold rfS; rw [if_pos (by omega)]
  rw [f1, f2]
  have h5b := h2.2.2.2.2
  dsimp only at h5b
  refine ⟨rfl, by omega, by omega, by omega, fun j j0 j1 => ?_, h7⟩
  by_cases z : j = p
  · rw [z, tE, hKp]
  · rw [h6 j j0 (by omega), hK j j0 (by omega)]
