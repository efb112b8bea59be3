/-! ===== what holds of every sketch between two calls ===== -/
def skI (h hc tr : Int → Int) (S : SV) (va n : Int) : Prop := svE S ∧ svD S ∧ sdI h tr S ∧ (∀ v : Int, 0 ≤ v → v < 40 → h v ≠ 0 → tr v ≤ hc v) ∧ smR S.2.2.1 0 S.1 + hvS h hc 0 39 ≤ 100000 + va ∧ l1 S + hvS h hc 0 39 ≤ 100000 + n
theorem skI_mono {h hc tr : Int → Int} {S : SV} {va n m : Int} (hI : skI h hc tr S va n) (hm : n ≤ m) : skI h hc tr S va m := ⟨hI.1, hI.2.1, hI.2.2.1, hI.2.2.2.1, hI.2.2.2.2.1, by have := hI.2.2.2.2.2; omega⟩
theorem hv_nn {h hc tr : Int → Int} (ht : ∀ j : Int, 0 ≤ j → j < 40 → 0 ≤ tr j) (hh : ∀ v : Int, 0 ≤ v → v < 40 → h v ≠ 0 → tr v ≤ hc v) : 0 ≤ hvS h hc 0 39 := by
  unfold hvS
  refine smR_nn fun v q1 q2 => ?_
  by_cases z : h v = 0
  · rw [if_pos z]; exact Int.le_refl _
  · rw [if_neg z]
    have := ht v (by omega) (by omega)
    have := hh v (by omega) (by omega) z
    omega
theorem spOf_at {S : SV} (hE : svE S) {k v : Int} (h0 : 0 ≤ k) (h1 : k < S.1) (hv : foF S.2.1 k ≤ v) (hv2 : v ≤ S.2.1 k) : spOf S.2.1 S.1 v = k := by
  refine spOf_eq h0 h1 (fun j j0 j1 => ?_) hv2
  have e : foF S.2.1 k = S.2.1 (k - 1) + 1 := by unfold foF; rw [if_pos (by omega)]
  by_cases z : j = k - 1
  · rw [z]; omega
  · have := hE.2.2.2.1 j (k - 1) j0 (by omega) (by omega); omega
theorem spOf_foF {S : SV} (hE : svE S) {v : Int} (hv : 0 ≤ v) (hv2 : v ≤ 39) : foF S.2.1 (spOf S.2.1 S.1 v) ≤ v := by
  obtain ⟨k0, k1, k2, k3⟩ := spOf_in hE hv2
  unfold foF
  split
  · have := k2 (spOf S.2.1 S.1 v - 1) (by omega) (by omega); omega
  · exact hv
theorem skI_cut {h hc tr : Int → Int} {S : SV} {va n k v : Int} (ht : ∀ j : Int, 0 ≤ j → j < 40 → 0 ≤ tr j) (hva : 0 ≤ va ∧ va ≤ 10000) (hn : n ≤ 512000) (hS : S.1 < 24) (hk : 0 ≤ k) (hk2 : k < S.1) (hv : foF S.2.1 k ≤ v ∧ v < S.2.1 k) (hI : skI h hc tr S va n) : skI h hc tr (cutV h S k v) va n := by
  obtain ⟨i1, i2, i3, i4, i5, i6⟩ := hI
  have f0 := foF_ge i1 hk hk2
  have hsp := spOf_at i1 hk hk2 hv.1 (by omega)
  have hH := hv_nn ht i4
  have e := svE_cut (h := h) i1 hS (v := v) (by omega) (by omega) (by rw [hsp]; omega)
  rw [hsp] at e
  have s := sdI_cut (h := h) i1 ht hk hk2 hv (fun j q1 q2 => by have := l1_at (S := S) q1 q2; omega) (by omega) i3
  have l := l1_cut (h := h) (S := S) (val := v) hk hk2
  exact ⟨e, svD_cut i2 hk hk2, s.1, i4, by rw [s.2]; exact i5, by omega⟩
theorem l1_pair {S : SV} {k : Int} (hk : 0 ≤ k) (hk2 : k + 1 < S.1) : -(l1 S) ≤ S.2.2.1 k + S.2.2.1 (k + 1) ∧ S.2.2.1 k + S.2.2.1 (k + 1) ≤ l1 S := by
  have g1 := l1_fuse (S := S) hk hk2
  have g2 := l1_at (S := fuseV S k) (j := k) hk (by simp only [fuseV]; omega)
  have e : (fuseV S k).2.2.1 k = S.2.2.1 k + S.2.2.1 (k + 1) := by simp only [fuseV]; exact delR_k
  rw [e] at g2
  omega
theorem skI_fuse {h hc tr : Int → Int} {S : SV} {va n k : Int} (ht : ∀ j : Int, 0 ≤ j → j < 40 → 0 ≤ tr j) (hva : 0 ≤ va ∧ va ≤ 10000) (hn : n ≤ 512000) (hk : 0 ≤ k) (hk2 : k + 1 < S.1) (hI : skI h hc tr S va n) : skI h hc tr (fuseV S k) va n := by
  obtain ⟨i1, i2, i3, i4, i5, i6⟩ := hI
  have hH := hv_nn ht i4
  have p := l1_pair (S := S) hk hk2
  have s := sdI_fuse (h := h) i1 ht hk hk2 (fun _ _ _ => Or.inr (by omega)) (by omega) i3
  have l := l1_fuse (S := S) hk hk2
  exact ⟨svE_fuse i1 hk hk2, svD_fuse i2 hk hk2, s.1, i4, by rw [s.2]; exact i5, by omega⟩
theorem ltC_last {h : Int → Int} {a b : Int} (h0 : 0 ≤ a) (h1 : a ≤ b) (h2 : b ≤ 39) : ltC h a b = ltC h a (b - 1) + if h b = 0 then 1 else 0 := by
  unfold ltC
  rw [show max a 0 = a by omega, show min (b + 1) 40 = b + 1 by omega, show min (b - 1 + 1) 40 = b by omega, smR_last h1]
theorem ha_lt {h e : Int → Int} {k : Int} (h0 : 0 ≤ foF e k) (h1 : foF e k ≤ e k) (h2 : e k ≤ 39) (hL : 2 ≤ loN h e k) : haF h e k < e k := by
  have hlt : foF e k < e k := by
    rcases Int.lt_or_le (foF e k) (e k) with q | q
    · exact q
    · exfalso
      have e1 : foF e k = e k := by omega
      unfold loN at hL
      rw [e1, ltC_last (by omega) (Int.le_refl _) h2] at hL
      have : ltC h (e k) (e k - 1) = 0 := by unfold ltC; exact smR_nil (by omega)
      rw [this] at hL
      split at hL <;> omega
  obtain ⟨g1, g2, g3, g4⟩ := fnd_spec (fun w => decide (loN h e k ≤ 2 * ltC h (foF e k) w)) (e k - foF e k).toNat (foF e k)
  have eq : haF h e k = fnd (fun w => decide (loN h e k ≤ 2 * ltC h (foF e k) w)) (e k - foF e k).toNat (foF e k) := rfl
  rw [← eq] at g1 g2 g3
  rcases Int.lt_or_le (haF h e k) (e k) with q | q
  · exact q
  · exfalso
    have g := g3 (e k - 1) (by omega) (by omega)
    simp only [decide_eq_false_iff_not] at g
    have l : loN h e k = ltC h (foF e k) (e k - 1) + if h (e k) = 0 then 1 else 0 := ltC_last h0 h1 h2
    split at l <;> omega
theorem skI_keep {h hc tr : Int → Int} {S : SV} {va n : Int} (ht : ∀ j : Int, 0 ≤ j → j < 40 → 0 ≤ tr j) (hva : 0 ≤ va ∧ va ≤ 10000) (hn : n ≤ 512000) (hI : skI h hc tr S va n) : skI h hc tr (keepV h S).1 va n ∧ (keepV h S).1.1 = S.1 := by
  have n1 := hI.1.1
  have n2 := hI.1.2.1
  have g1 := gl_bd (h := h) (e := S.2.1) (c := S.2.2.1) (n := S.1) (by omega)
  have g2 := gl_two (h := h) (e := S.2.1) (c := S.2.2.1) (n := S.1) (by omega)
  have p1 := lp_bd (w := itrR (glF h S.2.1 S.2.2.1) 0 S.1 (-1)) (c := S.2.2.1) (n := S.1) n1
  have p2 := lp_ne (w := itrR (glF h S.2.1 S.2.2.1) 0 S.1 (-1)) (c := S.2.2.1) (n := S.1) n1
  unfold keepV
  generalize itrR (glF h S.2.1 S.2.2.1) 0 S.1 (-1) = g at *
  generalize itrR (lpF S.2.2.1 g) 0 (S.1 - 1) (-1) = p at *
  by_cases c1 : g = -1 ∨ p = -1
  · rw [if_pos c1]; exact ⟨hI, rfl⟩
  · rw [if_neg c1]
    by_cases c2 : S.2.2.1 g ≤ 2 * (S.2.2.1 p + S.2.2.1 (p + 1))
    · rw [if_pos c2]; exact ⟨hI, rfl⟩
    · rw [if_neg c2]
      dsimp only
      have hf := skI_fuse ht hva hn (k := p) (by omega) (by omega) hI
      have fE := fuse_E (E := S.2.1) (p := p) (g := g) (by omega) (by omega) (by omega) (by omega)
      have ee : (fuseV S p).2.1 = delR S.2.1 p (S.2.1 (p + 1)) := rfl
      rw [← ee] at fE
      have e1 : (fuseV S p).1 = S.1 - 1 := rfl
      generalize hk : (if p < g then g - 1 else g) = k at *
      have k0 : 0 ≤ k ∧ k < (fuseV S p).1 := by rw [e1, ← hk]; split <;> omega
      have fg := foF_ge hf.1 k0.1 k0.2
      have hl : 2 ≤ loN h (fuseV S p).2.1 k := by
        have : loN h (fuseV S p).2.1 k = loN h S.2.1 g := by unfold loN; rw [fE.1, fE.2]
        rw [this]
        rcases g2 with q | q
        · omega
        · exact q
      have hb := haF_bd h (fuseV S p).2.1 k
      have hlt := ha_lt fg.1 fg.2.1 fg.2.2 hl
      refine ⟨skI_cut ht hva hn (by omega) k0.1 k0.2 ⟨hb.1, hlt⟩ hf, ?_⟩
      show (fuseV S p).1 + 1 = S.1
      omega
/-! rows put and struck -/
theorem smR_at {x m a b : Int} : smR (fun v => if v = x then m else 0) a b = if a ≤ x ∧ x < b then m else 0 := by
  obtain ⟨n, hn⟩ : ∃ n : Nat, n = (b - a).toNat := ⟨_, rfl⟩
  induction n generalizing a with
  | zero => rw [smR_nil (by omega), if_neg (by omega)]
  | succ n ih =>
    rw [smR_step (by omega), ih (a := a + 1) (by omega)]
    by_cases q : a = x
    · rw [if_pos q, if_neg (by omega), if_pos (by omega)]; omega
    · rw [if_neg q]
      by_cases p : a + 1 ≤ x ∧ x < b
      · rw [if_pos p, if_pos (by omega)]; omega
      · rw [if_neg p, if_neg (by omega)]; omega
theorem skI_row {h hc tr tr' : Int → Int} {S S' : SV} {va n x m d : Int} (hx : 0 ≤ x ∧ x < 40) (hhx : h x = 0) (hm : -d ≤ m ∧ m ≤ d) (htr : ∀ j : Int, 0 ≤ j → j < 40 → tr' j = tr j + if j = x then m else 0) (s1 : S'.1 = S.1) (s2 : S'.2.1 = S.2.1) (s3 : ∀ j : Int, 0 ≤ j → j < S.1 → S'.2.2.1 j = S.2.2.1 j + if j = spOf S.2.1 S.1 x then m else 0) (s4 : S'.2.2.2 = S.2.2.2) (hI : skI h hc tr S va n) : skI h hc tr' S' (va + m) (n + d) := by
  obtain ⟨i1, i2, ⟨U, hU, hs⟩, i4, i5, i6⟩ := hI
  obtain ⟨k0, k1, k2, k3⟩ := spOf_in i1 (v := x) (by omega)
  have fx := spOf_foF i1 (v := x) hx.1 (by omega)
  have sc : smR S'.2.2.1 0 S.1 = smR S.2.2.1 0 S.1 + m := by
    rw [smR_congr s3, smR_add (f := S.2.2.1) (g := fun j => if j = spOf S.2.1 S.1 x then m else 0), smR_at, if_pos ⟨k0, k1⟩]
  refine ⟨?_, ?_, ⟨fun j => U j + if j = spOf S.2.1 S.1 x then m else 0, fun k q1 q2 => ?_, ?_⟩, fun v v0 v1 q => ?_, by rw [s1, sc]; omega, ?_⟩
  · unfold svE at *; rw [s1, s2]; exact i1
  · unfold svD at *; rw [s1, s4]; exact i2
  · rw [s1] at q2
    rw [s2, s3 k q1 q2, s4]
    have a := hU k q1 q2
    have fk := foF_ge i1 q1 q2
    have er : rrS h tr' S.2.1 k = rrS h tr S.2.1 k + if k = spOf S.2.1 S.1 x then m else 0 := by
      unfold rrS
      rw [smR_congr (g := fun v => gtF h tr v + if v = x then m else 0) (fun v v0 v1 => ?_), smR_add (f := gtF h tr) (g := fun v => if v = x then m else 0), smR_at]
      · congr 1
        by_cases z : k = spOf S.2.1 S.1 x
        · rw [if_pos z, if_pos (by rw [z]; omega)]
        · rw [if_neg z, if_neg]
          intro y
          exact z (spOf_at i1 q1 q2 y.1 (by omega)).symm
      · unfold gtF
        rw [htr v (by omega) (by omega)]
        by_cases z : v = x
        · rw [if_pos z, z, if_pos hhx, if_pos hhx]
        · rw [if_neg z, Int.add_zero, Int.add_zero]
    rw [er]
    dsimp only
    omega
  · rw [s1, sc, smR_add (f := U) (g := fun j => if j = spOf S.2.1 S.1 x then m else 0), smR_at, if_pos ⟨k0, k1⟩, hs]
  · rw [htr v v0 v1, if_neg (fun z => q (by rw [z]; exact hhx))]
    have := i4 v v0 v1 q
    omega
  · have l : l1 S' ≤ l1 S + d := by
      unfold l1
      rw [s1]
      have q := smR_le (f := fun j => abI (S'.2.2.1 j)) (g := fun j => abI (S.2.2.1 j) + if j = spOf S.2.1 S.1 x then d else 0) (a := 0) (b := S.1) (fun j j0 j1 => by
        rw [s3 j j0 j1]; unfold abI; split <;> omega)
      rw [smR_add (f := fun j => abI (S.2.2.1 j)) (g := fun j => if j = spOf S.2.1 S.1 x then d else 0), smR_at, if_pos ⟨k0, k1⟩] at q
      exact q
    omega
theorem skI_rowh {h hc hc' tr tr' : Int → Int} {S : SV} {va n x m d : Int} (hx : 0 ≤ x ∧ x < 40) (hhx : h x ≠ 0) (hm : -d ≤ m ∧ m ≤ d) (htr : ∀ j : Int, 0 ≤ j → j < 40 → tr' j = tr j + if j = x then m else 0) (hhc : ∀ j : Int, 0 ≤ j → j < 40 → hc' j = hc j + if j = x then m else 0) (hI : skI h hc tr S va n) : skI h hc' tr' S (va + m) (n + d) := by
  obtain ⟨i1, i2, ⟨U, hU, hs⟩, i4, i5, i6⟩ := hI
  have eh : hvS h hc' 0 39 = hvS h hc 0 39 + m := by
    unfold hvS
    rw [smR_congr (g := fun v => (if h v = 0 then 0 else hc v) + if v = x then m else 0) (fun v v0 v1 => ?_), smR_add (f := fun v => if h v = 0 then 0 else hc v) (g := fun v => if v = x then m else 0), smR_at, if_pos (by omega)]
    rw [hhc v (by omega) (by omega)]
    by_cases z : v = x
    · rw [z, if_neg hhx, if_neg hhx]
    · rw [if_neg z]; split <;> omega
  refine ⟨i1, i2, ⟨U, fun k q1 q2 => ?_, hs⟩, fun v v0 v1 q => ?_, by rw [eh]; omega, by rw [eh]; omega⟩
  · have fk := foF_ge i1 q1 q2
    have er : rrS h tr' S.2.1 k = rrS h tr S.2.1 k := by
      unfold rrS
      refine smR_congr fun v v0 v1 => ?_
      unfold gtF
      rw [htr v (by omega) (by omega)]
      by_cases z : v = x
      · rw [z, if_neg hhx, if_neg hhx]
      · rw [if_neg z, Int.add_zero]
    rw [er]
    exact hU k q1 q2
  · rw [htr v v0 v1, hhc v v0 v1]
    have := i4 v v0 v1 q
    split <;> omega
