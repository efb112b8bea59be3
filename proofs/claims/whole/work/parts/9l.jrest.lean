/-! ===== what JOIN asks, through keep, rows, make and TOGETHER ===== -/
theorem gt_le {h tr : Int → Int} (ht : ∀ j : Int, 0 ≤ j → j < 40 → 0 ≤ tr j) {a b : Int} (h0 : 0 ≤ a) (h1 : a ≤ b) (h2 : b ≤ 40) : 0 ≤ smR (gtF h tr) a b ∧ smR (gtF h tr) a b ≤ smR tr 0 40 := by
  have s1 : smR (gtF h tr) 0 40 = smR (gtF h tr) 0 a + (smR (gtF h tr) a b + smR (gtF h tr) b 40) := by rw [smR_split (a := 0) (b := a) (c := 40) h0 (by omega), smR_split (a := a) (b := b) (c := 40) h1 h2]
  have n1 := gt_nn (h := h) ht (a := 0) (b := a) (by omega) (by omega)
  have n2 := gt_nn (h := h) ht (a := a) (b := b) h0 h2
  have n3 := gt_nn (h := h) ht (a := b) (b := 40) (by omega) (by omega)
  have l : smR (gtF h tr) 0 40 ≤ smR tr 0 40 := smR_le fun v v0 v1 => by
    unfold gtF
    split
    · exact Int.le_refl _
    · exact ht v v0 v1
  omega
theorem rr_le {h tr : Int → Int} {S : SV} (hE : svE S) (ht : ∀ j : Int, 0 ≤ j → j < 40 → 0 ≤ tr j) (hv : smR tr 0 40 ≤ 10000) {j : Int} (j0 : 0 ≤ j) (j1 : j < S.1) : 0 ≤ rrS h tr S.2.1 j ∧ rrS h tr S.2.1 j ≤ 10000 := by
  have f := foF_ge hE j0 j1
  have := gt_le (h := h) ht f.1 (show foF S.2.1 j ≤ S.2.1 j + 1 by omega) (by omega)
  unfold rrS
  omega
theorem jK_keep {h hc tr : Int → Int} {S : SV} {va t q n : Int} (ht : ∀ j : Int, 0 ≤ j → j < 40 → 0 ≤ tr j) (hva : 0 ≤ va ∧ va ≤ 10000) (hv : smR tr 0 40 ≤ 10000) (hn : n ≤ 512000) (hI : skI h hc tr S va n) (h1 : jK h hc tr S va t q) : jK h hc tr (keepV h S).1 va t (q + 1) := by
  have n1 := hI.1.1
  have g1 := gl_bd (h := h) (e := S.2.1) (c := S.2.2.1) (n := S.1) (by omega)
  have g2 := gl_two (h := h) (e := S.2.1) (c := S.2.2.1) (n := S.1) (by omega)
  have p1 := lp_bd (w := itrR (glF h S.2.1 S.2.2.1) 0 S.1 (-1)) (c := S.2.2.1) (n := S.1) n1
  have p2 := lp_ne (w := itrR (glF h S.2.1 S.2.2.1) 0 S.1 (-1)) (c := S.2.2.1) (n := S.1) n1
  unfold keepV
  generalize itrR (glF h S.2.1 S.2.2.1) 0 S.1 (-1) = g at *
  generalize itrR (lpF S.2.2.1 g) 0 (S.1 - 1) (-1) = p at *
  by_cases c1 : g = -1 ∨ p = -1
  · rw [if_pos c1]; exact jK_mono (by omega) h1
  · rw [if_neg c1]
    by_cases c2 : S.2.2.1 g ≤ 2 * (S.2.2.1 p + S.2.2.1 (p + 1))
    · rw [if_pos c2]; exact jK_mono (by omega) h1
    · rw [if_neg c2]
      dsimp only
      have hf := skI_fuse ht hva hn (k := p) (by omega) (by omega) hI
      have hj := jK_fuse hI.1 ht (fun j j0 j1 => (rr_le hf.1 ht hv j0 j1).2) (k := p) (by omega) (by omega) h1
      have fE := fuse_E (E := S.2.1) (p := p) (g := g) (by omega) (by omega) (by omega) (by omega)
      have ee : (fuseV S p).2.1 = delR S.2.1 p (S.2.1 (p + 1)) := rfl
      rw [← ee] at fE
      have e1 : (fuseV S p).1 = S.1 - 1 := rfl
      generalize hk : (if p < g then g - 1 else g) = k at *
      have k0 : 0 ≤ k ∧ k < (fuseV S p).1 := by rw [e1, ← hk]; split <;> omega
      have fg := foF_ge hf.1 k0.1 k0.2
      have hl : 2 ≤ loN h (fuseV S p).2.1 k := by
        have : loN h (fuseV S p).2.1 k = loN h S.2.1 g := by unfold loN; rw [fE.1, fE.2]
        rw [this]
        rcases g2 with q | q
        · omega
        · exact q
      have hb := haF_bd h (fuseV S p).2.1 k
      have hlt := ha_lt fg.1 fg.2.1 fg.2.2 hl
      exact jK_cut hf.1 ht k0.1 k0.2 ⟨hb.1, hlt⟩ hj
theorem jK_row {h hc tr tr' : Int → Int} {S S' : SV} {va t q x m : Int} (hE : svE S) (hx : 0 ≤ x ∧ x < 40) (hhx : h x = 0) (ht' : ∀ j : Int, 0 ≤ j → j < 40 → 0 ≤ tr' j) (hv' : smR tr' 0 40 ≤ 10000) (htr : ∀ j : Int, 0 ≤ j → j < 40 → tr' j = tr j + if j = x then m else 0) (s1 : S'.1 = S.1) (s2 : S'.2.1 = S.2.1) (s3 : ∀ j : Int, 0 ≤ j → j < S.1 → S'.2.2.1 j = S.2.2.1 j + if j = spOf S.2.1 S.1 x then m else 0) (h1 : jK h hc tr S va t q) : jK h hc tr' S' (va + m) (t + abI m) q := by
  obtain ⟨β, βh, T, K, V0, B1, B2, T1, T2, K1, K2, E1, E2, ⟨c0, c1, c2, c3, c4, c5, c6, c7, c8, c9, c10⟩, r1, r2, c11, c12, c13, c14⟩ := h1
  obtain ⟨k0, k1, k2, k3⟩ := spOf_in hE (v := x) (by omega)
  have fx := spOf_foF hE (v := x) hx.1 (by omega)
  have er : ∀ k : Int, 0 ≤ k → k < S.1 → rrS h tr' S.2.1 k = rrS h tr S.2.1 k + if k = spOf S.2.1 S.1 x then m else 0 := by
    intro k q1 q2
    have fk := foF_ge hE q1 q2
    unfold rrS
    rw [smR_congr (g := fun v => gtF h tr v + if v = x then m else 0) (fun v v0 v1 => ?_), smR_add (f := gtF h tr) (g := fun v => if v = x then m else 0), smR_at]
    · congr 1
      by_cases z : k = spOf S.2.1 S.1 x
      · rw [if_pos z, if_pos (by rw [z]; omega)]
      · rw [if_neg z, if_neg]
        intro y
        exact z (spOf_at hE q1 q2 y.1 (by omega)).symm
    · unfold gtF
      rw [htr v (by omega) (by omega)]
      by_cases z : v = x
      · rw [if_pos z, z, if_pos hhx, if_pos hhx]
      · rw [if_neg z, Int.add_zero, Int.add_zero]
  have sb := (shB_in (h := h) hE hx.1 hx.2).1
  unfold shB at sb
  rw [if_pos hhx] at sb
  have rb := rr_le (h := h) hE ht' hv' k0 k1
  have rk := er _ k0 k1
  rw [if_pos rfl] at rk
  refine ⟨β, βh, T + max m 0, K + max (-m) 0, V0, B1, B2, T1 + max m 0, T2, K1 + max (-m) 0, K2, E1, E2, ⟨by unfold abI; omega, by omega, by omega, by omega, c4, c5, c6, by omega, c8, by omega, c10⟩, ?_, ?_, c11, by omega, by omega, c14⟩
  · rw [s1, s2]
    exact jR_row (k := spOf S.2.1 S.1 x) (m := m) r1 k0 k1 ⟨rfl, rfl, rfl, rfl⟩ (fun j j0 j9 => ⟨er j j0 j9, by rw [s3 j j0 j9]; omega⟩) (by omega) (by omega)
  · refine jR_mono (jR_cg r2 (fun j j0 j9 => ⟨rfl, ?_, rfl, rfl⟩)) (Int.le_refl _) (Int.le_refl _) (Int.le_refl _) (by omega) (by omega)
    unfold hX
    by_cases z : h j = 0
    · rw [if_pos z, if_pos z]
    · rw [if_neg z, if_neg z, htr j j0 j9, if_neg (fun y => z (by rw [y]; exact hhx)), Int.add_zero]
theorem jK_rowh {h hc hc' tr tr' : Int → Int} {S : SV} {va t q x m : Int} (hE : svE S) (hx : 0 ≤ x ∧ x < 40) (hhx : h x ≠ 0) (ht' : ∀ j : Int, 0 ≤ j → j < 40 → 0 ≤ tr' j) (hv' : smR tr' 0 40 ≤ 10000) (htr : ∀ j : Int, 0 ≤ j → j < 40 → tr' j = tr j + if j = x then m else 0) (hhc : ∀ j : Int, 0 ≤ j → j < 40 → hc' j = hc j + if j = x then m else 0) (h1 : jK h hc tr S va t q) : jK h hc' tr' S (va + m) (t + abI m) q := by
  obtain ⟨β, βh, T, K, V0, B1, B2, T1, T2, K1, K2, E1, E2, ⟨c0, c1, c2, c3, c4, c5, c6, c7, c8, c9, c10⟩, r1, r2, c11, c12, c13, c14⟩ := h1
  have tx := smR_one (f := tr') (a := 0) (b := 40) ht' hx.1 hx.2
  have tn := ht' x hx.1 hx.2
  have te := htr x hx.1 hx.2
  rw [if_pos rfl] at te
  refine ⟨β, βh, T + max m 0, K + max (-m) 0, V0, B1, B2, T1, T2 + max m 0, K1, K2 + max (-m) 0, E1, E2, ⟨by unfold abI; omega, by omega, by omega, by omega, c4, c5, c6, c7, by omega, c9, by omega⟩, ?_, ?_, c11, by omega, by omega, c14⟩
  · refine jR_mono (jR_cg r1 (fun j j0 j9 => ⟨rfl, ?_, rfl, rfl⟩)) (Int.le_refl _) (Int.le_refl _) (Int.le_refl _) (by omega) (by omega)
    have fk := foF_ge hE j0 j9
    unfold rrS
    refine smR_congr fun v v0 v1 => ?_
    unfold gtF
    by_cases z : h v = 0
    · rw [if_pos z, if_pos z, htr v (by omega) (by omega), if_neg (fun y => hhx (by rw [← y]; exact z)), Int.add_zero]
    · rw [if_neg z, if_neg z]
  · refine jR_row (k := x) (m := m) r2 hx.1 hx.2 ⟨rfl, rfl, rfl, rfl⟩ (fun j j0 j9 => ?_) (by unfold hL; rw [if_neg hhx]; decide) (by unfold hX; rw [if_neg hhx]; omega)
    unfold hX
    by_cases z : h j = 0
    · have w : j ≠ x := fun y => hhx (by rw [← y]; exact z)
      rw [if_pos z, if_pos z, if_pos z, if_pos z, if_neg w]
      omega
    · rw [if_neg z, if_neg z, if_neg z, if_neg z]
      refine ⟨htr j j0 j9, ?_⟩
      show hc' j - βh j = hc j - βh j + if j = x then m else 0
      rw [hhc j j0 j9]
      omega
theorem smR_mulc {f : Int → Int} {c a b : Int} : smR (fun v => c * f v) a b = c * smR f a b := by
  obtain ⟨n, hn⟩ : ∃ n : Nat, n = (b - a).toNat := ⟨_, rfl⟩
  induction n generalizing a with
  | zero => rw [smR_nil (by omega), smR_nil (by omega), Int.mul_zero]
  | succ n ih => rw [smR_step (by omega), smR_step (f := f) (by omega), ih (a := a + 1) (by omega), Int.mul_add]
theorem wl_le {L : Int} (h : L ≤ 40) : wl L ≤ 5342931457063200 := by
  rcases Int.lt_or_le L 1 with q | q
  · unfold wl; rw [if_pos (by omega)]; decide
  · have e := wl_mul q h
    have n := wl_nn L
    have := Int.mul_le_mul_of_nonneg_left q n
    omega
theorem en_0 {L R : Int} (hL : L ≤ 40) (hR : 0 ≤ R ∧ R ≤ 10000) : wl L * ((0 - R) * (0 - R)) ≤ 5342931457063200 * 10000 * R := by
  have a := wl_le hL
  have b : (0 - R) * (0 - R) = R * R := by grind
  have c : R * R ≤ 10000 * R := Int.mul_le_mul_of_nonneg_right hR.2 hR.1
  have d : 0 ≤ R * R := Int.mul_nonneg hR.1 hR.1
  rw [b]
  have e1 := Int.mul_le_mul_of_nonneg_right a d
  have e2 := Int.mul_le_mul_of_nonneg_left c (c := 5342931457063200) (by decide)
  omega
theorem jK_reset {h hc tr : Int → Int} {S : SV} {va : Int} (ht : ∀ j : Int, 0 ≤ j → j < 40 → 0 ≤ tr j) (hh : ∀ j : Int, 0 ≤ j → j < 40 → 0 ≤ hc j) (hva : smR tr 0 40 = va) (hva2 : va ≤ 10000) (hI : skI h hc tr S va 0) : jK h hc tr S va 0 0 := by
  have hE := hI.1
  have v0 : 0 ≤ va := by rw [← hva]; exact smR_nn ht
  have rr := fun {j : Int} (j0 : 0 ≤ j) (j1 : j < S.1) => rr_le (h := h) hE ht (by omega : smR tr 0 40 ≤ 10000) j0 j1
  have tb : ∀ j : Int, 0 ≤ j → j < 40 → 0 ≤ tr j ∧ tr j ≤ 10000 := fun j j0 j1 => ⟨ht j j0 j1, by have := smR_one ht j0 j1; omega⟩
  have zs : ∀ n : Int, smR (fun _ => (0 : Int)) 0 n = 0 := fun n => by
    rcases Int.lt_or_le 0 n with q | q
    · have := smR_bd (f := fun _ => (0 : Int)) (a := 0) (b := n) (lo := 0) (hi := 0) (fun _ _ _ => ⟨Int.le_refl _, Int.le_refl _⟩) (by omega)
      omega
    · exact smR_nil q
  have sumr : smR (rrS h tr S.2.1) 0 S.1 + smR (hX h tr) 0 40 = va := by
    rw [rr_all hE, ← smR_add (f := gtF h tr) (g := hX h tr), ← hva]
    refine smR_congr fun v _ _ => ?_
    unfold gtF hX
    split <;> omega
  have E1 := smR_le (f := fun j => wl (loN h S.2.1 j) * ((0 - rrS h tr S.2.1 j) * (0 - rrS h tr S.2.1 j))) (g := fun j => 5342931457063200 * 10000 * rrS h tr S.2.1 j) (a := 0) (b := S.1) (fun j j0 j1 => en_0 (ltC_bd _ _ _).2 (rr j0 j1))
  rw [smR_mulc] at E1
  have E2 := smR_le (f := fun j => wl (hL h j) * ((0 - hX h tr j) * (0 - hX h tr j))) (g := fun j => 5342931457063200 * 10000 * hX h tr j) (a := 0) (b := 40) (fun j j0 j1 => en_0 (by unfold hL; split <;> decide) (by unfold hX; split; decide; exact tb j j0 j1))
  rw [smR_mulc] at E2
  have hvB : smR (fun j => abI (hX h hc j)) 0 40 = hvS h hc 0 39 := by
    have e : hvS h hc 0 39 = smR (fun v => if h v = 0 then 0 else hc v) 0 40 := rfl
    rw [e]
    refine smR_congr fun v v0 v1 => ?_
    have := hh v v0 v1
    unfold abI hX
    split <;> omega
  have J1 : jR S.1 (loN h S.2.1) (rrS h tr S.2.1) (fun _ => 0) S.2.2.1 (l1 S) 0 0 (5342931457063200 * 10000 * smR (rrS h tr S.2.1) 0 S.1) 0 0 := by
    refine ⟨Int.le_refl _, ?_, ?_, fun j j0 j1 => ?_, E1⟩
    · rw [smR_congr (g := fun _ => 0) (fun j _ _ => by show max (0 : Int) 0 = 0; decide), zs]; exact Int.le_refl _
    · rw [smR_congr (g := fun _ => 0) (fun j _ _ => by show max (-(0 : Int)) 0 = 0; decide), zs]; exact Int.le_refl _
    · have b := ltC_bd h (foF S.2.1 j) (S.2.1 j)
      have r := rr j0 j1
      have f := foF_ge hE j0 j1
      exact ⟨b, r, fun _ => by show 2 * (0 : Int) ≤ 0 + 1 + rrS h tr S.2.1 j ∧ -(2 * (0 : Int)) ≤ 0 + 1 + 10000 - rrS h tr S.2.1 j; omega, fun z => ⟨rfl, gt_zero f.1 f.2.2 z⟩⟩
  have J2 : jR 40 (hL h) (hX h tr) (fun _ => 0) (hX h hc) (hvS h hc 0 39) 0 0 (5342931457063200 * 10000 * smR (hX h tr) 0 40) 0 0 := by
    refine ⟨by rw [hvB]; exact Int.le_refl _, ?_, ?_, fun j j0 j1 => ?_, E2⟩
    · rw [smR_congr (g := fun _ => 0) (fun j _ _ => by show max (0 : Int) 0 = 0; decide), zs]; exact Int.le_refl _
    · rw [smR_congr (g := fun _ => 0) (fun j _ _ => by show max (-(0 : Int)) 0 = 0; decide), zs]; exact Int.le_refl _
    · have t := tb j j0 j1
      unfold hL hX
      by_cases z : h j = 0
      · rw [if_pos z, if_pos z]; exact ⟨by decide, by decide, fun y => absurd y (by decide), fun _ => ⟨rfl, rfl⟩⟩
      · rw [if_neg z, if_neg z]; exact ⟨by decide, t, fun _ => by show 2 * (0 : Int) ≤ 0 + 1 + tr j ∧ -(2 * (0 : Int)) ≤ 0 + 1 + 10000 - tr j; omega, fun y => absurd y (by decide)⟩
  refine ⟨S.2.2.1, hc, 0, 0, va, l1 S, hvS h hc 0 39, 0, 0, 0, 0, 5342931457063200 * 10000 * smR (rrS h tr S.2.1) 0 S.1, 5342931457063200 * 10000 * smR (hX h tr) 0 40, by omega, jR_cg J1 (fun j _ _ => ⟨rfl, rfl, Int.sub_self _, rfl⟩), jR_cg J2 (fun j _ _ => ⟨rfl, rfl, ?_, rfl⟩), by have := hI.2.2.2.2.2; omega, by omega, by omega, by omega⟩
  unfold hX
  split
  · rfl
  · exact Int.sub_self _
theorem jK_cg {h h' hc hc' tr tr' : Int → Int} {S : SV} {va t q : Int} (hE : svE S) (e : ∀ j : Int, 0 ≤ j → j < 40 → h' j = h j ∧ hc' j = hc j ∧ tr' j = tr j) (h1 : jK h hc tr S va t q) : jK h' hc' tr' S va t q := by
  obtain ⟨β, βh, T, K, V0, B1, B2, T1, T2, K1, K2, E1, E2, cc, r1, r2, c11, c12, c13, c14⟩ := h1
  refine ⟨β, βh, T, K, V0, B1, B2, T1, T2, K1, K2, E1, E2, cc, jR_cg r1 (fun j j0 j9 => ⟨?_, ?_, rfl, rfl⟩), jR_cg r2 (fun j j0 j9 => ?_), c11, c12, c13, c14⟩
  · unfold loN
    exact ltC_congr (fun i i0 i1 => (e i i0 i1).1) _ _
  · have fk := foF_ge hE j0 j9
    unfold rrS
    refine smR_congr fun v v0 v1 => ?_
    unfold gtF
    rw [(e v (by omega) (by omega)).1, (e v (by omega) (by omega)).2.2]
  · obtain ⟨e1, e2, e3⟩ := e j j0 j9
    unfold hL hX
    rw [e1, e3]
    refine ⟨rfl, rfl, ?_, rfl⟩
    by_cases z : h j = 0
    · rw [if_pos z, if_pos z]
    · rw [if_neg z, if_neg z]
      show hc' j - βh j = hc j - βh j
      rw [e2]
