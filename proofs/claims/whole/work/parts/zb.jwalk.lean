/-! ===== a walk of JOIN over a common bottom ===== -/
def jP (M DD : Int) (N : Int → Int) (w t d : Int) : Prop := (0 < d ∧ d ≤ M) ∧ (-M ≤ t ∧ t ≤ M) ∧ gcI t d = 1 ∧ t * DD = smR N 0 w * d
/-- what a step keeps -/
def jStep (M DD : Int) (N T B : Int → Int) : Prop := ∀ w t d : Int, 0 ≤ w → w < 40 → 0 < d → gcI t d = 1 → t * DD = smR N 0 w * d → (-M ≤ aiN t d (T w) (B w) ∧ aiN t d (T w) (B w) ≤ M) ∧ (0 < aiD d (T w) (B w) ∧ aiD d (T w) (B w) ≤ M) ∧ aiN t d (T w) (B w) * DD = smR N 0 (w + 1) * aiD d (T w) (B w)
theorem jP_0 {M DD : Int} {N : Int → Int} (hM : 1 ≤ M) : jP M DD N 0 0 1 := by
  refine ⟨⟨by decide, hM⟩, by omega, by decide, ?_⟩
  rw [smR_nil (Int.le_refl 0), Int.zero_mul, Int.zero_mul]
theorem jP_s {M DD w t d : Int} {N T B : Int → Int} (hM : 0 ≤ M) (hS : jStep M DD N T B) (w0 : 0 ≤ w) (w1 : w < 40) (h : jP M DD N w t d) : jP M DD N (w + 1) (frN (aiN t d (T w) (B w)) (aiD d (T w) (B w))) (frD (aiN t d (T w) (B w)) (aiD d (T w) (B w))) := by
  obtain ⟨⟨d0, -⟩, -, g, e⟩ := h
  obtain ⟨a1, a2, a3⟩ := hS w t d w0 w1 d0 g e
  generalize aiN t d (T w) (B w) = x at *
  generalize aiD d (T w) (B w) = y at *
  have f1 := frD_pos (a := x) a2.1
  have f2 := frD_le (a := x) a2.1
  have f3 := frN_bd (a := x) a2.1 a1.1 a1.2 hM
  refine ⟨⟨f1, by omega⟩, f3, fr_cop a2.1, ?_⟩
  have m1 := frN_mul x y
  have m2 := frD_mul x y
  have g9 := gcI_pos (a := x) a2.1
  refine Int.eq_of_mul_eq_mul_left (a := gcI x y) (by omega) ?_
  rw [← Int.mul_assoc, m1, a3, Int.mul_left_comm, m2]
theorem sm_ab {N : Int → Int} {m : Int} (h0 : 0 ≤ m) (h1 : m ≤ 40) : -(smR (fun v => abI (N v)) 0 40) ≤ smR N 0 m ∧ smR N 0 m ≤ smR (fun v => abI (N v)) 0 40 := by
  have s : smR (fun v => abI (N v)) 0 40 = smR (fun v => abI (N v)) 0 m + smR (fun v => abI (N v)) m 40 := smR_split h0 h1
  have nn := smR_nn (f := fun v => abI (N v)) (a := m) (b := 40) (fun v _ _ => by unfold abI; omega)
  have u := smR_le (f := N) (g := fun v => abI (N v)) (a := 0) (b := m) (fun v _ _ => by unfold abI; omega)
  have l := smR_le (f := fun v => (-1) * abI (N v)) (g := N) (a := 0) (b := m) (fun v _ _ => by unfold abI; omega)
  rw [smR_mulc (f := fun v => abI (N v))] at l
  omega
theorem jStep_two {M DD : Int} {N T B : Int → Int} (hDD : 0 < DD) (hDM : DD ≤ M) (hB : ∀ w : Int, 0 ≤ w → w < 40 → 0 < B w) (hX : ∀ w : Int, 0 ≤ w → w < 40 → N w * B w = T w * DD) (hM : smR (fun v => abI (N v)) 0 40 ≤ M) : jStep M DD N T B := by
  intro w t d w0 w1 d0 g e
  have s := sm_ab (N := N) (m := w + 1) (by omega) (by omega)
  obtain ⟨a1, a2, a3, a4⟩ := jn_in (T := T) (B := B) (N := N) (M := M) hDD (hB w w0 w1) d0 g w0 (hX w w0 w1) e (by omega)
  exact ⟨a1, ⟨a2, by omega⟩, a4⟩
/-! a column with itself -/
theorem sm_dvd {g : Int} {f : Int → Int} {a b : Int} (h : ∀ v : Int, a ≤ v → v < b → g ∣ f v) : g ∣ smR f a b :=
  smR_ind (f := f) (b := b) (fun a s => (∀ v : Int, a ≤ v → v < b → g ∣ f v) → g ∣ s) (fun a _ _ => Int.dvd_zero g) (fun a s q ih k => Int.dvd_add (k a (Int.le_refl _) q) (ih fun v v0 v1 => k v (by omega) v1)) a h
theorem ws_dvd {h f g : Int → Int} {S : SV} {D w : Int} (hE : svE S) (hd : ∀ k : Int, 0 ≤ k → k < S.1 → 0 < loN h S.2.1 k → loN h S.2.1 k ∣ D) (w0 : 0 ≤ w) (w1 : w < 40) : ∃ L G : Int, (1 ≤ L ∧ L ≤ 40 ∧ D = G * L) ∧ (G ∣ smR (fun v => wv h S D f g v * wv h S D f g v) 0 w) ∧ (G ∣ wv h S D f g w * wv h S D f g w) := by
  obtain ⟨k0, k1, -, k3⟩ := spOf_in hE (v := w) (by omega)
  have f0 := spOf_foF hE w0 (by omega)
  have at_ : ∀ v : Int, foF S.2.1 (spOf S.2.1 S.1 w) ≤ v → v ≤ w → spOf S.2.1 S.1 v = spOf S.2.1 S.1 w := fun v v0 v1 => spOf_at hE k0 k1 v0 (by omega)
  generalize spOf S.2.1 S.1 w = k at *
  have fg := foF_ge hE k0 k1
  have lb : 0 ≤ loN h S.2.1 k ∧ loN h S.2.1 k ≤ 40 := by
    have b := ltC_bd h (foF S.2.1 k) (S.2.1 k)
    unfold loN
    omega
  obtain ⟨L, hL⟩ : ∃ L : Int, L = if loN h S.2.1 k = 0 then 1 else loN h S.2.1 k := ⟨_, rfl⟩
  have L1 : 1 ≤ L ∧ L ≤ 40 := by rw [hL]; split <;> omega
  have LD : L ∣ D := by
    rw [hL]
    split
    · exact Int.one_dvd D
    · exact hd k k0 k1 (by omega)
  have eD : D = D / L * L := (Int.ediv_mul_cancel LD).symm
  have GD : D / L ∣ D := ⟨L, eD⟩
  have cell : ∀ x : Int, D / L ∣ D / loN h S.2.1 k * x * (D / loN h S.2.1 k * x) := by
    intro x
    by_cases z : loN h S.2.1 k = 0
    · rw [z, Int.ediv_zero, Int.zero_mul, Int.zero_mul]; exact Int.dvd_zero _
    · rw [if_neg z] at hL
      rw [hL, Int.mul_assoc]
      exact Int.dvd_mul_right _ _
  have hv : ∀ x : Int, D / L ∣ D * x * (D * x) := fun x => by
    rw [Int.mul_assoc]
    exact Int.dvd_trans GD (Int.dvd_mul_right _ _)
  refine ⟨L, D / L, ⟨L1.1, L1.2, eD⟩, ?_, ?_⟩
  · have e1 : smR (fun v => wv h S D f g v * wv h S D f g v) 0 w = smR (fun v => (if h v = 0 then (fun k => D / loN h S.2.1 k * f k * (D / loN h S.2.1 k * f k)) (spOf S.2.1 S.1 v) else 0) + (if h v = 0 then 0 else D * g v * (D * g v))) 0 w := by
      refine smR_congr fun v v0 v1 => ?_
      unfold wv
      by_cases z : h v = 0
      · rw [if_pos z, if_pos z, if_pos z, Int.add_zero]
      · rw [if_neg z, if_neg z, if_neg z, Int.zero_add]
    rw [e1, smR_add (f := fun v => if h v = 0 then (fun k => D / loN h S.2.1 k * f k * (D / loN h S.2.1 k * f k)) (spOf S.2.1 S.1 v) else 0) (g := fun v => if h v = 0 then 0 else D * g v * (D * g v))]
    refine Int.dvd_add ?_ (sm_dvd fun v v0 v1 => ?_)
    · have r := vs_sum (h := h) (F := fun k => D / loN h S.2.1 k * f k * (D / loN h S.2.1 k * f k)) hE k.toNat (by omega)
      rw [show ((k.toNat : Nat) : Int) = k by omega] at r
      rw [smR_split (a := 0) (b := foF S.2.1 k) (c := w) fg.1 f0, ← r]
      refine Int.dvd_add (sm_dvd fun j j0 j1 => ?_) (sm_dvd fun v v0 v1 => ?_)
      · show D / L ∣ loN h S.2.1 j * (D / loN h S.2.1 j * f j * (D / loN h S.2.1 j * f j))
        by_cases z : loN h S.2.1 j = 0
        · rw [z, Int.zero_mul]; exact Int.dvd_zero _
        · have b := ltC_bd h (foF S.2.1 j) (S.2.1 j)
          have p : 0 < loN h S.2.1 j := by unfold loN at z ⊢; omega
          have q := Int.mul_ediv_cancel' (hd j j0 (by omega) p)
          have e : loN h S.2.1 j * (D / loN h S.2.1 j * f j * (D / loN h S.2.1 j * f j)) = D * (f j * (D / loN h S.2.1 j * f j)) := by
            rw [Int.mul_assoc (D / loN h S.2.1 j) (f j), ← Int.mul_assoc (loN h S.2.1 j), q]
          rw [e]
          exact Int.dvd_trans GD (Int.dvd_mul_right _ _)
      · show D / L ∣ if h v = 0 then D / loN h S.2.1 (spOf S.2.1 S.1 v) * f (spOf S.2.1 S.1 v) * (D / loN h S.2.1 (spOf S.2.1 S.1 v) * f (spOf S.2.1 S.1 v)) else 0
        rw [at_ v v0 (by omega)]
        split
        · exact cell _
        · exact Int.dvd_zero _
    · show D / L ∣ if h v = 0 then 0 else D * g v * (D * g v)
      split
      · exact Int.dvd_zero _
      · exact hv _
  · unfold wv
    rw [at_ w f0 (Int.le_refl _)]
    split
    · exact cell _
    · exact hv _
theorem jStep_self {h f g T B : Int → Int} {S : SV} {D : Int} (hE : svE S) (hD : 1 ≤ D) (hD2 : D ≤ 27720) (hd : ∀ k : Int, 0 ≤ k → k < S.1 → 0 < loN h S.2.1 k → loN h S.2.1 k ∣ D) (hS : smR (fun v => abI (wv h S D f g v)) 0 40 ≤ D * 612000) (hB : ∀ w : Int, 0 ≤ w → w < 40 → 0 < B w) (hX : ∀ w : Int, 0 ≤ w → w < 40 → wv h S D f g w * wv h S D f g w * B w = T w * (D * D)) : jStep 9223372036854775807 (D * D) (fun v => wv h S D f g v * wv h S D f g v) T B := by
  intro w t d w0 w1 d0 gc e
  obtain ⟨L, G, ⟨L1, L2, eD⟩, ⟨m1, h1⟩, ⟨m2, h2⟩⟩ := ws_dvd (f := f) (g := g) (w := w) hE hd w0 w1
  have ab0 : ∀ x : Int, 0 ≤ abI x := fun x => by unfold abI; omega
  have absq : ∀ x : Int, abI (x * x) = abI x * abI x := fun x => by
    have q : 0 ≤ x * x := by
      rcases Int.le_total 0 x with y | y
      · exact Int.mul_nonneg y y
      · exact Int.mul_nonneg_of_nonpos_of_nonpos y y
    have e1 : abI (x * x) = x * x := by unfold abI; omega
    rw [e1]
    unfold abI
    rcases Int.le_total 0 x with y | y
    · rw [show max x (-x) = x by omega]
    · rw [show max x (-x) = -x by omega]; grind
  have all : smR (fun v => abI (wv h S D f g v * wv h S D f g v)) 0 40 ≤ D * 612000 * (D * 612000) := by
    rw [smR_congr (g := fun v => abI (wv h S D f g v) * abI (wv h S D f g v)) (fun v _ _ => absq _)]
    have q := sp_le (f := fun v => abI (wv h S D f g v)) (g := fun v => abI (wv h S D f g v)) (M := D * 612000) (a := 0) (b := 40) (fun v _ _ => ab0 _) (fun v v0 v1 => by
      have := smR_one (f := fun v => abI (wv h S D f g v)) (a := 0) (b := 40) (fun v _ _ => ab0 _) v0 v1
      exact Int.le_trans this hS)
    exact Int.le_trans q (Int.mul_le_mul_of_nonneg_left hS (by omega))
  have sb := sm_ab (N := fun v => wv h S D f g v * wv h S D f g v) (m := w + 1) (by omega) (by omega)
  have s0 : 0 ≤ smR (fun v => wv h S D f g v * wv h S D f g v) 0 (w + 1) := smR_nn fun v _ _ => by
    rcases Int.le_total 0 (wv h S D f g v) with y | y
    · exact Int.mul_nonneg y y
    · exact Int.mul_nonneg_of_nonpos_of_nonpos y y
  have sl : smR (fun v => wv h S D f g v * wv h S D f g v) 0 (w + 1) = smR (fun v => wv h S D f g v * wv h S D f g v) 0 w + wv h S D f g w * wv h S D f g w := smR_last w0
  have hX' := hX w w0 w1
  have up := Int.le_trans sb.2 all
  rw [h2] at hX'
  rw [h1] at e
  rw [sl, h1, h2] at s0 up ⊢
  have G0 : 0 < G := by
    rcases Int.lt_or_le 0 G with q | q
    · exact q
    · have := Int.mul_nonneg_of_nonpos_of_nonpos (a := G) (b := -L) q (by omega)
      rw [Int.mul_neg, ← eD] at this
      omega
  have D0 : 0 < D * L := Int.mul_pos (by omega) (by omega)
  have DL : D * L ≤ 27720 * 40 := Int.mul_le_mul hD2 L2 (by omega) (by decide)
  have eDD : D * D = G * (D * L) := by
    have : D * D = G * L * D := by rw [← eD]
    rw [this]; grind
  have x1 : m2 * B w = T w * (D * L) := by
    refine Int.eq_of_mul_eq_mul_left (a := G) (by omega) ?_
    rw [eDD] at hX'
    rw [← Int.mul_assoc, hX']; grind
  have x2 : t * (D * L) = m1 * d := by
    refine Int.eq_of_mul_eq_mul_left (a := G) (by omega) ?_
    rw [eDD] at e
    rw [← Int.mul_assoc G m1, ← e]; grind
  have p0 : 0 ≤ m1 + m2 := by
    refine Int.le_of_mul_le_mul_left (a := G) ?_ G0
    rw [Int.mul_zero, Int.mul_add]; exact s0
  have p1 : m1 + m2 ≤ D * L * (612000 * 612000) := by
    refine Int.le_of_mul_le_mul_left (a := G) ?_ G0
    have : G * (D * L * (612000 * 612000)) = D * 612000 * (D * 612000) := by
      have : D * 612000 * (D * 612000) = D * D * (612000 * 612000) := by grind
      rw [this, eDD]; grind
    rw [this, Int.mul_add]; exact up
  have e1 : smR (fun v => if v = 0 then m1 else m2) 0 1 = m1 := by
    rw [smR_step (by decide), smR_nil (by decide)]; exact Int.add_zero _
  have e2 : smR (fun v => if v = 0 then m1 else m2) 0 (1 + 1) = m1 + m2 := by
    rw [smR_last (by decide), e1]; rfl
  obtain ⟨a1, a2, a3, a4⟩ := jn_in (T := fun _ => T w) (B := fun _ => B w) (N := fun v => if v = 0 then m1 else m2) (DD := D * L) (M := 9223372036854775807) (w := 1) (t := t) (d := d) D0 (hB w w0 w1) d0 gc (by decide) x1 (by rw [e1]; exact x2) (by rw [e2]; omega)
  rw [e2] at a4
  change aiN t d (T w) (B w) * (D * L) = (m1 + m2) * aiD d (T w) (B w) at a4
  change aiD d (T w) (B w) ≤ D * L at a3
  refine ⟨a1, ⟨a2, by omega⟩, ?_⟩
  have : aiN t d (T w) (B w) * (D * D) = G * (aiN t d (T w) (B w) * (D * L)) := by rw [eDD]; grind
  rw [this, a4, ← Int.mul_assoc, Int.mul_add]
