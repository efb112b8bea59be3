/-! ===== a sketch as a value: how many spans, their ends, counts, doubts; nothing beyond ===== -/
abbrev SV : Type := Int × (Int → Int) × (Int → Int) × (Int → Int)
theorem mcpy_app {f g : Int → Int} {sp dp n j : Int} : mcpy f g sp dp n j = if dp ≤ j ∧ j < dp + n then f (sp + (j - dp)) else g j := rfl
def mkR (n : Int) (f : Int → Int) : Int → Int := fun j => if 0 ≤ j ∧ j < n then f j else 0
theorem mkR_in {n : Int} {f : Int → Int} {j : Int} (h0 : 0 ≤ j) (h1 : j < n) : mkR n f j = f j := by unfold mkR; rw [if_pos ⟨h0, h1⟩]
theorem mkR_congr {n : Int} {f g : Int → Int} (h : ∀ j, 0 ≤ j → j < n → f j = g j) : mkR n f = mkR n g := by
  funext j
  unfold mkR
  split
  · next q => exact h j q.1 q.2
  · rfl
theorem mkR_mk {n : Int} {f : Int → Int} : mkR n (mkR n f) = mkR n f := mkR_congr fun j h0 h1 => mkR_in h0 h1
def skV (σ : Mem) (b : Nat) : SV := (σ b 5, mkR (σ b 5) (σ (b + 1)), mkR (σ b 5) (σ (b + 2)), mkR (σ b 5) (σ (b + 3)))
/-- a row with a place doubled: x and y in place of what was at k -/
def insR (f : Int → Int) (k x y : Int) : Int → Int := fun j => if j < k then f j else if j = k then x else if j = k + 1 then y else f (j - 1)
/-- a row with two neighbours made one: x in place of what was at k and k + 1 -/
def delR (f : Int → Int) (k x : Int) : Int → Int := fun j => if j < k then f j else if j = k then x else f (j + 1)
theorem mkR_out {n : Int} {f : Int → Int} {j : Int} (h : ¬ (0 ≤ j ∧ j < n)) : mkR n f j = 0 := by unfold mkR; rw [if_neg h]
theorem insR_lt {f : Int → Int} {k x y j : Int} (h : j < k) : insR f k x y j = f j := by unfold insR; rw [if_pos h]
theorem insR_k {f : Int → Int} {k x y : Int} : insR f k x y k = x := by unfold insR; rw [if_neg (by omega), if_pos rfl]
theorem insR_k1 {f : Int → Int} {k x y j : Int} (h : j = k + 1) : insR f k x y j = y := by unfold insR; rw [if_neg (by omega), if_neg (by omega), if_pos h]
theorem insR_gt {f : Int → Int} {k x y j : Int} (h : k + 1 < j) : insR f k x y j = f (j - 1) := by unfold insR; rw [if_neg (by omega), if_neg (by omega), if_neg (by omega)]
theorem delR_lt {f : Int → Int} {k x j : Int} (h : j < k) : delR f k x j = f j := by unfold delR; rw [if_pos h]
theorem delR_k {f : Int → Int} {k x : Int} : delR f k x k = x := by unfold delR; rw [if_neg (by omega), if_pos rfl]
theorem delR_gt {f : Int → Int} {k x j : Int} (h : k < j) : delR f k x j = f (j + 1) := by unfold delR; rw [if_neg (by omega), if_neg (by omega)]
theorem mkR_ins {n k x y : Int} {f g : Int → Int} (h0 : 0 ≤ k) (h1 : k < n) (hg : ∀ j, 0 ≤ j → j < n + 1 → g j = insR f k x y j) : mkR (n + 1) g = insR (mkR n f) k x y := by
  funext j
  by_cases hj : 0 ≤ j ∧ j < n + 1
  · rw [mkR_in hj.1 hj.2, hg j hj.1 hj.2]
    rcases (by omega : j < k ∨ j = k ∨ j = k + 1 ∨ k + 1 < j) with a | a | a | a
    · rw [insR_lt a, insR_lt a, mkR_in (by omega) (by omega)]
    · rw [a, insR_k, insR_k]
    · rw [insR_k1 a, insR_k1 a]
    · rw [insR_gt a, insR_gt a, mkR_in (by omega) (by omega)]
  · rw [mkR_out hj]
    rcases (by omega : j < k ∨ k + 1 < j) with a | a
    · rw [insR_lt a, mkR_out (by omega)]
    · rw [insR_gt a, mkR_out (by omega)]
theorem mkR_del {n k x : Int} {f g : Int → Int} (h0 : 0 ≤ k) (h1 : k + 1 < n) (hg : ∀ j, 0 ≤ j → j < n - 1 → g j = delR f k x j) : mkR (n - 1) g = delR (mkR n f) k x := by
  funext j
  by_cases hj : 0 ≤ j ∧ j < n - 1
  · rw [mkR_in hj.1 hj.2, hg j hj.1 hj.2]
    rcases (by omega : j < k ∨ j = k ∨ k < j) with a | a | a
    · rw [delR_lt a, delR_lt a, mkR_in (by omega) (by omega)]
    · rw [a, delR_k, delR_k]
    · rw [delR_gt a, delR_gt a, mkR_in (by omega) (by omega)]
  · rw [mkR_out hj]
    rcases (by omega : j < k ∨ k < j) with a | a
    · rw [delR_lt a, mkR_out (by omega)]
    · rw [delR_gt a, mkR_out (by omega)]
/-- the doubt of a piece: its own count against what all could be without it -/
def pdF (own c d : Int) : Int := min (max 0 (max own (c + d - own))) 1000000
/-- count and doubt of the left and of the right piece, by their lengths -/
def hvF (c d L R : Int) : (Int × Int) × (Int × Int) := if L = 0 then ((0, 0), (c, d)) else if R = 0 then ((c, d), (0, 0)) else ((c * L / (L + R), pdF (c * L / (L + R)) c d), (c - c * L / (L + R), pdF (c - c * L / (L + R)) c d))
/-- SPLIT of span k behind a value -/
def cutV (h : Int → Int) (s : SV) (k val : Int) : SV :=
  (s.1 + 1, insR s.2.1 k val (s.2.1 k), insR s.2.2.1 k (hvF (s.2.2.1 k) (s.2.2.2 k) (ltC h (foF s.2.1 k) val) (ltC h (val + 1) (s.2.1 k))).1.1 (hvF (s.2.2.1 k) (s.2.2.2 k) (ltC h (foF s.2.1 k) val) (ltC h (val + 1) (s.2.1 k))).2.1, insR s.2.2.2 k (hvF (s.2.2.1 k) (s.2.2.2 k) (ltC h (foF s.2.1 k) val) (ltC h (val + 1) (s.2.1 k))).1.2 (hvF (s.2.2.1 k) (s.2.2.2 k) (ltC h (foF s.2.1 k) val) (ltC h (val + 1) (s.2.1 k))).2.2)
/-- MELT of span k and the next one -/
def fuseV (s : SV) (k : Int) : SV := (s.1 - 1, delR s.2.1 k (s.2.1 (k + 1)), delR s.2.2.1 k (s.2.2.1 k + s.2.2.1 (k + 1)), delR s.2.2.2 k (min (s.2.2.2 k + s.2.2.2 (k + 1)) 1000000))
/-- nothing but a sketch's spans has changed -/
def skFr (σ u : Mem) (b : Nat) : Prop := ∀ (a : Nat) (j : Int), a ≠ b + 1 → a ≠ b + 2 → a ≠ b + 3 → (a ≠ b ∨ j ≠ 5) → u a j = σ a j
theorem skFr.rf {σ : Mem} {b : Nat} : skFr σ σ b := fun _ _ _ _ _ _ => rfl
theorem skFr.tr {σ τ u : Mem} {b : Nat} (h1 : skFr σ τ b) (h2 : skFr τ u b) : skFr σ u b := fun a j q1 q2 q3 q4 => (h2 a j q1 q2 q3 q4).trans (h1 a j q1 q2 q3 q4)
theorem foF_mk {n k : Int} {e : Int → Int} (h : k ≤ n) : foF (mkR n e) k = foF e k := by
  unfold foF
  split
  · rw [mkR_in (by omega) (by omega)]
  · rfl
theorem foF_bd {σ : Mem} {b : Nat} (hW : skW σ b) {k : Int} (hk : k ≤ σ b 5) : 0 ≤ foF (σ (b + 1)) k ∧ foF (σ (b + 1)) k ≤ 40 := by
  unfold foF
  split
  · have := hW.2.2 (k - 1) (by omega) (by omega); omega
  · omega
/-- a cut's rows, told place by place, are a cut -/
theorem skV_cut {σ u : Mem} {b : Nat} {h : Int → Int} {k val : Int} (hk : 0 ≤ k) (hk2 : k < σ b 5) (h5 : u b 5 = σ b 5 + 1)
    (h1 : ∀ j, 0 ≤ j → j < σ b 5 + 1 → u (b + 1) j = insR (σ (b + 1)) k val (σ (b + 1) k) j)
    (h2 : ∀ j, 0 ≤ j → j < σ b 5 + 1 → u (b + 2) j = insR (σ (b + 2)) k (hvF (σ (b + 2) k) (σ (b + 3) k) (ltC h (foF (σ (b + 1)) k) val) (ltC h (val + 1) (σ (b + 1) k))).1.1 (hvF (σ (b + 2) k) (σ (b + 3) k) (ltC h (foF (σ (b + 1)) k) val) (ltC h (val + 1) (σ (b + 1) k))).2.1 j)
    (h3 : ∀ j, 0 ≤ j → j < σ b 5 + 1 → u (b + 3) j = insR (σ (b + 3)) k (hvF (σ (b + 2) k) (σ (b + 3) k) (ltC h (foF (σ (b + 1)) k) val) (ltC h (val + 1) (σ (b + 1) k))).1.2 (hvF (σ (b + 2) k) (σ (b + 3) k) (ltC h (foF (σ (b + 1)) k) val) (ltC h (val + 1) (σ (b + 1) k))).2.2 j) :
    skV u b = cutV h (skV σ b) k val := by
  unfold skV cutV
  rw [h5]
  simp only [mkR_in hk hk2, foF_mk (show k ≤ σ b 5 by omega)]
  rw [mkR_ins hk hk2 h1, mkR_ins hk hk2 h2, mkR_ins hk hk2 h3]
theorem skV_fuse {σ u : Mem} {b : Nat} {k : Int} (hk : 0 ≤ k) (hk2 : k + 1 < σ b 5) (h5 : u b 5 = σ b 5 - 1)
    (h1 : ∀ j, 0 ≤ j → j < σ b 5 - 1 → u (b + 1) j = delR (σ (b + 1)) k (σ (b + 1) (k + 1)) j)
    (h2 : ∀ j, 0 ≤ j → j < σ b 5 - 1 → u (b + 2) j = delR (σ (b + 2)) k (σ (b + 2) k + σ (b + 2) (k + 1)) j)
    (h3 : ∀ j, 0 ≤ j → j < σ b 5 - 1 → u (b + 3) j = delR (σ (b + 3)) k (min (σ (b + 3) k + σ (b + 3) (k + 1)) 1000000) j) :
    skV u b = fuseV (skV σ b) k := by
  unfold skV fuseV
  rw [h5]
  have a0 : k < σ b 5 := by omega
  have a1 : 0 ≤ k + 1 := by omega
  simp only [mkR_in hk a0, mkR_in a1 hk2]
  rw [mkR_del hk hk2 h1, mkR_del hk hk2 h2, mkR_del hk hk2 h3]
/-- what a row doubled at k is, for a cut -/
def dblF (σ u : Mem) (b : Nat) (k : Int) : Prop := u b 5 = σ b 5 + 1 ∧ (∀ j : Int, u (b + 1) j = if k + 1 ≤ j ∧ j < σ b 5 + 1 then σ (b + 1) (j - 1) else σ (b + 1) j) ∧ (∀ j : Int, u (b + 2) j = if k + 1 ≤ j ∧ j < σ b 5 + 1 then σ (b + 2) (j - 1) else σ (b + 2) j) ∧ (∀ j : Int, u (b + 3) j = if k + 1 ≤ j ∧ j < σ b 5 + 1 then σ (b + 3) (j - 1) else σ (b + 3) j) ∧ skFr σ u b
theorem row_ins {f g g0 : Int → Int} {n k x y : Int} (hk : 0 ≤ k) (hk2 : k < n) (h0 : ∀ j : Int, g0 j = if k + 1 ≤ j ∧ j < n + 1 then f (j - 1) else f j) (h1 : ∀ j, j ≠ k → j ≠ k + 1 → g j = g0 j) (hx : g k = x) (hy : g (k + 1) = y) : ∀ j, 0 ≤ j → j < n + 1 → g j = insR f k x y j := by
  intro j j0 j1
  rcases (by omega : j < k ∨ j = k ∨ j = k + 1 ∨ k + 1 < j) with a | a | a | a
  · rw [insR_lt a, h1 j (by omega) (by omega), h0, if_neg (by omega)]
  · rw [a, insR_k, hx]
  · rw [insR_k1 a, a, hy]
  · rw [insR_gt a, h1 j (by omega) (by omega), h0, if_pos (by omega)]
theorem cut_rows {σ u0 u : Mem} {b : Nat} {h : Int → Int} {k val L R cl dl cr dr : Int} (hk : 0 ≤ k) (hk2 : k < σ b 5) (g : dblF σ u0 b k) (hL : L = ltC h (foF (σ (b + 1)) k) val) (hR : R = ltC h (val + 1) (σ (b + 1) k)) (hh : hvF (σ (b + 2) k) (σ (b + 3) k) L R = ((cl, dl), (cr, dr)))
    (a5 : u b 5 = u0 b 5) (a1 : ∀ j, j ≠ k → u (b + 1) j = u0 (b + 1) j) (a1k : u (b + 1) k = val) (a2 : ∀ j, j ≠ k → j ≠ k + 1 → u (b + 2) j = u0 (b + 2) j) (a2k : u (b + 2) k = cl) (a2r : u (b + 2) (k + 1) = cr) (a3 : ∀ j, j ≠ k → j ≠ k + 1 → u (b + 3) j = u0 (b + 3) j) (a3k : u (b + 3) k = dl) (a3r : u (b + 3) (k + 1) = dr) (aF : skFr u0 u b) :
    skFr σ u b ∧ skV u b = cutV h (skV σ b) k val := by
  obtain ⟨g5, g1, g2, g3, gF⟩ := g
  subst hL; subst hR
  refine ⟨gF.tr aF, skV_cut hk hk2 (by rw [a5, g5]) ?_ ?_ ?_⟩
  · refine row_ins hk hk2 g1 (fun j q1 _ => a1 j q1) a1k ?_
    rw [a1 _ (by omega), g1, if_pos (by omega)]
    congr 1
    omega
  · rw [hh]; exact row_ins hk hk2 g2 a2 a2k a2r
  · rw [hh]; exact row_ins hk hk2 g3 a3 a3k a3r
/-- how many values of span k are asked for -/
def askF (h e : Int → Int) (a b k : Int) : Int := ltC h (max (foF e k) a) (min (e k) b)
def lwF (h e c d : Int → Int) (a b k : Int) : Int := if 0 < askF h e a b k ∧ askF h e a b k = loN h e k then max 0 (c k - d k) else 0
def hiF (h e c d : Int → Int) (a b k : Int) : Int := if 0 < askF h e a b k then max 0 (c k + d k) else 0
theorem hvS_bd {h c : Int → Int} {M : Int} (hM : 0 ≤ M) (hc : ∀ j : Int, 0 ≤ j → j < 40 → -M ≤ c j ∧ c j ≤ M) (a b : Int) : -(40 * M) ≤ hvS h c a b ∧ hvS h c a b ≤ 40 * M := by
  unfold hvS
  by_cases hab : max a 0 ≤ min (b + 1) 40
  · have q := smR_bd (f := fun v => if h v = 0 then 0 else c v) (a := max a 0) (b := min (b + 1) 40) (lo := -M) (hi := M) (fun v q1 q2 => by
      have := hc v (by omega) (by omega)
      split <;> omega) hab
    have g1 : M * (min (b + 1) 40 - max a 0) ≤ M * 40 := Int.mul_le_mul_of_nonneg_left (by omega) hM
    rw [Int.neg_mul] at q
    omega
  · rw [smR_nil (by omega)]; omega
/-- rows of one value more, or less -/
def shM (σ : Mem) (b : Nat) (val m : Int) : Mem :=
  if 0 < σ b 5 then (if σ (b + 4) val = 0 then sput (sput σ b 6 (σ b 6 + if 0 ≤ m then m else -m)) (b + 2) (spOf (σ (b + 1)) (σ b 5) val) (σ (b + 2) (spOf (σ (b + 1)) (σ b 5) val) + m) else sput (sput σ b 6 (σ b 6 + if 0 ≤ m then m else -m)) (b + 5) val (σ (b + 5) val + m)) else σ
def hvB (σ : Mem) (b : Nat) : Prop := ∀ j : Int, 0 ≤ j → j < 40 → σ (b + 4) j = 0 ∨ σ (b + 4) j = 1
