/-! ===== what holds of a sketch: made, and taken together ===== -/
theorem rr_sum {h tr : Int → Int} {S : SV} (hE : svE S) : ∀ m : Nat, (m : Int) ≤ S.1 → smR (rrS h tr S.2.1) 0 m = smR (gtF h tr) 0 (foF S.2.1 m) := by
  intro m
  induction m with
  | zero => intro _; rw [smR_nil (by omega), smR_nil (by unfold foF; rw [if_neg (by omega)]; omega)]
  | succ m ih =>
    intro hm
    have f := foF_ge hE (k := m) (by omega) (by omega)
    have e : foF S.2.1 ((m + 1 : Nat) : Int) = S.2.1 m + 1 := by unfold foF; rw [if_pos (by omega), show ((m + 1 : Nat) : Int) - 1 = m by omega]
    rw [e, show ((m + 1 : Nat) : Int) = (m : Int) + 1 by omega, smR_last (by omega), ih (by omega)]
    exact (smR_split (by omega) (by omega)).symm
theorem rr_all {h tr : Int → Int} {S : SV} (hE : svE S) : smR (rrS h tr S.2.1) 0 S.1 = smR (gtF h tr) 0 40 := by
  have n1 := hE.1
  have r := rr_sum (h := h) (tr := tr) hE S.1.toNat (by omega)
  rw [show ((S.1.toNat : Nat) : Int) = S.1 by omega] at r
  rw [r]
  congr 1
  unfold foF
  rw [if_pos (by omega), hE.2.2.2.2]
  rfl
theorem plB_inc {lv : Int → Int} {L : Int} {many : Nat} (h : dpS lv L many 0 < 1000000000) {i : Nat} (hi : i < many) : plB lv L many i < plB lv L many (i + 1) := by
  have p := (plB_ok h i (by omega)).2.2 hi
  have w := feI_W (lv := lv) (L := L) (n := many - i - 1) p
  conv => rhs; unfold plB
  rw [if_pos p]
  omega
theorem plB_lt {lv : Int → Int} {L : Int} {many : Nat} (h : dpS lv L many 0 < 1000000000) {i : Nat} : ∀ m : Nat, i + m + 1 ≤ many → plB lv L many i < plB lv L many (i + m + 1) := by
  intro m
  induction m with
  | zero => intro q; exact plB_inc h (by omega)
  | succ m ih =>
    intro q
    have a := ih (by omega)
    have b := plB_inc h (i := i + m + 1) (by omega)
    rw [show i + (m + 1) + 1 = i + m + 1 + 1 by omega]
    omega
theorem skI_make {h hc tr lv : Int → Int} {S : SV} {va n L : Int} {many : Nat} (hm : 1 ≤ many ∧ many ≤ 12) (hfin : dpS lv L many 0 < 1000000000) (s1 : S.1 = many) (s2 : ∀ j : Int, 0 ≤ j → j < S.1 → S.2.1 j = plB lv L many (j.toNat + 1) - 1) (s3 : ∀ j : Int, 0 ≤ j → j < S.1 → S.2.2.1 j = rrS h tr S.2.1 j) (s4 : ∀ j : Int, 0 ≤ j → j < S.1 → S.2.2.2 j = 0) (hh : ∀ v : Int, 0 ≤ v → v < 40 → h v ≠ 0 → hc v = tr v) (ht : ∀ j : Int, 0 ≤ j → j < 40 → 0 ≤ tr j) (hva : smR tr 0 40 = va) (hva2 : va ≤ 10000) (hn : 0 ≤ n) : skI h hc tr S va n := by
  have hE : svE S := by
    refine ⟨by omega, by omega, fun j j0 j1 => ?_, fun i j i0 ij j1 => ?_, ?_⟩
    · rw [s2 j j0 j1]
      have w := plB_W lv L many (j.toNat + 1)
      have := plB_inc hfin (i := j.toNat) (by omega)
      have := (plB_W lv L many j.toNat).1
      omega
    · rw [s2 i i0 (by omega), s2 j (by omega) j1]
      have := plB_lt hfin (i := i.toNat + 1) (j.toNat - i.toNat - 1) (by omega)
      rw [show i.toNat + 1 + (j.toNat - i.toNat - 1) + 1 = j.toNat + 1 by omega] at this
      omega
    · rw [s2 (S.1 - 1) (by omega) (by omega), show (S.1 - 1).toNat + 1 = many by omega, plB_end hfin]
      decide
  have hg : smR (gtF h tr) 0 40 + hvS h hc 0 39 = va := by
    have e : hvS h hc 0 39 = smR (fun v => if h v = 0 then 0 else hc v) 0 40 := rfl
    rw [e, ← smR_add (f := gtF h tr) (g := fun v => if h v = 0 then 0 else hc v), ← hva]
    refine smR_congr fun v v0 v1 => ?_
    unfold gtF
    by_cases z : h v = 0
    · rw [if_pos z, if_pos z]; omega
    · rw [if_neg z, if_neg z, hh v v0 v1 z]; omega
  have hs : smR S.2.2.1 0 S.1 = smR (gtF h tr) 0 40 := by rw [smR_congr s3]; exact rr_all hE
  refine ⟨hE, fun j j0 j1 => by rw [s4 j j0 j1]; omega, ⟨S.2.2.1, fun k k0 k1 => ?_, rfl⟩, fun v v0 v1 q => by rw [hh v v0 v1 q]; exact Int.le_refl _, by rw [hs]; omega, ?_⟩
  · rw [s4 k k0 k1, s3 k k0 k1]; omega
  · have l : l1 S = smR S.2.2.1 0 S.1 := by
      unfold l1
      refine smR_congr fun j j0 j1 => ?_
      have := rrS_nn (h := h) hE ht j0 j1
      rw [s3 j j0 j1]
      unfold abI
      omega
    rw [l, hs]
    omega
/-! TOGETHER -/
theorem smR_swap {f : Int → Int → Int} {n : Int} : ∀ m : Nat, smR (fun k => smR (f k) 0 n) 0 m = smR (fun v => smR (fun k => f k v) 0 m) 0 n := by
  intro m
  induction m with
  | zero =>
    rw [smR_nil (by omega)]
    have e : smR (fun v => smR (fun k => f k v) 0 ((0 : Nat) : Int)) 0 n = smR (fun _ => 0) 0 n := smR_congr fun v _ _ => smR_nil (by omega)
    rw [e]
    rcases Int.lt_or_le 0 n with q | q
    · have := smR_bd (f := fun _ => (0 : Int)) (a := 0) (b := n) (lo := 0) (hi := 0) (fun _ _ _ => ⟨Int.le_refl _, Int.le_refl _⟩) (by omega)
      omega
    · rw [smR_nil q]
  | succ m ih =>
    rw [show ((m + 1 : Nat) : Int) = (m : Int) + 1 by omega, smR_last (by omega), ih, ← smR_add (f := fun v => smR (fun k => f k v) 0 m) (g := f m)]
    refine smR_congr fun v _ _ => ?_
    rw [smR_last (by omega)]
theorem th_sum {h ho hco : Int → Int} {S : SV} (hE : svE S) : smR (fun k => smR (thF h ho hco S.2.1 S.1 k) 0 40) 0 S.1 = smR (fun v => if ho v ≠ 0 ∧ h v = 0 then hco v else 0) 0 40 := by
  have n1 := hE.1
  have sw := smR_swap (f := fun k => thF h ho hco S.2.1 S.1 k) (n := 40) S.1.toNat
  rw [show ((S.1.toNat : Nat) : Int) = S.1 by omega] at sw
  rw [sw]
  refine smR_congr fun v v0 v1 => ?_
  obtain ⟨k0, k1, -, -⟩ := spOf_in hE (v := v) (by omega)
  by_cases q : ho v ≠ 0 ∧ h v = 0
  · rw [if_pos q, smR_congr (g := fun k => if k = spOf S.2.1 S.1 v then hco v else 0) (fun k _ _ => ?_), smR_at, if_pos ⟨k0, k1⟩]
    unfold thF
    by_cases z : spOf S.2.1 S.1 v = k
    · rw [if_pos ⟨q.1, q.2, z⟩, if_pos z.symm]
    · rw [if_neg (fun y => z y.2.2), if_neg (fun y => z y.symm)]
  · rw [if_neg q, smR_congr (g := fun k => if k = -1 then 0 else 0) (fun k _ _ => ?_), smR_at]
    · split <;> rfl
    · unfold thF
      rw [if_neg (fun y => q ⟨y.1, y.2.1⟩)]
      split <;> rfl
theorem cut_all {h hc tr : Int → Int} {S : SV} {va n k v : Int} (ht : ∀ j : Int, 0 ≤ j → j < 40 → 0 ≤ tr j) (hva : 0 ≤ va ∧ va ≤ 10000) (hn : n ≤ 512000) (hS : S.1 < 24) (hk : 0 ≤ k) (hk2 : k < S.1) (hv : foF S.2.1 k ≤ v ∧ v < S.2.1 k) (hI : skI h hc tr S va n) : skI h hc tr (cutV h S k v) va n ∧ smR (cutV h S k v).2.2.1 0 (cutV h S k v).1 = smR S.2.2.1 0 S.1 ∧ l1 (cutV h S k v) ≤ l1 S := by
  have hH := hv_nn ht hI.2.2.2.1
  have h5 := hI.2.2.2.2.1
  have h6 := hI.2.2.2.2.2
  exact ⟨skI_cut ht hva hn hS hk hk2 hv hI, (sdI_cut (h := h) hI.1 ht hk hk2 hv (fun j q1 q2 => by have := l1_at (S := S) q1 q2; omega) (by omega) hI.2.2.1).2, l1_cut hk hk2⟩
/-- a sketch's own share of the walk -/
def wkH (h hc tr : Int → Int) (S T : SV) (va n : Int) : Prop := skI h hc tr T va n ∧ smR T.2.2.1 0 T.1 = smR S.2.2.1 0 S.1 ∧ l1 T ≤ l1 S
theorem tk_walk {h ho hc hco tr tro : Int → Int} {S T : SV} {va vb n : Int} (ht : ∀ j : Int, 0 ≤ j → j < 40 → 0 ≤ tr j) (hto : ∀ j : Int, 0 ≤ j → j < 40 → 0 ≤ tro j) (hva : 0 ≤ va ∧ va ≤ 10000) (hvb : 0 ≤ vb ∧ vb ≤ 10000) (hn : n ≤ 512000) (hI0 : tkI 0 (S, T)) (h1 : skI h hc tr S va n) (h2 : skI ho hco tro T vb n) : ∀ m : Nat, m ≤ 39 → tkI m (itrR (tkS h ho) 0 m (S, T)) ∧ wkH h hc tr S (itrR (tkS h ho) 0 m (S, T)).1 va n ∧ wkH ho hco tro T (itrR (tkS h ho) 0 m (S, T)).2 vb n := by
  intro m
  induction m with
  | zero => intro _; rw [itrR_nil (by omega)]; exact ⟨hI0, ⟨h1, rfl, Int.le_refl _⟩, h2, rfl, Int.le_refl _⟩
  | succ m ih =>
    intro hm
    obtain ⟨i1, i2, i3⟩ := ih (by omega)
    rw [show ((m + 1 : Nat) : Int) = (m : Int) + 1 by omega, itrR_right (by omega)]
    generalize itrR (tkS h ho) 0 m (S, T) = st at *
    have room := tkI_room (v := m) (by omega) (by omega) i1
    obtain ⟨k0, k1, k2, k3⟩ := spOf_in i1.1 (v := m) (by omega)
    obtain ⟨q0, q1, q2, q3⟩ := spOf_in i1.2.1 (v := m) (by omega)
    have fk := spOf_foF i1.1 (v := m) (by omega) (by omega)
    have fq := spOf_foF i1.2.1 (v := m) (by omega) (by omega)
    refine ⟨tkI_step (by omega) (by omega) i1, ?_, ?_⟩
    · unfold tkS
      dsimp only
      split
      · next z =>
        obtain ⟨a1, a2, a3⟩ := cut_all ht hva hn (room.1 z.1) k0 k1 ⟨fk, by have := z.2; omega⟩ i2.1
        exact ⟨a1, a2.trans i2.2.1, by have := i2.2.2; omega⟩
      · exact i2
    · unfold tkS
      dsimp only
      split
      · next z =>
        obtain ⟨a1, a2, a3⟩ := cut_all hto hvb hn (room.2 z.1) q0 q1 ⟨fq, by have := z.2; omega⟩ i3.1
        exact ⟨a1, a2.trans i3.2.1, by have := i3.2.2; omega⟩
      · exact i3
/-- counts stay within virtual rows and doubts -/
theorem l1_sd {h tr : Int → Int} {S : SV} (hE : svE S) (ht : ∀ j : Int, 0 ≤ j → j < 40 → 0 ≤ tr j) (hS : sdI h tr S) : l1 S ≤ smR S.2.2.1 0 S.1 + smR S.2.2.2 0 S.1 := by
  obtain ⟨U, hU, hs⟩ := hS
  rw [hs, ← smR_add (f := U) (g := S.2.2.2)]
  unfold l1
  refine smR_le fun k k0 k1 => ?_
  have u := (sd_U hE ht hU hs k0 k1).1
  have := hU k k0 k1
  unfold abI
  omega
theorem fz_I {h hc tr : Int → Int} {va n : Int} (ht : ∀ j : Int, 0 ≤ j → j < 40 → 0 ≤ tr j) (hva : 0 ≤ va ∧ va ≤ 10000) (hn : n ≤ 512000) : ∀ (m : Nat) (S : SV), (m : Int) + 12 ≤ S.1 ∨ m = 0 → skI h hc tr S va n → skI h hc tr (fzV m S) va n ∧ (fzV m S).1 = S.1 - m := by
  intro m
  induction m with
  | zero => intro S _ hI; exact ⟨hI, by show S.1 = S.1 - 0; omega⟩
  | succ m ih =>
    intro S hS hI
    have p0 := lp_some (n := S.1) (c := S.2.2.1) (by omega)
    have p1 := lp_bd (n := S.1) (w := -1) (c := S.2.2.1) (by omega)
    have f := skI_fuse ht hva hn p0 (by omega) hI
    have e : (fuseV S (itrR (lpF S.2.2.1 (-1)) 0 (S.1 - 1) (-1))).1 = S.1 - 1 := rfl
    obtain ⟨g1, g2⟩ := ih _ (by rw [e]; omega) f
    refine ⟨g1, ?_⟩
    show (fzV m _).1 = _
    rw [g2, e]
    omega
theorem skI_tog {h ho hc hco hc' tr tro : Int → Int} {S T : SV} {va vb n n' : Int} (ht : ∀ j : Int, 0 ≤ j → j < 40 → 0 ≤ tr j) (hto : ∀ j : Int, 0 ≤ j → j < 40 → 0 ≤ tro j) (hva : 0 ≤ va ∧ va ≤ 10000) (hvb : 0 ≤ vb ∧ vb ≤ 10000) (hn : n ≤ 512000) (hn' : 0 ≤ n' ∧ n' ≤ 512000) (h1 : skI h hc tr S va n) (h2 : skI ho hco tro T vb n) (hS : S.1 ≤ 12) (hT : T.1 ≤ 12) (hW : (smR S.2.2.1 0 S.1 + smR S.2.2.2 0 S.1 + hvS h hc 0 39) + (smR T.2.2.1 0 T.1 + smR T.2.2.2 0 T.1 + hvS ho hco 0 39) ≤ 100000) (hhc : ∀ j : Int, 0 ≤ j → j < 40 → hc' j = if h j ≠ 0 ∧ ho j ≠ 0 then hc j + hco j else hc j) : skI h hc' tr (tkV h ho hco S T) va n' ∧ 1 ≤ (tkV h ho hco S T).1 ∧ (tkV h ho hco S T).1 ≤ 12 := by
  have z : ∀ X : SV, svE X → spOf X.2.1 X.1 0 = 0 := by
    intro X hX
    obtain ⟨k0, k1, k2, k3⟩ := spOf_in hX (v := 0) (by decide)
    rcases Int.lt_or_le 0 (spOf X.2.1 X.1 0) with q | q
    · have := k2 0 (by omega) q; have := hX.2.2.1 0 (by omega) (by have := hX.1; omega); omega
    · omega
  have hI0 : tkI 0 (S, T) := ⟨h1.1, h2.1, by dsimp only; rw [z S h1.1, z T h2.1], fun j q1 q2 => by dsimp only at q2; rw [z S h1.1] at q2; omega, by dsimp only; rw [z S h1.1]; omega⟩
  obtain ⟨w1, w2, w3⟩ := tk_walk ht hto hva hvb hn hI0 h1 h2 39 (by omega)
  have H1 := hv_nn ht h1.2.2.2.1
  have H2 := hv_nn hto h2.2.2.2.1
  have d1 : 0 ≤ smR S.2.2.2 0 S.1 := smR_nn fun v v0 v1 => (h1.2.1 v v0 v1).1
  have d2 : 0 ≤ smR T.2.2.2 0 T.1 := smR_nn fun v v0 v1 => (h2.2.1 v v0 v1).1
  have l1S := l1_sd h1.1 ht h1.2.2.1
  have l1T := l1_sd h2.1 hto h2.2.2.1
  unfold tkV
  rw [show ((39 : Nat) : Int) = 39 from rfl] at w1 w2 w3
  generalize itrR (tkS h ho) 0 39 (S, T) = st at *
  obtain ⟨A, B⟩ := st
  dsimp only at w2 w3 ⊢
  obtain ⟨e1, e2, e3⟩ := tkI_end w1
  dsimp only at e1 e2 e3
  obtain ⟨a1, a2, a3⟩ := w2
  obtain ⟨b1, b2, b3⟩ := w3
  obtain ⟨U, hU, hUs⟩ := a1.2.2.1
  obtain ⟨V, hV, hVs⟩ := b1.2.2.1
  have nA := a1.1.1
  have hUn := fun {k : Int} (k0 : 0 ≤ k) (k1 : k < A.1) => sd_U a1.1 ht hU hUs k0 k1
  have hVn := fun {k : Int} (k0 : 0 ≤ k) (k1 : k < B.1) => sd_U b1.1 hto hV hVs k0 k1
  have thn : ∀ k : Int, 0 ≤ smR (thF h ho hco A.2.1 A.1 k) 0 40 := fun k => smR_nn fun v v0 v1 => by
    unfold thF
    split
    · next q =>
      have := hto v v0 v1
      have := h2.2.2.2.1 v v0 v1 q.1
      omega
    · exact Int.le_refl _
  have ths := th_sum (h := h) (ho := ho) (hco := hco) a1.1
  have hcs : smR (fun v => if ho v ≠ 0 ∧ h v = 0 then hco v else 0) 0 40 + hvS h hc' 0 39 = hvS h hc 0 39 + hvS ho hco 0 39 := by
    have x1 : hvS h hc' 0 39 = smR (fun v => if h v = 0 then 0 else hc' v) 0 40 := rfl
    have x2 : hvS h hc 0 39 = smR (fun v => if h v = 0 then 0 else hc v) 0 40 := rfl
    have x3 : hvS ho hco 0 39 = smR (fun v => if ho v = 0 then 0 else hco v) 0 40 := rfl
    rw [x1, x2, x3, ← smR_add (f := fun v => if ho v ≠ 0 ∧ h v = 0 then hco v else 0) (g := fun v => if h v = 0 then 0 else hc' v), ← smR_add (f := fun v => if h v = 0 then 0 else hc v) (g := fun v => if ho v = 0 then 0 else hco v)]
    refine smR_congr fun v v0 v1 => ?_
    rw [hhc v v0 v1]
    by_cases p : h v = 0
    · by_cases q : ho v = 0
      · rw [if_neg (fun y => y.1 q), if_pos p, if_pos p, if_pos q]
      · rw [if_pos ⟨q, p⟩, if_pos p, if_pos p, if_neg q]; omega
    · by_cases q : ho v = 0
      · rw [if_neg (fun y => y.1 q), if_neg p, if_neg p, if_pos q, if_neg (fun y => y.2 q)]; omega
      · rw [if_neg (fun y => p y.2), if_neg p, if_neg p, if_neg q, if_pos ⟨p, q⟩]; omega
  have pc : ∀ k : Int, 0 ≤ k → k < A.1 → (thV h ho hco (addV A B)).2.2.1 k = A.2.2.1 k + B.2.2.1 k + smR (thF h ho hco A.2.1 A.1 k) 0 40 := fun k k0 k1 => by
    simp only [thV, addV]
    rw [mkR_in k0 k1, mkR_in k0 k1]
  have pd : ∀ k : Int, 0 ≤ k → k < A.1 → (thV h ho hco (addV A B)).2.2.2 k = min (A.2.2.2 k + B.2.2.2 k) 1000000 := fun k k0 k1 => by
    simp only [thV, addV]
    rw [mkR_in k0 k1]
  have sumc : smR (thV h ho hco (addV A B)).2.2.1 0 A.1 = smR A.2.2.1 0 A.1 + smR B.2.2.1 0 B.1 + smR (fun k => smR (thF h ho hco A.2.1 A.1 k) 0 40) 0 A.1 := by
    rw [smR_congr pc, smR_add (f := fun k => A.2.2.1 k + B.2.2.1 k) (g := fun k => smR (thF h ho hco A.2.1 A.1 k) 0 40), smR_add (f := A.2.2.1) (g := B.2.2.1), e1]
  have hI : skI h hc' tr (thV h ho hco (addV A B)) va n' := by
    refine ⟨a1.1, fun k k0 k1 => ?_, ⟨fun k => U k + V k + smR (thF h ho hco A.2.1 A.1 k) 0 40, fun k k0 k1 => ?_, ?_⟩, fun v v0 v1 q => ?_, ?_, ?_⟩
    · have k2 : k < A.1 := k1
      rw [pd k k0 k2]
      have := a1.2.1 k k0 k2
      have := b1.2.1 k k0 (by omega)
      omega
    · have k2 : k < A.1 := k1
      rw [pc k k0 k2, pd k k0 k2]
      show rrS h tr A.2.1 k ≤ _ ∧ _
      have u1 := hU k k0 k2
      have u2 := hV k k0 (by omega)
      have u3 := hUn k0 k2
      have u4 := hVn k0 (by omega)
      have u5 := thn k
      have u6 := l1_at (S := A) k0 k2
      have u7 := l1_at (S := B) k0 (by omega)
      dsimp only
      omega
    · show smR (thV h ho hco (addV A B)).2.2.1 0 A.1 = smR _ 0 A.1
      rw [sumc, smR_add (f := fun k => U k + V k) (g := fun k => smR (thF h ho hco A.2.1 A.1 k) 0 40), smR_add (f := U) (g := V), hUs, hVs, e1]
    · rw [hhc v v0 v1]
      have g := h1.2.2.2.1 v v0 v1 q
      split
      · next y =>
        have := hto v v0 v1
        have := h2.2.2.2.1 v v0 v1 y.2
        omega
      · exact g
    · show smR (thV h ho hco (addV A B)).2.2.1 0 A.1 + _ ≤ _
      rw [sumc, ths]
      omega
    · have l : l1 (thV h ho hco (addV A B)) ≤ l1 A + l1 B + smR (fun k => smR (thF h ho hco A.2.1 A.1 k) 0 40) 0 A.1 := by
        have q := smR_le (f := fun k => abI ((thV h ho hco (addV A B)).2.2.1 k)) (g := fun k => (abI (A.2.2.1 k) + abI (B.2.2.1 k)) + smR (thF h ho hco A.2.1 A.1 k) 0 40) (a := 0) (b := A.1) (fun k k0 k1 => by
          rw [pc k k0 k1]
          have := thn k
          unfold abI
          omega)
        rw [smR_add (f := fun k => abI (A.2.2.1 k) + abI (B.2.2.1 k)) (g := fun k => smR (thF h ho hco A.2.1 A.1 k) 0 40), smR_add (f := fun k => abI (A.2.2.1 k)) (g := fun k => abI (B.2.2.1 k))] at q
        have x1 : l1 A = smR (fun k => abI (A.2.2.1 k)) 0 A.1 := rfl
        have x2 : l1 B = smR (fun k => abI (B.2.2.1 k)) 0 A.1 := by unfold l1; rw [e1]
        have x3 : l1 (thV h ho hco (addV A B)) = smR (fun k => abI ((thV h ho hco (addV A B)).2.2.1 k)) 0 A.1 := rfl
        rw [x1, x2, x3]
        exact q
      rw [ths] at l
      omega
  have f := fz_I ht hva hn'.2 (A.1 - 12).toNat (thV h ho hco (addV A B)) (by show _ ≤ A.1 ∨ _; omega) hI
  refine ⟨f.1, ?_, ?_⟩
  · show 1 ≤ (fzV (A.1 - 12).toNat (thV h ho hco (addV A B))).1
    rw [f.2]
    show 1 ≤ A.1 - _
    omega
  · show (fzV (A.1 - 12).toNat (thV h ho hco (addV A B))).1 ≤ 12
    rw [f.2]
    show A.1 - _ ≤ 12
    omega
