/-! ===== guesses stay within a long ===== -/
def pw (n : Int) : Int := ((2 ^ n.toNat : Nat) : Int)
theorem pw_pos (n : Int) : 1 ≤ pw n := by
  unfold pw
  have := Nat.pow_pos (a := 2) (n := n.toNat) (by decide)
  omega
theorem pw_add {a b : Int} (h0 : 0 ≤ a) (h1 : 0 ≤ b) : pw (a + b) = pw a * pw b := by
  unfold pw
  rw [show (a + b).toNat = a.toNat + b.toNat by omega, Nat.pow_add, Int.natCast_mul]
theorem pw_self {a : Int} (h0 : 0 ≤ a) : a ≤ pw a := by
  unfold pw
  have := Nat.lt_two_pow_self (n := a.toNat)
  omega
theorem pw_mono {a b : Int} (h0 : 0 ≤ a) (h1 : a ≤ b) : pw a ≤ pw b := by
  rw [show b = a + (b - a) by omega, pw_add h0 (by omega)]
  have p := pw_pos (b - a)
  have q := pw_pos a
  have := Int.mul_le_mul_of_nonneg_left p (c := pw a) (by omega)
  omega
theorem pw_40 : pw 40 = 1099511627776 := by decide +kernel
theorem ai_bdd {t d x y T c : Int} (hd : 0 < d) (hy : 0 < y) (hD : 0 < aiD d x y) (ht : -(T * d) ≤ t ∧ t ≤ T * d) (hx : -(c * y) ≤ x ∧ x ≤ c * y) : -((T + c) * aiD d x y) ≤ aiN t d x y ∧ aiN t d x y ≤ (T + c) * aiD d x y := by
  have v := ai_val (t := t) (x := x) hd hy
  have p : 0 < d * y := Int.mul_pos hd hy
  have a1 := Int.mul_le_mul_of_nonneg_right ht.1 (c := y) (by omega)
  have a2 := Int.mul_le_mul_of_nonneg_right ht.2 (c := y) (by omega)
  have b1 := Int.mul_le_mul_of_nonneg_right hx.1 (c := d) (by omega)
  have b2 := Int.mul_le_mul_of_nonneg_right hx.2 (c := d) (by omega)
  have e1 : T * d * y + c * y * d = (T + c) * (d * y) := by grind
  have u : t * y + x * d ≤ (T + c) * (d * y) := by omega
  have l : -((T + c) * (d * y)) ≤ t * y + x * d := by
    rw [Int.neg_mul] at a1 b1
    omega
  have u2 := Int.mul_le_mul_of_nonneg_right u (c := aiD d x y) (by omega)
  have l2 := Int.mul_le_mul_of_nonneg_right l (c := aiD d x y) (by omega)
  constructor
  · refine Int.le_of_mul_le_mul_right (a := d * y) ?_ p
    rw [v]
    have : -((T + c) * aiD d x y) * (d * y) = -((T + c) * (d * y)) * aiD d x y := by grind
    omega
  · refine Int.le_of_mul_le_mul_right (a := d * y) ?_ p
    rw [v]
    have : (T + c) * aiD d x y * (d * y) = (T + c) * (d * y) * aiD d x y := by grind
    omega
theorem fr_bdd {N D T : Int} (hD : 0 < D) (h : -(T * D) ≤ N ∧ N ≤ T * D) : -(T * frD N D) ≤ frN N D ∧ frN N D ≤ T * frD N D := by
  have g := gcI_pos (a := N) hD
  have e1 := frN_mul N D
  have e2 := frD_mul N D
  constructor
  · refine Int.le_of_mul_le_mul_left (a := gcI N D) ?_ (by omega)
    rw [e1]
    have : gcI N D * -(T * frD N D) = -(T * D) := by grind
    omega
  · refine Int.le_of_mul_le_mul_left (a := gcI N D) ?_ (by omega)
    rw [e1]
    have : gcI N D * (T * frD N D) = T * D := by grind
    omega
theorem aiD_le {d x y : Int} (hd : 0 < d) (hy : 0 < y) : 0 < aiD d x y ∧ aiD d x y ≤ d * y := by
  have f := frD_pos (a := x) hy
  have fl := frD_le (a := x) hy
  have g := gcI_pos (a := d) f
  have gl := gcI_le (a := d) f
  have q1 : 1 ≤ frD x y / gcI d (frD x y) := (Int.le_ediv_iff_mul_le (by omega)).mpr (by omega)
  have q2 : frD x y / gcI d (frD x y) ≤ y := Int.le_trans (Int.ediv_le_self _ (by omega)) fl
  unfold aiD
  exact ⟨Int.mul_pos hd (by omega), Int.mul_le_mul_of_nonneg_left q2 (by omega)⟩
theorem ask_in {h e : Int → Int} {a b k : Int} : 0 ≤ askF h e a b k ∧ askF h e a b k ≤ loN h e k := by
  have nn : ∀ x y : Int, 0 ≤ smR (fun v => if h v = 0 then (1 : Int) else 0) x y := fun x y => smR_nn fun v _ _ => by split <;> omega
  unfold askF loN ltC
  refine ⟨nn _ _, ?_⟩
  rcases Int.lt_or_le (max (max (foF e k) a) 0) (min (min (e k) b + 1) 40) with q | q
  · rw [smR_split (a := max (foF e k) 0) (b := max (max (foF e k) a) 0) (c := min (e k + 1) 40) (by omega) (by omega), smR_split (a := max (max (foF e k) a) 0) (b := min (min (e k) b + 1) 40) (c := min (e k + 1) 40) (by omega) (by omega)]
    have := nn (max (foF e k) 0) (max (max (foF e k) a) 0)
    have := nn (min (min (e k) b + 1) 40) (min (e k + 1) 40)
    omega
  · rw [smR_nil q]; exact nn _ _
theorem lo_sum {h : Int → Int} {S : SV} (hE : svE S) : ∀ m : Int, 0 ≤ m → m ≤ S.1 → 0 ≤ smR (loN h S.2.1) 0 m ∧ smR (loN h S.2.1) 0 m ≤ 40 := by
  have nn : ∀ k : Int, 0 ≤ loN h S.2.1 k := fun k => (ltC_bd h _ _).1
  intro m m0 m1
  refine ⟨smR_nn fun v _ _ => nn v, ?_⟩
  have e : smR (loN h S.2.1) 0 S.1 = smR (gtF h (fun _ => 1)) 0 40 := by
    rw [← rr_all (h := h) (tr := fun _ => 1) hE]
    refine smR_congr fun k k0 k1 => ?_
    have f := foF_ge hE k0 k1
    unfold loN ltC rrS
    rw [show max (foF S.2.1 k) 0 = foF S.2.1 k by omega, show min (S.2.1 k + 1) 40 = S.2.1 k + 1 by omega]
    rfl
  have b := smR_bd (f := gtF h (fun _ => 1)) (a := 0) (b := 40) (lo := 0) (hi := 1) (fun v _ _ => by unfold gtF; split; (show (0 : Int) ≤ 1 ∧ (1 : Int) ≤ 1; decide); decide) (by decide)
  have s : smR (loN h S.2.1) 0 S.1 = smR (loN h S.2.1) 0 m + smR (loN h S.2.1) m S.1 := smR_split m0 m1
  have := smR_nn (f := loN h S.2.1) (a := m) (b := S.1) fun v _ _ => nn v
  omega
theorem hv_part {h hc : Int → Int} (hn : ∀ j : Int, 0 ≤ j → j < 40 → 0 ≤ hc j) {a b : Int} (h0 : 0 ≤ a) (h1 : a ≤ b) (h2 : b ≤ 39) : 0 ≤ hvS h hc a b ∧ hvS h hc a b ≤ hvS h hc 0 39 := by
  have nn : ∀ x y : Int, 0 ≤ x → y ≤ 40 → 0 ≤ smR (fun v => if h v = 0 then 0 else hc v) x y := fun x y q1 q2 => smR_nn fun v v0 v1 => by
    split
    · exact Int.le_refl _
    · exact hn v (by omega) (by omega)
  unfold hvS
  rw [show max a 0 = a by omega, show min (b + 1) 40 = b + 1 by omega, show max (0 : Int) 0 = 0 by decide, show min ((39 : Int) + 1) 40 = 40 by decide, smR_split (a := 0) (b := a) (c := 40) (by omega) (by omega), smR_split (a := a) (b := b + 1) (c := 40) (by omega) (by omega)]
  have := nn 0 a (by omega) (by omega)
  have := nn (b + 1) 40 (by omega) (by omega)
  have := nn a (b + 1) (by omega) (by omega)
  omega
/-- the class's guess stays within a long -/
theorem BI.gu {σ : Mem} {n i a1 a2 : Int} (hn : n ≤ 512000) (h : BI σ n) (hi : 0 ≤ i ∧ i < 3) (ha : 0 ≤ a1 ∧ a1 ≤ a2 ∧ a2 ≤ 39) (hz : 0 < σ (11 + 10 * i.toNat + 2) 5) : guOK σ (11 + 10 * i.toNat + 2) a1 a2 := by
  obtain ⟨hr, ⟨z1, z2, z3, z4⟩, -⟩ := h.2 i hi.1 hi.2
  obtain ⟨g, g0⟩ := z4 (by omega)
  have l := skI_l1 hr.1 g
  have l6 := g.2.2.2.2.2
  have hp := hv_part (h := σ (11 + 10 * i.toNat + 2 + 4)) (hc := σ (11 + 10 * i.toNat + 2 + 5)) (fun j j0 j1 => (z3 j j0 j1).2.1) ha.1 ha.2.1 ha.2.2
  generalize hp9 : 11 + 10 * i.toNat + 2 = p at *
  obtain ⟨H, hH⟩ : ∃ H : Int, H = hvS (σ (p + 4)) (σ (p + 5)) a1 a2 := ⟨_, rfl⟩
  obtain ⟨C, hC⟩ : ∃ C : Int → Int, C = (skV σ p).2.2.1 := ⟨_, rfl⟩
  obtain ⟨e, he⟩ : ∃ e : Int → Int, e = (skV σ p).2.1 := ⟨_, rfl⟩
  have hs1 : (skV σ p).1 = σ p 5 := rfl
  have ln : ∀ k : Int, 0 ≤ k → k < σ p 5 → loN (σ (p + 4)) (σ (p + 1)) k = loN (σ (p + 4)) e k := fun k k0 k1 => loN_congr (n := σ p 5) (fun _ _ _ => rfl) (fun j j0 j1 => by rw [he]; exact (sk_rows j0 j1).1.symm) k0 k1
  have cn : ∀ k : Int, 0 ≤ k → k < σ p 5 → σ (p + 2) k = C k := fun k k0 k1 => by rw [hC]; exact (sk_rows k0 k1).2.1.symm
  have ls := lo_sum (h := σ (p + 4)) g.1
  rw [← he, hs1] at ls
  have la : l1 (skV σ p) = smR (fun k => abI (C k)) 0 (σ p 5) := by rw [hC]; rfl
  have lp : ∀ m : Int, 0 ≤ m → m ≤ σ p 5 → 0 ≤ smR (fun k => abI (C k)) 0 m ∧ smR (fun k => abI (C k)) 0 m ≤ l1 (skV σ p) := by
    intro m m0 m1
    have nn : ∀ x y : Int, 0 ≤ smR (fun k => abI (C k)) x y := fun x y => smR_nn fun v _ _ => by unfold abI; omega
    rw [la, smR_split (a := 0) (b := m) (c := σ p 5) m0 m1]
    have := nn 0 m
    have := nn m (σ p 5)
    omega
  rw [← hH] at hp
  refine ⟨fun k t d => 0 < d ∧ d ≤ pw (smR (loN (σ (p + 4)) e) 0 k) ∧ -((H + smR (fun k => abI (C k)) 0 k) * d) ≤ t ∧ t ≤ (H + smR (fun k => abI (C k)) 0 k) * d, ?_, fun k t d k0 k1 hP hq => ?_, fun k t d k0 k1 hP hq => ?_⟩
  · dsimp only
    rw [smR_nil (Int.le_refl 0), smR_nil (Int.le_refl 0), ← hH]
    have q := fr_bdd (N := H) (D := 1) (T := H + 0) (by decide) (by omega)
    have q2 := frD_pos (a := H) (b := 1) (by decide)
    have q3 := frD_le (a := H) (b := 1) (by decide)
    have := pw_pos 0
    exact ⟨q2, by omega, q.1, q.2⟩
  · obtain ⟨p1, p2, p3, p4⟩ := hP
    have ak := ask_in (h := σ (p + 4)) (e := σ (p + 1)) (a := a1) (b := a2) (k := k)
    have L0 : 0 < loN (σ (p + 4)) (σ (p + 1)) k := by omega
    have ad := aiD_le (x := σ (p + 2) k * askF (σ (p + 4)) (σ (p + 1)) a1 a2 k) p1 L0
    have hx : -(abI (C k) * loN (σ (p + 4)) (σ (p + 1)) k) ≤ σ (p + 2) k * askF (σ (p + 4)) (σ (p + 1)) a1 a2 k ∧ σ (p + 2) k * askF (σ (p + 4)) (σ (p + 1)) a1 a2 k ≤ abI (C k) * loN (σ (p + 4)) (σ (p + 1)) k := by
      rw [cn k k0 k1]
      have ab : 0 ≤ abI (C k) ∧ -(abI (C k)) ≤ C k ∧ C k ≤ abI (C k) := by unfold abI; omega
      have m1 := Int.mul_le_mul_of_nonneg_left ak.2 (c := abI (C k)) ab.1
      have m2 := Int.mul_le_mul_of_nonneg_right ab.2.2 (c := askF (σ (p + 4)) (σ (p + 1)) a1 a2 k) (by omega)
      have m3 := Int.mul_le_mul_of_nonneg_right ab.2.1 (c := askF (σ (p + 4)) (σ (p + 1)) a1 a2 k) (by omega)
      rw [Int.neg_mul] at m3
      omega
    have an := ai_bdd p1 L0 ad.1 ⟨p3, p4⟩ hx
    have sl : smR (loN (σ (p + 4)) e) 0 (k + 1) = smR (loN (σ (p + 4)) e) 0 k + loN (σ (p + 4)) e k := smR_last k0
    have sc : smR (fun k => abI (C k)) 0 (k + 1) = smR (fun k => abI (C k)) 0 k + abI (C k) := smR_last k0
    have l1_ := ls k k0 (by omega)
    have l2_ := ls (k + 1) (by omega) (by omega)
    have c2_ := lp (k + 1) (by omega) (by omega)
    have dd : aiD d (σ (p + 2) k * askF (σ (p + 4)) (σ (p + 1)) a1 a2 k) (loN (σ (p + 4)) (σ (p + 1)) k) ≤ pw (smR (loN (σ (p + 4)) e) 0 (k + 1)) := by
      rw [sl, ← ln k k0 k1, pw_add l1_.1 (by omega)]
      refine Int.le_trans ad.2 (Int.mul_le_mul p2 (pw_self (by omega)) (by omega) (by have := pw_pos (smR (loN (σ (p + 4)) e) 0 k); omega))
    have d40 := Int.le_trans dd (pw_mono l2_.1 l2_.2)
    rw [pw_40] at d40
    rw [show H + smR (fun k => abI (C k)) 0 k + abI (C k) = H + smR (fun k => abI (C k)) 0 (k + 1) by omega] at an
    have big : (H + smR (fun k => abI (C k)) 0 (k + 1)) * aiD d (σ (p + 2) k * askF (σ (p + 4)) (σ (p + 1)) a1 a2 k) (loN (σ (p + 4)) (σ (p + 1)) k) ≤ 612000 * 1099511627776 := Int.mul_le_mul (by omega) d40 (by omega) (by decide)
    have fb := fr_bdd ad.1 an
    have fp := frD_pos (a := aiN t d (σ (p + 2) k * askF (σ (p + 4)) (σ (p + 1)) a1 a2 k) (loN (σ (p + 4)) (σ (p + 1)) k)) ad.1
    have fl := frD_le (a := aiN t d (σ (p + 2) k * askF (σ (p + 4)) (σ (p + 1)) a1 a2 k) (loN (σ (p + 4)) (σ (p + 1)) k)) ad.1
    exact ⟨p1, by omega, by omega, fp, by omega, fb.1, fb.2⟩
  · obtain ⟨p1, p2, p3, p4⟩ := hP
    have sl : smR (loN (σ (p + 4)) e) 0 (k + 1) = smR (loN (σ (p + 4)) e) 0 k + loN (σ (p + 4)) e k := smR_last k0
    have sc : smR (fun k => abI (C k)) 0 (k + 1) = smR (fun k => abI (C k)) 0 k + abI (C k) := smR_last k0
    have l1_ := ls k k0 (by omega)
    have nn : 0 ≤ loN (σ (p + 4)) e k := (ltC_bd _ _ _).1
    have ab : 0 ≤ abI (C k) := by unfold abI; omega
    have mm := pw_mono l1_.1 (b := smR (loN (σ (p + 4)) e) 0 (k + 1)) (by omega)
    have m9 := Int.mul_le_mul_of_nonneg_right (show H + smR (fun k => abI (C k)) 0 k ≤ H + smR (fun k => abI (C k)) 0 (k + 1) by omega) (c := d) (by omega)
    exact ⟨p1, by omega, by omega, by omega⟩
theorem mg_run {h : Int → Int} {S : SV} {a1 a2 H : Int} (hE : svE S) (hH : 0 ≤ H) : ∀ m : Nat, (m : Int) ≤ S.1 → 0 < (itrR (mgF h S.2.1 S.2.2.1 a1 a2) 0 m (H, 1)).2 ∧ (itrR (mgF h S.2.1 S.2.2.1 a1 a2) 0 m (H, 1)).2 ≤ pw (smR (loN h S.2.1) 0 m) ∧ -((H + smR (fun k => abI (S.2.2.1 k)) 0 m) * (itrR (mgF h S.2.1 S.2.2.1 a1 a2) 0 m (H, 1)).2) ≤ (itrR (mgF h S.2.1 S.2.2.1 a1 a2) 0 m (H, 1)).1 ∧ (itrR (mgF h S.2.1 S.2.2.1 a1 a2) 0 m (H, 1)).1 ≤ (H + smR (fun k => abI (S.2.2.1 k)) 0 m) * (itrR (mgF h S.2.1 S.2.2.1 a1 a2) 0 m (H, 1)).2 := by
  intro m
  induction m with
  | zero =>
    intro _
    rw [itrR_nil (by omega), smR_nil (by omega), smR_nil (by omega)]
    dsimp only
    have := pw_pos 0
    omega
  | succ m ih =>
    intro hm
    obtain ⟨p1, p2, p3, p4⟩ := ih (by omega)
    rw [show ((m + 1 : Nat) : Int) = (m : Int) + 1 by omega, itrR_right (by omega)]
    generalize itrR (mgF h S.2.1 S.2.2.1 a1 a2) 0 m (H, 1) = s at *
    obtain ⟨t, d⟩ := s
    change 0 < d at p1
    change d ≤ _ at p2
    change -((H + smR (fun k => abI (S.2.2.1 k)) 0 m) * d) ≤ t at p3
    change t ≤ (H + smR (fun k => abI (S.2.2.1 k)) 0 m) * d at p4
    have sl : smR (loN h S.2.1) 0 ((m : Int) + 1) = smR (loN h S.2.1) 0 m + loN h S.2.1 m := smR_last (by omega)
    have sc : smR (fun k => abI (S.2.2.1 k)) 0 ((m : Int) + 1) = smR (fun k => abI (S.2.2.1 k)) 0 m + abI (S.2.2.1 m) := smR_last (by omega)
    have l1_ := lo_sum (h := h) hE m (by omega) (by omega)
    have nn : 0 ≤ loN h S.2.1 m := (ltC_bd _ _ _).1
    have ab : 0 ≤ abI (S.2.2.1 m) ∧ -(abI (S.2.2.1 m)) ≤ S.2.2.1 m ∧ S.2.2.1 m ≤ abI (S.2.2.1 m) := by unfold abI; omega
    have mm := pw_mono l1_.1 (b := smR (loN h S.2.1) 0 ((m : Int) + 1)) (by omega)
    have ak := ask_in (h := h) (e := S.2.1) (a := a1) (b := a2) (k := m)
    rw [sc]
    unfold mgF
    dsimp only
    generalize smR (fun k => abI (S.2.2.1 k)) 0 m = Q at *
    generalize abI (S.2.2.1 m) = B at *
    generalize S.2.2.1 m = c at *
    have m1 := Int.mul_le_mul_of_nonneg_right ab.2.2 (c := d) (by omega)
    have m2 := Int.mul_le_mul_of_nonneg_right ab.2.1 (c := d) (by omega)
    have mB : 0 ≤ B * d := Int.mul_nonneg ab.1 (by omega)
    have e1 : (H + (Q + B)) * d = (H + Q) * d + B * d := by grind
    have e2 : d * c = c * d := Int.mul_comm d c
    rw [Int.neg_mul] at m2
    split
    · refine ⟨p1, by show d ≤ _; omega, ?_, ?_⟩
      · show -((H + (Q + B)) * d) ≤ t; omega
      · show t ≤ (H + (Q + B)) * d; omega
    · split
      · refine ⟨p1, by show d ≤ _; omega, ?_, ?_⟩
        · show -((H + (Q + B)) * d) ≤ t + d * c; omega
        · show t + d * c ≤ (H + (Q + B)) * d; omega
      · dsimp only
        have L0 : 0 < loN h S.2.1 m := by omega
        generalize loN h S.2.1 m = L at *
        generalize askF h S.2.1 a1 a2 m = A at *
        have dL : 0 < d * L := Int.mul_pos p1 L0
        refine ⟨dL, ?_, ?_, ?_⟩
        · rw [sl, pw_add l1_.1 (by omega)]
          exact Int.mul_le_mul p2 (pw_self (by omega)) (by omega) (by have := pw_pos (smR (loN h S.2.1) 0 m); omega)
        all_goals
          have n1 := Int.mul_le_mul_of_nonneg_right p3 (c := L) (by omega)
          have n2 := Int.mul_le_mul_of_nonneg_right p4 (c := L) (by omega)
          have n3 := Int.mul_le_mul_of_nonneg_right m1 (c := A) (by omega)
          have n4 := Int.mul_le_mul_of_nonneg_right m2 (c := A) (by omega)
          have n5 := Int.mul_le_mul_of_nonneg_left ak.2 (c := B * d) mB
          have f1 : (H + (Q + B)) * (d * L) = (H + Q) * d * L + B * d * L := by grind
          have f2 : d * c * A = c * d * A := by rw [e2]
          rw [Int.neg_mul] at n1 n4
          omega
/-- the model's guess stays within a long -/
theorem Inv.gm {σ : Mem} {b : Nat} {n i a1 a2 : Int} (hn : n ≤ 512000) (h : Inv σ b n) (hi : 0 ≤ i ∧ i < 3) (ha : 0 ≤ a1 ∧ a1 ≤ a2 ∧ a2 ≤ 39) (hz : σ (b + 11) i ≠ 0) : (-9223372036854775807 ≤ (moG σ b i a1 a2).1 ∧ (moG σ b i a1 a2).1 ≤ 9223372036854775807) ∧ 0 < (moG σ b i a1 a2).2 ∧ (moG σ b i a1 a2).2 ≤ 9223372036854775807 := by
  obtain ⟨-, hs, -⟩ := h.2.1.2.2.2 i hi.1 hi.2
  obtain ⟨hr, ⟨z1, z2, z3, z4⟩, -⟩ := h.1.2 i hi.1 hi.2
  have e5 := hs.1
  obtain ⟨g, g0⟩ := z4 (by omega)
  have l := skI_l1 hr.1 g
  have l6 := g.2.2.2.2.2
  have hp := hv_part (h := σ (11 + 10 * i.toNat + 2 + 4)) (hc := σ (11 + 10 * i.toNat + 2 + 5)) (fun j j0 j1 => (z3 j j0 j1).2.1) ha.1 ha.2.1 ha.2.2
  have hE := h.svE hi hz
  have sz := h.sz i hi.1 hi.2
  have hv : hvS (shR (σ (b + 14)) (40 * i)) (shR (σ (b + 13)) (40 * i)) a1 a2 = hvS (σ (11 + 10 * i.toNat + 2 + 4)) (σ (11 + 10 * i.toNat + 2 + 5)) a1 a2 := (hvS_congr hs.2.1 hs.2.2.1 a1 a2).symm
  have la : l1 (skV σ (11 + 10 * i.toNat + 2)) = smR (fun k => abI ((moE σ b i).2.2.1 k)) 0 (σ (b + 11) i) := by
    rw [(hs.2.2.2 hz).2]
    unfold l1
    exact smR_congr fun k k0 k1 => by
      have : (moV σ b i).2.2.1 k = (moE σ b i).2.2.1 k := mkR_in k0 k1
      rw [this]
  have r := mg_run (h := shR (σ (b + 14)) (40 * i)) (S := moE σ b i) (a1 := a1) (a2 := a2) (H := hvS (shR (σ (b + 14)) (40 * i)) (shR (σ (b + 13)) (40 * i)) a1 a2) hE (by omega) (σ (b + 11) i).toNat (by show _ ≤ σ (b + 11) i; omega)
  have em : itrR (mgF (shR (σ (b + 14)) (40 * i)) (moE σ b i).2.1 (moE σ b i).2.2.1 a1 a2) 0 (σ (b + 11) i) (hvS (shR (σ (b + 14)) (40 * i)) (shR (σ (b + 13)) (40 * i)) a1 a2, 1) = moG σ b i a1 a2 := rfl
  rw [show (((σ (b + 11) i).toNat : Nat) : Int) = σ (b + 11) i by omega, em] at r
  obtain ⟨r1, r2, r3, r4⟩ := r
  have ls := lo_sum (h := shR (σ (b + 14)) (40 * i)) hE (σ (b + 11) i) (by omega) (Int.le_refl _)
  have d40 := Int.le_trans r2 (pw_mono ls.1 ls.2)
  rw [pw_40] at d40
  have q0 : 0 ≤ smR (fun k => abI ((moE σ b i).2.2.1 k)) 0 (σ (b + 11) i) := smR_nn fun v _ _ => by unfold abI; omega
  have big : (hvS (shR (σ (b + 14)) (40 * i)) (shR (σ (b + 13)) (40 * i)) a1 a2 + smR (fun k => abI ((moE σ b i).2.2.1 k)) 0 (σ (b + 11) i)) * (moG σ b i a1 a2).2 ≤ 612000 * 1099511627776 := Int.mul_le_mul (by omega) d40 (by omega) (by decide)
  omega
theorem moG_up {σ u : Mem} {b : Nat} {i a1 a2 : Int} (h : ∀ a : Nat, b ≤ a → u a = σ a) : moG u b i a1 a2 = moG σ b i a1 a2 := by
  unfold moG
  rw [h (b + 11) (by omega), h (b + 13) (by omega), h (b + 14) (by omega), h (b + 15) (by omega), h (b + 16) (by omega)]
