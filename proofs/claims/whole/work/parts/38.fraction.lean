/-! ===== fractions ===== -/
def gcI (a b : Int) : Int := ((Nat.gcd a.natAbs b.natAbs : Nat) : Int)
theorem gcI_nn (a b : Int) : 0 ≤ gcI a b := by unfold gcI; omega
theorem gcI_pos {a b : Int} (h : 0 < b) : 1 ≤ gcI a b := by
  unfold gcI
  have : 0 < Nat.gcd a.natAbs b.natAbs := Nat.gcd_pos_of_pos_right _ (by omega)
  omega
theorem gcI_le {a b : Int} (h : 0 < b) : gcI a b ≤ b := by
  unfold gcI
  have : Nat.gcd a.natAbs b.natAbs ≤ b.natAbs := Nat.gcd_le_right _ (by omega)
  omega
theorem gcI_dl (a b : Int) : gcI a b ∣ a := by
  unfold gcI
  have := Nat.gcd_dvd_left a.natAbs b.natAbs
  exact Int.natAbs_dvd_natAbs.mp (by rw [Int.natAbs_natCast]; exact this)
theorem gcI_dr (a b : Int) : gcI a b ∣ b := by
  unfold gcI
  have := Nat.gcd_dvd_right a.natAbs b.natAbs
  exact Int.natAbs_dvd_natAbs.mp (by rw [Int.natAbs_natCast]; exact this)
theorem eu_mod {g s : Int} (hg : 0 ≤ g) (hs : 0 < s) : g.tmod s = g % s := Int.tmod_eq_emod_of_nonneg hg
theorem eu_gcd {g s : Int} (hg : 0 ≤ g) (hs : 0 < s) : gcI s (g.tmod s) = gcI g s := by
  rw [eu_mod hg hs]
  unfold gcI
  have e : (g % s).natAbs = g.natAbs % s.natAbs := by
    obtain ⟨a, rfl⟩ : ∃ a : Nat, g = a := ⟨g.toNat, by omega⟩
    obtain ⟨b, rfl⟩ : ∃ b : Nat, s = b := ⟨s.toNat, by omega⟩
    have : (a : Int) % (b : Int) = ((a % b : Nat) : Int) := by simp
    rw [this, Int.natAbs_natCast, Int.natAbs_natCast, Int.natAbs_natCast]
  rw [e, Nat.gcd_comm, ← Nat.gcd_rec, Nat.gcd_comm]
theorem eu_prod {g s : Int} {m : Nat} (hg : 0 ≤ g) (hg2 : g ≤ 9223372036854775807) (hs : 0 < s) (hs2 : s ≤ 9223372036854775807) (h : g * s * 2 ^ m ≤ 2 ^ 127) (h1 : 1 ≤ m → s ≤ g) : s * (g.tmod s) * 2 ^ (m + 1) ≤ 2 ^ 127 ∧ 0 ≤ g.tmod s ∧ g.tmod s < s := by
  rw [eu_mod hg hs]
  have r0 := Int.emod_nonneg g (show s ≠ 0 by omega)
  have r1 := Int.emod_lt_of_pos g hs
  refine ⟨?_, r0, r1⟩
  have p0 : (0 : Int) < 2 ^ m := Int.pow_pos (by decide)
  by_cases q : s ≤ g
  · have e1 : 2 * (g % s) ≤ g := by
      have e := Int.mul_ediv_add_emod g s
      have q1 : 1 ≤ g / s := by rw [Int.le_ediv_iff_mul_le hs]; omega
      have : s * 1 ≤ s * (g / s) := Int.mul_le_mul_of_nonneg_left q1 (by omega)
      omega
    have e2 : s * (g % s) * 2 ≤ g * s := by
      have := Int.mul_le_mul_of_nonneg_left e1 (show 0 ≤ s by omega)
      rw [show s * (g % s) * 2 = s * (2 * (g % s)) by rw [Int.mul_assoc, Int.mul_comm (g % s) 2], Int.mul_comm g s]
      exact this
    have e3 := Int.mul_le_mul_of_nonneg_right e2 (show (0 : Int) ≤ 2 ^ m by omega)
    rw [Int.pow_succ, Int.mul_comm (2 ^ m) 2, ← Int.mul_assoc]
    omega
  · have m0 : m = 0 := by
      rcases Nat.eq_zero_or_pos m with z | z
      · exact z
      · exact absurd (h1 z) q
    subst m0
    have e1 : s * (g % s) ≤ 9223372036854775807 * 9223372036854775807 := by
      have a1 := Int.mul_le_mul_of_nonneg_right hs2 r0
      have a2 : 9223372036854775807 * (g % s) ≤ 9223372036854775807 * 9223372036854775807 := Int.mul_le_mul_of_nonneg_left (by omega) (by decide)
      omega
    have e4 : s * (g % s) * 2 ^ (0 + 1) = s * (g % s) * 2 := rfl
    rw [e4]
    have e5 : (2 : Int) ^ 127 = 170141183460469231731687303715884105728 := by decide
    rw [e5]
    omega
theorem eu_end {g s : Int} {m : Nat} (hg : 0 ≤ g) (hs : 0 ≤ s) (h : g * s * 2 ^ m ≤ 2 ^ 127) (h1 : 1 ≤ m → s ≤ g) (hm : 200 ≤ m) : s = 0 := by
  rcases Int.lt_or_le 0 s with q | q
  · exfalso
    have g1 : 1 ≤ g := by have := h1 (by omega); omega
    have p1 : 1 * 1 ≤ g * s := Int.mul_le_mul g1 (by omega) (by decide) (by omega)
    have p0 : (0 : Int) < 2 ^ m := Int.pow_pos (by decide)
    have p2 := Int.mul_le_mul_of_nonneg_right p1 (show (0 : Int) ≤ 2 ^ m by omega)
    have p3 : (2 : Int) ^ 200 ≤ 2 ^ m := by
      rw [show m = 200 + (m - 200) by omega, Int.pow_add]
      have : (0 : Int) < 2 ^ (m - 200) := Int.pow_pos (by decide)
      have := Int.mul_le_mul_of_nonneg_left (show (1 : Int) ≤ 2 ^ (m - 200) by omega) (show (0 : Int) ≤ 2 ^ 200 by decide)
      omega
    have e5 : (2 : Int) ^ 127 < 2 ^ 200 := by decide
    omega
  · omega
theorem gcI_zero (g : Int) (hg : 0 ≤ g) : gcI g 0 = g := by unfold gcI; rw [show (0 : Int).natAbs = 0 from rfl, Nat.gcd_zero_right]; omega
theorem gcI_abs (a b : Int) : gcI (if 0 < a then a else -a) (if 0 < b then b else -b) = gcI a b := by
  unfold gcI
  congr 2 <;> (split <;> omega)
/-- a fraction without a common divisor: top, bottom -/
def frN (a b : Int) : Int := a / gcI a b
def frD (a b : Int) : Int := b / gcI a b
theorem tdiv_dvd {a g : Int} (hg : 0 < g) (h : g ∣ a) : a.tdiv g = a / g := Int.tdiv_eq_ediv_of_dvd h
theorem frD_pos {a b : Int} (h : 0 < b) : 0 < frD a b := by
  unfold frD
  have := gcI_le (a := a) h
  have g1 := gcI_pos (a := a) h
  have : 1 ≤ b / gcI a b := by rw [Int.le_ediv_iff_mul_le (by omega)]; omega
  omega
theorem frD_le {a b : Int} (h : 0 < b) : frD a b ≤ b := by
  unfold frD
  have g1 := gcI_pos (a := a) h
  have := (ediv_rg (a := b) (b := gcI a b) (by omega) (M := b) (by omega) (by omega) (by omega)).2
  exact this
theorem frN_bd {a b M : Int} (h : 0 < b) (h1 : -M ≤ a) (h2 : a ≤ M) (hM : 0 ≤ M) : -M ≤ frN a b ∧ frN a b ≤ M := by
  unfold frN
  have g1 := gcI_pos (a := a) h
  exact ediv_rg (by omega) h1 h2 hM
/-- what an addition makes of top t, bottom d and x by y, ahead of its last cut -/
def aiN (t d x y : Int) : Int := t * (frD x y / gcI d (frD x y)) + frN x y * (d / gcI d (frD x y))
def aiD (d x y : Int) : Int := d * (frD x y / gcI d (frD x y))
theorem aiD_pos {d x y : Int} (hd : 0 < d) (hy : 0 < y) : 0 < aiD d x y := by
  unfold aiD
  have h1 := frD_pos (a := x) hy
  have h2 := gcI_le (a := d) h1
  have h3 := gcI_pos (a := d) h1
  have : 1 ≤ frD x y / gcI d (frD x y) := by rw [Int.le_ediv_iff_mul_le (by omega)]; omega
  exact Int.mul_pos hd (by omega)
set_option maxHeartbeats 4000000 in
set_option maxRecDepth 100000 in
theorem c_X1_commonDivisor (l : Launch) (v : VC) (σ : Mem) (a1 b1 : Int) (ha : -9223372036854775807 ≤ a1 ∧ a1 ≤ 9223372036854775807) (hb : -9223372036854775807 ≤ b1 ∧ b1 ≤ 9223372036854775807) : CtL l yX1_commonDivisor wsX1_commonDivisor 1 23 v [vJ a1, vJ b1] σ (fun z u => z = max 1 (gcI a1 b1) ∧ u = σ) := by
  refine mkL (cc := cX1_commonDivisor) (n := 11) (by decide +kernel) rfl (Nat.le_of_ble_eq_true rfl) (fun x A Q hx C hret => ?_)
  subst hx
  show At x v A Q _ 0 [(0, vJ a1), (2, vJ b1)] [] σ
  have lp : ∀ (n : Nat) (st1 sm gr : Int) , (200 - st1).toNat = n → 0 ≤ st1 ∧ st1 ≤ 200 → 0 ≤ gr → gr ≤ 9223372036854775807 → 0 ≤ sm → sm ≤ 9223372036854775807 → gcI gr sm = gcI a1 b1 → gr * sm * 2 ^ st1.toNat ≤ 2 ^ 127 → (1 ≤ st1 → sm ≤ gr) → At x v A Q 11 15 [(8, vI st1), (6, vJ sm), (4, vJ gr), (0, vJ a1), (2, vJ b1)] [] σ := by
    intro n
    induction n using Nat.strongRecOn with
    | _ n ih =>
      intro st1 sm gr hn i1 ig ig2 is is2 ic ip i3
      refine a_iload C dX1_commonDivisor_15 0 rfl ?_
      refine a_sipush C dX1_commonDivisor_17 ?_
      refine a_icmp_ge C 51 (by omega) (by decide) dX1_commonDivisor_20 (by decide) (fun c20 => ?_) (fun c20 => ?_)
      · skip
        refine a_lconst C 1 dX1_commonDivisor_51 rfl ?_
        refine a_lload C dX1_commonDivisor_52 2 rfl ?_
        refine a_mmaxL C (by decide) (by omega) (by decide +kernel) ⟨by decide, Nat.le_of_ble_eq_true rfl⟩ dX1_commonDivisor_54 ?_
        obtain ⟨z54, e54⟩ : ∃ w : Int, w = max 1 gr := ⟨_, rfl⟩
        rw [← e54]
        have hsm : sm = 0 := by first | omega | exact eu_end (m := st1.toNat) ig is ip (fun q => i3 (by omega)) (by omega)
        subst hsm
        exact hret _ _ _ _ dX1_commonDivisor_57 (by omega) ⟨by rw [e54, ← ic, gcI_zero _ ig], rfl⟩
      · skip
        refine a_lload C dX1_commonDivisor_23 1 rfl ?_
        refine a_lconst C 0 dX1_commonDivisor_25 rfl ?_
        refine a_lcmp C (by omega) (by decide) dX1_commonDivisor_26 (fun z26 e26 r26 => ?_)
        refine a_if_eq C 51 r26 dX1_commonDivisor_27 (by decide) (fun c27 => ?_) (fun c27 => ?_)
        · skip
          refine a_lconst C 1 dX1_commonDivisor_51 rfl ?_
          refine a_lload C dX1_commonDivisor_52 2 rfl ?_
          refine a_mmaxL C (by decide) (by omega) (by decide +kernel) ⟨by decide, Nat.le_of_ble_eq_true rfl⟩ dX1_commonDivisor_54 ?_
          obtain ⟨z54, e54⟩ : ∃ w : Int, w = max 1 gr := ⟨_, rfl⟩
          rw [← e54]
          have hsm : sm = 0 := by first | omega | exact eu_end (m := st1.toNat) ig is ip (fun q => i3 (by omega)) (by omega)
          subst hsm
          exact hret _ _ _ _ dX1_commonDivisor_57 (by omega) ⟨by rw [e54, ← ic, gcI_zero _ ig], rfl⟩
        · skip
          refine a_lload C dX1_commonDivisor_30 2 rfl ?_
          refine a_lload C dX1_commonDivisor_32 1 rfl ?_
          refine a_lrem C (by omega) (by omega) (by omega) dX1_commonDivisor_34 ?_
          refine a_lstore C [(9, vJ (gr.tmod sm)), (8, vI st1), (6, vJ sm), (4, vJ gr), (0, vJ a1), (2, vJ b1)] dX1_commonDivisor_35 (by decide) rfl ?_
          refine a_lload C dX1_commonDivisor_37 2 rfl ?_
          refine a_lstore C [(4, vJ sm), (9, vJ (gr.tmod sm)), (8, vI st1), (6, vJ sm), (0, vJ a1), (2, vJ b1)] dX1_commonDivisor_39 (by decide) rfl ?_
          refine a_lload C dX1_commonDivisor_41 1 rfl ?_
          refine a_lstore C [(6, vJ (gr.tmod sm)), (4, vJ sm), (9, vJ (gr.tmod sm)), (8, vI st1), (0, vJ a1), (2, vJ b1)] dX1_commonDivisor_43 (by decide) rfl ?_
          refine a_iinc C (st1 + 1) [(8, vI (st1 + 1)), (6, vJ (gr.tmod sm)), (4, vJ sm), (9, vJ (gr.tmod sm)), (0, vJ a1), (2, vJ b1)] dX1_commonDivisor_45 3 rfl (by omega) (by decide) rfl ?_
          refine a_goto C 15 dX1_commonDivisor_48 (by decide) ?_
          refine a_sub [0, 1, 2, 4, 5] [(8, vI (st1 + 1)), (6, vJ (gr.tmod sm)), (4, vJ sm), (0, vJ a1), (2, vJ b1)] rfl ?_
          have hp := eu_prod (m := st1.toNat) ig ig2 (by omega) is2 ip (fun q => i3 (by omega))
          refine ih _ (by omega) _ _ _ rfl (by omega) (by omega) (by omega) (by omega) (by omega) ?_ ?_ ?_
          · rw [eu_gcd ig (by omega)]; exact ic
          · rw [show (st1 + 1).toNat = st1.toNat + 1 by omega]; exact hp.1
          · omega
  refine a_lload_n C dX1_commonDivisor_0 0 rfl rfl ?_
  refine a_mabsL C (by omega) (by decide +kernel) ⟨by decide, Nat.le_of_ble_eq_true rfl⟩ dX1_commonDivisor_1 ?_
  obtain ⟨z1, e1⟩ : ∃ w : Int, w = if 0 < a1 then a1 else -a1 := ⟨_, rfl⟩
  rw [← e1]
  refine a_lstore C [(4, vJ z1), (0, vJ a1), (2, vJ b1)] dX1_commonDivisor_4 (by decide) rfl ?_
  refine a_lload_n C dX1_commonDivisor_6 2 rfl rfl ?_
  refine a_mabsL C (by omega) (by decide +kernel) ⟨by decide, Nat.le_of_ble_eq_true rfl⟩ dX1_commonDivisor_7 ?_
  obtain ⟨z7, e7⟩ : ∃ w : Int, w = if 0 < b1 then b1 else -b1 := ⟨_, rfl⟩
  rw [← e7]
  refine a_lstore C [(6, vJ z7), (4, vJ z1), (0, vJ a1), (2, vJ b1)] dX1_commonDivisor_10 (by decide) rfl ?_
  refine a_iconst C dX1_commonDivisor_12 ?_
  refine a_istore C [(8, vI 0), (6, vJ z7), (4, vJ z1), (0, vJ a1), (2, vJ b1)] dX1_commonDivisor_13 (by decide) rfl ?_
  have hz1 : 0 ≤ z1 ∧ z1 ≤ 9223372036854775807 := by rw [e1]; split <;> omega
  have hz7 : 0 ≤ z7 ∧ z7 ≤ 9223372036854775807 := by rw [e7]; split <;> omega
  have hp : z1 * z7 ≤ 9223372036854775807 * 9223372036854775807 := Int.mul_le_mul hz1.2 hz7.2 hz7.1 (by decide)
  exact lp _ 0 _ _ rfl (by omega) (by omega) (by omega) (by omega) (by omega) (by rw [e1, e7]; exact gcI_abs a1 b1) (by rw [show (2 : Int) ^ (0 : Int).toNat = 1 from rfl, show (2 : Int) ^ 127 = 170141183460469231731687303715884105728 by decide]; omega) (by omega)
set_option maxHeartbeats 4000000 in
set_option maxRecDepth 100000 in
theorem c_X1_set (l : Launch) (v : VC) (σ : Mem) (b : Nat) (hS : shFr v b) (nt nb : Int) (ht : -9223372036854775807 ≤ nt ∧ nt ≤ 9223372036854775807) (hb : 0 < nb ∧ nb ≤ 9223372036854775807) : CtV l yX1_set wsX1_set 2 53 v [.ref (vq v b), vJ nt, vJ nb] σ (fun u => u = sput (sput σ b 100000 (frN nt nb)) b 100001 (frD nt nb)) := by
  refine mkV (cc := cX1_set) (n := 7) (by decide +kernel) rfl (Nat.le_of_ble_eq_true rfl) (fun x A Q hx C hret => ?_)
  subst hx
  show At x v A Q _ 0 [(0, .ref (vq v b)), (1, vJ nt), (3, vJ nb)] [] σ
  have iX1 : ∀ w ∈ wsX10, w ∈ wsX1_set := by decide +kernel
  have k7 : Cond.fieldLink RX1 7 (TX1 0).1 (TX1 0).2.1 (TX1 0).2.2.1 ∈ wsX1_set := by decide +kernel
  have k13 : Cond.fieldLink RX1 13 (TX1 1).1 (TX1 1).2.1 (TX1 1).2.2.1 ∈ wsX1_set := by decide +kernel
  refine a_lload_n C dX1_set_0 1 rfl rfl ?_
  refine a_lload_n C dX1_set_1 2 rfl rfl ?_
  refine a_cSL C (k0 := 2) (As := [vJ nt, vJ nb]) (rest := []) (c_X1_commonDivisor x.2.1 v σ nt nb ht (by omega)) gX1_set_X1_commonDivisor rfl (by decide +kernel) (by decide) rfl rfl (Nat.le_of_ble_eq_true rfl) dX1_set_2 (fun z2 u2 r2 p2 => ?_)
  obtain ⟨e2, p2⟩ := p2
  subst u2
  have g1 := gcI_pos (a := nt) hb.1
  have e3 : z2 = gcI nt nb := by omega
  have g2 := gcI_le (a := nt) hb.1
  have g3 := frN_bd (a := nt) (M := 9223372036854775807) hb.1 (by omega) (by omega) (by decide)
  have g4 := frD_pos (a := nt) hb.1
  have g5 := frD_le (a := nt) hb.1
  have g6 : nt.tdiv z2 = frN nt nb := by rw [e3]; exact tdiv_dvd (by omega) (gcI_dl nt nb)
  have g7 : nb.tdiv z2 = frD nt nb := by rw [e3]; exact tdiv_dvd (by omega) (gcI_dr nt nb)
  refine a_lstore C [(5, vJ z2), (0, .ref (vq v b)), (1, vJ nt), (3, vJ nb)] dX1_set_5 (by decide) rfl ?_
  refine a_aload_n C dX1_set_7 1 rfl rfl ?_
  refine a_lload_n C dX1_set_8 2 rfl rfl ?_
  refine a_lload C dX1_set_9 0 rfl ?_
  refine a_ldiv C (by omega) r2 (by omega) dX1_set_11 ?_
  refine a_putl C hS.f0 hS.n0 (Cn := RX1) (T := TX1) (N := 2) rfl iX1 tyX1_ok nmX1 0 (by decide) k7 rfl rfl 100000 (by decide) (by rw [g6]; omega) (fun _ => Nat.le_of_ble_eq_true rfl) (fun _ => rfl) dX1_set_12 ?_
  refine a_aload_n C dX1_set_15 1 rfl rfl ?_
  refine a_lload_n C dX1_set_16 3 rfl rfl ?_
  refine a_lload C dX1_set_17 0 rfl ?_
  refine a_ldiv C (by omega) r2 (by omega) dX1_set_19 ?_
  refine a_putl C hS.f0 hS.n0 (Cn := RX1) (T := TX1) (N := 2) rfl iX1 tyX1_ok nmX1 1 (by decide) k13 rfl rfl 100001 (by decide) (by rw [g7]; omega) (fun _ => Nat.le_of_ble_eq_true rfl) (fun _ => rfl) dX1_set_20 ?_
  exact hret _ _ _ dX1_set_23 (by rw [g6, g7])
set_option maxHeartbeats 4000000 in
set_option maxRecDepth 100000 in
theorem c_X1_add (l : Launch) (v : VC) (σ : Mem) (b : Nat) (hS : shFr v b) (ot ob : Int) (ht : -9223372036854775807 ≤ ot ∧ ot ≤ 9223372036854775807) (hb : 0 < ob ∧ ob ≤ 9223372036854775807) (hd : 0 < σ b 100001) (hN : -9223372036854775807 ≤ aiN (σ b 100000) (σ b 100001) ot ob ∧ aiN (σ b 100000) (σ b 100001) ot ob ≤ 9223372036854775807) (hD : aiD (σ b 100001) ot ob ≤ 9223372036854775807) : CtV l yX1_add wsX1_add 3 79 v [.ref (vq v b), vJ ot, vJ ob] σ (fun u => u = sput (sput σ b 100000 (frN (aiN (σ b 100000) (σ b 100001) ot ob) (aiD (σ b 100001) ot ob))) b 100001 (frD (aiN (σ b 100000) (σ b 100001) ot ob) (aiD (σ b 100001) ot ob))) := by
  refine mkV (cc := cX1_add) (n := 15) (by decide +kernel) rfl (Nat.le_of_ble_eq_true rfl) (fun x A Q hx C hret => ?_)
  subst hx
  show At x v A Q _ 0 [(0, .ref (vq v b)), (1, vJ ot), (3, vJ ob)] [] σ
  have iX1 : ∀ w ∈ wsX10, w ∈ wsX1_add := by decide +kernel
  have k13 : Cond.fieldLink RX1 13 (TX1 1).1 (TX1 1).2.1 (TX1 1).2.2.1 ∈ wsX1_add := by decide +kernel
  have k7 : Cond.fieldLink RX1 7 (TX1 0).1 (TX1 0).2.1 (TX1 0).2.2.1 ∈ wsX1_add := by decide +kernel
  refine a_lload_n C dX1_add_0 1 rfl rfl ?_
  refine a_lload_n C dX1_add_1 2 rfl rfl ?_
  refine a_cSL C (k0 := 2) (As := [vJ ot, vJ ob]) (rest := []) (c_X1_commonDivisor x.2.1 v σ ot ob ht (by omega)) gX1_add_X1_commonDivisor rfl (by decide +kernel) (by decide) rfl rfl (Nat.le_of_ble_eq_true rfl) dX1_add_2 (fun z2 u2 r2 p2 => ?_)
  obtain ⟨e2, p2⟩ := p2
  subst u2
  have g1 := gcI_pos (a := ot) hb.1
  have e3 : z2 = gcI ot ob := by omega
  have g2 := gcI_le (a := ot) hb.1
  have g3 := frN_bd (a := ot) (M := 9223372036854775807) hb.1 (by omega) (by omega) (by decide)
  have g4 := frD_pos (a := ot) hb.1
  have g5 := frD_le (a := ot) hb.1
  have g6 : ot.tdiv z2 = frN ot ob := by rw [e3]; exact tdiv_dvd (by omega) (gcI_dl ot ob)
  have g7 : ob.tdiv z2 = frD ot ob := by rw [e3]; exact tdiv_dvd (by omega) (gcI_dr ot ob)
  skip
  refine a_lstore C [(5, vJ z2), (0, .ref (vq v b)), (1, vJ ot), (3, vJ ob)] dX1_add_5 (by decide) rfl ?_
  refine a_lload_n C dX1_add_7 2 rfl rfl ?_
  refine a_lload C dX1_add_8 0 rfl ?_
  refine a_ldiv C (by omega) r2 (by omega) dX1_add_10 ?_
  refine a_lstore C [(7, vJ (ot.tdiv z2)), (5, vJ z2), (0, .ref (vq v b)), (1, vJ ot), (3, vJ ob)] dX1_add_11 (by decide) rfl ?_
  refine a_lload_n C dX1_add_13 4 rfl rfl ?_
  refine a_lload C dX1_add_14 1 rfl ?_
  refine a_ldiv C (by omega) r2 (by omega) dX1_add_16 ?_
  refine a_lstore C [(9, vJ (ob.tdiv z2)), (7, vJ (ot.tdiv z2)), (5, vJ z2), (0, .ref (vq v b)), (1, vJ ot), (3, vJ ob)] dX1_add_17 (by decide) rfl ?_
  refine a_aload_n C dX1_add_19 3 rfl rfl ?_
  refine a_getl C hS.f0 hS.n0 (Cn := RX1) (T := TX1) (N := 2) rfl iX1 1 (by decide) k13 100001 rfl dX1_add_20 (fun z20 e20 r20 => ?_)
  refine a_lload C dX1_add_23 0 rfl ?_
  refine a_cSL C (k0 := 2) (As := [vJ z20, vJ (ob.tdiv z2)]) (rest := []) (c_X1_commonDivisor x.2.1 v σ z20 (ob.tdiv z2) (by omega) (by omega)) gX1_add_X1_commonDivisor rfl (by decide +kernel) (by decide) rfl rfl (Nat.le_of_ble_eq_true rfl) dX1_add_25 (fun z25 u25 r25 p25 => ?_)
  obtain ⟨e25, p25⟩ := p25
  subst u25
  rw [g7] at e25
  have h1 := gcI_pos (a := z20) g4
  have h2 := gcI_le (a := z20) g4
  have e26 : z25 = gcI z20 (frD ot ob) := by omega
  have h3 : (frD ot ob).tdiv z25 = frD ot ob / gcI z20 (frD ot ob) := by rw [e26]; exact tdiv_dvd (by omega) (gcI_dr _ _)
  have h4 := ediv_rg (a := frD ot ob) (b := gcI z20 (frD ot ob)) (by omega) (M := frD ot ob) (by omega) (by omega) (by omega)
  refine a_lstore C [(11, vJ z25), (9, vJ (ob.tdiv z2)), (7, vJ (ot.tdiv z2)), (5, vJ z2), (0, .ref (vq v b)), (1, vJ ot), (3, vJ ob)] dX1_add_28 (by decide) rfl ?_
  refine a_lload C dX1_add_30 1 rfl ?_
  refine a_lload C dX1_add_32 0 rfl ?_
  refine a_ldiv C (by omega) r25 (by omega) dX1_add_34 ?_
  refine a_lstore C [(13, vJ ((ob.tdiv z2).tdiv z25)), (11, vJ z25), (9, vJ (ob.tdiv z2)), (7, vJ (ot.tdiv z2)), (5, vJ z2), (0, .ref (vq v b)), (1, vJ ot), (3, vJ ob)] dX1_add_35 (by decide) rfl ?_
  refine a_aload_n C dX1_add_37 5 rfl rfl ?_
  refine a_aload_n C dX1_add_38 5 rfl rfl ?_
  refine a_getl C hS.f0 hS.n0 (Cn := RX1) (T := TX1) (N := 2) rfl iX1 0 (by decide) k7 100000 rfl dX1_add_39 (fun z39 e39 r39 => ?_)
  refine a_lload C dX1_add_42 0 rfl ?_
  refine a_lmul C dX1_add_44 ?_
  refine a_lload C dX1_add_45 3 rfl ?_
  refine a_aload_n C dX1_add_47 5 rfl rfl ?_
  refine a_getl C hS.f0 hS.n0 (Cn := RX1) (T := TX1) (N := 2) rfl iX1 1 (by decide) k13 100001 rfl dX1_add_48 (fun z48 e48 r48 => ?_)
  refine a_lload C dX1_add_51 1 rfl ?_
  refine a_ldiv C r48 r25 (by omega) dX1_add_53 ?_
  have e54 : z48 = z20 := by omega
  have h5 : z48.tdiv z25 = σ b 100001 / gcI (σ b 100001) (frD ot ob) := by rw [e26, e54, e20]; exact tdiv_dvd (by rw [e20] at h1; omega) (gcI_dl _ _)
  skip
  refine a_lmul C dX1_add_54 ?_
  refine a_ladd C dX1_add_55 ?_
  refine a_aload_n C dX1_add_56 5 rfl rfl ?_
  refine a_getl C hS.f0 hS.n0 (Cn := RX1) (T := TX1) (N := 2) rfl iX1 1 (by decide) k13 100001 rfl dX1_add_57 (fun z57 e57 r57 => ?_)
  refine a_lload C dX1_add_60 0 rfl ?_
  refine a_lmul C dX1_add_62 ?_
  have hNN : z39 * ((ob.tdiv z2).tdiv z25) + ot.tdiv z2 * (z48.tdiv z25) = aiN (σ b 100000) (σ b 100001) ot ob := by rw [g6, g7, h3, h5, e39, e20]; rfl
  have hDD : z57 * ((ob.tdiv z2).tdiv z25) = aiD (σ b 100001) ot ob := by rw [g7, h3, e57, e20]; rfl
  refine a_cVV C (k0 := 2) (As := [vJ ((z39 * ((ob.tdiv z2).tdiv z25)) + ((ot.tdiv z2) * (z48.tdiv z25))), vJ (z57 * ((ob.tdiv z2).tdiv z25))]) (rest := []) (c_X1_set x.2.1 v σ b hS ((z39 * ((ob.tdiv z2).tdiv z25)) + ((ot.tdiv z2) * (z48.tdiv z25))) (z57 * ((ob.tdiv z2).tdiv z25)) (by rw [hNN]; exact hN) (by rw [hDD]; exact ⟨aiD_pos hd hb.1, hD⟩)) gX1_add_X1_set rfl (by decide +kernel) (by decide) hS.f0 rfl hS.n0 rfl rfl (Nat.le_of_ble_eq_true rfl) dX1_add_63 (fun u63 p63 => ?_)
  subst u63
  exact hret _ _ _ dX1_add_66 (by rw [hNN, hDD])
set_option maxHeartbeats 4000000 in
set_option maxRecDepth 100000 in
theorem c_X1_sign (l : Launch) (v : VC) (σ : Mem) (b : Nat) (hS : shFr v b)  : CtI l yX1_sign wsX1_sign 0 0 v [.ref (vq v b)] σ (fun z u => z = (if 0 < σ b 100000 then 1 else if σ b 100000 < 0 then -1 else 0) ∧ u = σ) := by
  refine mkI (cc := cX1_sign) (n := 1) (by decide +kernel) rfl (Nat.le_of_ble_eq_true rfl) (fun x A Q hx C hret => ?_)
  subst hx
  show At x v A Q _ 0 [(0, .ref (vq v b))] [] σ
  have iX1 : ∀ w ∈ wsX10, w ∈ wsX1_sign := by decide +kernel
  have k7 : Cond.fieldLink RX1 7 (TX1 0).1 (TX1 0).2.1 (TX1 0).2.2.1 ∈ wsX1_sign := by decide +kernel
  refine a_aload_n C dX1_sign_0 0 rfl rfl ?_
  refine a_getl C hS.f0 hS.n0 (Cn := RX1) (T := TX1) (N := 2) rfl iX1 0 (by decide) k7 100000 rfl dX1_sign_1 (fun z1 e1 r1 => ?_)
  refine a_lconst C 0 dX1_sign_4 rfl ?_
  refine a_lcmp C r1 (by decide) dX1_sign_5 (fun z5 e5 r5 => ?_)
  refine a_if_le C 13 r5 dX1_sign_6 (by decide) (fun c6 => ?_) (fun c6 => ?_)
  · skip
    refine a_aload_n C dX1_sign_13 0 rfl rfl ?_
    refine a_getl C hS.f0 hS.n0 (Cn := RX1) (T := TX1) (N := 2) rfl iX1 0 (by decide) k7 100000 rfl dX1_sign_14 (fun z14 e14 r14 => ?_)
    refine a_lconst C 0 dX1_sign_17 rfl ?_
    refine a_lcmp C r14 (by decide) dX1_sign_18 (fun z18 e18 r18 => ?_)
    refine a_if_ge C 26 r18 dX1_sign_19 (by decide) (fun c19 => ?_) (fun c19 => ?_)
    · skip
      refine a_iconst C dX1_sign_26 ?_
      exact hret _ _ _ _ dX1_sign_27 (by decide) ⟨by (first | rw [if_pos (by omega)] | (rw [if_neg (by omega)]; (first | rw [if_pos (by omega)] | rw [if_neg (by omega)]))), rfl⟩
    · skip
      refine a_iconst C dX1_sign_22 ?_
      refine a_goto C 27 dX1_sign_23 (by decide) ?_
      exact hret _ _ _ _ dX1_sign_27 (by decide) ⟨by (first | rw [if_pos (by omega)] | (rw [if_neg (by omega)]; (first | rw [if_pos (by omega)] | rw [if_neg (by omega)]))), rfl⟩
  · skip
    refine a_iconst C dX1_sign_9 ?_
    refine a_goto C 27 dX1_sign_10 (by decide) ?_
    exact hret _ _ _ _ dX1_sign_27 (by decide) ⟨by (first | rw [if_pos (by omega)] | (rw [if_neg (by omega)]; (first | rw [if_pos (by omega)] | rw [if_neg (by omega)]))), rfl⟩
