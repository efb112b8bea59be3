set_option maxHeartbeats 4000000 in
set_option maxRecDepth 100000 in
theorem c_X6_away (l : Launch) (v : VC) (σ : Mem) (hS : shSS v) (i1 : Int) (h1 : rg i1) : CtI l yX6_away wsX6_away 2 46 v [.ref (vq v 0), vI i1] σ (fun z u => (if ¬ (0 ≤ i1 ∧ i1 < 3) then (z = 0 ∧ u = sput σ 0 5 1) else (if ¬ 0 < σ (11 + 10 * i1.toNat + 2) 5 then (z = 0 ∧ u = sput σ 0 5 5) else (z = 1 ∧ u = sput (sput σ (11 + 10 * i1.toNat + 2) 5 0) 0 5 0)))) := by
  refine mkZ (cc := cX6_away) (n := 3) (by decide +kernel) rfl (Nat.le_of_ble_eq_true rfl) (fun x A Q hx C hret => ?_)
  subst hx
  show At x v A Q _ 0 [(0, .ref (vq v 0)), (1, vI i1)] [] σ
  have iX0 : ∀ w ∈ wsX00, w ∈ wsX6_away := by decide +kernel
  have iX4 : ∀ w ∈ wsX40, w ∈ wsX6_away := by decide +kernel
  have k151 : Cond.fieldLink RX6 151 (TX0 1).1 (TX0 1).2.1 (TX0 1).2.2.1 ∈ wsX6_away := by decide +kernel
  have k183 : Cond.fieldLink RX6 183 (TX4 5).1 (TX4 5).2.1 (TX4 5).2.2.1 ∈ wsX6_away := by decide +kernel
  refine a_aload_n C dX6_away_0 0 rfl rfl ?_
  refine a_iload_n C dX6_away_1 1 rfl rfl ?_
  refine a_cVQ C (k0 := 1) (As := [vI i1]) (rest := []) (c_X6_columnAt x.2.1 v σ hS i1 (by omega)) gX6_away_X6_columnAt rfl (by decide +kernel) (by decide) hS.f0 rfl hS.n0 rfl rfl (Nat.le_of_ble_eq_true rfl) dX6_away_2 (fun z2 u2 p2 => ?_)
  obtain ⟨e2, p2⟩ := p2
  subst u2
  rcases e2 with ⟨q2, h2⟩ | ⟨q2, h2⟩ <;> subst h2
  · skip
    show At x v A Q _ 5 [(0, .ref (vq v 0)), (1, vI i1)] [.ref (vq v (11 + 10 * i1.toNat))] σ
    refine a_astore_n C 2 [(2, .ref (vq v (11 + 10 * i1.toNat))), (0, .ref (vq v 0)), (1, vI i1)] dX6_away_5 rfl (by decide) rfl ?_
    refine a_aload_n C dX6_away_6 0 rfl rfl ?_
    refine a_ifnonnull C 16 dX6_away_7 (by decide) ?_
    refine a_aload_n C dX6_away_16 0 rfl rfl ?_
    refine a_getf C (hS.co i1 (by omega) (by omega)).f0 (hS.co i1 (by omega) (by omega)).n0 (Cn := RX0) (T := TX0) (N := 5) rfl iX0 1 (by decide) k151 (w := .ref (vq v (11 + 10 * i1.toNat + 2))) rfl dX6_away_17 ?_
    refine a_cVI C (k0 := 0) (As := []) (rest := []) (c_X4_isThere x.2.1 v σ (11 + 10 * i1.toNat + 2) (hS.co i1 (by omega) (by omega)).o2 ) gX6_away_X4_isThere rfl (by decide +kernel) (by decide) (hS.co i1 (by omega) (by omega)).o2.f0 rfl (hS.co i1 (by omega) (by omega)).o2.n0 rfl rfl (Nat.le_of_ble_eq_true rfl) dX6_away_20 (fun z20 u20 r20 p20 => ?_)
    obtain ⟨e20, p20⟩ := p20
    subst u20
    have q20 := zz e20
    refine a_if_ne C 32 r20 dX6_away_23 (by decide) (fun c23 => ?_) (fun c23 => ?_)
    · skip
      refine a_aload_n C dX6_away_32 0 rfl rfl ?_
      refine a_getf C (hS.co i1 (by omega) (by omega)).f0 (hS.co i1 (by omega) (by omega)).n0 (Cn := RX0) (T := TX0) (N := 5) rfl iX0 1 (by decide) k151 (w := .ref (vq v (11 + 10 * i1.toNat + 2))) rfl dX6_away_33 ?_
      refine a_iconst C dX6_away_36 ?_
      refine a_puti C (hS.co i1 (by omega) (by omega)).o2.f0 (hS.co i1 (by omega) (by omega)).o2.n0 (Cn := RX4) (T := TX4) (N := 7) rfl iX4 tyX4_ok nmX4 5 (by decide) k183 rfl rfl 5 (by decide) (fun _ => Nat.le_of_ble_eq_true rfl) (fun _ => rfl) dX6_away_37 ?_
      refine a_aload_n C dX6_away_40 1 rfl rfl ?_
      refine a_cVI C (k0 := 0) (As := []) (rest := []) (c_X6_yes x.2.1 v (sput σ (11 + 10 * i1.toNat + 2) 5 0) hS ) gX6_away_X6_yes rfl (by decide +kernel) (by decide) hS.f0 rfl hS.n0 rfl rfl (Nat.le_of_ble_eq_true rfl) dX6_away_41 (fun z41 u41 r41 p41 => ?_)
      obtain ⟨e41, p41⟩ := p41
      subst u41
      refine hret _ _ _ _ dX6_away_44 (by omega) ?_
      (repeat (first | rw [if_pos (by omega)] | rw [if_neg (by omega)]))
      exact ⟨by omega, rfl⟩
    · skip
      refine a_aload_n C dX6_away_26 1 rfl rfl ?_
      refine a_iconst C dX6_away_27 ?_
      refine a_cVI C (k0 := 1) (As := [vI 5]) (rest := []) (c_X6_no x.2.1 v σ hS 5 (by omega)) gX6_away_X6_no rfl (by decide +kernel) (by decide) hS.f0 rfl hS.n0 rfl rfl (Nat.le_of_ble_eq_true rfl) dX6_away_28 (fun z28 u28 r28 p28 => ?_)
      obtain ⟨e28, p28⟩ := p28
      subst u28
      refine hret _ _ _ _ dX6_away_31 (by omega) ?_
      (repeat (first | rw [if_pos (by omega)] | rw [if_neg (by omega)]))
      exact ⟨by omega, rfl⟩
  · skip
    show At x v A Q _ 5 [(0, .ref (vq v 0)), (1, vI i1)] [.null] σ
    refine a_astore_nN C 2 [(2, .null), (0, .ref (vq v 0)), (1, vI i1)] dX6_away_5 rfl (by decide) rfl ?_
    refine a_aload_nN C dX6_away_6 0 rfl rfl ?_
    refine a_ifnonnullN C dX6_away_7 ?_
    refine a_aload_n C dX6_away_10 1 rfl rfl ?_
    refine a_iconst C dX6_away_11 ?_
    refine a_cVI C (k0 := 1) (As := [vI 1]) (rest := []) (c_X6_no x.2.1 v σ hS 1 (by omega)) gX6_away_X6_no rfl (by decide +kernel) (by decide) hS.f0 rfl hS.n0 rfl rfl (Nat.le_of_ble_eq_true rfl) dX6_away_12 (fun z12 u12 r12 p12 => ?_)
    obtain ⟨e12, p12⟩ := p12
    subst u12
    refine hret _ _ _ _ dX6_away_15 (by omega) ?_
    (repeat (first | rw [if_pos (by omega)] | rw [if_neg (by omega)]))
    exact ⟨by omega, rfl⟩
set_option maxHeartbeats 4000000 in
set_option maxRecDepth 100000 in
theorem c_X6_drifts (l : Launch) (v : VC) (σ : Mem) (hS : shSS v) (i1 : Int) (h1 : rg i1) : CtI l yX6_drifts wsX6_drifts 2 46 v [.ref (vq v 0), vI i1] σ (fun z u => (if ¬ (0 ≤ i1 ∧ i1 < 3) then (z = -1 ∧ u = sput σ 0 5 1) else (if ¬ 0 < σ (11 + 10 * i1.toNat + 2) 5 then (z = -1 ∧ u = sput σ 0 5 5) else (z = σ (11 + 10 * i1.toNat + 2) 6 ∧ u = sput σ 0 5 0)))) := by
  refine mkI (cc := cX6_drifts) (n := 3) (by decide +kernel) rfl (Nat.le_of_ble_eq_true rfl) (fun x A Q hx C hret => ?_)
  subst hx
  show At x v A Q _ 0 [(0, .ref (vq v 0)), (1, vI i1)] [] σ
  have iX0 : ∀ w ∈ wsX00, w ∈ wsX6_drifts := by decide +kernel
  have iX4 : ∀ w ∈ wsX40, w ∈ wsX6_drifts := by decide +kernel
  have k151 : Cond.fieldLink RX6 151 (TX0 1).1 (TX0 1).2.1 (TX0 1).2.2.1 ∈ wsX6_drifts := by decide +kernel
  have k237 : Cond.fieldLink RX6 237 (TX4 6).1 (TX4 6).2.1 (TX4 6).2.2.1 ∈ wsX6_drifts := by decide +kernel
  refine a_aload_n C dX6_drifts_0 0 rfl rfl ?_
  refine a_iload_n C dX6_drifts_1 1 rfl rfl ?_
  refine a_cVQ C (k0 := 1) (As := [vI i1]) (rest := []) (c_X6_columnAt x.2.1 v σ hS i1 (by omega)) gX6_drifts_X6_columnAt rfl (by decide +kernel) (by decide) hS.f0 rfl hS.n0 rfl rfl (Nat.le_of_ble_eq_true rfl) dX6_drifts_2 (fun z2 u2 p2 => ?_)
  obtain ⟨e2, p2⟩ := p2
  subst u2
  rcases e2 with ⟨q2, h2⟩ | ⟨q2, h2⟩ <;> subst h2
  · skip
    show At x v A Q _ 5 [(0, .ref (vq v 0)), (1, vI i1)] [.ref (vq v (11 + 10 * i1.toNat))] σ
    refine a_astore_n C 2 [(2, .ref (vq v (11 + 10 * i1.toNat))), (0, .ref (vq v 0)), (1, vI i1)] dX6_drifts_5 rfl (by decide) rfl ?_
    refine a_aload_n C dX6_drifts_6 0 rfl rfl ?_
    refine a_ifnonnull C 16 dX6_drifts_7 (by decide) ?_
    refine a_aload_n C dX6_drifts_16 0 rfl rfl ?_
    refine a_getf C (hS.co i1 (by omega) (by omega)).f0 (hS.co i1 (by omega) (by omega)).n0 (Cn := RX0) (T := TX0) (N := 5) rfl iX0 1 (by decide) k151 (w := .ref (vq v (11 + 10 * i1.toNat + 2))) rfl dX6_drifts_17 ?_
    refine a_cVI C (k0 := 0) (As := []) (rest := []) (c_X4_isThere x.2.1 v σ (11 + 10 * i1.toNat + 2) (hS.co i1 (by omega) (by omega)).o2 ) gX6_drifts_X4_isThere rfl (by decide +kernel) (by decide) (hS.co i1 (by omega) (by omega)).o2.f0 rfl (hS.co i1 (by omega) (by omega)).o2.n0 rfl rfl (Nat.le_of_ble_eq_true rfl) dX6_drifts_20 (fun z20 u20 r20 p20 => ?_)
    obtain ⟨e20, p20⟩ := p20
    subst u20
    have q20 := zz e20
    refine a_if_ne C 32 r20 dX6_drifts_23 (by decide) (fun c23 => ?_) (fun c23 => ?_)
    · skip
      refine a_aload_n C dX6_drifts_32 1 rfl rfl ?_
      refine a_aload_n C dX6_drifts_33 0 rfl rfl ?_
      refine a_getf C (hS.co i1 (by omega) (by omega)).f0 (hS.co i1 (by omega) (by omega)).n0 (Cn := RX0) (T := TX0) (N := 5) rfl iX0 1 (by decide) k151 (w := .ref (vq v (11 + 10 * i1.toNat + 2))) rfl dX6_drifts_34 ?_
      refine a_geti C (hS.co i1 (by omega) (by omega)).o2.f0 (hS.co i1 (by omega) (by omega)).o2.n0 (Cn := RX4) (T := TX4) (N := 7) rfl iX4 6 (by decide) k237 6 (by decide) rfl dX6_drifts_37 (fun z37 e37 r37 => ?_)
      refine a_cVI C (k0 := 1) (As := [vI z37]) (rest := []) (c_X6_told x.2.1 v σ hS z37 (by omega)) gX6_drifts_X6_told rfl (by decide +kernel) (by decide) hS.f0 rfl hS.n0 rfl rfl (Nat.le_of_ble_eq_true rfl) dX6_drifts_40 (fun z40 u40 r40 p40 => ?_)
      obtain ⟨e40, p40⟩ := p40
      subst u40
      refine hret _ _ _ _ dX6_drifts_43 r40 ?_
      (repeat (first | rw [if_pos (by omega)] | rw [if_neg (by omega)]))
      exact ⟨by omega, rfl⟩
    · skip
      refine a_aload_n C dX6_drifts_26 1 rfl rfl ?_
      refine a_iconst C dX6_drifts_27 ?_
      refine a_cVI C (k0 := 1) (As := [vI 5]) (rest := []) (c_X6_none x.2.1 v σ hS 5 (by omega)) gX6_drifts_X6_none rfl (by decide +kernel) (by decide) hS.f0 rfl hS.n0 rfl rfl (Nat.le_of_ble_eq_true rfl) dX6_drifts_28 (fun z28 u28 r28 p28 => ?_)
      obtain ⟨e28, p28⟩ := p28
      subst u28
      refine hret _ _ _ _ dX6_drifts_31 r28 ?_
      (repeat (first | rw [if_pos (by omega)] | rw [if_neg (by omega)]))
      exact ⟨by omega, rfl⟩
  · skip
    show At x v A Q _ 5 [(0, .ref (vq v 0)), (1, vI i1)] [.null] σ
    refine a_astore_nN C 2 [(2, .null), (0, .ref (vq v 0)), (1, vI i1)] dX6_drifts_5 rfl (by decide) rfl ?_
    refine a_aload_nN C dX6_drifts_6 0 rfl rfl ?_
    refine a_ifnonnullN C dX6_drifts_7 ?_
    refine a_aload_n C dX6_drifts_10 1 rfl rfl ?_
    refine a_iconst C dX6_drifts_11 ?_
    refine a_cVI C (k0 := 1) (As := [vI 1]) (rest := []) (c_X6_none x.2.1 v σ hS 1 (by omega)) gX6_drifts_X6_none rfl (by decide +kernel) (by decide) hS.f0 rfl hS.n0 rfl rfl (Nat.le_of_ble_eq_true rfl) dX6_drifts_12 (fun z12 u12 r12 p12 => ?_)
    obtain ⟨e12, p12⟩ := p12
    subst u12
    refine hret _ _ _ _ dX6_drifts_15 r12 ?_
    (repeat (first | rw [if_pos (by omega)] | rw [if_neg (by omega)]))
    exact ⟨by omega, rfl⟩
set_option maxHeartbeats 4000000 in
set_option maxRecDepth 100000 in
theorem c_X6_sketch (l : Launch) (v : VC) (σ : Mem) (hS : shSS v) (i1 w1 : Int) (h1 : rg i1) (h2 : rg w1) (hC : ∀ i : Int, 0 ≤ i → i < 3 → coW σ (11 + 10 * i.toNat)) : CtI l yX6_sketch wsX6_sketch 3 67 v [.ref (vq v 0), vI i1, vI w1] σ (fun z u => (if ¬ ((0 ≤ i1 ∧ i1 < 3) ∧ (0 ≤ w1 ∧ w1 ≤ 3)) then (z = -1 ∧ u = sput σ 0 5 1) else (if ¬ 0 < σ (11 + 10 * i1.toNat + 2) 5 then (z = -1 ∧ u = sput σ 0 5 5) else (if w1 = 0 then (z = σ (11 + 10 * i1.toNat + 2) 5 ∧ u = sput σ 0 5 0) else (if w1 = 1 then (z = 40 - ltC (σ ((11 + 10 * i1.toNat + 2) + 4)) 0 39 ∧ u = sput σ 0 5 0) else (if w1 = 2 then (z = smR (σ ((11 + 10 * i1.toNat + 2) + 3)) 0 (σ (11 + 10 * i1.toNat + 2) 5) ∧ u = sput σ 0 5 0) else (z = smR (σ ((11 + 10 * i1.toNat + 2) + 2)) 0 (σ (11 + 10 * i1.toNat + 2) 5) ∧ u = sput σ 0 5 0))))))) := by
  refine mkI (cc := cX6_sketch) (n := 4) (by decide +kernel) rfl (Nat.le_of_ble_eq_true rfl) (fun x A Q hx C hret => ?_)
  subst hx
  show At x v A Q _ 0 [(0, .ref (vq v 0)), (1, vI i1), (2, vI w1)] [] σ
  have iX0 : ∀ w ∈ wsX00, w ∈ wsX6_sketch := by decide +kernel
  have iX4 : ∀ w ∈ wsX40, w ∈ wsX6_sketch := by decide +kernel
  have k151 : Cond.fieldLink RX6 151 (TX0 1).1 (TX0 1).2.1 (TX0 1).2.2.1 ∈ wsX6_sketch := by decide +kernel
  have k183 : Cond.fieldLink RX6 183 (TX4 5).1 (TX4 5).2.1 (TX4 5).2.2.1 ∈ wsX6_sketch := by decide +kernel
  refine a_aload_n C dX6_sketch_0 0 rfl rfl ?_
  refine a_iload_n C dX6_sketch_1 1 rfl rfl ?_
  refine a_cVQ C (k0 := 1) (As := [vI i1]) (rest := []) (c_X6_columnAt x.2.1 v σ hS i1 (by omega)) gX6_sketch_X6_columnAt rfl (by decide +kernel) (by decide) hS.f0 rfl hS.n0 rfl rfl (Nat.le_of_ble_eq_true rfl) dX6_sketch_2 (fun z2 u2 p2 => ?_)
  obtain ⟨e2, p2⟩ := p2
  subst u2
  rcases e2 with ⟨q2, h2⟩ | ⟨q2, h2⟩ <;> subst h2
  · skip
    show At x v A Q _ 5 [(0, .ref (vq v 0)), (1, vI i1), (2, vI w1)] [.ref (vq v (11 + 10 * i1.toNat))] σ
    refine a_astore_n C 3 [(3, .ref (vq v (11 + 10 * i1.toNat))), (0, .ref (vq v 0)), (1, vI i1), (2, vI w1)] dX6_sketch_5 rfl (by decide) rfl ?_
    refine a_aload_n C dX6_sketch_6 0 rfl rfl ?_
    refine a_ifnull C dX6_sketch_7 ?_
    refine a_iload_n C dX6_sketch_10 3 rfl rfl ?_
    refine a_i2l C (by omega) dX6_sketch_11 ?_
    refine a_lconst C 0 dX6_sketch_12 rfl ?_
    refine a_ldc2 C 3 (w := 3) (by decide +kernel) rfl dX6_sketch_13 ?_
    refine a_cSI C (k0 := 3) (As := [vJ w1, vJ 0, vJ 3]) (rest := []) (c_X6_within x.2.1 v σ w1 0 3 (by omega) (by omega) (by omega)) gX6_sketch_X6_within rfl (by decide +kernel) (by decide) rfl rfl (Nat.le_of_ble_eq_true rfl) dX6_sketch_16 (fun z16 u16 r16 p16 => ?_)
    obtain ⟨e16, p16⟩ := p16
    subst u16
    have q16 := zz e16
    refine a_if_ne C 28 r16 dX6_sketch_19 (by decide) (fun c19 => ?_) (fun c19 => ?_)
    · skip
      refine a_aload_n C dX6_sketch_28 0 rfl rfl ?_
      refine a_getf C (hS.co i1 (by omega) (by omega)).f0 (hS.co i1 (by omega) (by omega)).n0 (Cn := RX0) (T := TX0) (N := 5) rfl iX0 1 (by decide) k151 (w := .ref (vq v (11 + 10 * i1.toNat + 2))) rfl dX6_sketch_29 ?_
      have c0 := hC i1 (by omega) (by omega)
      obtain ⟨cT, c3, c4, cW, cB, cD, cS⟩ := c0
      refine a_cVI C (k0 := 0) (As := []) (rest := []) (c_X4_isThere x.2.1 v σ (11 + 10 * i1.toNat + 2) (hS.co i1 (by omega) (by omega)).o2 ) gX6_sketch_X4_isThere rfl (by decide +kernel) (by decide) (hS.co i1 (by omega) (by omega)).o2.f0 rfl (hS.co i1 (by omega) (by omega)).o2.n0 rfl rfl (Nat.le_of_ble_eq_true rfl) dX6_sketch_32 (fun z32 u32 r32 p32 => ?_)
      obtain ⟨e32, p32⟩ := p32
      subst u32
      have q32 := zz e32
      refine a_if_ne C 44 r32 dX6_sketch_35 (by decide) (fun c35 => ?_) (fun c35 => ?_)
      · skip
        refine a_iload_n C dX6_sketch_44 3 rfl rfl ?_
        have q45 : w1 = 0 ∨ w1 = 1 ∨ w1 = 2 ∨ w1 < 0 ∨ 2 < w1 := by omega
        rcases q45 with h45 | h45 | h45 | h45
        · skip
          refine a_tsIn C 72 (by omega) dX6_sketch_45 (by omega) (by omega) (off := 27) (by rw [h45]; rfl) (by decide) ?_
          refine a_aload_n C dX6_sketch_72 1 rfl rfl ?_
          refine a_aload_n C dX6_sketch_73 0 rfl rfl ?_
          refine a_getf C (hS.co i1 (by omega) (by omega)).f0 (hS.co i1 (by omega) (by omega)).n0 (Cn := RX0) (T := TX0) (N := 5) rfl iX0 1 (by decide) k151 (w := .ref (vq v (11 + 10 * i1.toNat + 2))) rfl dX6_sketch_74 ?_
          refine a_geti C (hS.co i1 (by omega) (by omega)).o2.f0 (hS.co i1 (by omega) (by omega)).o2.n0 (Cn := RX4) (T := TX4) (N := 7) rfl iX4 5 (by decide) k183 5 (by decide) rfl dX6_sketch_77 (fun z77 e77 r77 => ?_)
          refine a_cVI C (k0 := 1) (As := [vI z77]) (rest := []) (c_X6_told x.2.1 v σ hS z77 (by omega)) gX6_sketch_X6_told rfl (by decide +kernel) (by decide) hS.f0 rfl hS.n0 rfl rfl (Nat.le_of_ble_eq_true rfl) dX6_sketch_80 (fun z80 u80 r80 p80 => ?_)
          obtain ⟨e80, p80⟩ := p80
          subst u80
          refine hret _ _ _ _ dX6_sketch_83 r80 ?_
          (repeat (first | rw [if_pos (by omega)] | rw [if_neg (by omega)]))
          exact ⟨by omega, rfl⟩
        · skip
          refine a_tsIn C 84 (by omega) dX6_sketch_45 (by omega) (by omega) (off := 39) (by rw [h45]; rfl) (by decide) ?_
          refine a_aload_n C dX6_sketch_84 1 rfl rfl ?_
          refine a_aload_n C dX6_sketch_85 0 rfl rfl ?_
          refine a_getf C (hS.co i1 (by omega) (by omega)).f0 (hS.co i1 (by omega) (by omega)).n0 (Cn := RX0) (T := TX0) (N := 5) rfl iX0 1 (by decide) k151 (w := .ref (vq v (11 + 10 * i1.toNat + 2))) rfl dX6_sketch_86 ?_
          refine a_cVI C (k0 := 0) (As := []) (rest := [.ref (vq v 0)]) (c_X4_heavyMany x.2.1 v σ (11 + 10 * i1.toNat + 2) (hS.co i1 (by omega) (by omega)).o2 ) gX6_sketch_X4_heavyMany rfl (by decide +kernel) (by decide) (hS.co i1 (by omega) (by omega)).o2.f0 rfl (hS.co i1 (by omega) (by omega)).o2.n0 rfl rfl (Nat.le_of_ble_eq_true rfl) dX6_sketch_89 (fun z89 u89 r89 p89 => ?_)
          obtain ⟨e89, p89⟩ := p89
          subst u89
          refine a_cVI C (k0 := 1) (As := [vI z89]) (rest := []) (c_X6_told x.2.1 v σ hS z89 (by omega)) gX6_sketch_X6_told rfl (by decide +kernel) (by decide) hS.f0 rfl hS.n0 rfl rfl (Nat.le_of_ble_eq_true rfl) dX6_sketch_92 (fun z92 u92 r92 p92 => ?_)
          obtain ⟨e92, p92⟩ := p92
          subst u92
          refine hret _ _ _ _ dX6_sketch_95 r92 ?_
          (repeat (first | rw [if_pos (by omega)] | rw [if_neg (by omega)]))
          exact ⟨by omega, rfl⟩
        · skip
          refine a_tsIn C 96 (by omega) dX6_sketch_45 (by omega) (by omega) (off := 51) (by rw [h45]; rfl) (by decide) ?_
          refine a_aload_n C dX6_sketch_96 1 rfl rfl ?_
          refine a_aload_n C dX6_sketch_97 0 rfl rfl ?_
          refine a_getf C (hS.co i1 (by omega) (by omega)).f0 (hS.co i1 (by omega) (by omega)).n0 (Cn := RX0) (T := TX0) (N := 5) rfl iX0 1 (by decide) k151 (w := .ref (vq v (11 + 10 * i1.toNat + 2))) rfl dX6_sketch_98 ?_
          refine a_cVI C (k0 := 0) (As := []) (rest := [.ref (vq v 0)]) (c_X4_allDoubts x.2.1 v σ (11 + 10 * i1.toNat + 2) (hS.co i1 (by omega) (by omega)).o2 cW cB) gX6_sketch_X4_allDoubts rfl (by decide +kernel) (by decide) (hS.co i1 (by omega) (by omega)).o2.f0 rfl (hS.co i1 (by omega) (by omega)).o2.n0 rfl rfl (Nat.le_of_ble_eq_true rfl) dX6_sketch_101 (fun z101 u101 r101 p101 => ?_)
          obtain ⟨e101, p101⟩ := p101
          subst u101
          refine a_cVI C (k0 := 1) (As := [vI z101]) (rest := []) (c_X6_told x.2.1 v σ hS z101 (by omega)) gX6_sketch_X6_told rfl (by decide +kernel) (by decide) hS.f0 rfl hS.n0 rfl rfl (Nat.le_of_ble_eq_true rfl) dX6_sketch_104 (fun z104 u104 r104 p104 => ?_)
          obtain ⟨e104, p104⟩ := p104
          subst u104
          refine hret _ _ _ _ dX6_sketch_107 r104 ?_
          (repeat (first | rw [if_pos (by omega)] | rw [if_neg (by omega)]))
          exact ⟨by omega, rfl⟩
        · skip
          refine a_tsOut C 108 (by omega) dX6_sketch_45 h45 (by decide) ?_
          refine a_aload_n C dX6_sketch_108 1 rfl rfl ?_
          refine a_aload_n C dX6_sketch_109 0 rfl rfl ?_
          refine a_getf C (hS.co i1 (by omega) (by omega)).f0 (hS.co i1 (by omega) (by omega)).n0 (Cn := RX0) (T := TX0) (N := 5) rfl iX0 1 (by decide) k151 (w := .ref (vq v (11 + 10 * i1.toNat + 2))) rfl dX6_sketch_110 ?_
          refine a_cVI C (k0 := 0) (As := []) (rest := [.ref (vq v 0)]) (c_X4_allCounts x.2.1 v σ (11 + 10 * i1.toNat + 2) (hS.co i1 (by omega) (by omega)).o2 cW cB) gX6_sketch_X4_allCounts rfl (by decide +kernel) (by decide) (hS.co i1 (by omega) (by omega)).o2.f0 rfl (hS.co i1 (by omega) (by omega)).o2.n0 rfl rfl (Nat.le_of_ble_eq_true rfl) dX6_sketch_113 (fun z113 u113 r113 p113 => ?_)
          obtain ⟨e113, p113⟩ := p113
          subst u113
          refine a_cVI C (k0 := 1) (As := [vI z113]) (rest := []) (c_X6_told x.2.1 v σ hS z113 (by omega)) gX6_sketch_X6_told rfl (by decide +kernel) (by decide) hS.f0 rfl hS.n0 rfl rfl (Nat.le_of_ble_eq_true rfl) dX6_sketch_116 (fun z116 u116 r116 p116 => ?_)
          obtain ⟨e116, p116⟩ := p116
          subst u116
          refine hret _ _ _ _ dX6_sketch_119 r116 ?_
          (repeat (first | rw [if_pos (by omega)] | rw [if_neg (by omega)]))
          exact ⟨by omega, rfl⟩
      · skip
        refine a_aload_n C dX6_sketch_38 1 rfl rfl ?_
        refine a_iconst C dX6_sketch_39 ?_
        refine a_cVI C (k0 := 1) (As := [vI 5]) (rest := []) (c_X6_none x.2.1 v σ hS 5 (by omega)) gX6_sketch_X6_none rfl (by decide +kernel) (by decide) hS.f0 rfl hS.n0 rfl rfl (Nat.le_of_ble_eq_true rfl) dX6_sketch_40 (fun z40 u40 r40 p40 => ?_)
        obtain ⟨e40, p40⟩ := p40
        subst u40
        refine hret _ _ _ _ dX6_sketch_43 r40 ?_
        (repeat (first | rw [if_pos (by omega)] | rw [if_neg (by omega)]))
        exact ⟨by omega, rfl⟩
    · skip
      refine a_aload_n C dX6_sketch_22 1 rfl rfl ?_
      refine a_iconst C dX6_sketch_23 ?_
      refine a_cVI C (k0 := 1) (As := [vI 1]) (rest := []) (c_X6_none x.2.1 v σ hS 1 (by omega)) gX6_sketch_X6_none rfl (by decide +kernel) (by decide) hS.f0 rfl hS.n0 rfl rfl (Nat.le_of_ble_eq_true rfl) dX6_sketch_24 (fun z24 u24 r24 p24 => ?_)
      obtain ⟨e24, p24⟩ := p24
      subst u24
      refine hret _ _ _ _ dX6_sketch_27 r24 ?_
      (repeat (first | rw [if_pos (by omega)] | rw [if_neg (by omega)]))
      exact ⟨by omega, rfl⟩
  · skip
    show At x v A Q _ 5 [(0, .ref (vq v 0)), (1, vI i1), (2, vI w1)] [.null] σ
    refine a_astore_nN C 3 [(3, .null), (0, .ref (vq v 0)), (1, vI i1), (2, vI w1)] dX6_sketch_5 rfl (by decide) rfl ?_
    refine a_aload_nN C dX6_sketch_6 0 rfl rfl ?_
    refine a_ifnullN C 22 dX6_sketch_7 (by decide) ?_
    refine a_aload_n C dX6_sketch_22 1 rfl rfl ?_
    refine a_iconst C dX6_sketch_23 ?_
    refine a_cVI C (k0 := 1) (As := [vI 1]) (rest := []) (c_X6_none x.2.1 v σ hS 1 (by omega)) gX6_sketch_X6_none rfl (by decide +kernel) (by decide) hS.f0 rfl hS.n0 rfl rfl (Nat.le_of_ble_eq_true rfl) dX6_sketch_24 (fun z24 u24 r24 p24 => ?_)
    obtain ⟨e24, p24⟩ := p24
    subst u24
    refine hret _ _ _ _ dX6_sketch_27 r24 ?_
    (repeat (first | rw [if_pos (by omega)] | rw [if_neg (by omega)]))
    exact ⟨by omega, rfl⟩
set_option maxHeartbeats 4000000 in
set_option maxRecDepth 100000 in
theorem c_X6_span (l : Launch) (v : VC) (σ : Mem) (hS : shSS v) (i1 k1 w1 : Int) (h1 : rg i1) (h2 : rg k1) (h3 : rg w1) (hC : ∀ i : Int, 0 ≤ i → i < 3 → coW σ (11 + 10 * i.toNat)) : CtI l yX6_span wsX6_span 3 68 v [.ref (vq v 0), vI i1, vI k1, vI w1] σ (fun z u => (if ¬ (0 ≤ i1 ∧ i1 < 3) then (z = -1 ∧ u = sput σ 0 5 1) else (if ¬ 0 < σ (11 + 10 * i1.toNat + 2) 5 then (z = -1 ∧ u = sput σ 0 5 5) else (if ¬ (0 ≤ k1 ∧ k1 ≤ σ (11 + 10 * i1.toNat + 2) 5 - 1) then (z = -1 ∧ u = sput σ 0 5 1) else (if w1 = 0 then (z = foF (σ ((11 + 10 * i1.toNat + 2) + 1)) k1 ∧ u = sput σ 0 5 0) else (if w1 = 1 then (z = σ ((11 + 10 * i1.toNat + 2) + 1) k1 ∧ u = sput σ 0 5 0) else (if w1 = 2 then (z = σ ((11 + 10 * i1.toNat + 2) + 2) k1 ∧ u = sput σ 0 5 0) else (if w1 = 3 then (z = σ ((11 + 10 * i1.toNat + 2) + 3) k1 ∧ u = sput σ 0 5 0) else (if w1 = 4 then (z = loN (σ ((11 + 10 * i1.toNat + 2) + 4)) (σ ((11 + 10 * i1.toNat + 2) + 1)) k1 ∧ u = sput σ 0 5 0) else (z = -1 ∧ u = sput σ 0 5 1)))))))))) := by
  refine mkI (cc := cX6_span) (n := 6) (by decide +kernel) rfl (Nat.le_of_ble_eq_true rfl) (fun x A Q hx C hret => ?_)
  subst hx
  show At x v A Q _ 0 [(0, .ref (vq v 0)), (1, vI i1), (2, vI k1), (3, vI w1)] [] σ
  have iX0 : ∀ w ∈ wsX00, w ∈ wsX6_span := by decide +kernel
  have iX4 : ∀ w ∈ wsX40, w ∈ wsX6_span := by decide +kernel
  have k151 : Cond.fieldLink RX6 151 (TX0 1).1 (TX0 1).2.1 (TX0 1).2.2.1 ∈ wsX6_span := by decide +kernel
  have k183 : Cond.fieldLink RX6 183 (TX4 5).1 (TX4 5).2.1 (TX4 5).2.2.1 ∈ wsX6_span := by decide +kernel
  have k196 : Cond.fieldLink RX6 196 (TX4 0).1 (TX4 0).2.1 (TX4 0).2.2.1 ∈ wsX6_span := by decide +kernel
  have k197 : Cond.fieldLink RX6 197 (TX4 1).1 (TX4 1).2.1 (TX4 1).2.2.1 ∈ wsX6_span := by decide +kernel
  have k198 : Cond.fieldLink RX6 198 (TX4 2).1 (TX4 2).2.1 (TX4 2).2.2.1 ∈ wsX6_span := by decide +kernel
  refine a_aload_n C dX6_span_0 0 rfl rfl ?_
  refine a_iload_n C dX6_span_1 1 rfl rfl ?_
  refine a_cVQ C (k0 := 1) (As := [vI i1]) (rest := []) (c_X6_columnAt x.2.1 v σ hS i1 (by omega)) gX6_span_X6_columnAt rfl (by decide +kernel) (by decide) hS.f0 rfl hS.n0 rfl rfl (Nat.le_of_ble_eq_true rfl) dX6_span_2 (fun z2 u2 p2 => ?_)
  obtain ⟨e2, p2⟩ := p2
  subst u2
  rcases e2 with ⟨q2, h2⟩ | ⟨q2, h2⟩ <;> subst h2
  · skip
    show At x v A Q _ 5 [(0, .ref (vq v 0)), (1, vI i1), (2, vI k1), (3, vI w1)] [.ref (vq v (11 + 10 * i1.toNat))] σ
    refine a_astore C [(4, .ref (vq v (11 + 10 * i1.toNat))), (0, .ref (vq v 0)), (1, vI i1), (2, vI k1), (3, vI w1)] dX6_span_5 (by decide) rfl ?_
    refine a_aload C dX6_span_7 0 rfl ?_
    refine a_ifnonnull C 18 dX6_span_9 (by decide) ?_
    refine a_aload C dX6_span_18 0 rfl ?_
    refine a_getf C (hS.co i1 (by omega) (by omega)).f0 (hS.co i1 (by omega) (by omega)).n0 (Cn := RX0) (T := TX0) (N := 5) rfl iX0 1 (by decide) k151 (w := .ref (vq v (11 + 10 * i1.toNat + 2))) rfl dX6_span_20 ?_
    refine a_astore C [(5, .ref (vq v (11 + 10 * i1.toNat + 2))), (4, .ref (vq v (11 + 10 * i1.toNat))), (0, .ref (vq v 0)), (1, vI i1), (2, vI k1), (3, vI w1)] dX6_span_23 (by decide) rfl ?_
    have c0 := hC i1 (by omega) (by omega)
    obtain ⟨cT, c3, c4, cW, cB, cD, cS⟩ := c0
    have cW1 := cW.1
    have cW2 := cW.2.1
    refine a_aload C dX6_span_25 0 rfl ?_
    refine a_cVI C (k0 := 0) (As := []) (rest := []) (c_X4_isThere x.2.1 v σ (11 + 10 * i1.toNat + 2) (hS.co i1 (by omega) (by omega)).o2 ) gX6_span_X4_isThere rfl (by decide +kernel) (by decide) (hS.co i1 (by omega) (by omega)).o2.f0 rfl (hS.co i1 (by omega) (by omega)).o2.n0 rfl rfl (Nat.le_of_ble_eq_true rfl) dX6_span_27 (fun z27 u27 r27 p27 => ?_)
    obtain ⟨e27, p27⟩ := p27
    subst u27
    have q27 := zz e27
    refine a_if_ne C 39 r27 dX6_span_30 (by decide) (fun c30 => ?_) (fun c30 => ?_)
    · skip
      refine a_iload_n C dX6_span_39 4 rfl rfl ?_
      refine a_i2l C (by omega) dX6_span_40 ?_
      refine a_lconst C 0 dX6_span_41 rfl ?_
      refine a_aload C dX6_span_42 0 rfl ?_
      refine a_geti C (hS.co i1 (by omega) (by omega)).o2.f0 (hS.co i1 (by omega) (by omega)).o2.n0 (Cn := RX4) (T := TX4) (N := 7) rfl iX4 5 (by decide) k183 5 (by decide) rfl dX6_span_44 (fun z44 e44 r44 => ?_)
      refine a_iconst C dX6_span_47 ?_
      refine a_isub C dX6_span_48 ?_
      refine a_i2l C (by omega) dX6_span_49 ?_
      refine a_cSI C (k0 := 3) (As := [vJ k1, vJ 0, vJ (z44 - 1)]) (rest := []) (c_X6_within x.2.1 v σ k1 0 (z44 - 1) (by omega) (by omega) (by omega)) gX6_span_X6_within rfl (by decide +kernel) (by decide) rfl rfl (Nat.le_of_ble_eq_true rfl) dX6_span_50 (fun z50 u50 r50 p50 => ?_)
      obtain ⟨e50, p50⟩ := p50
      subst u50
      have q50 := zz e50
      refine a_if_ne C 62 r50 dX6_span_53 (by decide) (fun c53 => ?_) (fun c53 => ?_)
      · skip
        refine a_iload_n C dX6_span_62 5 rfl rfl ?_
        have q63 : w1 = 0 ∨ w1 = 1 ∨ w1 = 2 ∨ w1 = 3 ∨ w1 = 4 ∨ w1 < 0 ∨ 4 < w1 := by omega
        rcases q63 with h63 | h63 | h63 | h63 | h63 | h63
        · skip
          refine a_tsIn C 96 (by omega) dX6_span_63 (by omega) (by omega) (off := 33) (by rw [h63]; rfl) (by decide) ?_
          refine a_aload_n C dX6_span_96 2 rfl rfl ?_
          refine a_aload C dX6_span_97 0 rfl ?_
          refine a_iload_n C dX6_span_99 4 rfl rfl ?_
          refine a_cVI C (k0 := 1) (As := [vI k1]) (rest := [.ref (vq v 0)]) (c_X4_firstOf x.2.1 v σ (11 + 10 * i1.toNat + 2) (hS.co i1 (by omega) (by omega)).o2 k1 (by omega) (fun q => cW.2.2 (k1 - 1) (by omega) (by omega))) gX6_span_X4_firstOf rfl (by decide +kernel) (by decide) (hS.co i1 (by omega) (by omega)).o2.f0 rfl (hS.co i1 (by omega) (by omega)).o2.n0 rfl rfl (Nat.le_of_ble_eq_true rfl) dX6_span_100 (fun z100 u100 r100 p100 => ?_)
          obtain ⟨e100, p100⟩ := p100
          subst u100
          refine a_cVI C (k0 := 1) (As := [vI z100]) (rest := []) (c_X6_told x.2.1 v σ hS z100 (by omega)) gX6_span_X6_told rfl (by decide +kernel) (by decide) hS.f0 rfl hS.n0 rfl rfl (Nat.le_of_ble_eq_true rfl) dX6_span_103 (fun z103 u103 r103 p103 => ?_)
          obtain ⟨e103, p103⟩ := p103
          subst u103
          refine hret _ _ _ _ dX6_span_106 r103 ?_
          (repeat (first | rw [if_pos (by omega)] | rw [if_neg (by omega)]))
          exact ⟨by omega, rfl⟩
        · skip
          refine a_tsIn C 107 (by omega) dX6_span_63 (by omega) (by omega) (off := 44) (by rw [h63]; rfl) (by decide) ?_
          refine a_aload_n C dX6_span_107 2 rfl rfl ?_
          refine a_aload C dX6_span_108 0 rfl ?_
          refine a_getf C (hS.co i1 (by omega) (by omega)).o2.f0 (hS.co i1 (by omega) (by omega)).o2.n0 (Cn := RX4) (T := TX4) (N := 7) rfl iX4 0 (by decide) k196 (w := .ref (vq v (11 + 10 * i1.toNat + 2 + 1))) rfl dX6_span_110 ?_
          refine a_iload_n C dX6_span_113 4 rfl rfl ?_
          refine a_iald C (hS.co i1 (by omega) (by omega)).o2.f1 (hS.co i1 (by omega) (by omega)).o2.n1 0 (hS.co i1 (by omega) (by omega)).o2.tI (by omega) (by omega) (by decide) dX6_span_114 (fun z114 e114 r114 => ?_)
          refine a_cVI C (k0 := 1) (As := [vI z114]) (rest := []) (c_X6_told x.2.1 v σ hS z114 (by omega)) gX6_span_X6_told rfl (by decide +kernel) (by decide) hS.f0 rfl hS.n0 rfl rfl (Nat.le_of_ble_eq_true rfl) dX6_span_115 (fun z115 u115 r115 p115 => ?_)
          obtain ⟨e115, p115⟩ := p115
          subst u115
          refine hret _ _ _ _ dX6_span_118 r115 ?_
          (repeat (first | rw [if_pos (by omega)] | rw [if_neg (by omega)]))
          exact ⟨by omega, rfl⟩
        · skip
          refine a_tsIn C 119 (by omega) dX6_span_63 (by omega) (by omega) (off := 56) (by rw [h63]; rfl) (by decide) ?_
          refine a_aload_n C dX6_span_119 2 rfl rfl ?_
          refine a_aload C dX6_span_120 0 rfl ?_
          refine a_getf C (hS.co i1 (by omega) (by omega)).o2.f0 (hS.co i1 (by omega) (by omega)).o2.n0 (Cn := RX4) (T := TX4) (N := 7) rfl iX4 1 (by decide) k197 (w := .ref (vq v (11 + 10 * i1.toNat + 2 + 2))) rfl dX6_span_122 ?_
          refine a_iload_n C dX6_span_125 4 rfl rfl ?_
          refine a_iald C (hS.co i1 (by omega) (by omega)).o2.f2 (hS.co i1 (by omega) (by omega)).o2.n2 0 (hS.co i1 (by omega) (by omega)).o2.tI (by omega) (by omega) (by decide) dX6_span_126 (fun z126 e126 r126 => ?_)
          refine a_cVI C (k0 := 1) (As := [vI z126]) (rest := []) (c_X6_told x.2.1 v σ hS z126 (by omega)) gX6_span_X6_told rfl (by decide +kernel) (by decide) hS.f0 rfl hS.n0 rfl rfl (Nat.le_of_ble_eq_true rfl) dX6_span_127 (fun z127 u127 r127 p127 => ?_)
          obtain ⟨e127, p127⟩ := p127
          subst u127
          refine hret _ _ _ _ dX6_span_130 r127 ?_
          (repeat (first | rw [if_pos (by omega)] | rw [if_neg (by omega)]))
          exact ⟨by omega, rfl⟩
        · skip
          refine a_tsIn C 131 (by omega) dX6_span_63 (by omega) (by omega) (off := 68) (by rw [h63]; rfl) (by decide) ?_
          refine a_aload_n C dX6_span_131 2 rfl rfl ?_
          refine a_aload C dX6_span_132 0 rfl ?_
          refine a_getf C (hS.co i1 (by omega) (by omega)).o2.f0 (hS.co i1 (by omega) (by omega)).o2.n0 (Cn := RX4) (T := TX4) (N := 7) rfl iX4 2 (by decide) k198 (w := .ref (vq v (11 + 10 * i1.toNat + 2 + 3))) rfl dX6_span_134 ?_
          refine a_iload_n C dX6_span_137 4 rfl rfl ?_
          refine a_iald C (hS.co i1 (by omega) (by omega)).o2.f3 (hS.co i1 (by omega) (by omega)).o2.n3 0 (hS.co i1 (by omega) (by omega)).o2.tI (by omega) (by omega) (by decide) dX6_span_138 (fun z138 e138 r138 => ?_)
          refine a_cVI C (k0 := 1) (As := [vI z138]) (rest := []) (c_X6_told x.2.1 v σ hS z138 (by omega)) gX6_span_X6_told rfl (by decide +kernel) (by decide) hS.f0 rfl hS.n0 rfl rfl (Nat.le_of_ble_eq_true rfl) dX6_span_139 (fun z139 u139 r139 p139 => ?_)
          obtain ⟨e139, p139⟩ := p139
          subst u139
          refine hret _ _ _ _ dX6_span_142 r139 ?_
          (repeat (first | rw [if_pos (by omega)] | rw [if_neg (by omega)]))
          exact ⟨by omega, rfl⟩
        · skip
          refine a_tsIn C 143 (by omega) dX6_span_63 (by omega) (by omega) (off := 80) (by rw [h63]; rfl) (by decide) ?_
          refine a_aload_n C dX6_span_143 2 rfl rfl ?_
          refine a_aload C dX6_span_144 0 rfl ?_
          refine a_iload_n C dX6_span_146 4 rfl rfl ?_
          refine a_cVI C (k0 := 1) (As := [vI k1]) (rest := [.ref (vq v 0)]) (c_X4_longOf x.2.1 v σ (11 + 10 * i1.toNat + 2) (hS.co i1 (by omega) (by omega)).o2 k1 (by omega) cW) gX6_span_X4_longOf rfl (by decide +kernel) (by decide) (hS.co i1 (by omega) (by omega)).o2.f0 rfl (hS.co i1 (by omega) (by omega)).o2.n0 rfl rfl (Nat.le_of_ble_eq_true rfl) dX6_span_147 (fun z147 u147 r147 p147 => ?_)
          obtain ⟨e147, p147⟩ := p147
          subst u147
          refine a_cVI C (k0 := 1) (As := [vI z147]) (rest := []) (c_X6_told x.2.1 v σ hS z147 (by omega)) gX6_span_X6_told rfl (by decide +kernel) (by decide) hS.f0 rfl hS.n0 rfl rfl (Nat.le_of_ble_eq_true rfl) dX6_span_150 (fun z150 u150 r150 p150 => ?_)
          obtain ⟨e150, p150⟩ := p150
          subst u150
          refine hret _ _ _ _ dX6_span_153 r150 ?_
          (repeat (first | rw [if_pos (by omega)] | rw [if_neg (by omega)]))
          exact ⟨by omega, rfl⟩
        · skip
          refine a_tsOut C 154 (by omega) dX6_span_63 h63 (by decide) ?_
          refine a_aload_n C dX6_span_154 2 rfl rfl ?_
          refine a_iconst C dX6_span_155 ?_
          refine a_cVI C (k0 := 1) (As := [vI 1]) (rest := []) (c_X6_none x.2.1 v σ hS 1 (by omega)) gX6_span_X6_none rfl (by decide +kernel) (by decide) hS.f0 rfl hS.n0 rfl rfl (Nat.le_of_ble_eq_true rfl) dX6_span_156 (fun z156 u156 r156 p156 => ?_)
          obtain ⟨e156, p156⟩ := p156
          subst u156
          refine hret _ _ _ _ dX6_span_159 r156 ?_
          (repeat (first | rw [if_pos (by omega)] | rw [if_neg (by omega)]))
          exact ⟨by omega, rfl⟩
      · skip
        refine a_aload_n C dX6_span_56 2 rfl rfl ?_
        refine a_iconst C dX6_span_57 ?_
        refine a_cVI C (k0 := 1) (As := [vI 1]) (rest := []) (c_X6_none x.2.1 v σ hS 1 (by omega)) gX6_span_X6_none rfl (by decide +kernel) (by decide) hS.f0 rfl hS.n0 rfl rfl (Nat.le_of_ble_eq_true rfl) dX6_span_58 (fun z58 u58 r58 p58 => ?_)
        obtain ⟨e58, p58⟩ := p58
        subst u58
        refine hret _ _ _ _ dX6_span_61 r58 ?_
        (repeat (first | rw [if_pos (by omega)] | rw [if_neg (by omega)]))
        exact ⟨by omega, rfl⟩
    · skip
      refine a_aload_n C dX6_span_33 2 rfl rfl ?_
      refine a_iconst C dX6_span_34 ?_
      refine a_cVI C (k0 := 1) (As := [vI 5]) (rest := []) (c_X6_none x.2.1 v σ hS 5 (by omega)) gX6_span_X6_none rfl (by decide +kernel) (by decide) hS.f0 rfl hS.n0 rfl rfl (Nat.le_of_ble_eq_true rfl) dX6_span_35 (fun z35 u35 r35 p35 => ?_)
      obtain ⟨e35, p35⟩ := p35
      subst u35
      refine hret _ _ _ _ dX6_span_38 r35 ?_
      (repeat (first | rw [if_pos (by omega)] | rw [if_neg (by omega)]))
      exact ⟨by omega, rfl⟩
  · skip
    show At x v A Q _ 5 [(0, .ref (vq v 0)), (1, vI i1), (2, vI k1), (3, vI w1)] [.null] σ
    refine a_astoreN C [(4, .null), (0, .ref (vq v 0)), (1, vI i1), (2, vI k1), (3, vI w1)] dX6_span_5 (by decide) rfl ?_
    refine a_aloadN C dX6_span_7 0 rfl ?_
    refine a_ifnonnullN C dX6_span_9 ?_
    refine a_aload_n C dX6_span_12 1 rfl rfl ?_
    refine a_iconst C dX6_span_13 ?_
    refine a_cVI C (k0 := 1) (As := [vI 1]) (rest := []) (c_X6_none x.2.1 v σ hS 1 (by omega)) gX6_span_X6_none rfl (by decide +kernel) (by decide) hS.f0 rfl hS.n0 rfl rfl (Nat.le_of_ble_eq_true rfl) dX6_span_14 (fun z14 u14 r14 p14 => ?_)
    obtain ⟨e14, p14⟩ := p14
    subst u14
    refine hret _ _ _ _ dX6_span_17 r14 ?_
    (repeat (first | rw [if_pos (by omega)] | rw [if_neg (by omega)]))
    exact ⟨by omega, rfl⟩
set_option maxHeartbeats 4000000 in
set_option maxRecDepth 100000 in
theorem c_X6_heavy (l : Launch) (v : VC) (σ : Mem) (hS : shSS v) (i1 x1 : Int) (h1 : rg i1) (h2 : rg x1) : CtI l yX6_heavy wsX6_heavy 2 46 v [.ref (vq v 0), vI i1, vI x1] σ (fun z u => (if ¬ ((0 ≤ i1 ∧ i1 < 3) ∧ (0 ≤ x1 ∧ x1 ≤ 39)) then (z = -1 ∧ u = sput σ 0 5 1) else (if ¬ 0 < σ (11 + 10 * i1.toNat + 2) 5 then (z = -1 ∧ u = sput σ 0 5 5) else (if σ ((11 + 10 * i1.toNat + 2) + 4) x1 = 0 then (z = -1 ∧ u = sput σ 0 5 6) else (z = σ ((11 + 10 * i1.toNat + 2) + 5) x1 ∧ u = sput σ 0 5 0))))) := by
  refine mkI (cc := cX6_heavy) (n := 4) (by decide +kernel) rfl (Nat.le_of_ble_eq_true rfl) (fun x A Q hx C hret => ?_)
  subst hx
  show At x v A Q _ 0 [(0, .ref (vq v 0)), (1, vI i1), (2, vI x1)] [] σ
  have iX0 : ∀ w ∈ wsX00, w ∈ wsX6_heavy := by decide +kernel
  have iX4 : ∀ w ∈ wsX40, w ∈ wsX6_heavy := by decide +kernel
  have k151 : Cond.fieldLink RX6 151 (TX0 1).1 (TX0 1).2.1 (TX0 1).2.2.1 ∈ wsX6_heavy := by decide +kernel
  have k162 : Cond.fieldLink RX6 162 (TX4 3).1 (TX4 3).2.1 (TX4 3).2.2.1 ∈ wsX6_heavy := by decide +kernel
  have k207 : Cond.fieldLink RX6 207 (TX4 4).1 (TX4 4).2.1 (TX4 4).2.2.1 ∈ wsX6_heavy := by decide +kernel
  refine a_aload_n C dX6_heavy_0 0 rfl rfl ?_
  refine a_iload_n C dX6_heavy_1 1 rfl rfl ?_
  refine a_cVQ C (k0 := 1) (As := [vI i1]) (rest := []) (c_X6_columnAt x.2.1 v σ hS i1 (by omega)) gX6_heavy_X6_columnAt rfl (by decide +kernel) (by decide) hS.f0 rfl hS.n0 rfl rfl (Nat.le_of_ble_eq_true rfl) dX6_heavy_2 (fun z2 u2 p2 => ?_)
  obtain ⟨e2, p2⟩ := p2
  subst u2
  rcases e2 with ⟨q2, h2⟩ | ⟨q2, h2⟩ <;> subst h2
  · skip
    show At x v A Q _ 5 [(0, .ref (vq v 0)), (1, vI i1), (2, vI x1)] [.ref (vq v (11 + 10 * i1.toNat))] σ
    refine a_astore_n C 3 [(3, .ref (vq v (11 + 10 * i1.toNat))), (0, .ref (vq v 0)), (1, vI i1), (2, vI x1)] dX6_heavy_5 rfl (by decide) rfl ?_
    refine a_aload_n C dX6_heavy_6 0 rfl rfl ?_
    refine a_ifnull C dX6_heavy_7 ?_
    refine a_iload_n C dX6_heavy_10 3 rfl rfl ?_
    refine a_cSI C (k0 := 1) (As := [vI x1]) (rest := []) (c_X6_isValue x.2.1 v σ x1 (by omega)) gX6_heavy_X6_isValue rfl (by decide +kernel) (by decide) rfl rfl (Nat.le_of_ble_eq_true rfl) dX6_heavy_11 (fun z11 u11 r11 p11 => ?_)
    obtain ⟨e11, p11⟩ := p11
    subst u11
    have q11 := zz e11
    refine a_if_ne C 23 r11 dX6_heavy_14 (by decide) (fun c14 => ?_) (fun c14 => ?_)
    · skip
      refine a_aload_n C dX6_heavy_23 0 rfl rfl ?_
      refine a_getf C (hS.co i1 (by omega) (by omega)).f0 (hS.co i1 (by omega) (by omega)).n0 (Cn := RX0) (T := TX0) (N := 5) rfl iX0 1 (by decide) k151 (w := .ref (vq v (11 + 10 * i1.toNat + 2))) rfl dX6_heavy_24 ?_
      refine a_cVI C (k0 := 0) (As := []) (rest := []) (c_X4_isThere x.2.1 v σ (11 + 10 * i1.toNat + 2) (hS.co i1 (by omega) (by omega)).o2 ) gX6_heavy_X4_isThere rfl (by decide +kernel) (by decide) (hS.co i1 (by omega) (by omega)).o2.f0 rfl (hS.co i1 (by omega) (by omega)).o2.n0 rfl rfl (Nat.le_of_ble_eq_true rfl) dX6_heavy_27 (fun z27 u27 r27 p27 => ?_)
      obtain ⟨e27, p27⟩ := p27
      subst u27
      have q27 := zz e27
      refine a_if_ne C 39 r27 dX6_heavy_30 (by decide) (fun c30 => ?_) (fun c30 => ?_)
      · skip
        refine a_aload_n C dX6_heavy_39 0 rfl rfl ?_
        refine a_getf C (hS.co i1 (by omega) (by omega)).f0 (hS.co i1 (by omega) (by omega)).n0 (Cn := RX0) (T := TX0) (N := 5) rfl iX0 1 (by decide) k151 (w := .ref (vq v (11 + 10 * i1.toNat + 2))) rfl dX6_heavy_40 ?_
        refine a_getf C (hS.co i1 (by omega) (by omega)).o2.f0 (hS.co i1 (by omega) (by omega)).o2.n0 (Cn := RX4) (T := TX4) (N := 7) rfl iX4 3 (by decide) k162 (w := .ref (vq v (11 + 10 * i1.toNat + 2 + 4))) rfl dX6_heavy_43 ?_
        refine a_iload_n C dX6_heavy_46 3 rfl rfl ?_
        refine a_zald C (hS.co i1 (by omega) (by omega)).o2.f4 (hS.co i1 (by omega) (by omega)).o2.n4 2 (hS.co i1 (by omega) (by omega)).o2.tB (by omega) (by omega) (by decide) dX6_heavy_47 (fun z47 e47 r47 => ?_)
        refine a_if_ne C 58 r47 dX6_heavy_48 (by decide) (fun c48 => ?_) (fun c48 => ?_)
        · skip
          refine a_aload_n C dX6_heavy_58 1 rfl rfl ?_
          refine a_aload_n C dX6_heavy_59 0 rfl rfl ?_
          refine a_getf C (hS.co i1 (by omega) (by omega)).f0 (hS.co i1 (by omega) (by omega)).n0 (Cn := RX0) (T := TX0) (N := 5) rfl iX0 1 (by decide) k151 (w := .ref (vq v (11 + 10 * i1.toNat + 2))) rfl dX6_heavy_60 ?_
          refine a_getf C (hS.co i1 (by omega) (by omega)).o2.f0 (hS.co i1 (by omega) (by omega)).o2.n0 (Cn := RX4) (T := TX4) (N := 7) rfl iX4 4 (by decide) k207 (w := .ref (vq v (11 + 10 * i1.toNat + 2 + 5))) rfl dX6_heavy_63 ?_
          refine a_iload_n C dX6_heavy_66 3 rfl rfl ?_
          refine a_iald C (hS.co i1 (by omega) (by omega)).o2.f5 (hS.co i1 (by omega) (by omega)).o2.n5 0 (hS.co i1 (by omega) (by omega)).o2.tI (by omega) (by omega) (by decide) dX6_heavy_67 (fun z67 e67 r67 => ?_)
          refine a_cVI C (k0 := 1) (As := [vI z67]) (rest := []) (c_X6_told x.2.1 v σ hS z67 (by omega)) gX6_heavy_X6_told rfl (by decide +kernel) (by decide) hS.f0 rfl hS.n0 rfl rfl (Nat.le_of_ble_eq_true rfl) dX6_heavy_68 (fun z68 u68 r68 p68 => ?_)
          obtain ⟨e68, p68⟩ := p68
          subst u68
          refine hret _ _ _ _ dX6_heavy_71 r68 ?_
          (repeat (first | rw [if_pos (by omega)] | rw [if_neg (by omega)]))
          exact ⟨by omega, rfl⟩
        · skip
          refine a_aload_n C dX6_heavy_51 1 rfl rfl ?_
          refine a_bipush C dX6_heavy_52 ?_
          refine a_cVI C (k0 := 1) (As := [vI 6]) (rest := []) (c_X6_none x.2.1 v σ hS 6 (by omega)) gX6_heavy_X6_none rfl (by decide +kernel) (by decide) hS.f0 rfl hS.n0 rfl rfl (Nat.le_of_ble_eq_true rfl) dX6_heavy_54 (fun z54 u54 r54 p54 => ?_)
          obtain ⟨e54, p54⟩ := p54
          subst u54
          refine hret _ _ _ _ dX6_heavy_57 r54 ?_
          (repeat (first | rw [if_pos (by omega)] | rw [if_neg (by omega)]))
          exact ⟨by omega, rfl⟩
      · skip
        refine a_aload_n C dX6_heavy_33 1 rfl rfl ?_
        refine a_iconst C dX6_heavy_34 ?_
        refine a_cVI C (k0 := 1) (As := [vI 5]) (rest := []) (c_X6_none x.2.1 v σ hS 5 (by omega)) gX6_heavy_X6_none rfl (by decide +kernel) (by decide) hS.f0 rfl hS.n0 rfl rfl (Nat.le_of_ble_eq_true rfl) dX6_heavy_35 (fun z35 u35 r35 p35 => ?_)
        obtain ⟨e35, p35⟩ := p35
        subst u35
        refine hret _ _ _ _ dX6_heavy_38 r35 ?_
        (repeat (first | rw [if_pos (by omega)] | rw [if_neg (by omega)]))
        exact ⟨by omega, rfl⟩
    · skip
      refine a_aload_n C dX6_heavy_17 1 rfl rfl ?_
      refine a_iconst C dX6_heavy_18 ?_
      refine a_cVI C (k0 := 1) (As := [vI 1]) (rest := []) (c_X6_none x.2.1 v σ hS 1 (by omega)) gX6_heavy_X6_none rfl (by decide +kernel) (by decide) hS.f0 rfl hS.n0 rfl rfl (Nat.le_of_ble_eq_true rfl) dX6_heavy_19 (fun z19 u19 r19 p19 => ?_)
      obtain ⟨e19, p19⟩ := p19
      subst u19
      refine hret _ _ _ _ dX6_heavy_22 r19 ?_
      (repeat (first | rw [if_pos (by omega)] | rw [if_neg (by omega)]))
      exact ⟨by omega, rfl⟩
  · skip
    show At x v A Q _ 5 [(0, .ref (vq v 0)), (1, vI i1), (2, vI x1)] [.null] σ
    refine a_astore_nN C 3 [(3, .null), (0, .ref (vq v 0)), (1, vI i1), (2, vI x1)] dX6_heavy_5 rfl (by decide) rfl ?_
    refine a_aload_nN C dX6_heavy_6 0 rfl rfl ?_
    refine a_ifnullN C 17 dX6_heavy_7 (by decide) ?_
    refine a_aload_n C dX6_heavy_17 1 rfl rfl ?_
    refine a_iconst C dX6_heavy_18 ?_
    refine a_cVI C (k0 := 1) (As := [vI 1]) (rest := []) (c_X6_none x.2.1 v σ hS 1 (by omega)) gX6_heavy_X6_none rfl (by decide +kernel) (by decide) hS.f0 rfl hS.n0 rfl rfl (Nat.le_of_ble_eq_true rfl) dX6_heavy_19 (fun z19 u19 r19 p19 => ?_)
    obtain ⟨e19, p19⟩ := p19
    subst u19
    refine hret _ _ _ _ dX6_heavy_22 r19 ?_
    (repeat (first | rw [if_pos (by omega)] | rw [if_neg (by omega)]))
    exact ⟨by omega, rfl⟩
