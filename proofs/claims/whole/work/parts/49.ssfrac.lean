set_option maxHeartbeats 4000000 in
set_option maxRecDepth 100000 in
theorem c_X6_guess (l : Launch) (v : VC) (σ : Mem) (hS : shSS v) (i1 a1 a2 : Int) (h1 : rg i1) (h2 : rg a1) (h3 : rg a2) (hC : ∀ i : Int, 0 ≤ i → i < 3 → coW σ (11 + 10 * i.toNat)) (hG : (0 ≤ i1 ∧ i1 < 3) → (0 ≤ a1 ∧ a1 ≤ a2 ∧ a2 ≤ 39) → 0 < σ (11 + 10 * i1.toNat + 2) 5 → guOK σ (11 + 10 * i1.toNat + 2) a1 a2) : CtI l yX6_guess wsX6_guess 5 138 v [.ref (vq v 0), vI i1, vI a1, vI a2] σ (fun z u => (if ¬ ((0 ≤ i1 ∧ i1 < 3) ∧ (0 ≤ a1 ∧ a1 ≤ a2 ∧ a2 ≤ 39)) then (z = -1 ∧ u = sput σ 0 5 1) else (if ¬ 0 < σ (11 + 10 * i1.toNat + 2) 5 then (z = -1 ∧ u = sput σ 0 5 5) else (z = sgI (guV σ (11 + 10 * i1.toNat + 2) a1 a2).1 ∧ ∃ τ : Mem, (∀ a : Nat, a ≠ 51 → τ a = σ a) ∧ τ 51 100000 = (guV σ (11 + 10 * i1.toNat + 2) a1 a2).1 ∧ τ 51 100001 = (guV σ (11 + 10 * i1.toNat + 2) a1 a2).2 ∧ u = sput τ 0 5 0)))) := by
  refine mkI (cc := cX6_guess) (n := 5) (by decide +kernel) rfl (Nat.le_of_ble_eq_true rfl) (fun x A Q hx C hret => ?_)
  subst hx
  show At x v A Q _ 0 [(0, .ref (vq v 0)), (1, vI i1), (2, vI a1), (3, vI a2)] [] σ
  have iX0 : ∀ w ∈ wsX00, w ∈ wsX6_guess := by decide +kernel
  have iX6 : ∀ w ∈ wsX60, w ∈ wsX6_guess := by decide +kernel
  have k151 : Cond.fieldLink RX6 151 (TX0 1).1 (TX0 1).2.1 (TX0 1).2.2.1 ∈ wsX6_guess := by decide +kernel
  have k38 : Cond.fieldLink RX6 38 (TX6 4).1 (TX6 4).2.1 (TX6 4).2.2.1 ∈ wsX6_guess := by decide +kernel
  refine a_aload_n C dX6_guess_0 0 rfl rfl ?_
  refine a_iload_n C dX6_guess_1 1 rfl rfl ?_
  refine a_cVQ C (k0 := 1) (As := [vI i1]) (rest := []) (c_X6_columnAt x.2.1 v σ hS i1 (by omega)) gX6_guess_X6_columnAt rfl (by decide +kernel) (by decide) hS.f0 rfl hS.n0 rfl rfl (Nat.le_of_ble_eq_true rfl) dX6_guess_2 (fun z2 u2 p2 => ?_)
  obtain ⟨e2, p2⟩ := p2
  subst u2
  rcases e2 with ⟨q2, h2⟩ | ⟨q2, h2⟩ <;> subst h2
  · skip
    show At x v A Q _ 5 [(0, .ref (vq v 0)), (1, vI i1), (2, vI a1), (3, vI a2)] [.ref (vq v (11 + 10 * i1.toNat))] σ
    refine a_astore C [(4, .ref (vq v (11 + 10 * i1.toNat))), (0, .ref (vq v 0)), (1, vI i1), (2, vI a1), (3, vI a2)] dX6_guess_5 (by decide) rfl ?_
    refine a_aload C dX6_guess_7 0 rfl ?_
    refine a_ifnull C dX6_guess_9 ?_
    refine a_iload_n C dX6_guess_12 3 rfl rfl ?_
    refine a_iload_n C dX6_guess_13 4 rfl rfl ?_
    refine a_cSI C (k0 := 2) (As := [vI a1, vI a2]) (rest := []) (c_X6_isQuestion x.2.1 v σ a1 a2 (by omega) (by omega)) gX6_guess_X6_isQuestion rfl (by decide +kernel) (by decide) rfl rfl (Nat.le_of_ble_eq_true rfl) dX6_guess_14 (fun z14 u14 r14 p14 => ?_)
    obtain ⟨e14, p14⟩ := p14
    subst u14
    have q14 := zz e14
    refine a_if_ne C 26 r14 dX6_guess_17 (by decide) (fun c17 => ?_) (fun c17 => ?_)
    · skip
      refine a_aload C dX6_guess_26 0 rfl ?_
      refine a_getf C (hS.co i1 (by omega) (by omega)).f0 (hS.co i1 (by omega) (by omega)).n0 (Cn := RX0) (T := TX0) (N := 5) rfl iX0 1 (by decide) k151 (w := .ref (vq v (11 + 10 * i1.toNat + 2))) rfl dX6_guess_28 ?_
      have c0 := hC i1 (by omega) (by omega)
      obtain ⟨cT, c3, c4, cW, cB, cD, cS⟩ := c0
      refine a_cVI C (k0 := 0) (As := []) (rest := []) (c_X4_isThere x.2.1 v σ (11 + 10 * i1.toNat + 2) (hS.co i1 (by omega) (by omega)).o2 ) gX6_guess_X4_isThere rfl (by decide +kernel) (by decide) (hS.co i1 (by omega) (by omega)).o2.f0 rfl (hS.co i1 (by omega) (by omega)).o2.n0 rfl rfl (Nat.le_of_ble_eq_true rfl) dX6_guess_31 (fun z31 u31 r31 p31 => ?_)
      obtain ⟨e31, p31⟩ := p31
      subst u31
      have q31 := zz e31
      refine a_if_ne C 43 r31 dX6_guess_34 (by decide) (fun c34 => ?_) (fun c34 => ?_)
      · skip
        obtain ⟨P, g0, g1, g2⟩ := hG (by omega) (by omega) (by omega)
        refine a_aload C dX6_guess_43 0 rfl ?_
        refine a_getf C (hS.co i1 (by omega) (by omega)).f0 (hS.co i1 (by omega) (by omega)).n0 (Cn := RX0) (T := TX0) (N := 5) rfl iX0 1 (by decide) k151 (w := .ref (vq v (11 + 10 * i1.toNat + 2))) rfl dX6_guess_45 ?_
        refine a_aload_n C dX6_guess_48 1 rfl rfl ?_
        refine a_getf C hS.f0 hS.n0 (Cn := RX6) (T := TX6) (N := 6) rfl iX6 4 (by decide) k38 (w := .ref (vq v 51)) rfl dX6_guess_49 ?_
        refine a_iload_n C dX6_guess_52 3 rfl rfl ?_
        refine a_iload_n C dX6_guess_53 4 rfl rfl ?_
        refine a_cVV C (k0 := 3) (As := [.ref (vq v 51), vI a1, vI a2]) (rest := []) (c_X4_guessInto x.2.1 v σ (11 + 10 * i1.toNat + 2) (hS.co i1 (by omega) (by omega)).o2 51 hS.o51 (by omega) a1 a2 (by omega) (by omega) cW cB P g0 g1 g2) gX6_guess_X4_guessInto rfl (by decide +kernel) (by decide) (hS.co i1 (by omega) (by omega)).o2.f0 rfl (hS.co i1 (by omega) (by omega)).o2.n0 rfl rfl (Nat.le_of_ble_eq_true rfl) dX6_guess_54 (fun u54 p54 => ?_)
        refine a_aload_n C dX6_guess_57 1 rfl rfl ?_
        refine a_aload_n C dX6_guess_58 1 rfl rfl ?_
        refine a_getf C hS.f0 hS.n0 (Cn := RX6) (T := TX6) (N := 6) rfl iX6 4 (by decide) k38 (w := .ref (vq v 51)) rfl dX6_guess_59 ?_
        refine a_cVI C (k0 := 0) (As := []) (rest := [.ref (vq v 0)]) (c_X1_sign x.2.1 v u54 51 hS.o51 ) gX6_guess_X1_sign rfl (by decide +kernel) (by decide) hS.o51.f0 rfl hS.o51.n0 rfl rfl (Nat.le_of_ble_eq_true rfl) dX6_guess_62 (fun z62 u62 r62 p62 => ?_)
        obtain ⟨e62, p62⟩ := p62
        subst u62
        refine a_cVI C (k0 := 1) (As := [vI z62]) (rest := []) (c_X6_told x.2.1 v u54 hS z62 (by omega)) gX6_guess_X6_told rfl (by decide +kernel) (by decide) hS.f0 rfl hS.n0 rfl rfl (Nat.le_of_ble_eq_true rfl) dX6_guess_65 (fun z65 u65 r65 p65 => ?_)
        obtain ⟨e65, p65⟩ := p65
        subst u65
        refine hret _ _ _ _ dX6_guess_68 r65 ?_
        (repeat (first | rw [if_pos (by omega)] | rw [if_neg (by omega)]))
        (first | exact ⟨by omega, rfl⟩ | exact ⟨by rw [e65, e62, p54.2.1]; rfl, _, p54.1, p54.2.1, p54.2.2, rfl⟩)
      · skip
        refine a_aload_n C dX6_guess_37 1 rfl rfl ?_
        refine a_iconst C dX6_guess_38 ?_
        refine a_cVI C (k0 := 1) (As := [vI 5]) (rest := []) (c_X6_none x.2.1 v σ hS 5 (by omega)) gX6_guess_X6_none rfl (by decide +kernel) (by decide) hS.f0 rfl hS.n0 rfl rfl (Nat.le_of_ble_eq_true rfl) dX6_guess_39 (fun z39 u39 r39 p39 => ?_)
        obtain ⟨e39, p39⟩ := p39
        subst u39
        refine hret _ _ _ _ dX6_guess_42 r39 ?_
        (repeat (first | rw [if_pos (by omega)] | rw [if_neg (by omega)]))
        (first | exact ⟨by omega, rfl⟩ | exact ⟨by rw [e65, e62, p54.2.1]; rfl, _, p54.1, p54.2.1, p54.2.2, rfl⟩)
    · skip
      refine a_aload_n C dX6_guess_20 1 rfl rfl ?_
      refine a_iconst C dX6_guess_21 ?_
      refine a_cVI C (k0 := 1) (As := [vI 1]) (rest := []) (c_X6_none x.2.1 v σ hS 1 (by omega)) gX6_guess_X6_none rfl (by decide +kernel) (by decide) hS.f0 rfl hS.n0 rfl rfl (Nat.le_of_ble_eq_true rfl) dX6_guess_22 (fun z22 u22 r22 p22 => ?_)
      obtain ⟨e22, p22⟩ := p22
      subst u22
      refine hret _ _ _ _ dX6_guess_25 r22 ?_
      (repeat (first | rw [if_pos (by omega)] | rw [if_neg (by omega)]))
      (first | exact ⟨by omega, rfl⟩ | exact ⟨by rw [e65, e62, p54.2.1]; rfl, _, p54.1, p54.2.1, p54.2.2, rfl⟩)
  · skip
    show At x v A Q _ 5 [(0, .ref (vq v 0)), (1, vI i1), (2, vI a1), (3, vI a2)] [.null] σ
    refine a_astoreN C [(4, .null), (0, .ref (vq v 0)), (1, vI i1), (2, vI a1), (3, vI a2)] dX6_guess_5 (by decide) rfl ?_
    refine a_aloadN C dX6_guess_7 0 rfl ?_
    refine a_ifnullN C 20 dX6_guess_9 (by decide) ?_
    refine a_aload_n C dX6_guess_20 1 rfl rfl ?_
    refine a_iconst C dX6_guess_21 ?_
    refine a_cVI C (k0 := 1) (As := [vI 1]) (rest := []) (c_X6_none x.2.1 v σ hS 1 (by omega)) gX6_guess_X6_none rfl (by decide +kernel) (by decide) hS.f0 rfl hS.n0 rfl rfl (Nat.le_of_ble_eq_true rfl) dX6_guess_22 (fun z22 u22 r22 p22 => ?_)
    obtain ⟨e22, p22⟩ := p22
    subst u22
    refine hret _ _ _ _ dX6_guess_25 r22 ?_
    (repeat (first | rw [if_pos (by omega)] | rw [if_neg (by omega)]))
    (first | exact ⟨by omega, rfl⟩ | exact ⟨by rw [e65, e62, p54.2.1]; rfl, _, p54.1, p54.2.1, p54.2.2, rfl⟩)
set_option maxHeartbeats 4000000 in
set_option maxRecDepth 100000 in
theorem c_X6_join (l : Launch) (v : VC) (σ : Mem) (hS : shSS v) (i1 i2 : Int) (h1 : rg i1) (h2 : rg i2) (hC : ∀ i : Int, 0 ≤ i → i < 3 → coW σ (11 + 10 * i.toNat)) (hG : (0 ≤ i1 ∧ i1 < 3) → (0 ≤ i2 ∧ i2 < 3) → 0 < σ (11 + 10 * i1.toNat + 2) 5 → 0 < σ (11 + 10 * i2.toNat + 2) 5 → joOK σ (11 + 10 * i1.toNat + 2) (11 + 10 * i2.toNat + 2)) : CtI l yX6_join wsX6_join 5 136 v [.ref (vq v 0), vI i1, vI i2] σ (fun z u => (if ¬ ((0 ≤ i1 ∧ i1 < 3) ∧ (0 ≤ i2 ∧ i2 < 3)) then (z = -1 ∧ u = sput σ 0 5 1) else (if ¬ (0 < σ (11 + 10 * i1.toNat + 2) 5 ∧ 0 < σ (11 + 10 * i2.toNat + 2) 5) then (z = -1 ∧ u = sput σ 0 5 5) else (z = sgI (joV σ (11 + 10 * i1.toNat + 2) (11 + 10 * i2.toNat + 2)).1 ∧ ∃ τ : Mem, (∀ a : Nat, a ≠ 51 → τ a = σ a) ∧ τ 51 100000 = (joV σ (11 + 10 * i1.toNat + 2) (11 + 10 * i2.toNat + 2)).1 ∧ τ 51 100001 = (joV σ (11 + 10 * i1.toNat + 2) (11 + 10 * i2.toNat + 2)).2 ∧ u = sput τ 0 5 0)))) := by
  refine mkI (cc := cX6_join) (n := 5) (by decide +kernel) rfl (Nat.le_of_ble_eq_true rfl) (fun x A Q hx C hret => ?_)
  subst hx
  show At x v A Q _ 0 [(0, .ref (vq v 0)), (1, vI i1), (2, vI i2)] [] σ
  have iX0 : ∀ w ∈ wsX00, w ∈ wsX6_join := by decide +kernel
  have iX6 : ∀ w ∈ wsX60, w ∈ wsX6_join := by decide +kernel
  have k151 : Cond.fieldLink RX6 151 (TX0 1).1 (TX0 1).2.1 (TX0 1).2.2.1 ∈ wsX6_join := by decide +kernel
  have k38 : Cond.fieldLink RX6 38 (TX6 4).1 (TX6 4).2.1 (TX6 4).2.2.1 ∈ wsX6_join := by decide +kernel
  refine a_aload_n C dX6_join_0 0 rfl rfl ?_
  refine a_iload_n C dX6_join_1 1 rfl rfl ?_
  refine a_cVQ C (k0 := 1) (As := [vI i1]) (rest := []) (c_X6_columnAt x.2.1 v σ hS i1 (by omega)) gX6_join_X6_columnAt rfl (by decide +kernel) (by decide) hS.f0 rfl hS.n0 rfl rfl (Nat.le_of_ble_eq_true rfl) dX6_join_2 (fun z2 u2 p2 => ?_)
  obtain ⟨e2, p2⟩ := p2
  subst u2
  rcases e2 with ⟨q2, h2⟩ | ⟨q2, h2⟩ <;> subst h2
  · skip
    show At x v A Q _ 5 [(0, .ref (vq v 0)), (1, vI i1), (2, vI i2)] [.ref (vq v (11 + 10 * i1.toNat))] σ
    refine a_astore_n C 3 [(3, .ref (vq v (11 + 10 * i1.toNat))), (0, .ref (vq v 0)), (1, vI i1), (2, vI i2)] dX6_join_5 rfl (by decide) rfl ?_
    refine a_aload_n C dX6_join_6 1 rfl rfl ?_
    refine a_iload_n C dX6_join_7 3 rfl rfl ?_
    refine a_cVQ C (k0 := 1) (As := [vI i2]) (rest := []) (c_X6_columnAt x.2.1 v σ hS i2 (by omega)) gX6_join_X6_columnAt rfl (by decide +kernel) (by decide) hS.f0 rfl hS.n0 rfl rfl (Nat.le_of_ble_eq_true rfl) dX6_join_8 (fun z8 u8 p8 => ?_)
    obtain ⟨e8, p8⟩ := p8
    subst u8
    rcases e8 with ⟨q8, h8⟩ | ⟨q8, h8⟩ <;> subst h8
    · skip
      show At x v A Q _ 11 [(3, .ref (vq v (11 + 10 * i1.toNat))), (0, .ref (vq v 0)), (1, vI i1), (2, vI i2)] [.ref (vq v (11 + 10 * i2.toNat))] σ
      refine a_astore C [(4, .ref (vq v (11 + 10 * i2.toNat))), (3, .ref (vq v (11 + 10 * i1.toNat))), (0, .ref (vq v 0)), (1, vI i1), (2, vI i2)] dX6_join_11 (by decide) rfl ?_
      refine a_aload_n C dX6_join_13 1 rfl rfl ?_
      refine a_ifnull C dX6_join_14 ?_
      refine a_aload C dX6_join_17 0 rfl ?_
      refine a_ifnonnull C 28 dX6_join_19 (by decide) ?_
      refine a_aload_n C dX6_join_28 1 rfl rfl ?_
      refine a_getf C (hS.co i1 (by omega) (by omega)).f0 (hS.co i1 (by omega) (by omega)).n0 (Cn := RX0) (T := TX0) (N := 5) rfl iX0 1 (by decide) k151 (w := .ref (vq v (11 + 10 * i1.toNat + 2))) rfl dX6_join_29 ?_
      have c0 := hC i1 (by omega) (by omega)
      obtain ⟨cT, c3, c4, cW, cB, cD, cS⟩ := c0
      have d0 := hC i2 (by omega) (by omega)
      obtain ⟨dT, d3, d4, dW, dB, dD, dS⟩ := d0
      refine a_cVI C (k0 := 0) (As := []) (rest := []) (c_X4_isThere x.2.1 v σ (11 + 10 * i1.toNat + 2) (hS.co i1 (by omega) (by omega)).o2 ) gX6_join_X4_isThere rfl (by decide +kernel) (by decide) (hS.co i1 (by omega) (by omega)).o2.f0 rfl (hS.co i1 (by omega) (by omega)).o2.n0 rfl rfl (Nat.le_of_ble_eq_true rfl) dX6_join_32 (fun z32 u32 r32 p32 => ?_)
      obtain ⟨e32, p32⟩ := p32
      subst u32
      have q32 := zz e32
      refine a_if_eq C 49 r32 dX6_join_35 (by decide) (fun c35 => ?_) (fun c35 => ?_)
      · skip
        refine a_aload_n C dX6_join_49 2 rfl rfl ?_
        refine a_iconst C dX6_join_50 ?_
        refine a_cVI C (k0 := 1) (As := [vI 5]) (rest := []) (c_X6_none x.2.1 v σ hS 5 (by omega)) gX6_join_X6_none rfl (by decide +kernel) (by decide) hS.f0 rfl hS.n0 rfl rfl (Nat.le_of_ble_eq_true rfl) dX6_join_51 (fun z51 u51 r51 p51 => ?_)
        obtain ⟨e51, p51⟩ := p51
        subst u51
        refine hret _ _ _ _ dX6_join_54 r51 ?_
        (repeat (first | rw [if_pos (by omega)] | rw [if_neg (by omega)]))
        (first | exact ⟨by omega, rfl⟩ | exact ⟨by rw [e79, e76, p68.2.1]; rfl, _, p68.1, p68.2.1, p68.2.2, rfl⟩)
      · skip
        refine a_aload C dX6_join_38 0 rfl ?_
        refine a_getf C (hS.co i2 (by omega) (by omega)).f0 (hS.co i2 (by omega) (by omega)).n0 (Cn := RX0) (T := TX0) (N := 5) rfl iX0 1 (by decide) k151 (w := .ref (vq v (11 + 10 * i2.toNat + 2))) rfl dX6_join_40 ?_
        refine a_cVI C (k0 := 0) (As := []) (rest := []) (c_X4_isThere x.2.1 v σ (11 + 10 * i2.toNat + 2) (hS.co i2 (by omega) (by omega)).o2 ) gX6_join_X4_isThere rfl (by decide +kernel) (by decide) (hS.co i2 (by omega) (by omega)).o2.f0 rfl (hS.co i2 (by omega) (by omega)).o2.n0 rfl rfl (Nat.le_of_ble_eq_true rfl) dX6_join_43 (fun z43 u43 r43 p43 => ?_)
        obtain ⟨e43, p43⟩ := p43
        subst u43
        have q43 := zz e43
        refine a_if_ne C 55 r43 dX6_join_46 (by decide) (fun c46 => ?_) (fun c46 => ?_)
        · skip
          obtain ⟨g1, g2, g3, g4, P, g5, g6⟩ := hG (by omega) (by omega) (by omega) (by omega)
          refine a_aload_n C dX6_join_55 1 rfl rfl ?_
          refine a_getf C (hS.co i1 (by omega) (by omega)).f0 (hS.co i1 (by omega) (by omega)).n0 (Cn := RX0) (T := TX0) (N := 5) rfl iX0 1 (by decide) k151 (w := .ref (vq v (11 + 10 * i1.toNat + 2))) rfl dX6_join_56 ?_
          refine a_aload_n C dX6_join_59 2 rfl rfl ?_
          refine a_getf C hS.f0 hS.n0 (Cn := RX6) (T := TX6) (N := 6) rfl iX6 4 (by decide) k38 (w := .ref (vq v 51)) rfl dX6_join_60 ?_
          refine a_aload C dX6_join_63 0 rfl ?_
          refine a_getf C (hS.co i2 (by omega) (by omega)).f0 (hS.co i2 (by omega) (by omega)).n0 (Cn := RX0) (T := TX0) (N := 5) rfl iX0 1 (by decide) k151 (w := .ref (vq v (11 + 10 * i2.toNat + 2))) rfl dX6_join_65 ?_
          refine a_cVV C (k0 := 2) (As := [.ref (vq v 51), .ref (vq v (11 + 10 * i2.toNat + 2))]) (rest := []) (c_X4_joinInto x.2.1 v σ (11 + 10 * i1.toNat + 2) (hS.co i1 (by omega) (by omega)).o2 51 hS.o51 (11 + 10 * i2.toNat + 2) (hS.co i2 (by omega) (by omega)).o2 (by omega) (by omega) ⟨cW, by omega⟩ ⟨dW, by omega⟩ g1 g2 g3 g4 P g5 g6) gX6_join_X4_joinInto rfl (by decide +kernel) (by decide) (hS.co i1 (by omega) (by omega)).o2.f0 rfl (hS.co i1 (by omega) (by omega)).o2.n0 rfl rfl (Nat.le_of_ble_eq_true rfl) dX6_join_68 (fun u68 p68 => ?_)
          refine a_aload_n C dX6_join_71 2 rfl rfl ?_
          refine a_aload_n C dX6_join_72 2 rfl rfl ?_
          refine a_getf C hS.f0 hS.n0 (Cn := RX6) (T := TX6) (N := 6) rfl iX6 4 (by decide) k38 (w := .ref (vq v 51)) rfl dX6_join_73 ?_
          refine a_cVI C (k0 := 0) (As := []) (rest := [.ref (vq v 0)]) (c_X1_sign x.2.1 v u68 51 hS.o51 ) gX6_join_X1_sign rfl (by decide +kernel) (by decide) hS.o51.f0 rfl hS.o51.n0 rfl rfl (Nat.le_of_ble_eq_true rfl) dX6_join_76 (fun z76 u76 r76 p76 => ?_)
          obtain ⟨e76, p76⟩ := p76
          subst u76
          refine a_cVI C (k0 := 1) (As := [vI z76]) (rest := []) (c_X6_told x.2.1 v u68 hS z76 (by omega)) gX6_join_X6_told rfl (by decide +kernel) (by decide) hS.f0 rfl hS.n0 rfl rfl (Nat.le_of_ble_eq_true rfl) dX6_join_79 (fun z79 u79 r79 p79 => ?_)
          obtain ⟨e79, p79⟩ := p79
          subst u79
          refine hret _ _ _ _ dX6_join_82 r79 ?_
          (repeat (first | rw [if_pos (by omega)] | rw [if_neg (by omega)]))
          (first | exact ⟨by omega, rfl⟩ | exact ⟨by rw [e79, e76, p68.2.1]; rfl, _, p68.1, p68.2.1, p68.2.2, rfl⟩)
        · skip
          refine a_aload_n C dX6_join_49 2 rfl rfl ?_
          refine a_iconst C dX6_join_50 ?_
          refine a_cVI C (k0 := 1) (As := [vI 5]) (rest := []) (c_X6_none x.2.1 v σ hS 5 (by omega)) gX6_join_X6_none rfl (by decide +kernel) (by decide) hS.f0 rfl hS.n0 rfl rfl (Nat.le_of_ble_eq_true rfl) dX6_join_51 (fun z51 u51 r51 p51 => ?_)
          obtain ⟨e51, p51⟩ := p51
          subst u51
          refine hret _ _ _ _ dX6_join_54 r51 ?_
          (repeat (first | rw [if_pos (by omega)] | rw [if_neg (by omega)]))
          (first | exact ⟨by omega, rfl⟩ | exact ⟨by rw [e79, e76, p68.2.1]; rfl, _, p68.1, p68.2.1, p68.2.2, rfl⟩)
    · skip
      show At x v A Q _ 11 [(3, .ref (vq v (11 + 10 * i1.toNat))), (0, .ref (vq v 0)), (1, vI i1), (2, vI i2)] [.null] σ
      refine a_astoreN C [(4, .null), (3, .ref (vq v (11 + 10 * i1.toNat))), (0, .ref (vq v 0)), (1, vI i1), (2, vI i2)] dX6_join_11 (by decide) rfl ?_
      refine a_aload_n C dX6_join_13 1 rfl rfl ?_
      refine a_ifnull C dX6_join_14 ?_
      refine a_aloadN C dX6_join_17 0 rfl ?_
      refine a_ifnonnullN C dX6_join_19 ?_
      refine a_aload_n C dX6_join_22 2 rfl rfl ?_
      refine a_iconst C dX6_join_23 ?_
      refine a_cVI C (k0 := 1) (As := [vI 1]) (rest := []) (c_X6_none x.2.1 v σ hS 1 (by omega)) gX6_join_X6_none rfl (by decide +kernel) (by decide) hS.f0 rfl hS.n0 rfl rfl (Nat.le_of_ble_eq_true rfl) dX6_join_24 (fun z24 u24 r24 p24 => ?_)
      obtain ⟨e24, p24⟩ := p24
      subst u24
      refine hret _ _ _ _ dX6_join_27 r24 ?_
      (repeat (first | rw [if_pos (by omega)] | rw [if_neg (by omega)]))
      (first | exact ⟨by omega, rfl⟩ | exact ⟨by rw [e79, e76, p68.2.1]; rfl, _, p68.1, p68.2.1, p68.2.2, rfl⟩)
  · skip
    show At x v A Q _ 5 [(0, .ref (vq v 0)), (1, vI i1), (2, vI i2)] [.null] σ
    refine a_astore_nN C 3 [(3, .null), (0, .ref (vq v 0)), (1, vI i1), (2, vI i2)] dX6_join_5 rfl (by decide) rfl ?_
    refine a_aload_n C dX6_join_6 1 rfl rfl ?_
    refine a_iload_n C dX6_join_7 3 rfl rfl ?_
    refine a_cVQ C (k0 := 1) (As := [vI i2]) (rest := []) (c_X6_columnAt x.2.1 v σ hS i2 (by omega)) gX6_join_X6_columnAt rfl (by decide +kernel) (by decide) hS.f0 rfl hS.n0 rfl rfl (Nat.le_of_ble_eq_true rfl) dX6_join_8 (fun z8 u8 p8 => ?_)
    obtain ⟨e8, p8⟩ := p8
    subst u8
    rcases e8 with ⟨q8, h8⟩ | ⟨q8, h8⟩ <;> subst h8
    · skip
      show At x v A Q _ 11 [(3, .null), (0, .ref (vq v 0)), (1, vI i1), (2, vI i2)] [.ref (vq v (11 + 10 * i2.toNat))] σ
      refine a_astore C [(4, .ref (vq v (11 + 10 * i2.toNat))), (3, .null), (0, .ref (vq v 0)), (1, vI i1), (2, vI i2)] dX6_join_11 (by decide) rfl ?_
      refine a_aload_nN C dX6_join_13 1 rfl rfl ?_
      refine a_ifnullN C 22 dX6_join_14 (by decide) ?_
      refine a_aload_n C dX6_join_22 2 rfl rfl ?_
      refine a_iconst C dX6_join_23 ?_
      refine a_cVI C (k0 := 1) (As := [vI 1]) (rest := []) (c_X6_none x.2.1 v σ hS 1 (by omega)) gX6_join_X6_none rfl (by decide +kernel) (by decide) hS.f0 rfl hS.n0 rfl rfl (Nat.le_of_ble_eq_true rfl) dX6_join_24 (fun z24 u24 r24 p24 => ?_)
      obtain ⟨e24, p24⟩ := p24
      subst u24
      refine hret _ _ _ _ dX6_join_27 r24 ?_
      (repeat (first | rw [if_pos (by omega)] | rw [if_neg (by omega)]))
      (first | exact ⟨by omega, rfl⟩ | exact ⟨by rw [e79, e76, p68.2.1]; rfl, _, p68.1, p68.2.1, p68.2.2, rfl⟩)
    · skip
      show At x v A Q _ 11 [(3, .null), (0, .ref (vq v 0)), (1, vI i1), (2, vI i2)] [.null] σ
      refine a_astoreN C [(4, .null), (3, .null), (0, .ref (vq v 0)), (1, vI i1), (2, vI i2)] dX6_join_11 (by decide) rfl ?_
      refine a_aload_nN C dX6_join_13 1 rfl rfl ?_
      refine a_ifnullN C 22 dX6_join_14 (by decide) ?_
      refine a_aload_n C dX6_join_22 2 rfl rfl ?_
      refine a_iconst C dX6_join_23 ?_
      refine a_cVI C (k0 := 1) (As := [vI 1]) (rest := []) (c_X6_none x.2.1 v σ hS 1 (by omega)) gX6_join_X6_none rfl (by decide +kernel) (by decide) hS.f0 rfl hS.n0 rfl rfl (Nat.le_of_ble_eq_true rfl) dX6_join_24 (fun z24 u24 r24 p24 => ?_)
      obtain ⟨e24, p24⟩ := p24
      subst u24
      refine hret _ _ _ _ dX6_join_27 r24 ?_
      (repeat (first | rw [if_pos (by omega)] | rw [if_neg (by omega)]))
      (first | exact ⟨by omega, rfl⟩ | exact ⟨by rw [e79, e76, p68.2.1]; rfl, _, p68.1, p68.2.1, p68.2.2, rfl⟩)
set_option maxHeartbeats 4000000 in
set_option maxRecDepth 100000 in
theorem c_X6_harm (l : Launch) (v : VC) (σ : Mem) (hS : shSS v) (i1 a1 a2 i2 b1 b2 : Int) (h1 : rg i1) (h2 : rg a1) (h3 : rg a2) (h4 : rg i2) (h5 : rg b1) (h6 : rg b2) (hC : ∀ i : Int, 0 ≤ i → i < 3 → coW σ (11 + 10 * i.toNat)) : CtI l yX6_harm wsX6_harm 4 95 v [.ref (vq v 0), vI i1, vI a1, vI a2, vI i2, vI b1, vI b2] σ (fun z u => (if ¬ ((0 ≤ i1 ∧ i1 < 3) ∧ (0 ≤ i2 ∧ i2 < 3) ∧ (0 ≤ a1 ∧ a1 ≤ a2 ∧ a2 ≤ 39) ∧ (0 ≤ b1 ∧ b1 ≤ b2 ∧ b2 ≤ 39)) then (z = -1 ∧ u = sput σ 0 5 1) else (if ¬ (0 < σ (11 + 10 * i1.toNat + 2) 5 ∧ 0 < σ (11 + 10 * i2.toNat + 2) 5) then (z = -1 ∧ u = sput σ 0 5 5) else (z = sgI (frN (hiV σ (11 + 10 * i1.toNat + 2) a1 a2) (max 1 (loV σ (11 + 10 * i2.toNat + 2) b1 b2))) ∧ u = sput (sput (sput σ 51 100000 (frN (hiV σ (11 + 10 * i1.toNat + 2) a1 a2) (max 1 (loV σ (11 + 10 * i2.toNat + 2) b1 b2)))) 51 100001 (frD (hiV σ (11 + 10 * i1.toNat + 2) a1 a2) (max 1 (loV σ (11 + 10 * i2.toNat + 2) b1 b2)))) 0 5 0)))) := by
  refine mkI (cc := cX6_harm) (n := 9) (by decide +kernel) rfl (Nat.le_of_ble_eq_true rfl) (fun x A Q hx C hret => ?_)
  subst hx
  show At x v A Q _ 0 [(0, .ref (vq v 0)), (1, vI i1), (2, vI a1), (3, vI a2), (4, vI i2), (5, vI b1), (6, vI b2)] [] σ
  have iX0 : ∀ w ∈ wsX00, w ∈ wsX6_harm := by decide +kernel
  have iX6 : ∀ w ∈ wsX60, w ∈ wsX6_harm := by decide +kernel
  have k151 : Cond.fieldLink RX6 151 (TX0 1).1 (TX0 1).2.1 (TX0 1).2.2.1 ∈ wsX6_harm := by decide +kernel
  have k38 : Cond.fieldLink RX6 38 (TX6 4).1 (TX6 4).2.1 (TX6 4).2.2.1 ∈ wsX6_harm := by decide +kernel
  refine a_aload_n C dX6_harm_0 0 rfl rfl ?_
  refine a_iload_n C dX6_harm_1 1 rfl rfl ?_
  refine a_cVQ C (k0 := 1) (As := [vI i1]) (rest := []) (c_X6_columnAt x.2.1 v σ hS i1 (by omega)) gX6_harm_X6_columnAt rfl (by decide +kernel) (by decide) hS.f0 rfl hS.n0 rfl rfl (Nat.le_of_ble_eq_true rfl) dX6_harm_2 (fun z2 u2 p2 => ?_)
  obtain ⟨e2, p2⟩ := p2
  subst u2
  rcases e2 with ⟨q2, h2⟩ | ⟨q2, h2⟩ <;> subst h2
  · skip
    show At x v A Q _ 5 [(0, .ref (vq v 0)), (1, vI i1), (2, vI a1), (3, vI a2), (4, vI i2), (5, vI b1), (6, vI b2)] [.ref (vq v (11 + 10 * i1.toNat))] σ
    refine a_astore C [(7, .ref (vq v (11 + 10 * i1.toNat))), (0, .ref (vq v 0)), (1, vI i1), (2, vI a1), (3, vI a2), (4, vI i2), (5, vI b1), (6, vI b2)] dX6_harm_5 (by decide) rfl ?_
    refine a_aload_n C dX6_harm_7 1 rfl rfl ?_
    refine a_iload C dX6_harm_8 5 rfl ?_
    refine a_cVQ C (k0 := 1) (As := [vI i2]) (rest := []) (c_X6_columnAt x.2.1 v σ hS i2 (by omega)) gX6_harm_X6_columnAt rfl (by decide +kernel) (by decide) hS.f0 rfl hS.n0 rfl rfl (Nat.le_of_ble_eq_true rfl) dX6_harm_10 (fun z10 u10 p10 => ?_)
    obtain ⟨e10, p10⟩ := p10
    subst u10
    rcases e10 with ⟨q10, h10⟩ | ⟨q10, h10⟩ <;> subst h10
    · skip
      show At x v A Q _ 13 [(7, .ref (vq v (11 + 10 * i1.toNat))), (0, .ref (vq v 0)), (1, vI i1), (2, vI a1), (3, vI a2), (4, vI i2), (5, vI b1), (6, vI b2)] [.ref (vq v (11 + 10 * i2.toNat))] σ
      refine a_astore C [(8, .ref (vq v (11 + 10 * i2.toNat))), (7, .ref (vq v (11 + 10 * i1.toNat))), (0, .ref (vq v 0)), (1, vI i1), (2, vI a1), (3, vI a2), (4, vI i2), (5, vI b1), (6, vI b2)] dX6_harm_13 (by decide) rfl ?_
      refine a_aload C dX6_harm_15 1 rfl ?_
      refine a_ifnull C dX6_harm_17 ?_
      refine a_aload C dX6_harm_20 0 rfl ?_
      refine a_ifnull C dX6_harm_22 ?_
      refine a_iload_n C dX6_harm_25 4 rfl rfl ?_
      refine a_iload_n C dX6_harm_26 5 rfl rfl ?_
      refine a_cSI C (k0 := 2) (As := [vI a1, vI a2]) (rest := []) (c_X6_isQuestion x.2.1 v σ a1 a2 (by omega) (by omega)) gX6_harm_X6_isQuestion rfl (by decide +kernel) (by decide) rfl rfl (Nat.le_of_ble_eq_true rfl) dX6_harm_27 (fun z27 u27 r27 p27 => ?_)
      obtain ⟨e27, p27⟩ := p27
      subst u27
      have q27 := zz e27
      refine a_if_eq C 43 r27 dX6_harm_30 (by decide) (fun c30 => ?_) (fun c30 => ?_)
      · skip
        refine a_aload_n C dX6_harm_43 2 rfl rfl ?_
        refine a_iconst C dX6_harm_44 ?_
        refine a_cVI C (k0 := 1) (As := [vI 1]) (rest := []) (c_X6_none x.2.1 v σ hS 1 (by omega)) gX6_harm_X6_none rfl (by decide +kernel) (by decide) hS.f0 rfl hS.n0 rfl rfl (Nat.le_of_ble_eq_true rfl) dX6_harm_45 (fun z45 u45 r45 p45 => ?_)
        obtain ⟨e45, p45⟩ := p45
        subst u45
        refine hret _ _ _ _ dX6_harm_48 r45 ?_
        (repeat (first | rw [if_pos (by omega)] | rw [if_neg (by omega)]))
        (first | exact ⟨by omega, rfl⟩ | (rw [← k88, ← k102, ← e105]; exact ⟨by rw [e120, e117]; rfl, rfl⟩))
      · skip
        refine a_iload C dX6_harm_33 7 rfl ?_
        refine a_iload C dX6_harm_35 8 rfl ?_
        refine a_cSI C (k0 := 2) (As := [vI b1, vI b2]) (rest := []) (c_X6_isQuestion x.2.1 v σ b1 b2 (by omega) (by omega)) gX6_harm_X6_isQuestion rfl (by decide +kernel) (by decide) rfl rfl (Nat.le_of_ble_eq_true rfl) dX6_harm_37 (fun z37 u37 r37 p37 => ?_)
        obtain ⟨e37, p37⟩ := p37
        subst u37
        have q37 := zz e37
        refine a_if_ne C 49 r37 dX6_harm_40 (by decide) (fun c40 => ?_) (fun c40 => ?_)
        · skip
          refine a_aload C dX6_harm_49 1 rfl ?_
          refine a_getf C (hS.co i1 (by omega) (by omega)).f0 (hS.co i1 (by omega) (by omega)).n0 (Cn := RX0) (T := TX0) (N := 5) rfl iX0 1 (by decide) k151 (w := .ref (vq v (11 + 10 * i1.toNat + 2))) rfl dX6_harm_51 ?_
          have c0 := hC i1 (by omega) (by omega)
          obtain ⟨cT, c3, c4, cW, cB, cD, cS⟩ := c0
          have d0 := hC i2 (by omega) (by omega)
          obtain ⟨dT, d3, d4, dW, dB, dD, dS⟩ := d0
          refine a_cVI C (k0 := 0) (As := []) (rest := []) (c_X4_isThere x.2.1 v σ (11 + 10 * i1.toNat + 2) (hS.co i1 (by omega) (by omega)).o2 ) gX6_harm_X4_isThere rfl (by decide +kernel) (by decide) (hS.co i1 (by omega) (by omega)).o2.f0 rfl (hS.co i1 (by omega) (by omega)).o2.n0 rfl rfl (Nat.le_of_ble_eq_true rfl) dX6_harm_54 (fun z54 u54 r54 p54 => ?_)
          obtain ⟨e54, p54⟩ := p54
          subst u54
          have q54 := zz e54
          refine a_if_eq C 71 r54 dX6_harm_57 (by decide) (fun c57 => ?_) (fun c57 => ?_)
          · skip
            refine a_aload_n C dX6_harm_71 2 rfl rfl ?_
            refine a_iconst C dX6_harm_72 ?_
            refine a_cVI C (k0 := 1) (As := [vI 5]) (rest := []) (c_X6_none x.2.1 v σ hS 5 (by omega)) gX6_harm_X6_none rfl (by decide +kernel) (by decide) hS.f0 rfl hS.n0 rfl rfl (Nat.le_of_ble_eq_true rfl) dX6_harm_73 (fun z73 u73 r73 p73 => ?_)
            obtain ⟨e73, p73⟩ := p73
            subst u73
            refine hret _ _ _ _ dX6_harm_76 r73 ?_
            (repeat (first | rw [if_pos (by omega)] | rw [if_neg (by omega)]))
            (first | exact ⟨by omega, rfl⟩ | (rw [← k88, ← k102, ← e105]; exact ⟨by rw [e120, e117]; rfl, rfl⟩))
          · skip
            refine a_aload C dX6_harm_60 0 rfl ?_
            refine a_getf C (hS.co i2 (by omega) (by omega)).f0 (hS.co i2 (by omega) (by omega)).n0 (Cn := RX0) (T := TX0) (N := 5) rfl iX0 1 (by decide) k151 (w := .ref (vq v (11 + 10 * i2.toNat + 2))) rfl dX6_harm_62 ?_
            refine a_cVI C (k0 := 0) (As := []) (rest := []) (c_X4_isThere x.2.1 v σ (11 + 10 * i2.toNat + 2) (hS.co i2 (by omega) (by omega)).o2 ) gX6_harm_X4_isThere rfl (by decide +kernel) (by decide) (hS.co i2 (by omega) (by omega)).o2.f0 rfl (hS.co i2 (by omega) (by omega)).o2.n0 rfl rfl (Nat.le_of_ble_eq_true rfl) dX6_harm_65 (fun z65 u65 r65 p65 => ?_)
            obtain ⟨e65, p65⟩ := p65
            subst u65
            have q65 := zz e65
            refine a_if_ne C 77 r65 dX6_harm_68 (by decide) (fun c68 => ?_) (fun c68 => ?_)
            · skip
              refine a_aload_n C dX6_harm_77 2 rfl rfl ?_
              refine a_getf C hS.f0 hS.n0 (Cn := RX6) (T := TX6) (N := 6) rfl iX6 4 (by decide) k38 (w := .ref (vq v 51)) rfl dX6_harm_78 ?_
              refine a_aload C dX6_harm_81 1 rfl ?_
              refine a_getf C (hS.co i1 (by omega) (by omega)).f0 (hS.co i1 (by omega) (by omega)).n0 (Cn := RX0) (T := TX0) (N := 5) rfl iX0 1 (by decide) k151 (w := .ref (vq v (11 + 10 * i1.toNat + 2))) rfl dX6_harm_83 ?_
              refine a_iload_n C dX6_harm_86 4 rfl rfl ?_
              refine a_iload_n C dX6_harm_87 5 rfl rfl ?_
              refine a_cVI C (k0 := 2) (As := [vI a1, vI a2]) (rest := [.ref (vq v 51)]) (c_X4_highOf x.2.1 v σ (11 + 10 * i1.toNat + 2) (hS.co i1 (by omega) (by omega)).o2 a1 a2 (by omega) (by omega) cW cB) gX6_harm_X4_highOf rfl (by decide +kernel) (by decide) (hS.co i1 (by omega) (by omega)).o2.f0 rfl (hS.co i1 (by omega) (by omega)).o2.n0 rfl rfl (Nat.le_of_ble_eq_true rfl) dX6_harm_88 (fun z88 u88 r88 p88 => ?_)
              obtain ⟨e88, p88⟩ := p88
              subst u88
              have k88 : z88 = (hiV σ (11 + 10 * i1.toNat + 2) a1 a2) := e88
              refine a_i2l C r88 dX6_harm_91 ?_
              refine a_iconst C dX6_harm_92 ?_
              refine a_aload C dX6_harm_93 0 rfl ?_
              refine a_getf C (hS.co i2 (by omega) (by omega)).f0 (hS.co i2 (by omega) (by omega)).n0 (Cn := RX0) (T := TX0) (N := 5) rfl iX0 1 (by decide) k151 (w := .ref (vq v (11 + 10 * i2.toNat + 2))) rfl dX6_harm_95 ?_
              refine a_iload C dX6_harm_98 7 rfl ?_
              refine a_iload C dX6_harm_100 8 rfl ?_
              refine a_cVI C (k0 := 2) (As := [vI b1, vI b2]) (rest := [vI 1, vJ z88, .ref (vq v 51)]) (c_X4_lowOf x.2.1 v σ (11 + 10 * i2.toNat + 2) (hS.co i2 (by omega) (by omega)).o2 b1 b2 (by omega) (by omega) dW dB) gX6_harm_X4_lowOf rfl (by decide +kernel) (by decide) (hS.co i2 (by omega) (by omega)).o2.f0 rfl (hS.co i2 (by omega) (by omega)).o2.n0 rfl rfl (Nat.le_of_ble_eq_true rfl) dX6_harm_102 (fun z102 u102 r102 p102 => ?_)
              obtain ⟨e102, p102⟩ := p102
              subst u102
              have k102 : z102 = loV σ (11 + 10 * i2.toNat + 2) b1 b2 := e102
              refine a_mmax C (by decide) r102 (by decide +kernel) ⟨by decide, Nat.le_of_ble_eq_true rfl⟩ dX6_harm_105 ?_
              obtain ⟨z105, e105⟩ : ∃ w : Int, w = max 1 z102 := ⟨_, rfl⟩
              rw [← e105]
              refine a_i2l C (by omega) dX6_harm_108 ?_
              refine a_cVV C (k0 := 2) (As := [vJ z88, vJ z105]) (rest := []) (c_X1_set x.2.1 v σ 51 hS.o51 z88 z105 (by omega) (by omega)) gX6_harm_X1_set rfl (by decide +kernel) (by decide) hS.o51.f0 rfl hS.o51.n0 rfl rfl (Nat.le_of_ble_eq_true rfl) dX6_harm_109 (fun u109 p109 => ?_)
              subst u109
              refine a_aload_n C dX6_harm_112 2 rfl rfl ?_
              refine a_aload_n C dX6_harm_113 2 rfl rfl ?_
              refine a_getf C hS.f0 hS.n0 (Cn := RX6) (T := TX6) (N := 6) rfl iX6 4 (by decide) k38 (w := .ref (vq v 51)) rfl dX6_harm_114 ?_
              refine a_cVI C (k0 := 0) (As := []) (rest := [.ref (vq v 0)]) (c_X1_sign x.2.1 v (sput (sput σ 51 100000 (frN z88 z105)) 51 100001 (frD z88 z105)) 51 hS.o51 ) gX6_harm_X1_sign rfl (by decide +kernel) (by decide) hS.o51.f0 rfl hS.o51.n0 rfl rfl (Nat.le_of_ble_eq_true rfl) dX6_harm_117 (fun z117 u117 r117 p117 => ?_)
              obtain ⟨e117, p117⟩ := p117
              subst u117
              rw [sput_j _ _ _ _ _ (by decide), sput_s] at e117
              refine a_cVI C (k0 := 1) (As := [vI z117]) (rest := []) (c_X6_told x.2.1 v (sput (sput σ 51 100000 (frN z88 z105)) 51 100001 (frD z88 z105)) hS z117 (by omega)) gX6_harm_X6_told rfl (by decide +kernel) (by decide) hS.f0 rfl hS.n0 rfl rfl (Nat.le_of_ble_eq_true rfl) dX6_harm_120 (fun z120 u120 r120 p120 => ?_)
              obtain ⟨e120, p120⟩ := p120
              subst u120
              refine hret _ _ _ _ dX6_harm_123 r120 ?_
              (repeat (first | rw [if_pos (by omega)] | rw [if_neg (by omega)]))
              (first | exact ⟨by omega, rfl⟩ | (rw [← k88, ← k102, ← e105]; exact ⟨by rw [e120, e117]; rfl, rfl⟩))
            · skip
              refine a_aload_n C dX6_harm_71 2 rfl rfl ?_
              refine a_iconst C dX6_harm_72 ?_
              refine a_cVI C (k0 := 1) (As := [vI 5]) (rest := []) (c_X6_none x.2.1 v σ hS 5 (by omega)) gX6_harm_X6_none rfl (by decide +kernel) (by decide) hS.f0 rfl hS.n0 rfl rfl (Nat.le_of_ble_eq_true rfl) dX6_harm_73 (fun z73 u73 r73 p73 => ?_)
              obtain ⟨e73, p73⟩ := p73
              subst u73
              refine hret _ _ _ _ dX6_harm_76 r73 ?_
              (repeat (first | rw [if_pos (by omega)] | rw [if_neg (by omega)]))
              (first | exact ⟨by omega, rfl⟩ | (rw [← k88, ← k102, ← e105]; exact ⟨by rw [e120, e117]; rfl, rfl⟩))
        · skip
          refine a_aload_n C dX6_harm_43 2 rfl rfl ?_
          refine a_iconst C dX6_harm_44 ?_
          refine a_cVI C (k0 := 1) (As := [vI 1]) (rest := []) (c_X6_none x.2.1 v σ hS 1 (by omega)) gX6_harm_X6_none rfl (by decide +kernel) (by decide) hS.f0 rfl hS.n0 rfl rfl (Nat.le_of_ble_eq_true rfl) dX6_harm_45 (fun z45 u45 r45 p45 => ?_)
          obtain ⟨e45, p45⟩ := p45
          subst u45
          refine hret _ _ _ _ dX6_harm_48 r45 ?_
          (repeat (first | rw [if_pos (by omega)] | rw [if_neg (by omega)]))
          (first | exact ⟨by omega, rfl⟩ | (rw [← k88, ← k102, ← e105]; exact ⟨by rw [e120, e117]; rfl, rfl⟩))
    · skip
      show At x v A Q _ 13 [(7, .ref (vq v (11 + 10 * i1.toNat))), (0, .ref (vq v 0)), (1, vI i1), (2, vI a1), (3, vI a2), (4, vI i2), (5, vI b1), (6, vI b2)] [.null] σ
      refine a_astoreN C [(8, .null), (7, .ref (vq v (11 + 10 * i1.toNat))), (0, .ref (vq v 0)), (1, vI i1), (2, vI a1), (3, vI a2), (4, vI i2), (5, vI b1), (6, vI b2)] dX6_harm_13 (by decide) rfl ?_
      refine a_aload C dX6_harm_15 1 rfl ?_
      refine a_ifnull C dX6_harm_17 ?_
      refine a_aloadN C dX6_harm_20 0 rfl ?_
      refine a_ifnullN C 43 dX6_harm_22 (by decide) ?_
      refine a_aload_n C dX6_harm_43 2 rfl rfl ?_
      refine a_iconst C dX6_harm_44 ?_
      refine a_cVI C (k0 := 1) (As := [vI 1]) (rest := []) (c_X6_none x.2.1 v σ hS 1 (by omega)) gX6_harm_X6_none rfl (by decide +kernel) (by decide) hS.f0 rfl hS.n0 rfl rfl (Nat.le_of_ble_eq_true rfl) dX6_harm_45 (fun z45 u45 r45 p45 => ?_)
      obtain ⟨e45, p45⟩ := p45
      subst u45
      refine hret _ _ _ _ dX6_harm_48 r45 ?_
      (repeat (first | rw [if_pos (by omega)] | rw [if_neg (by omega)]))
      (first | exact ⟨by omega, rfl⟩ | (rw [← k88, ← k102, ← e105]; exact ⟨by rw [e120, e117]; rfl, rfl⟩))
  · skip
    show At x v A Q _ 5 [(0, .ref (vq v 0)), (1, vI i1), (2, vI a1), (3, vI a2), (4, vI i2), (5, vI b1), (6, vI b2)] [.null] σ
    refine a_astoreN C [(7, .null), (0, .ref (vq v 0)), (1, vI i1), (2, vI a1), (3, vI a2), (4, vI i2), (5, vI b1), (6, vI b2)] dX6_harm_5 (by decide) rfl ?_
    refine a_aload_n C dX6_harm_7 1 rfl rfl ?_
    refine a_iload C dX6_harm_8 5 rfl ?_
    refine a_cVQ C (k0 := 1) (As := [vI i2]) (rest := []) (c_X6_columnAt x.2.1 v σ hS i2 (by omega)) gX6_harm_X6_columnAt rfl (by decide +kernel) (by decide) hS.f0 rfl hS.n0 rfl rfl (Nat.le_of_ble_eq_true rfl) dX6_harm_10 (fun z10 u10 p10 => ?_)
    obtain ⟨e10, p10⟩ := p10
    subst u10
    rcases e10 with ⟨q10, h10⟩ | ⟨q10, h10⟩ <;> subst h10
    · skip
      show At x v A Q _ 13 [(7, .null), (0, .ref (vq v 0)), (1, vI i1), (2, vI a1), (3, vI a2), (4, vI i2), (5, vI b1), (6, vI b2)] [.ref (vq v (11 + 10 * i2.toNat))] σ
      refine a_astore C [(8, .ref (vq v (11 + 10 * i2.toNat))), (7, .null), (0, .ref (vq v 0)), (1, vI i1), (2, vI a1), (3, vI a2), (4, vI i2), (5, vI b1), (6, vI b2)] dX6_harm_13 (by decide) rfl ?_
      refine a_aloadN C dX6_harm_15 1 rfl ?_
      refine a_ifnullN C 43 dX6_harm_17 (by decide) ?_
      refine a_aload_n C dX6_harm_43 2 rfl rfl ?_
      refine a_iconst C dX6_harm_44 ?_
      refine a_cVI C (k0 := 1) (As := [vI 1]) (rest := []) (c_X6_none x.2.1 v σ hS 1 (by omega)) gX6_harm_X6_none rfl (by decide +kernel) (by decide) hS.f0 rfl hS.n0 rfl rfl (Nat.le_of_ble_eq_true rfl) dX6_harm_45 (fun z45 u45 r45 p45 => ?_)
      obtain ⟨e45, p45⟩ := p45
      subst u45
      refine hret _ _ _ _ dX6_harm_48 r45 ?_
      (repeat (first | rw [if_pos (by omega)] | rw [if_neg (by omega)]))
      (first | exact ⟨by omega, rfl⟩ | (rw [← k88, ← k102, ← e105]; exact ⟨by rw [e120, e117]; rfl, rfl⟩))
    · skip
      show At x v A Q _ 13 [(7, .null), (0, .ref (vq v 0)), (1, vI i1), (2, vI a1), (3, vI a2), (4, vI i2), (5, vI b1), (6, vI b2)] [.null] σ
      refine a_astoreN C [(8, .null), (7, .null), (0, .ref (vq v 0)), (1, vI i1), (2, vI a1), (3, vI a2), (4, vI i2), (5, vI b1), (6, vI b2)] dX6_harm_13 (by decide) rfl ?_
      refine a_aloadN C dX6_harm_15 1 rfl ?_
      refine a_ifnullN C 43 dX6_harm_17 (by decide) ?_
      refine a_aload_n C dX6_harm_43 2 rfl rfl ?_
      refine a_iconst C dX6_harm_44 ?_
      refine a_cVI C (k0 := 1) (As := [vI 1]) (rest := []) (c_X6_none x.2.1 v σ hS 1 (by omega)) gX6_harm_X6_none rfl (by decide +kernel) (by decide) hS.f0 rfl hS.n0 rfl rfl (Nat.le_of_ble_eq_true rfl) dX6_harm_45 (fun z45 u45 r45 p45 => ?_)
      obtain ⟨e45, p45⟩ := p45
      subst u45
      refine hret _ _ _ _ dX6_harm_48 r45 ?_
      (repeat (first | rw [if_pos (by omega)] | rw [if_neg (by omega)]))
      (first | exact ⟨by omega, rfl⟩ | (rw [← k88, ← k102, ← e105]; exact ⟨by rw [e120, e117]; rfl, rfl⟩))
