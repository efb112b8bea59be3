set_option maxHeartbeats 4000000 in
set_option maxRecDepth 100000 in
theorem c_X4_weight (l : Launch) (v : VC) (σ : Mem) (b : Nat) (hS : shSk v b) (hW : skW σ b) (hB : skB σ b) : CtI l yX4_weight wsX4_weight 2 47 v [.ref (vq v b)] σ (fun z u => z = smR (σ (b + 2)) 0 (σ b 5) + smR (σ (b + 3)) 0 (σ b 5) + hvS (σ (b + 4)) (σ (b + 5)) 0 39 ∧ u = σ) := by
  refine mkI (cc := cX4_weight) (n := 1) (by decide +kernel) rfl (Nat.le_of_ble_eq_true rfl) (fun x A Q hx C hret => ?_)
  subst hx
  show At x v A Q _ 0 [(0, .ref (vq v b))] [] σ
  have hw1 := hW.1
  have hw2 := hW.2.1
  have h1 := smR_bd (f := σ (b + 2)) (a := 0) (b := σ b 5) (fun j q1 q2 => hB.1 j q1 q2) hw1
  have h2 := smR_bd (f := σ (b + 3)) (a := 0) (b := σ b 5) (fun j q1 q2 => hB.2.1 j q1 q2) hw1
  have h3 := hvS_bd (h := σ (b + 4)) (M := 5000000) (by decide) hB.2.2 0 39
  refine a_aload_n C dX4_weight_0 0 rfl rfl ?_
  refine a_cVI C (k0 := 0) (As := []) (rest := []) (c_X4_allCounts x.2.1 v σ b hS hW hB) gX4_weight_X4_allCounts rfl (by decide +kernel) (by decide) hS.f0 rfl hS.n0 rfl rfl (Nat.le_of_ble_eq_true rfl) dX4_weight_1 (fun z1 u1 r1 p1 => ?_)
  obtain ⟨e1, p1⟩ := p1
  subst u1
  refine a_aload_n C dX4_weight_4 0 rfl rfl ?_
  refine a_cVI C (k0 := 0) (As := []) (rest := [vI z1]) (c_X4_allDoubts x.2.1 v σ b hS hW hB) gX4_weight_X4_allDoubts rfl (by decide +kernel) (by decide) hS.f0 rfl hS.n0 rfl rfl (Nat.le_of_ble_eq_true rfl) dX4_weight_5 (fun z5 u5 r5 p5 => ?_)
  obtain ⟨e5, p5⟩ := p5
  subst u5
  refine a_iadd C dX4_weight_8 ?_
  refine a_aload_n C dX4_weight_9 0 rfl rfl ?_
  refine a_iconst C dX4_weight_10 ?_
  refine a_bipush C dX4_weight_11 ?_
  refine a_cVI C (k0 := 2) (As := [vI 0, vI 39]) (rest := [vI (z1 + z5)]) (c_X4_heavyBetween x.2.1 v σ b hS 0 39 (by decide) (by decide) (by omega)) gX4_weight_X4_heavyBetween rfl (by decide +kernel) (by decide) hS.f0 rfl hS.n0 rfl rfl (Nat.le_of_ble_eq_true rfl) dX4_weight_13 (fun z13 u13 r13 p13 => ?_)
  obtain ⟨e13, p13⟩ := p13
  subst u13
  refine a_iadd C dX4_weight_16 ?_
  exact hret _ _ _ _ dX4_weight_17 (by omega) ⟨by omega, rfl⟩
set_option maxHeartbeats 4000000 in
set_option maxRecDepth 100000 in
theorem c_X4_lowOf (l : Launch) (v : VC) (σ : Mem) (b : Nat) (hS : shSk v b) (a1 a2 : Int) (h1 : rg a1) (h2 : rg a2) (hW : skW σ b) (hB : skB σ b) : CtI l yX4_lowOf wsX4_lowOf 3 70 v [.ref (vq v b), vI a1, vI a2] σ (fun z u => z = (hvS (σ (b + 4)) (σ (b + 5)) a1 a2 + smR (lwF (σ (b + 4)) (σ (b + 1)) (σ (b + 2)) (σ (b + 3)) a1 a2) 0 (σ b 5)) ∧ u = σ) := by
  refine mkI (cc := cX4_lowOf) (n := 6) (by decide +kernel) rfl (Nat.le_of_ble_eq_true rfl) (fun x A Q hx C hret => ?_)
  subst hx
  show At x v A Q _ 0 [(0, .ref (vq v b)), (1, vI a1), (2, vI a2)] [] σ
  have iX4 : ∀ w ∈ wsX40, w ∈ wsX4_lowOf := by decide +kernel
  have k28 : Cond.fieldLink RX4 28 (TX4 5).1 (TX4 5).2.1 (TX4 5).2.2.1 ∈ wsX4_lowOf := by decide +kernel
  have k15 : Cond.fieldLink RX4 15 (TX4 1).1 (TX4 1).2.1 (TX4 1).2.2.1 ∈ wsX4_lowOf := by decide +kernel
  have k18 : Cond.fieldLink RX4 18 (TX4 2).1 (TX4 2).2.1 (TX4 2).2.2.1 ∈ wsX4_lowOf := by decide +kernel
  have hw1 := hW.1
  have hw2 := hW.2.1
  have h3 := hvS_bd (h := σ (b + 4)) (M := 5000000) (by decide) hB.2.2 a1 a2
  have h4 := smR_bd (f := (lwF (σ (b + 4)) (σ (b + 1)) (σ (b + 2)) (σ (b + 3)) a1 a2)) (a := 0) (b := σ b 5) (lo := 0) (hi := 21000000) (fun k q1 q2 => by have := hB.1 k q1 q2; have := hB.2.1 k q1 q2; unfold lwF; split <;> omega) hw1
  have lp : ∀ (n : Nat) (k s1 : Int) , (24 - k).toNat = n → 0 ≤ k → k ≤ σ b 5 → s1 + smR (lwF (σ (b + 4)) (σ (b + 1)) (σ (b + 2)) (σ (b + 3)) a1 a2) k (σ b 5) = (hvS (σ (b + 4)) (σ (b + 5)) a1 a2 + smR (lwF (σ (b + 4)) (σ (b + 1)) (σ (b + 2)) (σ (b + 3)) a1 a2) 0 (σ b 5)) → At x v A Q 6 10 [(4, vI k), (3, vI s1), (0, .ref (vq v b)), (1, vI a1), (2, vI a2)] [] σ := by
    intro n
    induction n using Nat.strongRecOn with
    | _ n ih =>
      intro k s1 hn i1 i2 i3
      refine a_iload C dX4_lowOf_10 0 rfl ?_
      refine a_aload_n C dX4_lowOf_12 2 rfl rfl ?_
      refine a_geti C hS.f0 hS.n0 (Cn := RX4) (T := TX4) (N := 7) rfl iX4 5 (by decide) k28 5 (by decide) rfl dX4_lowOf_13 (fun z13 e13 r13 => ?_)
      refine a_icmp_ge C 73 (by omega) r13 dX4_lowOf_16 (by decide) (fun c16 => ?_) (fun c16 => ?_)
      · skip
        refine a_iload_n C dX4_lowOf_73 1 rfl rfl ?_
        have qs : s1 = (hvS (σ (b + 4)) (σ (b + 5)) a1 a2 + smR (lwF (σ (b + 4)) (σ (b + 1)) (σ (b + 2)) (σ (b + 3)) a1 a2) 0 (σ b 5)) := by rw [← i3, smR_nil (by omega), Int.add_zero]
        exact hret _ _ _ _ dX4_lowOf_74 (by omega) ⟨qs, rfl⟩
      · skip
        refine a_aload_n C dX4_lowOf_19 2 rfl rfl ?_
        refine a_iload C dX4_lowOf_20 0 rfl ?_
        refine a_iload_n C dX4_lowOf_22 3 rfl rfl ?_
        refine a_iload_n C dX4_lowOf_23 4 rfl rfl ?_
        refine a_cVI C (k0 := 3) (As := [vI k, vI a1, vI a2]) (rest := []) (c_X4_askedOf x.2.1 v σ b hS k a1 a2 (by omega) h1 h2 hW) gX4_lowOf_X4_askedOf rfl (by decide +kernel) (by decide) hS.f0 rfl hS.n0 rfl rfl (Nat.le_of_ble_eq_true rfl) dX4_lowOf_24 (fun z24 u24 r24 p24 => ?_)
        obtain ⟨e24, p24⟩ := p24
        subst u24
        have q24 := ltC_bd (σ (b + 4)) (max (foF (σ (b + 1)) k) a1) (min (σ (b + 1) k) a2)
        refine a_istore C [(5, vI z24), (4, vI k), (3, vI s1), (0, .ref (vq v b)), (1, vI a1), (2, vI a2)] dX4_lowOf_27 (by decide) rfl ?_
        refine a_iload C dX4_lowOf_29 0 rfl ?_
        refine a_if_le C 67 r24 dX4_lowOf_31 (by decide) (fun c31 => ?_) (fun c31 => ?_)
        · skip
          refine a_iinc C (k + 1) [(4, vI (k + 1)), (5, vI z24), (3, vI s1), (0, .ref (vq v b)), (1, vI a1), (2, vI a2)] dX4_lowOf_67 1 rfl (by omega) (by decide) rfl ?_
          refine a_goto C 10 dX4_lowOf_70 (by decide) ?_
          refine a_sub [0, 2, 3, 4, 5] [(4, vI (k + 1)), (3, vI s1), (0, .ref (vq v b)), (1, vI a1), (2, vI a2)] rfl ?_
          have qk : lwF (σ (b + 4)) (σ (b + 1)) (σ (b + 2)) (σ (b + 3)) a1 a2 k = 0 := by unfold lwF askF; (first | rw [if_pos (by omega)] | rw [if_neg (by omega)]); (first | done | omega)
          exact ih _ (by omega) _ _ rfl (by omega) (by omega) (by rw [smR_step (by omega), qk] at i3; omega)
        · skip
          refine a_iload C dX4_lowOf_34 0 rfl ?_
          refine a_aload_n C dX4_lowOf_36 3 rfl rfl ?_
          refine a_iload C dX4_lowOf_37 1 rfl ?_
          refine a_cVI C (k0 := 1) (As := [vI k]) (rest := [vI z24]) (c_X4_longOf x.2.1 v σ b hS k (by omega) hW) gX4_lowOf_X4_longOf rfl (by decide +kernel) (by decide) hS.f0 rfl hS.n0 rfl rfl (Nat.le_of_ble_eq_true rfl) dX4_lowOf_39 (fun z39 u39 r39 p39 => ?_)
          obtain ⟨e39, p39⟩ := p39
          subst u39
          refine a_icmp_ne C 67 r24 r39 dX4_lowOf_42 (by decide) (fun c42 => ?_) (fun c42 => ?_)
          · skip
            refine a_iinc C (k + 1) [(4, vI (k + 1)), (5, vI z24), (3, vI s1), (0, .ref (vq v b)), (1, vI a1), (2, vI a2)] dX4_lowOf_67 1 rfl (by omega) (by decide) rfl ?_
            refine a_goto C 10 dX4_lowOf_70 (by decide) ?_
            refine a_sub [0, 2, 3, 4, 5] [(4, vI (k + 1)), (3, vI s1), (0, .ref (vq v b)), (1, vI a1), (2, vI a2)] rfl ?_
            have qk : lwF (σ (b + 4)) (σ (b + 1)) (σ (b + 2)) (σ (b + 3)) a1 a2 k = 0 := by unfold lwF askF; (first | rw [if_pos (by omega)] | rw [if_neg (by omega)]); (first | done | omega)
            exact ih _ (by omega) _ _ rfl (by omega) (by omega) (by rw [smR_step (by omega), qk] at i3; omega)
          · skip
            refine a_iload_n C dX4_lowOf_45 2 rfl rfl ?_
            refine a_iconst C dX4_lowOf_46 ?_
            refine a_aload_n C dX4_lowOf_47 3 rfl rfl ?_
            refine a_getf C hS.f0 hS.n0 (Cn := RX4) (T := TX4) (N := 7) rfl iX4 1 (by decide) k15 (w := .ref (vq v (b + 2))) rfl dX4_lowOf_48 ?_
            refine a_iload C dX4_lowOf_51 1 rfl ?_
            refine a_iald C hS.f2 hS.n2 0 hS.tI (by omega) (by omega) (by decide) dX4_lowOf_53 (fun z53 e53 r53 => ?_)
            have q53 := hB.1 k (by omega) (by omega)
            rw [← e53] at q53
            refine a_aload_n C dX4_lowOf_54 3 rfl rfl ?_
            refine a_getf C hS.f0 hS.n0 (Cn := RX4) (T := TX4) (N := 7) rfl iX4 2 (by decide) k18 (w := .ref (vq v (b + 3))) rfl dX4_lowOf_55 ?_
            refine a_iload C dX4_lowOf_58 1 rfl ?_
            refine a_iald C hS.f3 hS.n3 0 hS.tI (by omega) (by omega) (by decide) dX4_lowOf_60 (fun z60 e60 r60 => ?_)
            have q60 := hB.2.1 k (by omega) (by omega)
            rw [← e60] at q60
            refine a_isub C dX4_lowOf_61 ?_
            refine a_mmax C (by decide) (by omega) (by decide +kernel) ⟨by decide, Nat.le_of_ble_eq_true rfl⟩ dX4_lowOf_62 ?_
            obtain ⟨z62, e62⟩ : ∃ w : Int, w = max 0 (z53 - z60) := ⟨_, rfl⟩
            rw [← e62]
            refine a_iadd C dX4_lowOf_65 ?_
            refine a_istore_n C 3 [(3, vI (s1 + z62)), (5, vI z24), (4, vI k), (0, .ref (vq v b)), (1, vI a1), (2, vI a2)] dX4_lowOf_66 rfl (by decide) rfl ?_
            refine a_iinc C (k + 1) [(4, vI (k + 1)), (3, vI (s1 + z62)), (5, vI z24), (0, .ref (vq v b)), (1, vI a1), (2, vI a2)] dX4_lowOf_67 2 rfl (by omega) (by decide) rfl ?_
            refine a_goto C 10 dX4_lowOf_70 (by decide) ?_
            refine a_sub [0, 1, 3, 4, 5] [(4, vI (k + 1)), (3, vI (s1 + z62)), (0, .ref (vq v b)), (1, vI a1), (2, vI a2)] rfl ?_
            have qk : lwF (σ (b + 4)) (σ (b + 1)) (σ (b + 2)) (σ (b + 3)) a1 a2 k = z62 := by unfold lwF askF; (first | rw [if_pos (by omega)] | rw [if_neg (by omega)]); (first | done | omega)
            exact ih _ (by omega) _ _ rfl (by omega) (by omega) (by rw [smR_step (by omega), qk] at i3; omega)
  refine a_aload_n C dX4_lowOf_0 0 rfl rfl ?_
  refine a_iload_n C dX4_lowOf_1 1 rfl rfl ?_
  refine a_iload_n C dX4_lowOf_2 2 rfl rfl ?_
  refine a_cVI C (k0 := 2) (As := [vI a1, vI a2]) (rest := []) (c_X4_heavyBetween x.2.1 v σ b hS a1 a2 h1 h2 (by omega)) gX4_lowOf_X4_heavyBetween rfl (by decide +kernel) (by decide) hS.f0 rfl hS.n0 rfl rfl (Nat.le_of_ble_eq_true rfl) dX4_lowOf_3 (fun z3 u3 r3 p3 => ?_)
  obtain ⟨e3, p3⟩ := p3
  subst u3
  refine a_istore_n C 3 [(3, vI z3), (0, .ref (vq v b)), (1, vI a1), (2, vI a2)] dX4_lowOf_6 rfl (by decide) rfl ?_
  refine a_iconst C dX4_lowOf_7 ?_
  refine a_istore C [(4, vI 0), (3, vI z3), (0, .ref (vq v b)), (1, vI a1), (2, vI a2)] dX4_lowOf_8 (by decide) rfl ?_
  exact lp _ 0 _ rfl (by omega) (by omega) (by rw [e3])
set_option maxHeartbeats 4000000 in
set_option maxRecDepth 100000 in
theorem c_X4_highOf (l : Launch) (v : VC) (σ : Mem) (b : Nat) (hS : shSk v b) (a1 a2 : Int) (h1 : rg a1) (h2 : rg a2) (hW : skW σ b) (hB : skB σ b) : CtI l yX4_highOf wsX4_highOf 3 70 v [.ref (vq v b), vI a1, vI a2] σ (fun z u => z = (hvS (σ (b + 4)) (σ (b + 5)) a1 a2 + smR (hiF (σ (b + 4)) (σ (b + 1)) (σ (b + 2)) (σ (b + 3)) a1 a2) 0 (σ b 5)) ∧ u = σ) := by
  refine mkI (cc := cX4_highOf) (n := 5) (by decide +kernel) rfl (Nat.le_of_ble_eq_true rfl) (fun x A Q hx C hret => ?_)
  subst hx
  show At x v A Q _ 0 [(0, .ref (vq v b)), (1, vI a1), (2, vI a2)] [] σ
  have iX4 : ∀ w ∈ wsX40, w ∈ wsX4_highOf := by decide +kernel
  have k28 : Cond.fieldLink RX4 28 (TX4 5).1 (TX4 5).2.1 (TX4 5).2.2.1 ∈ wsX4_highOf := by decide +kernel
  have k15 : Cond.fieldLink RX4 15 (TX4 1).1 (TX4 1).2.1 (TX4 1).2.2.1 ∈ wsX4_highOf := by decide +kernel
  have k18 : Cond.fieldLink RX4 18 (TX4 2).1 (TX4 2).2.1 (TX4 2).2.2.1 ∈ wsX4_highOf := by decide +kernel
  have hw1 := hW.1
  have hw2 := hW.2.1
  have h3 := hvS_bd (h := σ (b + 4)) (M := 5000000) (by decide) hB.2.2 a1 a2
  have h4 := smR_bd (f := (hiF (σ (b + 4)) (σ (b + 1)) (σ (b + 2)) (σ (b + 3)) a1 a2)) (a := 0) (b := σ b 5) (lo := 0) (hi := 21000000) (fun k q1 q2 => by have := hB.1 k q1 q2; have := hB.2.1 k q1 q2; unfold hiF; split <;> omega) hw1
  have lp : ∀ (n : Nat) (k s1 : Int) , (24 - k).toNat = n → 0 ≤ k → k ≤ σ b 5 → s1 + smR (hiF (σ (b + 4)) (σ (b + 1)) (σ (b + 2)) (σ (b + 3)) a1 a2) k (σ b 5) = (hvS (σ (b + 4)) (σ (b + 5)) a1 a2 + smR (hiF (σ (b + 4)) (σ (b + 1)) (σ (b + 2)) (σ (b + 3)) a1 a2) 0 (σ b 5)) → At x v A Q 5 10 [(4, vI k), (3, vI s1), (0, .ref (vq v b)), (1, vI a1), (2, vI a2)] [] σ := by
    intro n
    induction n using Nat.strongRecOn with
    | _ n ih =>
      intro k s1 hn i1 i2 i3
      refine a_iload C dX4_highOf_10 0 rfl ?_
      refine a_aload_n C dX4_highOf_12 2 rfl rfl ?_
      refine a_geti C hS.f0 hS.n0 (Cn := RX4) (T := TX4) (N := 7) rfl iX4 5 (by decide) k28 5 (by decide) rfl dX4_highOf_13 (fun z13 e13 r13 => ?_)
      refine a_icmp_ge C 58 (by omega) r13 dX4_highOf_16 (by decide) (fun c16 => ?_) (fun c16 => ?_)
      · skip
        refine a_iload_n C dX4_highOf_58 1 rfl rfl ?_
        have qs : s1 = (hvS (σ (b + 4)) (σ (b + 5)) a1 a2 + smR (hiF (σ (b + 4)) (σ (b + 1)) (σ (b + 2)) (σ (b + 3)) a1 a2) 0 (σ b 5)) := by rw [← i3, smR_nil (by omega), Int.add_zero]
        exact hret _ _ _ _ dX4_highOf_59 (by omega) ⟨qs, rfl⟩
      · skip
        refine a_aload_n C dX4_highOf_19 2 rfl rfl ?_
        refine a_iload C dX4_highOf_20 0 rfl ?_
        refine a_iload_n C dX4_highOf_22 3 rfl rfl ?_
        refine a_iload_n C dX4_highOf_23 4 rfl rfl ?_
        refine a_cVI C (k0 := 3) (As := [vI k, vI a1, vI a2]) (rest := []) (c_X4_askedOf x.2.1 v σ b hS k a1 a2 (by omega) h1 h2 hW) gX4_highOf_X4_askedOf rfl (by decide +kernel) (by decide) hS.f0 rfl hS.n0 rfl rfl (Nat.le_of_ble_eq_true rfl) dX4_highOf_24 (fun z24 u24 r24 p24 => ?_)
        obtain ⟨e24, p24⟩ := p24
        subst u24
        have q24 := ltC_bd (σ (b + 4)) (max (foF (σ (b + 1)) k) a1) (min (σ (b + 1) k) a2)
        refine a_if_le C 52 r24 dX4_highOf_27 (by decide) (fun c27 => ?_) (fun c27 => ?_)
        · skip
          refine a_iinc C (k + 1) [(4, vI (k + 1)), (3, vI s1), (0, .ref (vq v b)), (1, vI a1), (2, vI a2)] dX4_highOf_52 0 rfl (by omega) (by decide) rfl ?_
          refine a_goto C 10 dX4_highOf_55 (by decide) ?_
          have qk : hiF (σ (b + 4)) (σ (b + 1)) (σ (b + 2)) (σ (b + 3)) a1 a2 k = 0 := by unfold hiF askF; (first | rw [if_pos (by omega)] | rw [if_neg (by omega)]); (first | done | omega)
          exact ih _ (by omega) _ _ rfl (by omega) (by omega) (by rw [smR_step (by omega), qk] at i3; omega)
        · skip
          refine a_iload_n C dX4_highOf_30 1 rfl rfl ?_
          refine a_iconst C dX4_highOf_31 ?_
          refine a_aload_n C dX4_highOf_32 2 rfl rfl ?_
          refine a_getf C hS.f0 hS.n0 (Cn := RX4) (T := TX4) (N := 7) rfl iX4 1 (by decide) k15 (w := .ref (vq v (b + 2))) rfl dX4_highOf_33 ?_
          refine a_iload C dX4_highOf_36 0 rfl ?_
          refine a_iald C hS.f2 hS.n2 0 hS.tI (by omega) (by omega) (by decide) dX4_highOf_38 (fun z38 e38 r38 => ?_)
          have q38 := hB.1 k (by omega) (by omega)
          rw [← e38] at q38
          refine a_aload_n C dX4_highOf_39 2 rfl rfl ?_
          refine a_getf C hS.f0 hS.n0 (Cn := RX4) (T := TX4) (N := 7) rfl iX4 2 (by decide) k18 (w := .ref (vq v (b + 3))) rfl dX4_highOf_40 ?_
          refine a_iload C dX4_highOf_43 0 rfl ?_
          refine a_iald C hS.f3 hS.n3 0 hS.tI (by omega) (by omega) (by decide) dX4_highOf_45 (fun z45 e45 r45 => ?_)
          have q45 := hB.2.1 k (by omega) (by omega)
          rw [← e45] at q45
          refine a_iadd C dX4_highOf_46 ?_
          refine a_mmax C (by decide) (by omega) (by decide +kernel) ⟨by decide, Nat.le_of_ble_eq_true rfl⟩ dX4_highOf_47 ?_
          obtain ⟨z47, e47⟩ : ∃ w : Int, w = max 0 (z38 + z45) := ⟨_, rfl⟩
          rw [← e47]
          refine a_iadd C dX4_highOf_50 ?_
          refine a_istore_n C 3 [(3, vI (s1 + z47)), (4, vI k), (0, .ref (vq v b)), (1, vI a1), (2, vI a2)] dX4_highOf_51 rfl (by decide) rfl ?_
          refine a_iinc C (k + 1) [(4, vI (k + 1)), (3, vI (s1 + z47)), (0, .ref (vq v b)), (1, vI a1), (2, vI a2)] dX4_highOf_52 1 rfl (by omega) (by decide) rfl ?_
          refine a_goto C 10 dX4_highOf_55 (by decide) ?_
          have qk : hiF (σ (b + 4)) (σ (b + 1)) (σ (b + 2)) (σ (b + 3)) a1 a2 k = z47 := by unfold hiF askF; (first | rw [if_pos (by omega)] | rw [if_neg (by omega)]); (first | done | omega)
          exact ih _ (by omega) _ _ rfl (by omega) (by omega) (by rw [smR_step (by omega), qk] at i3; omega)
  refine a_aload_n C dX4_highOf_0 0 rfl rfl ?_
  refine a_iload_n C dX4_highOf_1 1 rfl rfl ?_
  refine a_iload_n C dX4_highOf_2 2 rfl rfl ?_
  refine a_cVI C (k0 := 2) (As := [vI a1, vI a2]) (rest := []) (c_X4_heavyBetween x.2.1 v σ b hS a1 a2 h1 h2 (by omega)) gX4_highOf_X4_heavyBetween rfl (by decide +kernel) (by decide) hS.f0 rfl hS.n0 rfl rfl (Nat.le_of_ble_eq_true rfl) dX4_highOf_3 (fun z3 u3 r3 p3 => ?_)
  obtain ⟨e3, p3⟩ := p3
  subst u3
  refine a_istore_n C 3 [(3, vI z3), (0, .ref (vq v b)), (1, vI a1), (2, vI a2)] dX4_highOf_6 rfl (by decide) rfl ?_
  refine a_iconst C dX4_highOf_7 ?_
  refine a_istore C [(4, vI 0), (3, vI z3), (0, .ref (vq v b)), (1, vI a1), (2, vI a2)] dX4_highOf_8 (by decide) rfl ?_
  exact lp _ 0 _ rfl (by omega) (by omega) (by rw [e3])
set_option maxHeartbeats 4000000 in
set_option maxRecDepth 100000 in
theorem c_X4_shareTop (l : Launch) (v : VC) (σ : Mem) (b : Nat) (hS : shSk v b) (a1 : Int) (ha : 0 ≤ a1 ∧ a1 < 40) (hW : skW σ b ∧ 0 < σ b 5) : CtL l yX4_shareTop wsX4_shareTop 1 22 v [.ref (vq v b), vI a1] σ (fun z u => z = (if σ (b + 4) a1 = 0 then σ (b + 2) (spOf (σ (b + 1)) (σ b 5) a1) else σ (b + 5) a1) ∧ u = σ) := by
  refine mkL (cc := cX4_shareTop) (n := 2) (by decide +kernel) rfl (Nat.le_of_ble_eq_true rfl) (fun x A Q hx C hret => ?_)
  subst hx
  show At x v A Q _ 0 [(0, .ref (vq v b)), (1, vI a1)] [] σ
  have iX4 : ∀ w ∈ wsX40, w ∈ wsX4_shareTop := by decide +kernel
  have k21 : Cond.fieldLink RX4 21 (TX4 3).1 (TX4 3).2.1 (TX4 3).2.2.1 ∈ wsX4_shareTop := by decide +kernel
  have k15 : Cond.fieldLink RX4 15 (TX4 1).1 (TX4 1).2.1 (TX4 1).2.2.1 ∈ wsX4_shareTop := by decide +kernel
  have k25 : Cond.fieldLink RX4 25 (TX4 4).1 (TX4 4).2.1 (TX4 4).2.2.1 ∈ wsX4_shareTop := by decide +kernel
  have hw1 := hW.1.1
  have hw2 := hW.1.2.1
  have hw3 := hW.2
  have hb := spOf_bd (σ (b + 1)) (σ b 5) a1
  refine a_aload_n C dX4_shareTop_0 0 rfl rfl ?_
  refine a_getf C hS.f0 hS.n0 (Cn := RX4) (T := TX4) (N := 7) rfl iX4 3 (by decide) k21 (w := .ref (vq v (b + 4))) rfl dX4_shareTop_1 ?_
  refine a_iload_n C dX4_shareTop_4 1 rfl rfl ?_
  refine a_zald C hS.f4 hS.n4 2 hS.tB (by omega) (by omega) (by decide) dX4_shareTop_5 (fun z5 e5 r5 => ?_)
  refine a_if_eq C 19 r5 dX4_shareTop_6 (by decide) (fun c6 => ?_) (fun c6 => ?_)
  · skip
    refine a_aload_n C dX4_shareTop_19 0 rfl rfl ?_
    refine a_getf C hS.f0 hS.n0 (Cn := RX4) (T := TX4) (N := 7) rfl iX4 1 (by decide) k15 (w := .ref (vq v (b + 2))) rfl dX4_shareTop_20 ?_
    refine a_aload_n C dX4_shareTop_23 0 rfl rfl ?_
    refine a_iload_n C dX4_shareTop_24 1 rfl rfl ?_
    refine a_cVI C (k0 := 1) (As := [vI a1]) (rest := [.ref (vq v (b + 2))]) (c_X4_spanOf x.2.1 v σ b hS a1 (by omega) (by omega)) gX4_shareTop_X4_spanOf rfl (by decide +kernel) (by decide) hS.f0 rfl hS.n0 rfl rfl (Nat.le_of_ble_eq_true rfl) dX4_shareTop_25 (fun z25 u25 r25 p25 => ?_)
    obtain ⟨e25, p25⟩ := p25
    subst u25
    refine a_iald C hS.f2 hS.n2 0 hS.tI (by omega) (by omega) (by decide) dX4_shareTop_28 (fun z28 e28 r28 => ?_)
    refine a_i2l C r28 dX4_shareTop_29 ?_
    exact hret _ _ _ _ dX4_shareTop_30 (by omega) ⟨by (first | rw [if_pos (by omega), e28, e25] | rw [if_neg (by omega), e14]), rfl⟩
  · skip
    refine a_aload_n C dX4_shareTop_9 0 rfl rfl ?_
    refine a_getf C hS.f0 hS.n0 (Cn := RX4) (T := TX4) (N := 7) rfl iX4 4 (by decide) k25 (w := .ref (vq v (b + 5))) rfl dX4_shareTop_10 ?_
    refine a_iload_n C dX4_shareTop_13 1 rfl rfl ?_
    refine a_iald C hS.f5 hS.n5 0 hS.tI (by omega) (by omega) (by decide) dX4_shareTop_14 (fun z14 e14 r14 => ?_)
    refine a_i2l C r14 dX4_shareTop_15 ?_
    refine a_goto C 30 dX4_shareTop_16 (by decide) ?_
    exact hret _ _ _ _ dX4_shareTop_30 (by omega) ⟨by (first | rw [if_pos (by omega), e28, e25] | rw [if_neg (by omega), e14]), rfl⟩
set_option maxHeartbeats 4000000 in
set_option maxRecDepth 100000 in
theorem c_X4_shareBottom (l : Launch) (v : VC) (σ : Mem) (b : Nat) (hS : shSk v b) (a1 : Int) (ha : 0 ≤ a1 ∧ a1 < 40) (hW : skW σ b ∧ 0 < σ b 5) : CtL l yX4_shareBottom wsX4_shareBottom 3 68 v [.ref (vq v b), vI a1] σ (fun z u => z = (if σ (b + 4) a1 = 0 then loN (σ (b + 4)) (σ (b + 1)) (spOf (σ (b + 1)) (σ b 5) a1) else 1) ∧ u = σ) := by
  refine mkL (cc := cX4_shareBottom) (n := 2) (by decide +kernel) rfl (Nat.le_of_ble_eq_true rfl) (fun x A Q hx C hret => ?_)
  subst hx
  show At x v A Q _ 0 [(0, .ref (vq v b)), (1, vI a1)] [] σ
  have iX4 : ∀ w ∈ wsX40, w ∈ wsX4_shareBottom := by decide +kernel
  have k21 : Cond.fieldLink RX4 21 (TX4 3).1 (TX4 3).2.1 (TX4 3).2.2.1 ∈ wsX4_shareBottom := by decide +kernel
  have hw1 := hW.1.1
  have hw2 := hW.1.2.1
  have hw3 := hW.2
  have hb := spOf_bd (σ (b + 1)) (σ b 5) a1
  refine a_aload_n C dX4_shareBottom_0 0 rfl rfl ?_
  refine a_getf C hS.f0 hS.n0 (Cn := RX4) (T := TX4) (N := 7) rfl iX4 3 (by decide) k21 (w := .ref (vq v (b + 4))) rfl dX4_shareBottom_1 ?_
  refine a_iload_n C dX4_shareBottom_4 1 rfl rfl ?_
  refine a_zald C hS.f4 hS.n4 2 hS.tB (by omega) (by omega) (by decide) dX4_shareBottom_5 (fun z5 e5 r5 => ?_)
  refine a_if_eq C 13 r5 dX4_shareBottom_6 (by decide) (fun c6 => ?_) (fun c6 => ?_)
  · skip
    refine a_aload_n C dX4_shareBottom_13 0 rfl rfl ?_
    refine a_aload_n C dX4_shareBottom_14 0 rfl rfl ?_
    refine a_iload_n C dX4_shareBottom_15 1 rfl rfl ?_
    refine a_cVI C (k0 := 1) (As := [vI a1]) (rest := [.ref (vq v b)]) (c_X4_spanOf x.2.1 v σ b hS a1 (by omega) (by omega)) gX4_shareBottom_X4_spanOf rfl (by decide +kernel) (by decide) hS.f0 rfl hS.n0 rfl rfl (Nat.le_of_ble_eq_true rfl) dX4_shareBottom_16 (fun z16 u16 r16 p16 => ?_)
    obtain ⟨e16, p16⟩ := p16
    subst u16
    refine a_cVI C (k0 := 1) (As := [vI z16]) (rest := []) (c_X4_longOf x.2.1 v σ b hS z16 (by omega) hW.1) gX4_shareBottom_X4_longOf rfl (by decide +kernel) (by decide) hS.f0 rfl hS.n0 rfl rfl (Nat.le_of_ble_eq_true rfl) dX4_shareBottom_19 (fun z19 u19 r19 p19 => ?_)
    obtain ⟨e19, p19⟩ := p19
    subst u19
    refine a_i2l C r19 dX4_shareBottom_22 ?_
    exact hret _ _ _ _ dX4_shareBottom_23 (by omega) ⟨by (first | rw [if_pos (by omega), e19, e16] | rw [if_neg (by omega)]), rfl⟩
  · skip
    refine a_lconst C 1 dX4_shareBottom_9 rfl ?_
    refine a_goto C 23 dX4_shareBottom_10 (by decide) ?_
    exact hret _ _ _ _ dX4_shareBottom_23 (by omega) ⟨by (first | rw [if_pos (by omega), e19, e16] | rw [if_neg (by omega)]), rfl⟩
set_option maxHeartbeats 4000000 in
set_option maxRecDepth 100000 in
theorem c_X4_shift (l : Launch) (v : VC) (σ : Mem) (b : Nat) (hS : shSk v b) (val m : Int) (hv : 0 ≤ val ∧ val < 40) (hm : -1000 ≤ m ∧ m ≤ 1000) (hdr : 0 ≤ σ b 6 ∧ σ b 6 ≤ 1000000) (hW : skW σ b) (hB : skB σ b) : CtV l yX4_shift wsX4_shift 1 23 v [.ref (vq v b), vI val, vI m] σ (fun u => u = shM σ b val m) := by
  refine mkV (cc := cX4_shift) (n := 3) (by decide +kernel) rfl (Nat.le_of_ble_eq_true rfl) (fun x A Q hx C hret => ?_)
  subst hx
  show At x v A Q _ 0 [(0, .ref (vq v b)), (1, vI val), (2, vI m)] [] σ
  have iX4 : ∀ w ∈ wsX40, w ∈ wsX4_shift := by decide +kernel
  have k36 : Cond.fieldLink RX4 36 (TX4 6).1 (TX4 6).2.1 (TX4 6).2.2.1 ∈ wsX4_shift := by decide +kernel
  have k21 : Cond.fieldLink RX4 21 (TX4 3).1 (TX4 3).2.1 (TX4 3).2.2.1 ∈ wsX4_shift := by decide +kernel
  have k15 : Cond.fieldLink RX4 15 (TX4 1).1 (TX4 1).2.1 (TX4 1).2.2.1 ∈ wsX4_shift := by decide +kernel
  have k25 : Cond.fieldLink RX4 25 (TX4 4).1 (TX4 4).2.1 (TX4 4).2.2.1 ∈ wsX4_shift := by decide +kernel
  have hw1 := hW.1
  have hw2 := hW.2.1
  have hb := spOf_bd (σ (b + 1)) (σ b 5) val
  refine a_aload_n C dX4_shift_0 0 rfl rfl ?_
  refine a_cVI C (k0 := 0) (As := []) (rest := []) (c_X4_isThere x.2.1 v σ b hS ) gX4_shift_X4_isThere rfl (by decide +kernel) (by decide) hS.f0 rfl hS.n0 rfl rfl (Nat.le_of_ble_eq_true rfl) dX4_shift_1 (fun z1 u1 r1 p1 => ?_)
  obtain ⟨e1, p1⟩ := p1
  subst u1
  refine a_if_ne C 8 r1 dX4_shift_4 (by decide) (fun c4 => ?_) (fun c4 => ?_)
  · skip
    refine a_aload_n C dX4_shift_8 0 rfl rfl ?_
    refine a_dup C dX4_shift_9 rfl ?_
    refine a_geti C hS.f0 hS.n0 (Cn := RX4) (T := TX4) (N := 7) rfl iX4 6 (by decide) k36 6 (by decide) rfl dX4_shift_10 (fun z10 e10 r10 => ?_)
    refine a_iload_n C dX4_shift_13 2 rfl rfl ?_
    refine a_mabs C (by omega) (by decide +kernel) ⟨by decide, Nat.le_of_ble_eq_true rfl⟩ dX4_shift_14 ?_
    obtain ⟨z14, e14⟩ : ∃ w : Int, w = if 0 ≤ m then m else -m := ⟨_, rfl⟩
    rw [← e14]
    have q14 : 0 ≤ z14 ∧ z14 ≤ 1000 := by rw [e14]; split <;> omega
    refine a_iadd C dX4_shift_17 ?_
    refine a_puti C hS.f0 hS.n0 (Cn := RX4) (T := TX4) (N := 7) rfl iX4 tyX4_ok nmX4 6 (by decide) k36 rfl rfl 6 (by omega) (fun _ => Nat.le_of_ble_eq_true rfl) (fun _ => rfl) dX4_shift_18 ?_
    refine a_aload_n C dX4_shift_21 0 rfl rfl ?_
    refine a_getf C hS.f0 hS.n0 (Cn := RX4) (T := TX4) (N := 7) rfl iX4 3 (by decide) k21 (w := .ref (vq v (b + 4))) rfl dX4_shift_22 ?_
    refine a_iload_n C dX4_shift_25 1 rfl rfl ?_
    refine a_zald C hS.f4 hS.n4 2 hS.tB (by omega) (by omega) (by decide) dX4_shift_26 (fun z26 e26 r26 => ?_)
    try simp [sput_r, mset_n, sput, mset] at e26
    refine a_if_eq C 43 r26 dX4_shift_27 (by decide) (fun c27 => ?_) (fun c27 => ?_)
    · skip
      refine a_aload_n C dX4_shift_43 0 rfl rfl ?_
      refine a_getf C hS.f0 hS.n0 (Cn := RX4) (T := TX4) (N := 7) rfl iX4 1 (by decide) k15 (w := .ref (vq v (b + 2))) rfl dX4_shift_44 ?_
      refine a_aload_n C dX4_shift_47 0 rfl rfl ?_
      refine a_iload_n C dX4_shift_48 1 rfl rfl ?_
      refine a_cVI C (k0 := 1) (As := [vI val]) (rest := [.ref (vq v (b + 2))]) (c_X4_spanOf x.2.1 v (sput σ b 6 (z10 + z14)) b hS val (by omega) (by simp [sput]; omega)) gX4_shift_X4_spanOf rfl (by decide +kernel) (by decide) hS.f0 rfl hS.n0 rfl rfl (Nat.le_of_ble_eq_true rfl) dX4_shift_49 (fun z49 u49 r49 p49 => ?_)
      obtain ⟨e49, p49⟩ := p49
      subst u49
      try simp [sput_r, mset_n, sput, mset] at e49
      have q0 : 0 < σ b 5 := by rw [e1] at c4; split at c4 <;> omega
      refine a_dup2 C dX4_shift_52 rfl rfl ?_
      refine a_iald C hS.f2 hS.n2 0 hS.tI (by omega) (by omega) (by decide) dX4_shift_53 (fun z53 e53 r53 => ?_)
      try simp [sput_r, mset_n, sput, mset] at e53
      have q53 := hB.1 z49 (by omega) (by omega)
      refine a_iload_n C dX4_shift_54 2 rfl rfl ?_
      refine a_iadd C dX4_shift_55 ?_
      refine a_iast C hS.f2 hS.n2 0 hS.tI (by omega) (by omega) (by decide) (by omega) dX4_shift_56 ?_
      have q0 : 0 < σ b 5 := by rw [e1] at c4; split at c4 <;> omega
      exact hret _ _ _ dX4_shift_57 (by unfold shM; rw [if_pos q0, if_pos (by omega), e53, e49, e10, e14])
    · skip
      refine a_aload_n C dX4_shift_30 0 rfl rfl ?_
      refine a_getf C hS.f0 hS.n0 (Cn := RX4) (T := TX4) (N := 7) rfl iX4 4 (by decide) k25 (w := .ref (vq v (b + 5))) rfl dX4_shift_31 ?_
      refine a_iload_n C dX4_shift_34 1 rfl rfl ?_
      refine a_dup2 C dX4_shift_35 rfl rfl ?_
      refine a_iald C hS.f5 hS.n5 0 hS.tI (by omega) (by omega) (by decide) dX4_shift_36 (fun z36 e36 r36 => ?_)
      try simp [sput_r, mset_n, sput, mset] at e36
      have q36 := hB.2.2 val hv.1 hv.2
      refine a_iload_n C dX4_shift_37 2 rfl rfl ?_
      refine a_iadd C dX4_shift_38 ?_
      refine a_iast C hS.f5 hS.n5 0 hS.tI (by omega) (by omega) (by decide) (by omega) dX4_shift_39 ?_
      refine a_goto C 57 dX4_shift_40 (by decide) ?_
      have q0 : 0 < σ b 5 := by rw [e1] at c4; split at c4 <;> omega
      exact hret _ _ _ dX4_shift_57 (by unfold shM; rw [if_pos q0, if_neg (by omega), e36, e10, e14])
  · skip
    exact hret _ _ _ dX4_shift_7 (by unfold shM; rw [if_neg (by rw [e1] at c4; split at c4 <;> omega)])
