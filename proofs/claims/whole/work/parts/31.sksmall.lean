set_option maxHeartbeats 4000000 in
set_option maxRecDepth 100000 in
theorem c_X4_greatestLong (l : Launch) (v : VC) (σ : Mem) (b : Nat) (hS : shSk v b) (hW : skW σ b) : CtI l yX4_greatestLong wsX4_greatestLong 3 68 v [.ref (vq v b)] σ (fun z u => z = itrR (glF (σ (b + 4)) (σ (b + 1)) (σ (b + 2))) 0 (σ b 5) (-1) ∧ u = σ) := by
  refine mkI (cc := cX4_greatestLong) (n := 3) (by decide +kernel) rfl (Nat.le_of_ble_eq_true rfl) (fun x A Q hx C hret => ?_)
  subst hx
  show At x v A Q _ 0 [(0, .ref (vq v b))] [] σ
  have iX4 : ∀ w ∈ wsX40, w ∈ wsX4_greatestLong := by decide +kernel
  have k28 : Cond.fieldLink RX4 28 (TX4 5).1 (TX4 5).2.1 (TX4 5).2.2.1 ∈ wsX4_greatestLong := by decide +kernel
  have k15 : Cond.fieldLink RX4 15 (TX4 1).1 (TX4 1).2.1 (TX4 1).2.2.1 ∈ wsX4_greatestLong := by decide +kernel
  have hw1 := hW.1
  have hw2 := hW.2.1
  have lp : ∀ (n : Nat) (k at1 : Int) , (24 - k).toNat = n → 0 ≤ k → k ≤ σ b 5 → -1 ≤ at1 ∧ at1 < k → itrR (glF (σ (b + 4)) (σ (b + 1)) (σ (b + 2))) k (σ b 5) at1 = itrR (glF (σ (b + 4)) (σ (b + 1)) (σ (b + 2))) 0 (σ b 5) (-1) → At x v A Q 3 4 [(2, vI k), (1, vI at1), (0, .ref (vq v b))] [] σ := by
    intro n
    induction n using Nat.strongRecOn with
    | _ n ih =>
      intro k at1 hn i1 i2 i3 i4
      refine a_iload_n C dX4_greatestLong_4 0 rfl rfl ?_
      refine a_aload_n C dX4_greatestLong_5 2 rfl rfl ?_
      refine a_geti C hS.f0 hS.n0 (Cn := RX4) (T := TX4) (N := 7) rfl iX4 5 (by decide) k28 5 (by decide) rfl dX4_greatestLong_6 (fun z6 e6 r6 => ?_)
      refine a_icmp_ge C 49 (by omega) r6 dX4_greatestLong_9 (by decide) (fun c9 => ?_) (fun c9 => ?_)
      · skip
        refine a_iload_n C dX4_greatestLong_49 1 rfl rfl ?_
        exact hret _ _ _ _ dX4_greatestLong_50 (by omega) ⟨by rw [← i4, itrR_nil (by omega)], rfl⟩
      · skip
        refine a_aload_n C dX4_greatestLong_12 2 rfl rfl ?_
        refine a_iload_n C dX4_greatestLong_13 0 rfl rfl ?_
        refine a_cVI C (k0 := 1) (As := [vI k]) (rest := []) (c_X4_longOf x.2.1 v σ b hS k (by omega) hW) gX4_greatestLong_X4_longOf rfl (by decide +kernel) (by decide) hS.f0 rfl hS.n0 rfl rfl (Nat.le_of_ble_eq_true rfl) dX4_greatestLong_14 (fun z14 u14 r14 p14 => ?_)
        obtain ⟨e14, p14⟩ := p14
        subst u14
        refine a_iconst C dX4_greatestLong_17 ?_
        refine a_icmp_lt C 43 r14 (by decide) dX4_greatestLong_18 (by decide) (fun c18 => ?_) (fun c18 => ?_)
        · skip
          refine a_iinc C (k + 1) [(2, vI (k + 1)), (1, vI at1), (0, .ref (vq v b))] dX4_greatestLong_43 0 rfl (by omega) (by decide) rfl ?_
          refine a_goto C 4 dX4_greatestLong_46 (by decide) ?_
          exact ih _ (by omega) _ _ rfl (by omega) (by omega) (by omega) (by rw [← i4, itrR_step (a := k) (by omega)]; congr 1; unfold glF; (first | rw [if_pos (by omega)] | rw [if_neg (by omega)]))
        · skip
          refine a_iload_n C dX4_greatestLong_21 1 rfl rfl ?_
          refine a_iconst C dX4_greatestLong_22 ?_
          refine a_icmp_eq C 41 (by omega) (by decide) dX4_greatestLong_23 (by decide) (fun c23 => ?_) (fun c23 => ?_)
          · skip
            refine a_iload_n C dX4_greatestLong_41 0 rfl rfl ?_
            refine a_istore_n C 1 [(1, vI k), (2, vI k), (0, .ref (vq v b))] dX4_greatestLong_42 rfl (by decide) rfl ?_
            refine a_iinc C (k + 1) [(2, vI (k + 1)), (1, vI k), (0, .ref (vq v b))] dX4_greatestLong_43 1 rfl (by omega) (by decide) rfl ?_
            refine a_goto C 4 dX4_greatestLong_46 (by decide) ?_
            exact ih _ (by omega) _ _ rfl (by omega) (by omega) (by omega) (by rw [← i4, itrR_step (a := k) (by omega)]; congr 1; unfold glF; (first | rw [if_pos (by omega)] | rw [if_neg (by omega)]))
          · skip
            refine a_aload_n C dX4_greatestLong_26 2 rfl rfl ?_
            refine a_getf C hS.f0 hS.n0 (Cn := RX4) (T := TX4) (N := 7) rfl iX4 1 (by decide) k15 (w := .ref (vq v (b + 2))) rfl dX4_greatestLong_27 ?_
            refine a_iload_n C dX4_greatestLong_30 0 rfl rfl ?_
            refine a_iald C hS.f2 hS.n2 0 hS.tI (by omega) (by omega) (by decide) dX4_greatestLong_31 (fun z31 e31 r31 => ?_)
            refine a_aload_n C dX4_greatestLong_32 2 rfl rfl ?_
            refine a_getf C hS.f0 hS.n0 (Cn := RX4) (T := TX4) (N := 7) rfl iX4 1 (by decide) k15 (w := .ref (vq v (b + 2))) rfl dX4_greatestLong_33 ?_
            refine a_iload_n C dX4_greatestLong_36 1 rfl rfl ?_
            refine a_iald C hS.f2 hS.n2 0 hS.tI (by omega) (by omega) (by decide) dX4_greatestLong_37 (fun z37 e37 r37 => ?_)
            refine a_icmp_le C 43 r31 r37 dX4_greatestLong_38 (by decide) (fun c38 => ?_) (fun c38 => ?_)
            · skip
              refine a_iinc C (k + 1) [(2, vI (k + 1)), (1, vI at1), (0, .ref (vq v b))] dX4_greatestLong_43 0 rfl (by omega) (by decide) rfl ?_
              refine a_goto C 4 dX4_greatestLong_46 (by decide) ?_
              exact ih _ (by omega) _ _ rfl (by omega) (by omega) (by omega) (by rw [← i4, itrR_step (a := k) (by omega)]; congr 1; unfold glF; (first | rw [if_pos (by omega)] | rw [if_neg (by omega)]))
            · skip
              refine a_iload_n C dX4_greatestLong_41 0 rfl rfl ?_
              refine a_istore_n C 1 [(1, vI k), (2, vI k), (0, .ref (vq v b))] dX4_greatestLong_42 rfl (by decide) rfl ?_
              refine a_iinc C (k + 1) [(2, vI (k + 1)), (1, vI k), (0, .ref (vq v b))] dX4_greatestLong_43 1 rfl (by omega) (by decide) rfl ?_
              refine a_goto C 4 dX4_greatestLong_46 (by decide) ?_
              exact ih _ (by omega) _ _ rfl (by omega) (by omega) (by omega) (by rw [← i4, itrR_step (a := k) (by omega)]; congr 1; unfold glF; (first | rw [if_pos (by omega)] | rw [if_neg (by omega)]))
  refine a_iconst C dX4_greatestLong_0 ?_
  refine a_istore_n C 1 [(1, vI (-1)), (0, .ref (vq v b))] dX4_greatestLong_1 rfl (by decide) rfl ?_
  refine a_iconst C dX4_greatestLong_2 ?_
  refine a_istore_n C 2 [(2, vI 0), (1, vI (-1)), (0, .ref (vq v b))] dX4_greatestLong_3 rfl (by decide) rfl ?_
  exact lp _ 0 (-1) rfl (by omega) (by omega) (by omega) rfl
set_option maxHeartbeats 4000000 in
set_option maxRecDepth 100000 in
theorem c_X4_leastPair (l : Launch) (v : VC) (σ : Mem) (b : Nat) (hS : shSk v b) (w : Int) (hw : rg w) (hW : skW σ b) (hB : skC σ b) : CtI l yX4_leastPair wsX4_leastPair 0 0 v [.ref (vq v b), vI w] σ (fun z u => z = itrR (lpF (σ (b + 2)) w) 0 (σ b 5 - 1) (-1) ∧ u = σ) := by
  refine mkI (cc := cX4_leastPair) (n := 6) (by decide +kernel) rfl (Nat.le_of_ble_eq_true rfl) (fun x A Q hx C hret => ?_)
  subst hx
  show At x v A Q _ 0 [(0, .ref (vq v b)), (1, vI w)] [] σ
  have iX4 : ∀ w ∈ wsX40, w ∈ wsX4_leastPair := by decide +kernel
  have k28 : Cond.fieldLink RX4 28 (TX4 5).1 (TX4 5).2.1 (TX4 5).2.2.1 ∈ wsX4_leastPair := by decide +kernel
  have k15 : Cond.fieldLink RX4 15 (TX4 1).1 (TX4 1).2.1 (TX4 1).2.2.1 ∈ wsX4_leastPair := by decide +kernel
  have hw1 := hW.1
  have hw2 := hW.2.1
  have lp : ∀ (n : Nat) (k least at1 : Int) , (24 - k).toNat = n → 0 ≤ k → k ≤ max (σ b 5 - 1) 0 → -1 ≤ at1 ∧ at1 < k ∧ rg least → (at1 ≠ -1 → least = σ (b + 2) at1 + σ (b + 2) (at1 + 1)) → itrR (lpF (σ (b + 2)) w) k (σ b 5 - 1) at1 = itrR (lpF (σ (b + 2)) w) 0 (σ b 5 - 1) (-1) → At x v A Q 6 7 [(4, vI k), (3, vI least), (2, vI at1), (0, .ref (vq v b)), (1, vI w)] [] σ := by
    intro n
    induction n using Nat.strongRecOn with
    | _ n ih =>
      intro k least at1 hn i1 i2 i3 i5 i4
      refine a_iload C dX4_leastPair_7 0 rfl ?_
      refine a_aload_n C dX4_leastPair_9 3 rfl rfl ?_
      refine a_geti C hS.f0 hS.n0 (Cn := RX4) (T := TX4) (N := 7) rfl iX4 5 (by decide) k28 5 (by decide) rfl dX4_leastPair_10 (fun z10 e10 r10 => ?_)
      refine a_iconst C dX4_leastPair_13 ?_
      refine a_isub C dX4_leastPair_14 ?_
      refine a_icmp_ge C 74 (by omega) (by omega) dX4_leastPair_15 (by decide) (fun c15 => ?_) (fun c15 => ?_)
      · skip
        refine a_iload_n C dX4_leastPair_74 2 rfl rfl ?_
        exact hret _ _ _ _ dX4_leastPair_75 (by omega) ⟨by rw [← i4, itrR_nil (by omega)], rfl⟩
      · skip
        refine a_aload_n C dX4_leastPair_18 3 rfl rfl ?_
        refine a_getf C hS.f0 hS.n0 (Cn := RX4) (T := TX4) (N := 7) rfl iX4 1 (by decide) k15 (w := .ref (vq v (b + 2))) rfl dX4_leastPair_19 ?_
        refine a_iload C dX4_leastPair_22 0 rfl ?_
        refine a_iald C hS.f2 hS.n2 0 hS.tI (by omega) (by omega) (by decide) dX4_leastPair_24 (fun z24 e24 r24 => ?_)
        have q24 := hB.1 k (by omega) (by omega)
        rw [← e24] at q24
        refine a_aload_n C dX4_leastPair_25 3 rfl rfl ?_
        refine a_getf C hS.f0 hS.n0 (Cn := RX4) (T := TX4) (N := 7) rfl iX4 1 (by decide) k15 (w := .ref (vq v (b + 2))) rfl dX4_leastPair_26 ?_
        refine a_iload C dX4_leastPair_29 0 rfl ?_
        refine a_iconst C dX4_leastPair_31 ?_
        refine a_iadd C dX4_leastPair_32 ?_
        refine a_iald C hS.f2 hS.n2 0 hS.tI (by omega) (by omega) (by decide) dX4_leastPair_33 (fun z33 e33 r33 => ?_)
        have q33 := hB.1 (k + 1) (by omega) (by omega)
        rw [← e33] at q33
        refine a_iadd C dX4_leastPair_34 ?_
        refine a_istore C [(5, vI (z24 + z33)), (4, vI k), (3, vI least), (2, vI at1), (0, .ref (vq v b)), (1, vI w)] dX4_leastPair_35 (by decide) rfl ?_
        refine a_iload C dX4_leastPair_37 1 rfl ?_
        refine a_iload_n C dX4_leastPair_39 5 rfl rfl ?_
        refine a_icmp_eq C 68 (by omega) (by omega) dX4_leastPair_40 (by decide) (fun c40 => ?_) (fun c40 => ?_)
        · skip
          refine a_iinc C (k + 1) [(4, vI (k + 1)), (5, vI (z24 + z33)), (3, vI least), (2, vI at1), (0, .ref (vq v b)), (1, vI w)] dX4_leastPair_68 1 rfl (by omega) (by decide) rfl ?_
          refine a_goto C 7 dX4_leastPair_71 (by decide) ?_
          refine a_sub [0, 2, 3, 4, 5] [(4, vI (k + 1)), (3, vI least), (2, vI at1), (0, .ref (vq v b)), (1, vI w)] rfl ?_
          exact ih _ (by omega) _ _ _ rfl (by omega) (by omega) (by omega) (by intro hq; (first | omega | (have := i5 (by omega); omega))) (by rw [← i4, itrR_step (a := k) (by omega)]; congr 1; unfold lpF; (first | rw [if_pos (by omega)] | (rw [if_neg (by omega)]; (first | rw [if_pos (by (first | omega | (have := i5 (by omega); omega)))] | rw [if_neg (by (have := i5 (by omega); omega))]))))
        · skip
          refine a_iload C dX4_leastPair_43 1 rfl ?_
          refine a_iconst C dX4_leastPair_45 ?_
          refine a_iadd C dX4_leastPair_46 ?_
          refine a_iload_n C dX4_leastPair_47 5 rfl rfl ?_
          refine a_icmp_eq C 68 (by omega) (by omega) dX4_leastPair_48 (by decide) (fun c48 => ?_) (fun c48 => ?_)
          · skip
            refine a_iinc C (k + 1) [(4, vI (k + 1)), (5, vI (z24 + z33)), (3, vI least), (2, vI at1), (0, .ref (vq v b)), (1, vI w)] dX4_leastPair_68 1 rfl (by omega) (by decide) rfl ?_
            refine a_goto C 7 dX4_leastPair_71 (by decide) ?_
            refine a_sub [0, 2, 3, 4, 5] [(4, vI (k + 1)), (3, vI least), (2, vI at1), (0, .ref (vq v b)), (1, vI w)] rfl ?_
            exact ih _ (by omega) _ _ _ rfl (by omega) (by omega) (by omega) (by intro hq; (first | omega | (have := i5 (by omega); omega))) (by rw [← i4, itrR_step (a := k) (by omega)]; congr 1; unfold lpF; (first | rw [if_pos (by omega)] | (rw [if_neg (by omega)]; (first | rw [if_pos (by (first | omega | (have := i5 (by omega); omega)))] | rw [if_neg (by (have := i5 (by omega); omega))]))))
          · skip
            refine a_iload_n C dX4_leastPair_51 3 rfl rfl ?_
            refine a_iconst C dX4_leastPair_52 ?_
            refine a_icmp_eq C 62 (by omega) (by decide) dX4_leastPair_53 (by decide) (fun c53 => ?_) (fun c53 => ?_)
            · skip
              refine a_iload C dX4_leastPair_62 1 rfl ?_
              refine a_istore_n C 2 [(2, vI k), (5, vI (z24 + z33)), (4, vI k), (3, vI least), (0, .ref (vq v b)), (1, vI w)] dX4_leastPair_64 rfl (by decide) rfl ?_
              refine a_iload C dX4_leastPair_65 1 rfl ?_
              refine a_istore_n C 3 [(3, vI (z24 + z33)), (2, vI k), (5, vI (z24 + z33)), (4, vI k), (0, .ref (vq v b)), (1, vI w)] dX4_leastPair_67 rfl (by decide) rfl ?_
              refine a_iinc C (k + 1) [(4, vI (k + 1)), (3, vI (z24 + z33)), (2, vI k), (5, vI (z24 + z33)), (0, .ref (vq v b)), (1, vI w)] dX4_leastPair_68 3 rfl (by omega) (by decide) rfl ?_
              refine a_goto C 7 dX4_leastPair_71 (by decide) ?_
              refine a_sub [0, 1, 2, 4, 5] [(4, vI (k + 1)), (3, vI (z24 + z33)), (2, vI k), (0, .ref (vq v b)), (1, vI w)] rfl ?_
              exact ih _ (by omega) _ _ _ rfl (by omega) (by omega) (by omega) (by intro hq; (first | omega | (have := i5 (by omega); omega))) (by rw [← i4, itrR_step (a := k) (by omega)]; congr 1; unfold lpF; (first | rw [if_pos (by omega)] | (rw [if_neg (by omega)]; (first | rw [if_pos (by (first | omega | (have := i5 (by omega); omega)))] | rw [if_neg (by (have := i5 (by omega); omega))]))))
            · skip
              refine a_iload C dX4_leastPair_56 0 rfl ?_
              refine a_iload_n C dX4_leastPair_58 2 rfl rfl ?_
              refine a_icmp_ge C 68 (by omega) (by omega) dX4_leastPair_59 (by decide) (fun c59 => ?_) (fun c59 => ?_)
              · skip
                refine a_iinc C (k + 1) [(4, vI (k + 1)), (5, vI (z24 + z33)), (3, vI least), (2, vI at1), (0, .ref (vq v b)), (1, vI w)] dX4_leastPair_68 1 rfl (by omega) (by decide) rfl ?_
                refine a_goto C 7 dX4_leastPair_71 (by decide) ?_
                refine a_sub [0, 2, 3, 4, 5] [(4, vI (k + 1)), (3, vI least), (2, vI at1), (0, .ref (vq v b)), (1, vI w)] rfl ?_
                exact ih _ (by omega) _ _ _ rfl (by omega) (by omega) (by omega) (by intro hq; (first | omega | (have := i5 (by omega); omega))) (by rw [← i4, itrR_step (a := k) (by omega)]; congr 1; unfold lpF; (first | rw [if_pos (by omega)] | (rw [if_neg (by omega)]; (first | rw [if_pos (by (first | omega | (have := i5 (by omega); omega)))] | rw [if_neg (by (have := i5 (by omega); omega))]))))
              · skip
                refine a_iload C dX4_leastPair_62 1 rfl ?_
                refine a_istore_n C 2 [(2, vI k), (5, vI (z24 + z33)), (4, vI k), (3, vI least), (0, .ref (vq v b)), (1, vI w)] dX4_leastPair_64 rfl (by decide) rfl ?_
                refine a_iload C dX4_leastPair_65 1 rfl ?_
                refine a_istore_n C 3 [(3, vI (z24 + z33)), (2, vI k), (5, vI (z24 + z33)), (4, vI k), (0, .ref (vq v b)), (1, vI w)] dX4_leastPair_67 rfl (by decide) rfl ?_
                refine a_iinc C (k + 1) [(4, vI (k + 1)), (3, vI (z24 + z33)), (2, vI k), (5, vI (z24 + z33)), (0, .ref (vq v b)), (1, vI w)] dX4_leastPair_68 3 rfl (by omega) (by decide) rfl ?_
                refine a_goto C 7 dX4_leastPair_71 (by decide) ?_
                refine a_sub [0, 1, 2, 4, 5] [(4, vI (k + 1)), (3, vI (z24 + z33)), (2, vI k), (0, .ref (vq v b)), (1, vI w)] rfl ?_
                exact ih _ (by omega) _ _ _ rfl (by omega) (by omega) (by omega) (by intro hq; (first | omega | (have := i5 (by omega); omega))) (by rw [← i4, itrR_step (a := k) (by omega)]; congr 1; unfold lpF; (first | rw [if_pos (by omega)] | (rw [if_neg (by omega)]; (first | rw [if_pos (by (first | omega | (have := i5 (by omega); omega)))] | rw [if_neg (by (have := i5 (by omega); omega))]))))
  refine a_iconst C dX4_leastPair_0 ?_
  refine a_istore_n C 2 [(2, vI (-1)), (0, .ref (vq v b)), (1, vI w)] dX4_leastPair_1 rfl (by decide) rfl ?_
  refine a_iconst C dX4_leastPair_2 ?_
  refine a_istore_n C 3 [(3, vI 0), (2, vI (-1)), (0, .ref (vq v b)), (1, vI w)] dX4_leastPair_3 rfl (by decide) rfl ?_
  refine a_iconst C dX4_leastPair_4 ?_
  refine a_istore C [(4, vI 0), (3, vI 0), (2, vI (-1)), (0, .ref (vq v b)), (1, vI w)] dX4_leastPair_5 (by decide) rfl ?_
  exact lp _ 0 0 (-1) rfl (by omega) (by omega) (by omega) (by omega) rfl
set_option maxHeartbeats 4000000 in
set_option maxRecDepth 100000 in
theorem c_X4_halfOf (l : Launch) (v : VC) (σ : Mem) (b : Nat) (hS : shSk v b) (k : Int) (hk : 0 ≤ k ∧ k < σ b 5) (hW : skW σ b) : CtI l yX4_halfOf wsX4_halfOf 3 68 v [.ref (vq v b), vI k] σ (fun z u => z = haF (σ (b + 4)) (σ (b + 1)) k ∧ u = σ) := by
  refine mkI (cc := cX4_halfOf) (n := 5) (by decide +kernel) rfl (Nat.le_of_ble_eq_true rfl) (fun x A Q hx C hret => ?_)
  subst hx
  show At x v A Q _ 0 [(0, .ref (vq v b)), (1, vI k)] [] σ
  have iX4 : ∀ w ∈ wsX40, w ∈ wsX4_halfOf := by decide +kernel
  have k9 : Cond.fieldLink RX4 9 (TX4 0).1 (TX4 0).2.1 (TX4 0).2.2.1 ∈ wsX4_halfOf := by decide +kernel
  have hw1 := hW.1
  have hw2 := hW.2.1
  have hf := foF_bd hW (k := k) (by omega)
  have hlk : rg (loN (σ (b + 4)) (σ (b + 1)) k) := by have := ltC_bd (σ (b + 4)) (foF (σ (b + 1)) k) (σ (b + 1) k); unfold loN; omega
  have he := hW.2.2 k hk.1 hk.2
  have lp : ∀ (n : Nat) (w : Int) , (40 - w).toNat = n → foF (σ (b + 1)) k ≤ w → w ≤ max (foF (σ (b + 1)) k) (σ (b + 1) k) → (∀ j : Int, foF (σ (b + 1)) k ≤ j → j < w → ¬ loN (σ (b + 4)) (σ (b + 1)) k ≤ 2 * ltC (σ (b + 4)) (foF (σ (b + 1)) k) j) → At x v A Q 5 15 [(4, vI w), (3, vI (loN (σ (b + 4)) (σ (b + 1)) k)), (2, vI (foF (σ (b + 1)) k)), (0, .ref (vq v b)), (1, vI k)] [] σ := by
    intro n
    induction n using Nat.strongRecOn with
    | _ n ih =>
      intro w hn i1 i2 i3
      refine a_iload C dX4_halfOf_15 0 rfl ?_
      refine a_aload_n C dX4_halfOf_17 3 rfl rfl ?_
      refine a_getf C hS.f0 hS.n0 (Cn := RX4) (T := TX4) (N := 7) rfl iX4 0 (by decide) k9 (w := .ref (vq v (b + 1))) rfl dX4_halfOf_18 ?_
      refine a_iload_n C dX4_halfOf_21 4 rfl rfl ?_
      refine a_iald C hS.f1 hS.n1 0 hS.tI (by omega) (by omega) (by decide) dX4_halfOf_22 (fun z22 e22 r22 => ?_)
      have q22 := hW.2.2 k (by omega) (by omega)
      rw [← e22] at q22
      refine a_icmp_ge C 45 (by omega) r22 dX4_halfOf_23 (by decide) (fun c23 => ?_) (fun c23 => ?_)
      · skip
        refine a_iload C dX4_halfOf_45 0 rfl ?_
        exact hret _ _ _ _ dX4_halfOf_47 (by omega) ⟨fnd_uniq _ _ _ _ (by omega) (by omega) (fun j q1 q2 => by simp only [decide_eq_false_iff_not]; have := i3 j q1 q2; omega) (fun q => by simp only [decide_eq_true_eq]; omega), rfl⟩
      · skip
        refine a_iconst C dX4_halfOf_26 ?_
        refine a_aload_n C dX4_halfOf_27 3 rfl rfl ?_
        refine a_iload_n C dX4_halfOf_28 2 rfl rfl ?_
        refine a_iload C dX4_halfOf_29 0 rfl ?_
        refine a_cVI C (k0 := 2) (As := [vI (foF (σ (b + 1)) k), vI w]) (rest := [vI 2]) (c_X4_plainBetween x.2.1 v σ b hS (foF (σ (b + 1)) k) w (by omega) (by omega)) gX4_halfOf_X4_plainBetween rfl (by decide +kernel) (by decide) hS.f0 rfl hS.n0 rfl rfl (Nat.le_of_ble_eq_true rfl) dX4_halfOf_31 (fun z31 u31 r31 p31 => ?_)
        obtain ⟨e31, p31⟩ := p31
        subst u31
        have q31 := ltC_bd (σ (b + 4)) (foF (σ (b + 1)) k) w
        rw [← e31] at q31
        refine a_imul C dX4_halfOf_34 ?_
        refine a_iload_n C dX4_halfOf_35 1 rfl rfl ?_
        refine a_icmp_ge C 45 (by omega) hlk dX4_halfOf_36 (by decide) (fun c36 => ?_) (fun c36 => ?_)
        · skip
          refine a_iload C dX4_halfOf_45 0 rfl ?_
          exact hret _ _ _ _ dX4_halfOf_47 (by omega) ⟨fnd_uniq _ _ _ _ (by omega) (by omega) (fun j q1 q2 => by simp only [decide_eq_false_iff_not]; have := i3 j q1 q2; omega) (fun q => by simp only [decide_eq_true_eq]; omega), rfl⟩
        · skip
          refine a_iinc C (w + 1) [(4, vI (w + 1)), (3, vI (loN (σ (b + 4)) (σ (b + 1)) k)), (2, vI (foF (σ (b + 1)) k)), (0, .ref (vq v b)), (1, vI k)] dX4_halfOf_39 0 rfl (by omega) (by decide) rfl ?_
          refine a_goto C 15 dX4_halfOf_42 (by decide) ?_
          exact ih _ (by omega) _ rfl (by omega) (by omega) (fun j q1 q2 => by by_cases hj : j = w; (subst hj; omega); exact i3 j q1 (by omega))
  refine a_aload_n C dX4_halfOf_0 0 rfl rfl ?_
  refine a_iload_n C dX4_halfOf_1 1 rfl rfl ?_
  refine a_cVI C (k0 := 1) (As := [vI k]) (rest := []) (c_X4_firstOf x.2.1 v σ b hS k (by omega) (fun q => hW.2.2 _ (by omega) (by omega))) gX4_halfOf_X4_firstOf rfl (by decide +kernel) (by decide) hS.f0 rfl hS.n0 rfl rfl (Nat.le_of_ble_eq_true rfl) dX4_halfOf_2 (fun z2 u2 r2 p2 => ?_)
  obtain ⟨e2, p2⟩ := p2
  subst u2
  refine a_istore_n C 2 [(2, vI z2), (0, .ref (vq v b)), (1, vI k)] dX4_halfOf_5 rfl (by decide) rfl ?_
  refine a_aload_n C dX4_halfOf_6 1 rfl rfl ?_
  refine a_iload_n C dX4_halfOf_7 2 rfl rfl ?_
  refine a_cVI C (k0 := 1) (As := [vI k]) (rest := []) (c_X4_longOf x.2.1 v σ b hS k hk hW) gX4_halfOf_X4_longOf rfl (by decide +kernel) (by decide) hS.f0 rfl hS.n0 rfl rfl (Nat.le_of_ble_eq_true rfl) dX4_halfOf_8 (fun z8 u8 r8 p8 => ?_)
  obtain ⟨e8, p8⟩ := p8
  subst u8
  refine a_istore_n C 3 [(3, vI z8), (2, vI z2), (0, .ref (vq v b)), (1, vI k)] dX4_halfOf_11 rfl (by decide) rfl ?_
  refine a_iload_n C dX4_halfOf_12 1 rfl rfl ?_
  refine a_istore C [(4, vI z2), (3, vI z8), (2, vI z2), (0, .ref (vq v b)), (1, vI k)] dX4_halfOf_13 (by decide) rfl ?_
  rw [e2, e8]
  exact lp _ _ rfl (by omega) (by omega) (fun j q1 q2 => by omega)
set_option maxHeartbeats 4000000 in
set_option maxRecDepth 100000 in
theorem c_X4_setPiece (l : Launch) (v : VC) (σ : Mem) (b : Nat) (hS : shSk v b) (k c d : Int) (hk : 0 ≤ k ∧ k < 24) (hc : rg c) (hd : rg d) : CtV l yX4_setPiece wsX4_setPiece 0 0 v [.ref (vq v b), vI k, vI c, vI d] σ (fun u => u = sput (sput σ (b + 2) k c) (b + 3) k d) := by
  refine mkV (cc := cX4_setPiece) (n := 4) (by decide +kernel) rfl (Nat.le_of_ble_eq_true rfl) (fun x A Q hx C hret => ?_)
  subst hx
  show At x v A Q _ 0 [(0, .ref (vq v b)), (1, vI k), (2, vI c), (3, vI d)] [] σ
  have iX4 : ∀ w ∈ wsX40, w ∈ wsX4_setPiece := by decide +kernel
  have k15 : Cond.fieldLink RX4 15 (TX4 1).1 (TX4 1).2.1 (TX4 1).2.2.1 ∈ wsX4_setPiece := by decide +kernel
  have k18 : Cond.fieldLink RX4 18 (TX4 2).1 (TX4 2).2.1 (TX4 2).2.2.1 ∈ wsX4_setPiece := by decide +kernel
  refine a_aload_n C dX4_setPiece_0 0 rfl rfl ?_
  refine a_getf C hS.f0 hS.n0 (Cn := RX4) (T := TX4) (N := 7) rfl iX4 1 (by decide) k15 (w := .ref (vq v (b + 2))) rfl dX4_setPiece_1 ?_
  refine a_iload_n C dX4_setPiece_4 1 rfl rfl ?_
  refine a_iload_n C dX4_setPiece_5 2 rfl rfl ?_
  refine a_iast C hS.f2 hS.n2 0 hS.tI (by omega) (by omega) (by decide) (by omega) dX4_setPiece_6 ?_
  refine a_aload_n C dX4_setPiece_7 0 rfl rfl ?_
  refine a_getf C hS.f0 hS.n0 (Cn := RX4) (T := TX4) (N := 7) rfl iX4 2 (by decide) k18 (w := .ref (vq v (b + 3))) rfl dX4_setPiece_8 ?_
  refine a_iload_n C dX4_setPiece_11 1 rfl rfl ?_
  refine a_iload_n C dX4_setPiece_12 3 rfl rfl ?_
  refine a_iast C hS.f3 hS.n3 0 hS.tI (by omega) (by omega) (by decide) (by omega) dX4_setPiece_13 ?_
  exact hret _ _ _ dX4_setPiece_14 rfl
set_option maxHeartbeats 4000000 in
set_option maxRecDepth 100000 in
theorem c_X4_limited (l : Launch) (v : VC) (σ : Mem) (d : Int) (hd : rg d) : CtI l yX4_limited wsX4_limited 1 23 v [vI d] σ (fun z u => z = min d 1000000 ∧ u = σ) := by
  refine mkI (cc := cX4_limited) (n := 1) (by decide +kernel) rfl (Nat.le_of_ble_eq_true rfl) (fun x A Q hx C hret => ?_)
  subst hx
  show At x v A Q _ 0 [(0, vI d)] [] σ
  refine a_iload_n C dX4_limited_0 0 rfl rfl ?_
  refine a_ldc C 1000000 (w := 1000000) (by decide +kernel) rfl dX4_limited_1 ?_
  refine a_mmin C (by omega) (by decide) (by decide +kernel) ⟨by decide, Nat.le_of_ble_eq_true rfl⟩ dX4_limited_3 ?_
  obtain ⟨z3, e3⟩ : ∃ w : Int, w = min d 1000000 := ⟨_, rfl⟩
  rw [← e3]
  exact hret _ _ _ _ dX4_limited_6 (by omega) ⟨by rw [e3], rfl⟩
set_option maxHeartbeats 4000000 in
set_option maxRecDepth 100000 in
theorem c_X4_pieceDoubt (l : Launch) (v : VC) (σ : Mem) (own c d : Int) (h1 : -200000000 ≤ own ∧ own ≤ 200000000) (h2 : -200000000 ≤ c ∧ c ≤ 200000000) (h3 : -200000000 ≤ d ∧ d ≤ 200000000) : CtI l yX4_pieceDoubt wsX4_pieceDoubt 2 43 v [vI own, vI c, vI d] σ (fun z u => z = pdF own c d ∧ u = σ) := by
  refine mkI (cc := cX4_pieceDoubt) (n := 3) (by decide +kernel) rfl (Nat.le_of_ble_eq_true rfl) (fun x A Q hx C hret => ?_)
  subst hx
  show At x v A Q _ 0 [(0, vI own), (1, vI c), (2, vI d)] [] σ
  refine a_iconst C dX4_pieceDoubt_0 ?_
  refine a_iload_n C dX4_pieceDoubt_1 0 rfl rfl ?_
  refine a_iload_n C dX4_pieceDoubt_2 1 rfl rfl ?_
  refine a_iload_n C dX4_pieceDoubt_3 2 rfl rfl ?_
  refine a_iadd C dX4_pieceDoubt_4 ?_
  refine a_iload_n C dX4_pieceDoubt_5 0 rfl rfl ?_
  refine a_isub C dX4_pieceDoubt_6 ?_
  refine a_mmax C (by omega) (by omega) (by decide +kernel) ⟨by decide, Nat.le_of_ble_eq_true rfl⟩ dX4_pieceDoubt_7 ?_
  obtain ⟨z7, e7⟩ : ∃ w : Int, w = max own ((c + d) - own) := ⟨_, rfl⟩
  rw [← e7]
  refine a_mmax C (by decide) (by omega) (by decide +kernel) ⟨by decide, Nat.le_of_ble_eq_true rfl⟩ dX4_pieceDoubt_10 ?_
  obtain ⟨z10, e10⟩ : ∃ w : Int, w = max 0 z7 := ⟨_, rfl⟩
  rw [← e10]
  refine a_cSI C (k0 := 1) (As := [vI z10]) (rest := []) (c_X4_limited x.2.1 v σ z10 (by omega)) gX4_pieceDoubt_X4_limited rfl (by decide +kernel) (by decide) rfl rfl (Nat.le_of_ble_eq_true rfl) dX4_pieceDoubt_13 (fun z13 u13 r13 p13 => ?_)
  obtain ⟨e13, p13⟩ := p13
  subst u13
  exact hret _ _ _ _ dX4_pieceDoubt_16 r13 ⟨by rw [e13, e10, e7]; rfl, rfl⟩
set_option maxHeartbeats 4000000 in
set_option maxRecDepth 100000 in
theorem c_J9_floorDiv_f86c9 (l : Launch) (v : VC) (σ : Mem) (a d : Int) (hd : 0 < d) (ha : -4611686018427387904 ≤ a ∧ a ≤ 4611686018427387904) (hr : rgL d) : CtL l yJ9_floorDiv_f86c9 wsJ9_floorDiv_f86c9 0 0 v [vJ a, vJ d] σ (fun z u => z = a / d ∧ u = σ) := by
  refine mkLF (cc := cJ9_floorDiv_f86c9) (n := 6) (by decide +kernel) rfl (Nat.le_of_ble_eq_true rfl) (fun x A Q hx C hret => ?_)
  subst hx
  show At x v A Q _ 0 [(0, vJ a), (2, vJ d)] [] σ
  have hb := tdiv_bd (a := a) hd
  refine a_lload_n C dJ9_floorDiv_f86c9_0 0 rfl rfl ?_
  refine a_lload_n C dJ9_floorDiv_f86c9_1 1 rfl rfl ?_
  refine a_ldiv C (by omega) (by omega) (by omega) dJ9_floorDiv_f86c9_2 ?_
  refine a_lstore C [(4, vJ (a.tdiv d)), (0, vJ a), (2, vJ d)] dJ9_floorDiv_f86c9_3 (by decide) rfl ?_
  refine a_lload_n C dJ9_floorDiv_f86c9_5 1 rfl rfl ?_
  refine a_lload_n C dJ9_floorDiv_f86c9_6 2 rfl rfl ?_
  refine a_lxorP C (by omega) (by omega) (by omega) dJ9_floorDiv_f86c9_7 (fun z7 r7 e7 => ?_)
  refine a_lconst C 0 dJ9_floorDiv_f86c9_8 rfl ?_
  refine a_lcmp C r7 (by decide) dJ9_floorDiv_f86c9_9 (fun z9 e9 r9 => ?_)
  refine a_if_ge C 27 r9 dJ9_floorDiv_f86c9_10 (by decide) (fun c10 => ?_) (fun c10 => ?_)
  · skip
    refine a_lload C dJ9_floorDiv_f86c9_27 0 rfl ?_
    exact hret _ _ _ _ dJ9_floorDiv_f86c9_29 (by omega) ⟨by rw [flo_of hd]; (first | rw [if_pos (by omega)] | rw [if_neg (by omega)]), rfl⟩
  · skip
    refine a_lload C dJ9_floorDiv_f86c9_13 0 rfl ?_
    refine a_lload_n C dJ9_floorDiv_f86c9_15 2 rfl rfl ?_
    refine a_lmul C dJ9_floorDiv_f86c9_16 ?_
    refine a_lload_n C dJ9_floorDiv_f86c9_17 1 rfl rfl ?_
    refine a_lcmp C (by omega) (by omega) dJ9_floorDiv_f86c9_18 (fun z18 e18 r18 => ?_)
    refine a_if_eq C 27 r18 dJ9_floorDiv_f86c9_19 (by decide) (fun c19 => ?_) (fun c19 => ?_)
    · skip
      refine a_lload C dJ9_floorDiv_f86c9_27 0 rfl ?_
      exact hret _ _ _ _ dJ9_floorDiv_f86c9_29 (by omega) ⟨by rw [flo_of hd]; (first | rw [if_pos (by omega)] | rw [if_neg (by omega)]), rfl⟩
    · skip
      refine a_lload C dJ9_floorDiv_f86c9_22 0 rfl ?_
      refine a_lconst C 1 dJ9_floorDiv_f86c9_24 rfl ?_
      refine a_lsub C dJ9_floorDiv_f86c9_25 ?_
      exact hret _ _ _ _ dJ9_floorDiv_f86c9_26 (by omega) ⟨by rw [flo_of hd]; (first | rw [if_pos (by omega)] | rw [if_neg (by omega)]), rfl⟩
set_option maxHeartbeats 4000000 in
set_option maxRecDepth 100000 in
theorem c_J9_floorDiv_7cf53 (l : Launch) (v : VC) (σ : Mem) (a d : Int) (hd : 0 < d) (ha : -2147483646 ≤ a ∧ a ≤ 2147483646) (hr : rg d) : CtI l yJ9_floorDiv_7cf53 wsJ9_floorDiv_7cf53 0 0 v [vI a, vI d] σ (fun z u => z = a / d ∧ u = σ) := by
  refine mkIF (cc := cJ9_floorDiv_7cf53) (n := 3) (by decide +kernel) rfl (Nat.le_of_ble_eq_true rfl) (fun x A Q hx C hret => ?_)
  subst hx
  show At x v A Q _ 0 [(0, vI a), (1, vI d)] [] σ
  have hb := tdiv_bd (a := a) hd
  refine a_iload_n C dJ9_floorDiv_7cf53_0 0 rfl rfl ?_
  refine a_iload_n C dJ9_floorDiv_7cf53_1 1 rfl rfl ?_
  refine a_idiv C (by omega) (by omega) (by omega) dJ9_floorDiv_7cf53_2 ?_
  refine a_istore_n C 2 [(2, vI (a.tdiv d)), (0, vI a), (1, vI d)] dJ9_floorDiv_7cf53_3 rfl (by decide) rfl ?_
  refine a_iload_n C dJ9_floorDiv_7cf53_4 1 rfl rfl ?_
  refine a_iload_n C dJ9_floorDiv_7cf53_5 2 rfl rfl ?_
  refine a_ixorP C (by omega) (by omega) (by omega) dJ9_floorDiv_7cf53_6 (fun z6 r6 e6 => ?_)
  refine a_if_ge C 21 r6 dJ9_floorDiv_7cf53_7 (by decide) (fun c7 => ?_) (fun c7 => ?_)
  · skip
    refine a_iload_n C dJ9_floorDiv_7cf53_21 0 rfl rfl ?_
    exact hret _ _ _ _ dJ9_floorDiv_7cf53_22 (by omega) ⟨by rw [flo_of hd]; (first | rw [if_pos (by omega)] | rw [if_neg (by omega)]), rfl⟩
  · skip
    refine a_iload_n C dJ9_floorDiv_7cf53_10 0 rfl rfl ?_
    refine a_iload_n C dJ9_floorDiv_7cf53_11 2 rfl rfl ?_
    refine a_imul C dJ9_floorDiv_7cf53_12 ?_
    refine a_iload_n C dJ9_floorDiv_7cf53_13 1 rfl rfl ?_
    refine a_icmp_eq C 21 (by omega) (by omega) dJ9_floorDiv_7cf53_14 (by decide) (fun c14 => ?_) (fun c14 => ?_)
    · skip
      refine a_iload_n C dJ9_floorDiv_7cf53_21 0 rfl rfl ?_
      exact hret _ _ _ _ dJ9_floorDiv_7cf53_22 (by omega) ⟨by rw [flo_of hd]; (first | rw [if_pos (by omega)] | rw [if_neg (by omega)]), rfl⟩
    · skip
      refine a_iload_n C dJ9_floorDiv_7cf53_17 0 rfl rfl ?_
      refine a_iconst C dJ9_floorDiv_7cf53_18 ?_
      refine a_isub C dJ9_floorDiv_7cf53_19 ?_
      exact hret _ _ _ _ dJ9_floorDiv_7cf53_20 (by omega) ⟨by rw [flo_of hd]; (first | rw [if_pos (by omega)] | rw [if_neg (by omega)]), rfl⟩
