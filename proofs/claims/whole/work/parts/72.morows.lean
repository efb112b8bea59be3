/-! ===== the model's calls on rows ===== -/
set_option maxHeartbeats 4000000 in
set_option maxRecDepth 100000 in
theorem c_X7_put (l : Launch) (v : VC) (σ : Mem) (b : Nat) (hM : shMo v b) (i1 x1 m1 : Int) (h1 : rg i1) (h2 : rg x1) (h3 : rg m1) (hK : ∀ c : Int, 0 ≤ c → c < 3 → moK σ b c) (hR : ∀ c : Int, 0 ≤ c → c < 3 → mrB σ b c 100000000 ∧ msB σ b c 100000000) : CtI l yX7_put wsX7_put 2 46 v [.ref (vq v b), vI i1, vI x1, vI m1] σ (fun z u => (if ¬ ((0 ≤ i1 ∧ i1 < 3) ∧ (-1 ≤ x1 ∧ x1 ≤ 39) ∧ (1 ≤ m1 ∧ m1 ≤ 1000)) then (z = 0 ∧ u = sput σ b 0 1) else (if 10000 < σ (b + 6) i1 + σ (b + 5) i1 + m1 then (z = 0 ∧ u = sput σ b 0 4) else (z = 1 ∧ u = sput (itrR (fun _ τ => mpS b i1 x1 τ) 0 m1 σ) b 0 0)))) := by
  refine mkZ (cc := cX7_put) (n := 5) (by decide +kernel) rfl (Nat.le_of_ble_eq_true rfl) (fun x A Q hx C hret => ?_)
  subst hx
  show At x v A Q _ 0 [(0, .ref (vq v b)), (1, vI i1), (2, vI x1), (3, vI m1)] [] σ
  refine a_iload_n C dX7_put_0 1 rfl rfl ?_
  refine a_cSI C (k0 := 1) (As := [vI i1]) (rest := []) (c_X7_isColumn x.2.1 v σ i1 (by omega)) gX7_put_X7_isColumn rfl (by decide +kernel) (by decide) rfl rfl (Nat.le_of_ble_eq_true rfl) dX7_put_1 (fun z1 u1 r1 p1 => ?_)
  obtain ⟨e1, p1⟩ := p1
  subst u1
  have q1 := zz e1
  refine a_if_eq C 31 r1 dX7_put_4 (by decide) (fun c4 => ?_) (fun c4 => ?_)
  · skip
    refine a_aload_n C dX7_put_31 0 rfl rfl ?_
    refine a_iconst C dX7_put_32 ?_
    refine a_cVI C (k0 := 1) (As := [vI 1]) (rest := []) (c_X7_is x.2.1 v σ b hM 1 (by omega)) gX7_put_X7_is rfl (by decide +kernel) (by decide) hM.f0 rfl hM.n0 rfl rfl (Nat.le_of_ble_eq_true rfl) dX7_put_33 (fun z33 u33 r33 p33 => ?_)
    obtain ⟨e33, p33⟩ := p33
    subst u33
    have q33 := zz e33
    refine hret _ _ _ _ dX7_put_36 (by omega) ?_
    (repeat (first | rw [if_pos (by omega)] | rw [if_neg (by omega)]))
    exact ⟨by omega, rfl⟩
  · skip
    refine a_iload_n C dX7_put_7 2 rfl rfl ?_
    refine a_iconst C dX7_put_8 ?_
    refine a_icmp_eq C 19 (by omega) (by decide) dX7_put_9 (by decide) (fun c9 => ?_) (fun c9 => ?_)
    · skip
      refine a_iload_n C dX7_put_19 3 rfl rfl ?_
      refine a_iconst C dX7_put_20 ?_
      refine a_icmp_lt C 31 (by omega) (by decide) dX7_put_21 (by decide) (fun c21 => ?_) (fun c21 => ?_)
      · skip
        refine a_aload_n C dX7_put_31 0 rfl rfl ?_
        refine a_iconst C dX7_put_32 ?_
        refine a_cVI C (k0 := 1) (As := [vI 1]) (rest := []) (c_X7_is x.2.1 v σ b hM 1 (by omega)) gX7_put_X7_is rfl (by decide +kernel) (by decide) hM.f0 rfl hM.n0 rfl rfl (Nat.le_of_ble_eq_true rfl) dX7_put_33 (fun z33 u33 r33 p33 => ?_)
        obtain ⟨e33, p33⟩ := p33
        subst u33
        have q33 := zz e33
        refine hret _ _ _ _ dX7_put_36 (by omega) ?_
        (repeat (first | rw [if_pos (by omega)] | rw [if_neg (by omega)]))
        exact ⟨by omega, rfl⟩
      · skip
        refine a_iload_n C dX7_put_24 3 rfl rfl ?_
        refine a_sipush C dX7_put_25 ?_
        refine a_icmp_le C 37 (by omega) (by decide) dX7_put_28 (by decide) (fun c28 => ?_) (fun c28 => ?_)
        · skip
          have k0 := hK i1 (by omega) (by omega)
          obtain ⟨kN, kE, kB, kH, kT, kV, kU⟩ := k0
          refine a_aload_n C dX7_put_37 0 rfl rfl ?_
          refine a_iload_n C dX7_put_38 1 rfl rfl ?_
          refine a_cVI C (k0 := 1) (As := [vI i1]) (rest := []) (c_X7_all x.2.1 v σ b hM i1 (by omega) kV kU) gX7_put_X7_all rfl (by decide +kernel) (by decide) hM.f0 rfl hM.n0 rfl rfl (Nat.le_of_ble_eq_true rfl) dX7_put_39 (fun z39 u39 r39 p39 => ?_)
          obtain ⟨e39, p39⟩ := p39
          subst u39
          refine a_iload_n C dX7_put_42 3 rfl rfl ?_
          refine a_iadd C dX7_put_43 ?_
          refine a_sipush C dX7_put_44 ?_
          refine a_icmp_le C 56 (by omega) (by decide) dX7_put_47 (by decide) (fun c47 => ?_) (fun c47 => ?_)
          · skip
            refine a_iconst C dX7_put_56 ?_
            refine a_istore C [(4, vI 0), (0, .ref (vq v b)), (1, vI i1), (2, vI x1), (3, vI m1)] dX7_put_57 (by decide) rfl ?_
            have hR1 := hR i1 (by omega) (by omega)
            have lp : ∀ (n : Nat) (k : Int) (τ : Mem) , (m1 - k).toNat = n → 0 ≤ k ∧ k ≤ m1 → τ = itrR (fun _ τ => mpS b i1 x1 τ) 0 k σ → mrB τ b i1 (100000000 + k) → msB τ b i1 (100000000 + k) → At x v A Q 5 59 [(4, vI k), (0, .ref (vq v b)), (1, vI i1), (2, vI x1), (3, vI m1)] [] τ := by
              intro n
              induction n using Nat.strongRecOn with
              | _ n ih =>
                intro k τ hn iv1 iM iB iS
                refine a_iload C dX7_put_59 0 rfl ?_
                refine a_iload_n C dX7_put_61 4 rfl rfl ?_
                refine a_icmp_ge C 84 (by omega) (by omega) dX7_put_62 (by decide) (fun c62 => ?_) (fun c62 => ?_)
                · skip
                  refine a_aload_n C dX7_put_84 1 rfl rfl ?_
                  refine a_iconst C dX7_put_85 ?_
                  refine a_cVI C (k0 := 1) (As := [vI 0]) (rest := []) (c_X7_is x.2.1 v τ b hM 0 (by omega)) gX7_put_X7_is rfl (by decide +kernel) (by decide) hM.f0 rfl hM.n0 rfl rfl (Nat.le_of_ble_eq_true rfl) dX7_put_86 (fun z86 u86 r86 p86 => ?_)
                  obtain ⟨e86, p86⟩ := p86
                  subst u86
                  have q86 := zz e86
                  refine hret _ _ _ _ dX7_put_89 (by omega) ?_
                  (repeat (first | rw [if_pos (by omega)] | rw [if_neg (by omega)]))
                  exact ⟨by omega, by rw [iM, show k = m1 by omega]⟩
                · skip
                  refine a_aload_n C dX7_put_65 1 rfl rfl ?_
                  refine a_iload_n C dX7_put_66 2 rfl rfl ?_
                  refine a_iload_n C dX7_put_67 3 rfl rfl ?_
                  refine a_iconst C dX7_put_68 ?_
                  refine a_cVV C (k0 := 3) (As := [vI i1, vI x1, vI 1]) (rest := []) (c_X7_changes x.2.1 v τ b hM i1 x1 1 (100000000 + k) (by omega) (by omega) (Or.inl rfl) (by omega) iB) gX7_put_X7_changes rfl (by decide +kernel) (by decide) hM.f0 rfl hM.n0 rfl rfl (Nat.le_of_ble_eq_true rfl) dX7_put_69 (fun u69 p69 => ?_)
                  subst u69
                  refine a_aload_n C dX7_put_72 1 rfl rfl ?_
                  refine a_iload_n C dX7_put_73 2 rfl rfl ?_
                  refine a_iload_n C dX7_put_74 3 rfl rfl ?_
                  refine a_cVV C (k0 := 2) (As := [vI i1, vI x1]) (rest := []) (c_X7_draw x.2.1 v (mcM τ b i1 x1 1) b hM i1 x1 (100000000 + k) (by omega) (by omega) (by omega) (msB_row (mcM_fr _ (by omega) (by omega) (by omega) (by omega) (by omega) (by omega)) (mcM_fr _ (by omega) (by omega) (by omega) (by omega) (by omega) (by omega)) (mcM_fr _ (by omega) (by omega) (by omega) (by omega) (by omega) (by omega)) iS)) gX7_put_X7_draw rfl (by decide +kernel) (by decide) hM.f0 rfl hM.n0 rfl rfl (Nat.le_of_ble_eq_true rfl) dX7_put_75 (fun u75 p75 => ?_)
                  subst u75
                  refine a_iinc C (k + 1) [(4, vI (k + 1)), (0, .ref (vq v b)), (1, vI i1), (2, vI x1), (3, vI m1)] dX7_put_78 0 rfl (by omega) (by decide) rfl ?_
                  refine a_goto C 59 dX7_put_81 (by decide) ?_
                  refine ih _ (by omega) (k + 1) _ rfl (by omega) ?_ ?_ ?_
                  · rw [itrR_right (by omega), ← iM]; rfl
                  · have := (mpS_B (val := x1) (by omega) iB iS).1; rw [show 100000000 + (k + 1) = 100000000 + k + 1 by omega]; exact this
                  · have := (mpS_B (val := x1) (by omega) iB iS).2; rw [show 100000000 + (k + 1) = 100000000 + k + 1 by omega]; exact this
            exact lp _ 0 σ rfl (by omega) (by rw [itrR_nil (by omega)]) (by rw [Int.add_zero]; exact hR1.1) (by rw [Int.add_zero]; exact hR1.2)
          · skip
            refine a_aload_n C dX7_put_50 0 rfl rfl ?_
            refine a_iconst C dX7_put_51 ?_
            refine a_cVI C (k0 := 1) (As := [vI 4]) (rest := []) (c_X7_is x.2.1 v σ b hM 4 (by omega)) gX7_put_X7_is rfl (by decide +kernel) (by decide) hM.f0 rfl hM.n0 rfl rfl (Nat.le_of_ble_eq_true rfl) dX7_put_52 (fun z52 u52 r52 p52 => ?_)
            obtain ⟨e52, p52⟩ := p52
            subst u52
            have q52 := zz e52
            refine hret _ _ _ _ dX7_put_55 (by omega) ?_
            (repeat (first | rw [if_pos (by omega)] | rw [if_neg (by omega)]))
            exact ⟨by omega, rfl⟩
        · skip
          refine a_aload_n C dX7_put_31 0 rfl rfl ?_
          refine a_iconst C dX7_put_32 ?_
          refine a_cVI C (k0 := 1) (As := [vI 1]) (rest := []) (c_X7_is x.2.1 v σ b hM 1 (by omega)) gX7_put_X7_is rfl (by decide +kernel) (by decide) hM.f0 rfl hM.n0 rfl rfl (Nat.le_of_ble_eq_true rfl) dX7_put_33 (fun z33 u33 r33 p33 => ?_)
          obtain ⟨e33, p33⟩ := p33
          subst u33
          have q33 := zz e33
          refine hret _ _ _ _ dX7_put_36 (by omega) ?_
          (repeat (first | rw [if_pos (by omega)] | rw [if_neg (by omega)]))
          exact ⟨by omega, rfl⟩
    · skip
      refine a_iload_n C dX7_put_12 2 rfl rfl ?_
      refine a_cSI C (k0 := 1) (As := [vI x1]) (rest := []) (c_X7_isValue x.2.1 v σ x1 (by omega)) gX7_put_X7_isValue rfl (by decide +kernel) (by decide) rfl rfl (Nat.le_of_ble_eq_true rfl) dX7_put_13 (fun z13 u13 r13 p13 => ?_)
      obtain ⟨e13, p13⟩ := p13
      subst u13
      have q13 := zz e13
      refine a_if_eq C 31 r13 dX7_put_16 (by decide) (fun c16 => ?_) (fun c16 => ?_)
      · skip
        refine a_aload_n C dX7_put_31 0 rfl rfl ?_
        refine a_iconst C dX7_put_32 ?_
        refine a_cVI C (k0 := 1) (As := [vI 1]) (rest := []) (c_X7_is x.2.1 v σ b hM 1 (by omega)) gX7_put_X7_is rfl (by decide +kernel) (by decide) hM.f0 rfl hM.n0 rfl rfl (Nat.le_of_ble_eq_true rfl) dX7_put_33 (fun z33 u33 r33 p33 => ?_)
        obtain ⟨e33, p33⟩ := p33
        subst u33
        have q33 := zz e33
        refine hret _ _ _ _ dX7_put_36 (by omega) ?_
        (repeat (first | rw [if_pos (by omega)] | rw [if_neg (by omega)]))
        exact ⟨by omega, rfl⟩
      · skip
        refine a_iload_n C dX7_put_19 3 rfl rfl ?_
        refine a_iconst C dX7_put_20 ?_
        refine a_icmp_lt C 31 (by omega) (by decide) dX7_put_21 (by decide) (fun c21 => ?_) (fun c21 => ?_)
        · skip
          refine a_aload_n C dX7_put_31 0 rfl rfl ?_
          refine a_iconst C dX7_put_32 ?_
          refine a_cVI C (k0 := 1) (As := [vI 1]) (rest := []) (c_X7_is x.2.1 v σ b hM 1 (by omega)) gX7_put_X7_is rfl (by decide +kernel) (by decide) hM.f0 rfl hM.n0 rfl rfl (Nat.le_of_ble_eq_true rfl) dX7_put_33 (fun z33 u33 r33 p33 => ?_)
          obtain ⟨e33, p33⟩ := p33
          subst u33
          have q33 := zz e33
          refine hret _ _ _ _ dX7_put_36 (by omega) ?_
          (repeat (first | rw [if_pos (by omega)] | rw [if_neg (by omega)]))
          exact ⟨by omega, rfl⟩
        · skip
          refine a_iload_n C dX7_put_24 3 rfl rfl ?_
          refine a_sipush C dX7_put_25 ?_
          refine a_icmp_le C 37 (by omega) (by decide) dX7_put_28 (by decide) (fun c28 => ?_) (fun c28 => ?_)
          · skip
            have k0 := hK i1 (by omega) (by omega)
            obtain ⟨kN, kE, kB, kH, kT, kV, kU⟩ := k0
            refine a_aload_n C dX7_put_37 0 rfl rfl ?_
            refine a_iload_n C dX7_put_38 1 rfl rfl ?_
            refine a_cVI C (k0 := 1) (As := [vI i1]) (rest := []) (c_X7_all x.2.1 v σ b hM i1 (by omega) kV kU) gX7_put_X7_all rfl (by decide +kernel) (by decide) hM.f0 rfl hM.n0 rfl rfl (Nat.le_of_ble_eq_true rfl) dX7_put_39 (fun z39 u39 r39 p39 => ?_)
            obtain ⟨e39, p39⟩ := p39
            subst u39
            refine a_iload_n C dX7_put_42 3 rfl rfl ?_
            refine a_iadd C dX7_put_43 ?_
            refine a_sipush C dX7_put_44 ?_
            refine a_icmp_le C 56 (by omega) (by decide) dX7_put_47 (by decide) (fun c47 => ?_) (fun c47 => ?_)
            · skip
              refine a_iconst C dX7_put_56 ?_
              refine a_istore C [(4, vI 0), (0, .ref (vq v b)), (1, vI i1), (2, vI x1), (3, vI m1)] dX7_put_57 (by decide) rfl ?_
              have hR1 := hR i1 (by omega) (by omega)
              have lp : ∀ (n : Nat) (k : Int) (τ : Mem) , (m1 - k).toNat = n → 0 ≤ k ∧ k ≤ m1 → τ = itrR (fun _ τ => mpS b i1 x1 τ) 0 k σ → mrB τ b i1 (100000000 + k) → msB τ b i1 (100000000 + k) → At x v A Q 5 59 [(4, vI k), (0, .ref (vq v b)), (1, vI i1), (2, vI x1), (3, vI m1)] [] τ := by
                intro n
                induction n using Nat.strongRecOn with
                | _ n ih =>
                  intro k τ hn iv1 iM iB iS
                  refine a_iload C dX7_put_59 0 rfl ?_
                  refine a_iload_n C dX7_put_61 4 rfl rfl ?_
                  refine a_icmp_ge C 84 (by omega) (by omega) dX7_put_62 (by decide) (fun c62 => ?_) (fun c62 => ?_)
                  · skip
                    refine a_aload_n C dX7_put_84 1 rfl rfl ?_
                    refine a_iconst C dX7_put_85 ?_
                    refine a_cVI C (k0 := 1) (As := [vI 0]) (rest := []) (c_X7_is x.2.1 v τ b hM 0 (by omega)) gX7_put_X7_is rfl (by decide +kernel) (by decide) hM.f0 rfl hM.n0 rfl rfl (Nat.le_of_ble_eq_true rfl) dX7_put_86 (fun z86 u86 r86 p86 => ?_)
                    obtain ⟨e86, p86⟩ := p86
                    subst u86
                    have q86 := zz e86
                    refine hret _ _ _ _ dX7_put_89 (by omega) ?_
                    (repeat (first | rw [if_pos (by omega)] | rw [if_neg (by omega)]))
                    exact ⟨by omega, by rw [iM, show k = m1 by omega]⟩
                  · skip
                    refine a_aload_n C dX7_put_65 1 rfl rfl ?_
                    refine a_iload_n C dX7_put_66 2 rfl rfl ?_
                    refine a_iload_n C dX7_put_67 3 rfl rfl ?_
                    refine a_iconst C dX7_put_68 ?_
                    refine a_cVV C (k0 := 3) (As := [vI i1, vI x1, vI 1]) (rest := []) (c_X7_changes x.2.1 v τ b hM i1 x1 1 (100000000 + k) (by omega) (by omega) (Or.inl rfl) (by omega) iB) gX7_put_X7_changes rfl (by decide +kernel) (by decide) hM.f0 rfl hM.n0 rfl rfl (Nat.le_of_ble_eq_true rfl) dX7_put_69 (fun u69 p69 => ?_)
                    subst u69
                    refine a_aload_n C dX7_put_72 1 rfl rfl ?_
                    refine a_iload_n C dX7_put_73 2 rfl rfl ?_
                    refine a_iload_n C dX7_put_74 3 rfl rfl ?_
                    refine a_cVV C (k0 := 2) (As := [vI i1, vI x1]) (rest := []) (c_X7_draw x.2.1 v (mcM τ b i1 x1 1) b hM i1 x1 (100000000 + k) (by omega) (by omega) (by omega) (msB_row (mcM_fr _ (by omega) (by omega) (by omega) (by omega) (by omega) (by omega)) (mcM_fr _ (by omega) (by omega) (by omega) (by omega) (by omega) (by omega)) (mcM_fr _ (by omega) (by omega) (by omega) (by omega) (by omega) (by omega)) iS)) gX7_put_X7_draw rfl (by decide +kernel) (by decide) hM.f0 rfl hM.n0 rfl rfl (Nat.le_of_ble_eq_true rfl) dX7_put_75 (fun u75 p75 => ?_)
                    subst u75
                    refine a_iinc C (k + 1) [(4, vI (k + 1)), (0, .ref (vq v b)), (1, vI i1), (2, vI x1), (3, vI m1)] dX7_put_78 0 rfl (by omega) (by decide) rfl ?_
                    refine a_goto C 59 dX7_put_81 (by decide) ?_
                    refine ih _ (by omega) (k + 1) _ rfl (by omega) ?_ ?_ ?_
                    · rw [itrR_right (by omega), ← iM]; rfl
                    · have := (mpS_B (val := x1) (by omega) iB iS).1; rw [show 100000000 + (k + 1) = 100000000 + k + 1 by omega]; exact this
                    · have := (mpS_B (val := x1) (by omega) iB iS).2; rw [show 100000000 + (k + 1) = 100000000 + k + 1 by omega]; exact this
              exact lp _ 0 σ rfl (by omega) (by rw [itrR_nil (by omega)]) (by rw [Int.add_zero]; exact hR1.1) (by rw [Int.add_zero]; exact hR1.2)
            · skip
              refine a_aload_n C dX7_put_50 0 rfl rfl ?_
              refine a_iconst C dX7_put_51 ?_
              refine a_cVI C (k0 := 1) (As := [vI 4]) (rest := []) (c_X7_is x.2.1 v σ b hM 4 (by omega)) gX7_put_X7_is rfl (by decide +kernel) (by decide) hM.f0 rfl hM.n0 rfl rfl (Nat.le_of_ble_eq_true rfl) dX7_put_52 (fun z52 u52 r52 p52 => ?_)
              obtain ⟨e52, p52⟩ := p52
              subst u52
              have q52 := zz e52
              refine hret _ _ _ _ dX7_put_55 (by omega) ?_
              (repeat (first | rw [if_pos (by omega)] | rw [if_neg (by omega)]))
              exact ⟨by omega, rfl⟩
          · skip
            refine a_aload_n C dX7_put_31 0 rfl rfl ?_
            refine a_iconst C dX7_put_32 ?_
            refine a_cVI C (k0 := 1) (As := [vI 1]) (rest := []) (c_X7_is x.2.1 v σ b hM 1 (by omega)) gX7_put_X7_is rfl (by decide +kernel) (by decide) hM.f0 rfl hM.n0 rfl rfl (Nat.le_of_ble_eq_true rfl) dX7_put_33 (fun z33 u33 r33 p33 => ?_)
            obtain ⟨e33, p33⟩ := p33
            subst u33
            have q33 := zz e33
            refine hret _ _ _ _ dX7_put_36 (by omega) ?_
            (repeat (first | rw [if_pos (by omega)] | rw [if_neg (by omega)]))
            exact ⟨by omega, rfl⟩
set_option maxHeartbeats 4000000 in
set_option maxRecDepth 100000 in
theorem c_X7_strike (l : Launch) (v : VC) (σ : Mem) (b : Nat) (hM : shMo v b) (i1 x1 m1 : Int) (h1 : rg i1) (h2 : rg x1) (h3 : rg m1) (hK : ∀ c : Int, 0 ≤ c → c < 3 → moK σ b c) (hR : ∀ c : Int, 0 ≤ c → c < 3 → mrB σ b c 100000000 ∧ msB σ b c 100000000) : CtI l yX7_strike wsX7_strike 2 46 v [.ref (vq v b), vI i1, vI x1, vI m1] σ (fun z u => (if ¬ ((0 ≤ i1 ∧ i1 < 3) ∧ (-1 ≤ x1 ∧ x1 ≤ 39) ∧ (1 ≤ m1 ∧ m1 ≤ 1000)) then (z = 0 ∧ u = sput σ b 0 1) else (if (if x1 = -1 then σ (b + 5) i1 else σ (b + 4) (40 * i1 + x1)) < m1 then (z = 0 ∧ u = sput σ b 0 4) else (z = 1 ∧ u = sput (itrR (fun _ τ => mcM τ b i1 x1 (-1)) 0 m1 σ) b 0 0)))) := by
  refine mkZ (cc := cX7_strike) (n := 5) (by decide +kernel) rfl (Nat.le_of_ble_eq_true rfl) (fun x A Q hx C hret => ?_)
  subst hx
  show At x v A Q _ 0 [(0, .ref (vq v b)), (1, vI i1), (2, vI x1), (3, vI m1)] [] σ
  have iX7 : ∀ w ∈ wsX70, w ∈ wsX7_strike := by decide +kernel
  have k24 : Cond.fieldLink RX7 24 (TX7 6).1 (TX7 6).2.1 (TX7 6).2.2.1 ∈ wsX7_strike := by decide +kernel
  have k27 : Cond.fieldLink RX7 27 (TX7 7).1 (TX7 7).2.1 (TX7 7).2.2.1 ∈ wsX7_strike := by decide +kernel
  refine a_iload_n C dX7_strike_0 1 rfl rfl ?_
  refine a_cSI C (k0 := 1) (As := [vI i1]) (rest := []) (c_X7_isColumn x.2.1 v σ i1 (by omega)) gX7_strike_X7_isColumn rfl (by decide +kernel) (by decide) rfl rfl (Nat.le_of_ble_eq_true rfl) dX7_strike_1 (fun z1 u1 r1 p1 => ?_)
  obtain ⟨e1, p1⟩ := p1
  subst u1
  have q1 := zz e1
  refine a_if_eq C 31 r1 dX7_strike_4 (by decide) (fun c4 => ?_) (fun c4 => ?_)
  · skip
    refine a_aload_n C dX7_strike_31 0 rfl rfl ?_
    refine a_iconst C dX7_strike_32 ?_
    refine a_cVI C (k0 := 1) (As := [vI 1]) (rest := []) (c_X7_is x.2.1 v σ b hM 1 (by omega)) gX7_strike_X7_is rfl (by decide +kernel) (by decide) hM.f0 rfl hM.n0 rfl rfl (Nat.le_of_ble_eq_true rfl) dX7_strike_33 (fun z33 u33 r33 p33 => ?_)
    obtain ⟨e33, p33⟩ := p33
    subst u33
    have q33 := zz e33
    (first | (exfalso; omega) | (refine hret _ _ _ _ dX7_strike_36 (by omega) ?_; (repeat (first | rw [if_pos (by omega)] | rw [if_neg (by omega)])); exact ⟨by omega, rfl⟩))
  · skip
    refine a_iload_n C dX7_strike_7 2 rfl rfl ?_
    refine a_iconst C dX7_strike_8 ?_
    refine a_icmp_eq C 19 (by omega) (by decide) dX7_strike_9 (by decide) (fun c9 => ?_) (fun c9 => ?_)
    · skip
      refine a_iload_n C dX7_strike_19 3 rfl rfl ?_
      refine a_iconst C dX7_strike_20 ?_
      refine a_icmp_lt C 31 (by omega) (by decide) dX7_strike_21 (by decide) (fun c21 => ?_) (fun c21 => ?_)
      · skip
        refine a_aload_n C dX7_strike_31 0 rfl rfl ?_
        refine a_iconst C dX7_strike_32 ?_
        refine a_cVI C (k0 := 1) (As := [vI 1]) (rest := []) (c_X7_is x.2.1 v σ b hM 1 (by omega)) gX7_strike_X7_is rfl (by decide +kernel) (by decide) hM.f0 rfl hM.n0 rfl rfl (Nat.le_of_ble_eq_true rfl) dX7_strike_33 (fun z33 u33 r33 p33 => ?_)
        obtain ⟨e33, p33⟩ := p33
        subst u33
        have q33 := zz e33
        (first | (exfalso; omega) | (refine hret _ _ _ _ dX7_strike_36 (by omega) ?_; (repeat (first | rw [if_pos (by omega)] | rw [if_neg (by omega)])); exact ⟨by omega, rfl⟩))
      · skip
        refine a_iload_n C dX7_strike_24 3 rfl rfl ?_
        refine a_sipush C dX7_strike_25 ?_
        refine a_icmp_le C 37 (by omega) (by decide) dX7_strike_28 (by decide) (fun c28 => ?_) (fun c28 => ?_)
        · skip
          refine a_iload_n C dX7_strike_37 2 rfl rfl ?_
          refine a_iconst C dX7_strike_38 ?_
          refine a_icmp_ne C 51 (by omega) (by decide) dX7_strike_39 (by decide) (fun c39 => ?_) (fun c39 => ?_)
          · skip
            refine a_aload_n C dX7_strike_51 0 rfl rfl ?_
            refine a_getf C hM.f0 hM.n0 (Cn := RX7) (T := TX7) (N := 30) rfl iX7 6 (by decide) k24 (w := .ref (vq v (b + 4))) rfl dX7_strike_52 ?_
            refine a_bipush C dX7_strike_55 ?_
            refine a_iload_n C dX7_strike_57 1 rfl rfl ?_
            refine a_imul C dX7_strike_58 ?_
            refine a_iload_n C dX7_strike_59 2 rfl rfl ?_
            refine a_iadd C dX7_strike_60 ?_
            refine a_iald C hM.f4 hM.n4 0 hM.tI (by omega) (by omega) (by decide) dX7_strike_61 (fun z61 e61 r61 => ?_)
            refine a_iload_n C dX7_strike_62 3 rfl rfl ?_
            refine a_icmp_ge C 72 r61 (by omega) dX7_strike_63 (by decide) (fun c63 => ?_) (fun c63 => ?_)
            · skip
              refine a_iconst C dX7_strike_72 ?_
              refine a_istore C [(4, vI 0), (0, .ref (vq v b)), (1, vI i1), (2, vI x1), (3, vI m1)] dX7_strike_73 (by decide) rfl ?_
              have hR1 := hR i1 (by omega) (by omega)
              have lp : ∀ (n : Nat) (k : Int) (τ : Mem) , (m1 - k).toNat = n → 0 ≤ k ∧ k ≤ m1 → τ = itrR (fun _ τ => mcM τ b i1 x1 (-1)) 0 k σ → mrB τ b i1 (100000000 + k) → True → At x v A Q 5 75 [(4, vI k), (0, .ref (vq v b)), (1, vI i1), (2, vI x1), (3, vI m1)] [] τ := by
                intro n
                induction n using Nat.strongRecOn with
                | _ n ih =>
                  intro k τ hn iv1 iM iB iS
                  refine a_iload C dX7_strike_75 0 rfl ?_
                  refine a_iload_n C dX7_strike_77 4 rfl rfl ?_
                  refine a_icmp_ge C 94 (by omega) (by omega) dX7_strike_78 (by decide) (fun c78 => ?_) (fun c78 => ?_)
                  · skip
                    refine a_aload_n C dX7_strike_94 1 rfl rfl ?_
                    refine a_iconst C dX7_strike_95 ?_
                    refine a_cVI C (k0 := 1) (As := [vI 0]) (rest := []) (c_X7_is x.2.1 v τ b hM 0 (by omega)) gX7_strike_X7_is rfl (by decide +kernel) (by decide) hM.f0 rfl hM.n0 rfl rfl (Nat.le_of_ble_eq_true rfl) dX7_strike_96 (fun z96 u96 r96 p96 => ?_)
                    obtain ⟨e96, p96⟩ := p96
                    subst u96
                    have q96 := zz e96
                    (first | (exfalso; omega) | (refine hret _ _ _ _ dX7_strike_99 (by omega) ?_; (repeat (first | rw [if_pos (by omega)] | rw [if_neg (by omega)])); exact ⟨by omega, by rw [iM, show k = m1 by omega]⟩))
                  · skip
                    refine a_aload_n C dX7_strike_81 1 rfl rfl ?_
                    refine a_iload_n C dX7_strike_82 2 rfl rfl ?_
                    refine a_iload_n C dX7_strike_83 3 rfl rfl ?_
                    refine a_iconst C dX7_strike_84 ?_
                    refine a_cVV C (k0 := 3) (As := [vI i1, vI x1, vI (-1)]) (rest := []) (c_X7_changes x.2.1 v τ b hM i1 x1 (-1) (100000000 + k) (by omega) (by omega) (Or.inr rfl) (by omega) iB) gX7_strike_X7_changes rfl (by decide +kernel) (by decide) hM.f0 rfl hM.n0 rfl rfl (Nat.le_of_ble_eq_true rfl) dX7_strike_85 (fun u85 p85 => ?_)
                    subst u85
                    refine a_iinc C (k + 1) [(4, vI (k + 1)), (0, .ref (vq v b)), (1, vI i1), (2, vI x1), (3, vI m1)] dX7_strike_88 0 rfl (by omega) (by decide) rfl ?_
                    refine a_goto C 75 dX7_strike_91 (by decide) ?_
                    refine ih _ (by omega) (k + 1) _ rfl (by omega) ?_ ?_ ?_
                    · rw [itrR_right (by omega), ← iM]
                    · have := mrB_mc (val := x1) (m := -1) (by omega) (Or.inr rfl) iB; rw [show 100000000 + (k + 1) = 100000000 + k + 1 by omega]; exact this
                    · trivial
              exact lp _ 0 σ rfl (by omega) (by rw [itrR_nil (by omega)]) (by rw [Int.add_zero]; exact hR1.1) trivial
            · skip
              refine a_aload_n C dX7_strike_66 0 rfl rfl ?_
              refine a_iconst C dX7_strike_67 ?_
              refine a_cVI C (k0 := 1) (As := [vI 4]) (rest := []) (c_X7_is x.2.1 v σ b hM 4 (by omega)) gX7_strike_X7_is rfl (by decide +kernel) (by decide) hM.f0 rfl hM.n0 rfl rfl (Nat.le_of_ble_eq_true rfl) dX7_strike_68 (fun z68 u68 r68 p68 => ?_)
              obtain ⟨e68, p68⟩ := p68
              subst u68
              have q68 := zz e68
              (first | (exfalso; omega) | (refine hret _ _ _ _ dX7_strike_71 (by omega) ?_; (repeat (first | rw [if_pos (by omega)] | rw [if_neg (by omega)])); exact ⟨by omega, rfl⟩))
          · skip
            refine a_aload_n C dX7_strike_42 0 rfl rfl ?_
            refine a_getf C hM.f0 hM.n0 (Cn := RX7) (T := TX7) (N := 30) rfl iX7 7 (by decide) k27 (w := .ref (vq v (b + 5))) rfl dX7_strike_43 ?_
            refine a_iload_n C dX7_strike_46 1 rfl rfl ?_
            refine a_iald C hM.f5 hM.n5 0 hM.tI (by omega) (by omega) (by decide) dX7_strike_47 (fun z47 e47 r47 => ?_)
            refine a_goto C 62 dX7_strike_48 (by decide) ?_
            refine a_iload_n C dX7_strike_62 3 rfl rfl ?_
            refine a_icmp_ge C 72 r47 (by omega) dX7_strike_63 (by decide) (fun c63 => ?_) (fun c63 => ?_)
            · skip
              refine a_iconst C dX7_strike_72 ?_
              refine a_istore C [(4, vI 0), (0, .ref (vq v b)), (1, vI i1), (2, vI x1), (3, vI m1)] dX7_strike_73 (by decide) rfl ?_
              have hR1 := hR i1 (by omega) (by omega)
              have lp : ∀ (n : Nat) (k : Int) (τ : Mem) , (m1 - k).toNat = n → 0 ≤ k ∧ k ≤ m1 → τ = itrR (fun _ τ => mcM τ b i1 x1 (-1)) 0 k σ → mrB τ b i1 (100000000 + k) → True → At x v A Q 5 75 [(4, vI k), (0, .ref (vq v b)), (1, vI i1), (2, vI x1), (3, vI m1)] [] τ := by
                intro n
                induction n using Nat.strongRecOn with
                | _ n ih =>
                  intro k τ hn iv1 iM iB iS
                  refine a_iload C dX7_strike_75 0 rfl ?_
                  refine a_iload_n C dX7_strike_77 4 rfl rfl ?_
                  refine a_icmp_ge C 94 (by omega) (by omega) dX7_strike_78 (by decide) (fun c78 => ?_) (fun c78 => ?_)
                  · skip
                    refine a_aload_n C dX7_strike_94 1 rfl rfl ?_
                    refine a_iconst C dX7_strike_95 ?_
                    refine a_cVI C (k0 := 1) (As := [vI 0]) (rest := []) (c_X7_is x.2.1 v τ b hM 0 (by omega)) gX7_strike_X7_is rfl (by decide +kernel) (by decide) hM.f0 rfl hM.n0 rfl rfl (Nat.le_of_ble_eq_true rfl) dX7_strike_96 (fun z96 u96 r96 p96 => ?_)
                    obtain ⟨e96, p96⟩ := p96
                    subst u96
                    have q96 := zz e96
                    (first | (exfalso; omega) | (refine hret _ _ _ _ dX7_strike_99 (by omega) ?_; (repeat (first | rw [if_pos (by omega)] | rw [if_neg (by omega)])); exact ⟨by omega, by rw [iM, show k = m1 by omega]⟩))
                  · skip
                    refine a_aload_n C dX7_strike_81 1 rfl rfl ?_
                    refine a_iload_n C dX7_strike_82 2 rfl rfl ?_
                    refine a_iload_n C dX7_strike_83 3 rfl rfl ?_
                    refine a_iconst C dX7_strike_84 ?_
                    refine a_cVV C (k0 := 3) (As := [vI i1, vI x1, vI (-1)]) (rest := []) (c_X7_changes x.2.1 v τ b hM i1 x1 (-1) (100000000 + k) (by omega) (by omega) (Or.inr rfl) (by omega) iB) gX7_strike_X7_changes rfl (by decide +kernel) (by decide) hM.f0 rfl hM.n0 rfl rfl (Nat.le_of_ble_eq_true rfl) dX7_strike_85 (fun u85 p85 => ?_)
                    subst u85
                    refine a_iinc C (k + 1) [(4, vI (k + 1)), (0, .ref (vq v b)), (1, vI i1), (2, vI x1), (3, vI m1)] dX7_strike_88 0 rfl (by omega) (by decide) rfl ?_
                    refine a_goto C 75 dX7_strike_91 (by decide) ?_
                    refine ih _ (by omega) (k + 1) _ rfl (by omega) ?_ ?_ ?_
                    · rw [itrR_right (by omega), ← iM]
                    · have := mrB_mc (val := x1) (m := -1) (by omega) (Or.inr rfl) iB; rw [show 100000000 + (k + 1) = 100000000 + k + 1 by omega]; exact this
                    · trivial
              exact lp _ 0 σ rfl (by omega) (by rw [itrR_nil (by omega)]) (by rw [Int.add_zero]; exact hR1.1) trivial
            · skip
              refine a_aload_n C dX7_strike_66 0 rfl rfl ?_
              refine a_iconst C dX7_strike_67 ?_
              refine a_cVI C (k0 := 1) (As := [vI 4]) (rest := []) (c_X7_is x.2.1 v σ b hM 4 (by omega)) gX7_strike_X7_is rfl (by decide +kernel) (by decide) hM.f0 rfl hM.n0 rfl rfl (Nat.le_of_ble_eq_true rfl) dX7_strike_68 (fun z68 u68 r68 p68 => ?_)
              obtain ⟨e68, p68⟩ := p68
              subst u68
              have q68 := zz e68
              (first | (exfalso; omega) | (refine hret _ _ _ _ dX7_strike_71 (by omega) ?_; (repeat (first | rw [if_pos (by omega)] | rw [if_neg (by omega)])); exact ⟨by omega, rfl⟩))
        · skip
          refine a_aload_n C dX7_strike_31 0 rfl rfl ?_
          refine a_iconst C dX7_strike_32 ?_
          refine a_cVI C (k0 := 1) (As := [vI 1]) (rest := []) (c_X7_is x.2.1 v σ b hM 1 (by omega)) gX7_strike_X7_is rfl (by decide +kernel) (by decide) hM.f0 rfl hM.n0 rfl rfl (Nat.le_of_ble_eq_true rfl) dX7_strike_33 (fun z33 u33 r33 p33 => ?_)
          obtain ⟨e33, p33⟩ := p33
          subst u33
          have q33 := zz e33
          (first | (exfalso; omega) | (refine hret _ _ _ _ dX7_strike_36 (by omega) ?_; (repeat (first | rw [if_pos (by omega)] | rw [if_neg (by omega)])); exact ⟨by omega, rfl⟩))
    · skip
      refine a_iload_n C dX7_strike_12 2 rfl rfl ?_
      refine a_cSI C (k0 := 1) (As := [vI x1]) (rest := []) (c_X7_isValue x.2.1 v σ x1 (by omega)) gX7_strike_X7_isValue rfl (by decide +kernel) (by decide) rfl rfl (Nat.le_of_ble_eq_true rfl) dX7_strike_13 (fun z13 u13 r13 p13 => ?_)
      obtain ⟨e13, p13⟩ := p13
      subst u13
      have q13 := zz e13
      refine a_if_eq C 31 r13 dX7_strike_16 (by decide) (fun c16 => ?_) (fun c16 => ?_)
      · skip
        refine a_aload_n C dX7_strike_31 0 rfl rfl ?_
        refine a_iconst C dX7_strike_32 ?_
        refine a_cVI C (k0 := 1) (As := [vI 1]) (rest := []) (c_X7_is x.2.1 v σ b hM 1 (by omega)) gX7_strike_X7_is rfl (by decide +kernel) (by decide) hM.f0 rfl hM.n0 rfl rfl (Nat.le_of_ble_eq_true rfl) dX7_strike_33 (fun z33 u33 r33 p33 => ?_)
        obtain ⟨e33, p33⟩ := p33
        subst u33
        have q33 := zz e33
        (first | (exfalso; omega) | (refine hret _ _ _ _ dX7_strike_36 (by omega) ?_; (repeat (first | rw [if_pos (by omega)] | rw [if_neg (by omega)])); exact ⟨by omega, rfl⟩))
      · skip
        refine a_iload_n C dX7_strike_19 3 rfl rfl ?_
        refine a_iconst C dX7_strike_20 ?_
        refine a_icmp_lt C 31 (by omega) (by decide) dX7_strike_21 (by decide) (fun c21 => ?_) (fun c21 => ?_)
        · skip
          refine a_aload_n C dX7_strike_31 0 rfl rfl ?_
          refine a_iconst C dX7_strike_32 ?_
          refine a_cVI C (k0 := 1) (As := [vI 1]) (rest := []) (c_X7_is x.2.1 v σ b hM 1 (by omega)) gX7_strike_X7_is rfl (by decide +kernel) (by decide) hM.f0 rfl hM.n0 rfl rfl (Nat.le_of_ble_eq_true rfl) dX7_strike_33 (fun z33 u33 r33 p33 => ?_)
          obtain ⟨e33, p33⟩ := p33
          subst u33
          have q33 := zz e33
          (first | (exfalso; omega) | (refine hret _ _ _ _ dX7_strike_36 (by omega) ?_; (repeat (first | rw [if_pos (by omega)] | rw [if_neg (by omega)])); exact ⟨by omega, rfl⟩))
        · skip
          refine a_iload_n C dX7_strike_24 3 rfl rfl ?_
          refine a_sipush C dX7_strike_25 ?_
          refine a_icmp_le C 37 (by omega) (by decide) dX7_strike_28 (by decide) (fun c28 => ?_) (fun c28 => ?_)
          · skip
            refine a_iload_n C dX7_strike_37 2 rfl rfl ?_
            refine a_iconst C dX7_strike_38 ?_
            refine a_icmp_ne C 51 (by omega) (by decide) dX7_strike_39 (by decide) (fun c39 => ?_) (fun c39 => ?_)
            · skip
              refine a_aload_n C dX7_strike_51 0 rfl rfl ?_
              refine a_getf C hM.f0 hM.n0 (Cn := RX7) (T := TX7) (N := 30) rfl iX7 6 (by decide) k24 (w := .ref (vq v (b + 4))) rfl dX7_strike_52 ?_
              refine a_bipush C dX7_strike_55 ?_
              refine a_iload_n C dX7_strike_57 1 rfl rfl ?_
              refine a_imul C dX7_strike_58 ?_
              refine a_iload_n C dX7_strike_59 2 rfl rfl ?_
              refine a_iadd C dX7_strike_60 ?_
              refine a_iald C hM.f4 hM.n4 0 hM.tI (by omega) (by omega) (by decide) dX7_strike_61 (fun z61 e61 r61 => ?_)
              refine a_iload_n C dX7_strike_62 3 rfl rfl ?_
              refine a_icmp_ge C 72 r61 (by omega) dX7_strike_63 (by decide) (fun c63 => ?_) (fun c63 => ?_)
              · skip
                refine a_iconst C dX7_strike_72 ?_
                refine a_istore C [(4, vI 0), (0, .ref (vq v b)), (1, vI i1), (2, vI x1), (3, vI m1)] dX7_strike_73 (by decide) rfl ?_
                have hR1 := hR i1 (by omega) (by omega)
                have lp : ∀ (n : Nat) (k : Int) (τ : Mem) , (m1 - k).toNat = n → 0 ≤ k ∧ k ≤ m1 → τ = itrR (fun _ τ => mcM τ b i1 x1 (-1)) 0 k σ → mrB τ b i1 (100000000 + k) → True → At x v A Q 5 75 [(4, vI k), (0, .ref (vq v b)), (1, vI i1), (2, vI x1), (3, vI m1)] [] τ := by
                  intro n
                  induction n using Nat.strongRecOn with
                  | _ n ih =>
                    intro k τ hn iv1 iM iB iS
                    refine a_iload C dX7_strike_75 0 rfl ?_
                    refine a_iload_n C dX7_strike_77 4 rfl rfl ?_
                    refine a_icmp_ge C 94 (by omega) (by omega) dX7_strike_78 (by decide) (fun c78 => ?_) (fun c78 => ?_)
                    · skip
                      refine a_aload_n C dX7_strike_94 1 rfl rfl ?_
                      refine a_iconst C dX7_strike_95 ?_
                      refine a_cVI C (k0 := 1) (As := [vI 0]) (rest := []) (c_X7_is x.2.1 v τ b hM 0 (by omega)) gX7_strike_X7_is rfl (by decide +kernel) (by decide) hM.f0 rfl hM.n0 rfl rfl (Nat.le_of_ble_eq_true rfl) dX7_strike_96 (fun z96 u96 r96 p96 => ?_)
                      obtain ⟨e96, p96⟩ := p96
                      subst u96
                      have q96 := zz e96
                      (first | (exfalso; omega) | (refine hret _ _ _ _ dX7_strike_99 (by omega) ?_; (repeat (first | rw [if_pos (by omega)] | rw [if_neg (by omega)])); exact ⟨by omega, by rw [iM, show k = m1 by omega]⟩))
                    · skip
                      refine a_aload_n C dX7_strike_81 1 rfl rfl ?_
                      refine a_iload_n C dX7_strike_82 2 rfl rfl ?_
                      refine a_iload_n C dX7_strike_83 3 rfl rfl ?_
                      refine a_iconst C dX7_strike_84 ?_
                      refine a_cVV C (k0 := 3) (As := [vI i1, vI x1, vI (-1)]) (rest := []) (c_X7_changes x.2.1 v τ b hM i1 x1 (-1) (100000000 + k) (by omega) (by omega) (Or.inr rfl) (by omega) iB) gX7_strike_X7_changes rfl (by decide +kernel) (by decide) hM.f0 rfl hM.n0 rfl rfl (Nat.le_of_ble_eq_true rfl) dX7_strike_85 (fun u85 p85 => ?_)
                      subst u85
                      refine a_iinc C (k + 1) [(4, vI (k + 1)), (0, .ref (vq v b)), (1, vI i1), (2, vI x1), (3, vI m1)] dX7_strike_88 0 rfl (by omega) (by decide) rfl ?_
                      refine a_goto C 75 dX7_strike_91 (by decide) ?_
                      refine ih _ (by omega) (k + 1) _ rfl (by omega) ?_ ?_ ?_
                      · rw [itrR_right (by omega), ← iM]
                      · have := mrB_mc (val := x1) (m := -1) (by omega) (Or.inr rfl) iB; rw [show 100000000 + (k + 1) = 100000000 + k + 1 by omega]; exact this
                      · trivial
                exact lp _ 0 σ rfl (by omega) (by rw [itrR_nil (by omega)]) (by rw [Int.add_zero]; exact hR1.1) trivial
              · skip
                refine a_aload_n C dX7_strike_66 0 rfl rfl ?_
                refine a_iconst C dX7_strike_67 ?_
                refine a_cVI C (k0 := 1) (As := [vI 4]) (rest := []) (c_X7_is x.2.1 v σ b hM 4 (by omega)) gX7_strike_X7_is rfl (by decide +kernel) (by decide) hM.f0 rfl hM.n0 rfl rfl (Nat.le_of_ble_eq_true rfl) dX7_strike_68 (fun z68 u68 r68 p68 => ?_)
                obtain ⟨e68, p68⟩ := p68
                subst u68
                have q68 := zz e68
                (first | (exfalso; omega) | (refine hret _ _ _ _ dX7_strike_71 (by omega) ?_; (repeat (first | rw [if_pos (by omega)] | rw [if_neg (by omega)])); exact ⟨by omega, rfl⟩))
            · skip
              refine a_aload_n C dX7_strike_42 0 rfl rfl ?_
              refine a_getf C hM.f0 hM.n0 (Cn := RX7) (T := TX7) (N := 30) rfl iX7 7 (by decide) k27 (w := .ref (vq v (b + 5))) rfl dX7_strike_43 ?_
              refine a_iload_n C dX7_strike_46 1 rfl rfl ?_
              refine a_iald C hM.f5 hM.n5 0 hM.tI (by omega) (by omega) (by decide) dX7_strike_47 (fun z47 e47 r47 => ?_)
              refine a_goto C 62 dX7_strike_48 (by decide) ?_
              refine a_iload_n C dX7_strike_62 3 rfl rfl ?_
              refine a_icmp_ge C 72 r47 (by omega) dX7_strike_63 (by decide) (fun c63 => ?_) (fun c63 => ?_)
              · skip
                refine a_iconst C dX7_strike_72 ?_
                refine a_istore C [(4, vI 0), (0, .ref (vq v b)), (1, vI i1), (2, vI x1), (3, vI m1)] dX7_strike_73 (by decide) rfl ?_
                have hR1 := hR i1 (by omega) (by omega)
                have lp : ∀ (n : Nat) (k : Int) (τ : Mem) , (m1 - k).toNat = n → 0 ≤ k ∧ k ≤ m1 → τ = itrR (fun _ τ => mcM τ b i1 x1 (-1)) 0 k σ → mrB τ b i1 (100000000 + k) → True → At x v A Q 5 75 [(4, vI k), (0, .ref (vq v b)), (1, vI i1), (2, vI x1), (3, vI m1)] [] τ := by
                  intro n
                  induction n using Nat.strongRecOn with
                  | _ n ih =>
                    intro k τ hn iv1 iM iB iS
                    refine a_iload C dX7_strike_75 0 rfl ?_
                    refine a_iload_n C dX7_strike_77 4 rfl rfl ?_
                    refine a_icmp_ge C 94 (by omega) (by omega) dX7_strike_78 (by decide) (fun c78 => ?_) (fun c78 => ?_)
                    · skip
                      refine a_aload_n C dX7_strike_94 1 rfl rfl ?_
                      refine a_iconst C dX7_strike_95 ?_
                      refine a_cVI C (k0 := 1) (As := [vI 0]) (rest := []) (c_X7_is x.2.1 v τ b hM 0 (by omega)) gX7_strike_X7_is rfl (by decide +kernel) (by decide) hM.f0 rfl hM.n0 rfl rfl (Nat.le_of_ble_eq_true rfl) dX7_strike_96 (fun z96 u96 r96 p96 => ?_)
                      obtain ⟨e96, p96⟩ := p96
                      subst u96
                      have q96 := zz e96
                      (first | (exfalso; omega) | (refine hret _ _ _ _ dX7_strike_99 (by omega) ?_; (repeat (first | rw [if_pos (by omega)] | rw [if_neg (by omega)])); exact ⟨by omega, by rw [iM, show k = m1 by omega]⟩))
                    · skip
                      refine a_aload_n C dX7_strike_81 1 rfl rfl ?_
                      refine a_iload_n C dX7_strike_82 2 rfl rfl ?_
                      refine a_iload_n C dX7_strike_83 3 rfl rfl ?_
                      refine a_iconst C dX7_strike_84 ?_
                      refine a_cVV C (k0 := 3) (As := [vI i1, vI x1, vI (-1)]) (rest := []) (c_X7_changes x.2.1 v τ b hM i1 x1 (-1) (100000000 + k) (by omega) (by omega) (Or.inr rfl) (by omega) iB) gX7_strike_X7_changes rfl (by decide +kernel) (by decide) hM.f0 rfl hM.n0 rfl rfl (Nat.le_of_ble_eq_true rfl) dX7_strike_85 (fun u85 p85 => ?_)
                      subst u85
                      refine a_iinc C (k + 1) [(4, vI (k + 1)), (0, .ref (vq v b)), (1, vI i1), (2, vI x1), (3, vI m1)] dX7_strike_88 0 rfl (by omega) (by decide) rfl ?_
                      refine a_goto C 75 dX7_strike_91 (by decide) ?_
                      refine ih _ (by omega) (k + 1) _ rfl (by omega) ?_ ?_ ?_
                      · rw [itrR_right (by omega), ← iM]
                      · have := mrB_mc (val := x1) (m := -1) (by omega) (Or.inr rfl) iB; rw [show 100000000 + (k + 1) = 100000000 + k + 1 by omega]; exact this
                      · trivial
                exact lp _ 0 σ rfl (by omega) (by rw [itrR_nil (by omega)]) (by rw [Int.add_zero]; exact hR1.1) trivial
              · skip
                refine a_aload_n C dX7_strike_66 0 rfl rfl ?_
                refine a_iconst C dX7_strike_67 ?_
                refine a_cVI C (k0 := 1) (As := [vI 4]) (rest := []) (c_X7_is x.2.1 v σ b hM 4 (by omega)) gX7_strike_X7_is rfl (by decide +kernel) (by decide) hM.f0 rfl hM.n0 rfl rfl (Nat.le_of_ble_eq_true rfl) dX7_strike_68 (fun z68 u68 r68 p68 => ?_)
                obtain ⟨e68, p68⟩ := p68
                subst u68
                have q68 := zz e68
                (first | (exfalso; omega) | (refine hret _ _ _ _ dX7_strike_71 (by omega) ?_; (repeat (first | rw [if_pos (by omega)] | rw [if_neg (by omega)])); exact ⟨by omega, rfl⟩))
          · skip
            refine a_aload_n C dX7_strike_31 0 rfl rfl ?_
            refine a_iconst C dX7_strike_32 ?_
            refine a_cVI C (k0 := 1) (As := [vI 1]) (rest := []) (c_X7_is x.2.1 v σ b hM 1 (by omega)) gX7_strike_X7_is rfl (by decide +kernel) (by decide) hM.f0 rfl hM.n0 rfl rfl (Nat.le_of_ble_eq_true rfl) dX7_strike_33 (fun z33 u33 r33 p33 => ?_)
            obtain ⟨e33, p33⟩ := p33
            subst u33
            have q33 := zz e33
            (first | (exfalso; omega) | (refine hret _ _ _ _ dX7_strike_36 (by omega) ?_; (repeat (first | rw [if_pos (by omega)] | rw [if_neg (by omega)])); exact ⟨by omega, rfl⟩))
set_option maxHeartbeats 4000000 in
set_option maxRecDepth 100000 in
theorem c_X7_truly (l : Launch) (v : VC) (σ : Mem) (b : Nat) (hM : shMo v b) (i1 x1 : Int) (h1 : rg i1) (h2 : rg x1) : CtI l yX7_truly wsX7_truly 1 21 v [.ref (vq v b), vI i1, vI x1] σ (fun z u => (if ¬ ((0 ≤ i1 ∧ i1 < 3) ∧ (-1 ≤ x1 ∧ x1 ≤ 39)) then (z = -1 ∧ u = sput σ b 0 1) else (z = (if x1 = -1 then σ (b + 5) i1 else σ (b + 4) (40 * i1 + x1)) ∧ u = sput σ b 0 0))) := by
  refine mkI (cc := cX7_truly) (n := 3) (by decide +kernel) rfl (Nat.le_of_ble_eq_true rfl) (fun x A Q hx C hret => ?_)
  subst hx
  show At x v A Q _ 0 [(0, .ref (vq v b)), (1, vI i1), (2, vI x1)] [] σ
  have iX7 : ∀ w ∈ wsX70, w ∈ wsX7_truly := by decide +kernel
  have k85 : Cond.fieldLink RX7 85 (TX7 0).1 (TX7 0).2.1 (TX7 0).2.2.1 ∈ wsX7_truly := by decide +kernel
  have k24 : Cond.fieldLink RX7 24 (TX7 6).1 (TX7 6).2.1 (TX7 6).2.2.1 ∈ wsX7_truly := by decide +kernel
  have k27 : Cond.fieldLink RX7 27 (TX7 7).1 (TX7 7).2.1 (TX7 7).2.2.1 ∈ wsX7_truly := by decide +kernel
  refine a_iload_n C dX7_truly_0 1 rfl rfl ?_
  refine a_cSI C (k0 := 1) (As := [vI i1]) (rest := []) (c_X7_isColumn x.2.1 v σ i1 (by omega)) gX7_truly_X7_isColumn rfl (by decide +kernel) (by decide) rfl rfl (Nat.le_of_ble_eq_true rfl) dX7_truly_1 (fun z1 u1 r1 p1 => ?_)
  obtain ⟨e1, p1⟩ := p1
  subst u1
  have q1 := zz e1
  refine a_if_eq C 19 r1 dX7_truly_4 (by decide) (fun c4 => ?_) (fun c4 => ?_)
  · skip
    refine a_aload_n C dX7_truly_19 0 rfl rfl ?_
    refine a_iconst C dX7_truly_20 ?_
    refine a_cVI C (k0 := 1) (As := [vI 1]) (rest := []) (c_X7_refuse x.2.1 v σ b hM 1 (by omega)) gX7_truly_X7_refuse rfl (by decide +kernel) (by decide) hM.f0 rfl hM.n0 rfl rfl (Nat.le_of_ble_eq_true rfl) dX7_truly_21 (fun z21 u21 r21 p21 => ?_)
    obtain ⟨e21, p21⟩ := p21
    subst u21
    (first | (exfalso; omega) | (refine hret _ _ _ _ dX7_truly_24 r21 ?_; (repeat (first | rw [if_pos (by omega)] | rw [if_neg (by omega)])); (first | exact ⟨by omega, rfl⟩ | exact ⟨by (first | rw [if_pos (by omega)] | rw [if_neg (by omega)]); assumption, rfl⟩)))
  · skip
    refine a_iload_n C dX7_truly_7 2 rfl rfl ?_
    refine a_iconst C dX7_truly_8 ?_
    refine a_icmp_eq C 25 (by omega) (by decide) dX7_truly_9 (by decide) (fun c9 => ?_) (fun c9 => ?_)
    · skip
      refine a_aload_n C dX7_truly_25 0 rfl rfl ?_
      refine a_iconst C dX7_truly_26 ?_
      refine a_puti C hM.f0 hM.n0 (Cn := RX7) (T := TX7) (N := 30) rfl iX7 tyX7_ok nmX7 0 (by decide) k85 rfl rfl 0 (by decide) (fun _ => Nat.le_of_ble_eq_true rfl) (fun _ => rfl) dX7_truly_27 ?_
      refine a_iload_n C dX7_truly_30 2 rfl rfl ?_
      refine a_iconst C dX7_truly_31 ?_
      refine a_icmp_ne C 44 (by omega) (by decide) dX7_truly_32 (by decide) (fun c32 => ?_) (fun c32 => ?_)
      · skip
        refine a_aload_n C dX7_truly_44 0 rfl rfl ?_
        refine a_getf C hM.f0 hM.n0 (Cn := RX7) (T := TX7) (N := 30) rfl iX7 6 (by decide) k24 (w := .ref (vq v (b + 4))) rfl dX7_truly_45 ?_
        refine a_bipush C dX7_truly_48 ?_
        refine a_iload_n C dX7_truly_50 1 rfl rfl ?_
        refine a_imul C dX7_truly_51 ?_
        refine a_iload_n C dX7_truly_52 2 rfl rfl ?_
        refine a_iadd C dX7_truly_53 ?_
        refine a_iald C hM.f4 hM.n4 0 hM.tI (by omega) (by omega) (by decide) dX7_truly_54 (fun z54 e54 r54 => ?_)
        try simp [sput_r, mset_n, sput, mset] at e54
        (first | (exfalso; omega) | (refine hret _ _ _ _ dX7_truly_55 r54 ?_; (repeat (first | rw [if_pos (by omega)] | rw [if_neg (by omega)])); (first | exact ⟨by omega, rfl⟩ | exact ⟨by (first | rw [if_pos (by omega)] | rw [if_neg (by omega)]); assumption, rfl⟩)))
      · skip
        refine a_aload_n C dX7_truly_35 0 rfl rfl ?_
        refine a_getf C hM.f0 hM.n0 (Cn := RX7) (T := TX7) (N := 30) rfl iX7 7 (by decide) k27 (w := .ref (vq v (b + 5))) rfl dX7_truly_36 ?_
        refine a_iload_n C dX7_truly_39 1 rfl rfl ?_
        refine a_iald C hM.f5 hM.n5 0 hM.tI (by omega) (by omega) (by decide) dX7_truly_40 (fun z40 e40 r40 => ?_)
        try simp [sput_r, mset_n, sput, mset] at e40
        refine a_goto C 55 dX7_truly_41 (by decide) ?_
        (first | (exfalso; omega) | (refine hret _ _ _ _ dX7_truly_55 r40 ?_; (repeat (first | rw [if_pos (by omega)] | rw [if_neg (by omega)])); (first | exact ⟨by omega, rfl⟩ | exact ⟨by (first | rw [if_pos (by omega)] | rw [if_neg (by omega)]); assumption, rfl⟩)))
    · skip
      refine a_iload_n C dX7_truly_12 2 rfl rfl ?_
      refine a_cSI C (k0 := 1) (As := [vI x1]) (rest := []) (c_X7_isValue x.2.1 v σ x1 (by omega)) gX7_truly_X7_isValue rfl (by decide +kernel) (by decide) rfl rfl (Nat.le_of_ble_eq_true rfl) dX7_truly_13 (fun z13 u13 r13 p13 => ?_)
      obtain ⟨e13, p13⟩ := p13
      subst u13
      have q13 := zz e13
      refine a_if_ne C 25 r13 dX7_truly_16 (by decide) (fun c16 => ?_) (fun c16 => ?_)
      · skip
        refine a_aload_n C dX7_truly_25 0 rfl rfl ?_
        refine a_iconst C dX7_truly_26 ?_
        refine a_puti C hM.f0 hM.n0 (Cn := RX7) (T := TX7) (N := 30) rfl iX7 tyX7_ok nmX7 0 (by decide) k85 rfl rfl 0 (by decide) (fun _ => Nat.le_of_ble_eq_true rfl) (fun _ => rfl) dX7_truly_27 ?_
        refine a_iload_n C dX7_truly_30 2 rfl rfl ?_
        refine a_iconst C dX7_truly_31 ?_
        refine a_icmp_ne C 44 (by omega) (by decide) dX7_truly_32 (by decide) (fun c32 => ?_) (fun c32 => ?_)
        · skip
          refine a_aload_n C dX7_truly_44 0 rfl rfl ?_
          refine a_getf C hM.f0 hM.n0 (Cn := RX7) (T := TX7) (N := 30) rfl iX7 6 (by decide) k24 (w := .ref (vq v (b + 4))) rfl dX7_truly_45 ?_
          refine a_bipush C dX7_truly_48 ?_
          refine a_iload_n C dX7_truly_50 1 rfl rfl ?_
          refine a_imul C dX7_truly_51 ?_
          refine a_iload_n C dX7_truly_52 2 rfl rfl ?_
          refine a_iadd C dX7_truly_53 ?_
          refine a_iald C hM.f4 hM.n4 0 hM.tI (by omega) (by omega) (by decide) dX7_truly_54 (fun z54 e54 r54 => ?_)
          try simp [sput_r, mset_n, sput, mset] at e54
          (first | (exfalso; omega) | (refine hret _ _ _ _ dX7_truly_55 r54 ?_; (repeat (first | rw [if_pos (by omega)] | rw [if_neg (by omega)])); (first | exact ⟨by omega, rfl⟩ | exact ⟨by (first | rw [if_pos (by omega)] | rw [if_neg (by omega)]); assumption, rfl⟩)))
        · skip
          refine a_aload_n C dX7_truly_35 0 rfl rfl ?_
          refine a_getf C hM.f0 hM.n0 (Cn := RX7) (T := TX7) (N := 30) rfl iX7 7 (by decide) k27 (w := .ref (vq v (b + 5))) rfl dX7_truly_36 ?_
          refine a_iload_n C dX7_truly_39 1 rfl rfl ?_
          refine a_iald C hM.f5 hM.n5 0 hM.tI (by omega) (by omega) (by decide) dX7_truly_40 (fun z40 e40 r40 => ?_)
          try simp [sput_r, mset_n, sput, mset] at e40
          refine a_goto C 55 dX7_truly_41 (by decide) ?_
          (first | (exfalso; omega) | (refine hret _ _ _ _ dX7_truly_55 r40 ?_; (repeat (first | rw [if_pos (by omega)] | rw [if_neg (by omega)])); (first | exact ⟨by omega, rfl⟩ | exact ⟨by (first | rw [if_pos (by omega)] | rw [if_neg (by omega)]); assumption, rfl⟩)))
      · skip
        refine a_aload_n C dX7_truly_19 0 rfl rfl ?_
        refine a_iconst C dX7_truly_20 ?_
        refine a_cVI C (k0 := 1) (As := [vI 1]) (rest := []) (c_X7_refuse x.2.1 v σ b hM 1 (by omega)) gX7_truly_X7_refuse rfl (by decide +kernel) (by decide) hM.f0 rfl hM.n0 rfl rfl (Nat.le_of_ble_eq_true rfl) dX7_truly_21 (fun z21 u21 r21 p21 => ?_)
        obtain ⟨e21, p21⟩ := p21
        subst u21
        (first | (exfalso; omega) | (refine hret _ _ _ _ dX7_truly_24 r21 ?_; (repeat (first | rw [if_pos (by omega)] | rw [if_neg (by omega)])); (first | exact ⟨by omega, rfl⟩ | exact ⟨by (first | rw [if_pos (by omega)] | rw [if_neg (by omega)]); assumption, rfl⟩)))
set_option maxHeartbeats 4000000 in
set_option maxRecDepth 100000 in
theorem c_X7_rows (l : Launch) (v : VC) (σ : Mem) (b : Nat) (hM : shMo v b) (i1 w1 : Int) (h1 : rg i1) (h2 : rg w1) (hK : ∀ c : Int, 0 ≤ c → c < 3 → moK σ b c) : CtI l yX7_rows wsX7_rows 1 21 v [.ref (vq v b), vI i1, vI w1] σ (fun z u => (if ¬ ((0 ≤ i1 ∧ i1 < 3) ∧ (0 ≤ w1 ∧ w1 ≤ 2)) then (z = -1 ∧ u = sput σ b 0 1) else (if w1 = 0 then (z = σ (b + 6) i1 ∧ u = sput σ b 0 0) else (if w1 = 1 then (z = σ (b + 6) i1 + σ (b + 5) i1 ∧ u = sput σ b 0 0) else (z = smR (fun v => if 0 < shR (σ (b + 4)) (40 * i1) v then 1 else 0) 0 40 ∧ u = sput σ b 0 0))))) := by
  refine mkI (cc := cX7_rows) (n := 5) (by decide +kernel) rfl (Nat.le_of_ble_eq_true rfl) (fun x A Q hx C hret => ?_)
  subst hx
  show At x v A Q _ 0 [(0, .ref (vq v b)), (1, vI i1), (2, vI w1)] [] σ
  have iX7 : ∀ w ∈ wsX70, w ∈ wsX7_rows := by decide +kernel
  have k85 : Cond.fieldLink RX7 85 (TX7 0).1 (TX7 0).2.1 (TX7 0).2.2.1 ∈ wsX7_rows := by decide +kernel
  have k30 : Cond.fieldLink RX7 30 (TX7 8).1 (TX7 8).2.1 (TX7 8).2.2.1 ∈ wsX7_rows := by decide +kernel
  have k24 : Cond.fieldLink RX7 24 (TX7 6).1 (TX7 6).2.1 (TX7 6).2.2.1 ∈ wsX7_rows := by decide +kernel
  refine a_iload_n C dX7_rows_0 1 rfl rfl ?_
  refine a_cSI C (k0 := 1) (As := [vI i1]) (rest := []) (c_X7_isColumn x.2.1 v σ i1 (by omega)) gX7_rows_X7_isColumn rfl (by decide +kernel) (by decide) rfl rfl (Nat.le_of_ble_eq_true rfl) dX7_rows_1 (fun z1 u1 r1 p1 => ?_)
  obtain ⟨e1, p1⟩ := p1
  subst u1
  have q1 := zz e1
  refine a_if_eq C 16 r1 dX7_rows_4 (by decide) (fun c4 => ?_) (fun c4 => ?_)
  · skip
    refine a_aload_n C dX7_rows_16 0 rfl rfl ?_
    refine a_iconst C dX7_rows_17 ?_
    refine a_cVI C (k0 := 1) (As := [vI 1]) (rest := []) (c_X7_refuse x.2.1 v σ b hM 1 (by omega)) gX7_rows_X7_refuse rfl (by decide +kernel) (by decide) hM.f0 rfl hM.n0 rfl rfl (Nat.le_of_ble_eq_true rfl) dX7_rows_18 (fun z18 u18 r18 p18 => ?_)
    obtain ⟨e18, p18⟩ := p18
    subst u18
    refine hret _ _ _ _ dX7_rows_21 r18 ?_
    (repeat (first | rw [if_pos (by omega)] | rw [if_neg (by omega)]))
    exact ⟨by omega, rfl⟩
  · skip
    refine a_iload_n C dX7_rows_7 2 rfl rfl ?_
    refine a_if_lt C 16 (by omega) dX7_rows_8 (by decide) (fun c8 => ?_) (fun c8 => ?_)
    · skip
      refine a_aload_n C dX7_rows_16 0 rfl rfl ?_
      refine a_iconst C dX7_rows_17 ?_
      refine a_cVI C (k0 := 1) (As := [vI 1]) (rest := []) (c_X7_refuse x.2.1 v σ b hM 1 (by omega)) gX7_rows_X7_refuse rfl (by decide +kernel) (by decide) hM.f0 rfl hM.n0 rfl rfl (Nat.le_of_ble_eq_true rfl) dX7_rows_18 (fun z18 u18 r18 p18 => ?_)
      obtain ⟨e18, p18⟩ := p18
      subst u18
      refine hret _ _ _ _ dX7_rows_21 r18 ?_
      (repeat (first | rw [if_pos (by omega)] | rw [if_neg (by omega)]))
      exact ⟨by omega, rfl⟩
    · skip
      refine a_iload_n C dX7_rows_11 2 rfl rfl ?_
      refine a_iconst C dX7_rows_12 ?_
      refine a_icmp_le C 22 (by omega) (by decide) dX7_rows_13 (by decide) (fun c13 => ?_) (fun c13 => ?_)
      · skip
        have k0 := hK i1 (by omega) (by omega)
        obtain ⟨kN, kE, kB, kH, kT, kV, kU⟩ := k0
        refine a_aload_n C dX7_rows_22 0 rfl rfl ?_
        refine a_iconst C dX7_rows_23 ?_
        refine a_puti C hM.f0 hM.n0 (Cn := RX7) (T := TX7) (N := 30) rfl iX7 tyX7_ok nmX7 0 (by decide) k85 rfl rfl 0 (by decide) (fun _ => Nat.le_of_ble_eq_true rfl) (fun _ => rfl) dX7_rows_24 ?_
        refine a_iconst C dX7_rows_27 ?_
        refine a_istore_n C 3 [(3, vI 0), (0, .ref (vq v b)), (1, vI i1), (2, vI w1)] dX7_rows_28 rfl (by decide) rfl ?_
        refine a_iconst C dX7_rows_29 ?_
        refine a_istore C [(4, vI 0), (3, vI 0), (0, .ref (vq v b)), (1, vI i1), (2, vI w1)] dX7_rows_30 (by decide) rfl ?_
        have lp : ∀ (n : Nat) (k n1 : Int) , (40 - k).toNat = n → 0 ≤ k ∧ k ≤ 40 → (n1 + smR (fun v => if 0 < shR (σ (b + 4)) (40 * i1) v then 1 else 0) k 40 = smR (fun v => if 0 < shR (σ (b + 4)) (40 * i1) v then 1 else 0) 0 40) → At x v A Q 5 32 [(4, vI k), (3, vI n1), (0, .ref (vq v b)), (1, vI i1), (2, vI w1)] [] (sput σ b 0 0) := by
          intro n
          induction n using Nat.strongRecOn with
          | _ n ih =>
            intro k n1 hn iv1 iv2
            refine a_iload C dX7_rows_32 0 rfl ?_
            refine a_bipush C dX7_rows_34 ?_
            refine a_icmp_ge C 68 (by omega) (by decide) dX7_rows_36 (by decide) (fun c36 => ?_) (fun c36 => ?_)
            · skip
              have hn : n1 = smR (fun v => if 0 < shR (σ (b + 4)) (40 * i1) v then 1 else 0) 0 40 := by rw [← iv2, smR_nil (by omega), Int.add_zero]
              have hb := smR_bd (f := fun v => if 0 < shR (σ (b + 4)) (40 * i1) v then 1 else 0) (a := 0) (b := 40) (lo := 0) (hi := 1) (fun v _ _ => by split <;> omega) (by decide)
              refine a_iload_n C dX7_rows_68 4 rfl rfl ?_
              refine a_if_ne C 81 (by omega) dX7_rows_69 (by decide) (fun c69 => ?_) (fun c69 => ?_)
              · skip
                refine a_iload_n C dX7_rows_81 4 rfl rfl ?_
                refine a_iconst C dX7_rows_82 ?_
                refine a_icmp_ne C 94 (by omega) (by decide) dX7_rows_83 (by decide) (fun c83 => ?_) (fun c83 => ?_)
                · skip
                  refine a_iload_n C dX7_rows_94 1 rfl rfl ?_
                  refine hret _ _ _ _ dX7_rows_95 (by omega) ?_
                  (repeat (first | rw [if_pos (by omega)] | rw [if_neg (by omega)]))
                  exact ⟨by omega, rfl⟩
                · skip
                  refine a_aload_n C dX7_rows_86 2 rfl rfl ?_
                  refine a_iload_n C dX7_rows_87 3 rfl rfl ?_
                  refine a_cVI C (k0 := 1) (As := [vI i1]) (rest := []) (c_X7_all x.2.1 v ((sput σ b 0 0)) b hM i1 (by omega) (by rw [sput_r (by omega)]; exact kV) (by rw [sput_r (by omega)]; exact kU)) gX7_rows_X7_all rfl (by decide +kernel) (by decide) hM.f0 rfl hM.n0 rfl rfl (Nat.le_of_ble_eq_true rfl) dX7_rows_88 (fun z88 u88 r88 p88 => ?_)
                  obtain ⟨e88, p88⟩ := p88
                  subst u88
                  try simp [sput_r, mset_n, sput, mset] at e88
                  refine a_goto C 95 dX7_rows_91 (by decide) ?_
                  refine hret _ _ _ _ dX7_rows_95 r88 ?_
                  (repeat (first | rw [if_pos (by omega)] | rw [if_neg (by omega)]))
                  exact ⟨by omega, rfl⟩
              · skip
                refine a_aload_n C dX7_rows_72 2 rfl rfl ?_
                refine a_getf C hM.f0 hM.n0 (Cn := RX7) (T := TX7) (N := 30) rfl iX7 8 (by decide) k30 (w := .ref (vq v (b + 6))) rfl dX7_rows_73 ?_
                refine a_iload_n C dX7_rows_76 3 rfl rfl ?_
                refine a_iald C hM.f6 hM.n6 0 hM.tI (by omega) (by omega) (by decide) dX7_rows_77 (fun z77 e77 r77 => ?_)
                try simp [sput_r, mset_n, sput, mset] at e77
                refine a_goto C 95 dX7_rows_78 (by decide) ?_
                refine hret _ _ _ _ dX7_rows_95 r77 ?_
                (repeat (first | rw [if_pos (by omega)] | rw [if_neg (by omega)]))
                exact ⟨by omega, rfl⟩
            · skip
              refine a_iload_n C dX7_rows_39 1 rfl rfl ?_
              refine a_aload_n C dX7_rows_40 2 rfl rfl ?_
              refine a_getf C hM.f0 hM.n0 (Cn := RX7) (T := TX7) (N := 30) rfl iX7 6 (by decide) k24 (w := .ref (vq v (b + 4))) rfl dX7_rows_41 ?_
              refine a_bipush C dX7_rows_44 ?_
              refine a_iload_n C dX7_rows_46 3 rfl rfl ?_
              refine a_imul C dX7_rows_47 ?_
              refine a_iload C dX7_rows_48 0 rfl ?_
              refine a_iadd C dX7_rows_50 ?_
              refine a_iald C hM.f4 hM.n4 0 hM.tI (by omega) (by omega) (by decide) dX7_rows_51 (fun z51 e51 r51 => ?_)
              try simp [sput_r, mset_n, sput, mset] at e51
              rw [shR_i (σ (b + 4)) (40 * i1) k _ rfl] at e51
              refine a_if_le C 59 r51 dX7_rows_52 (by decide) (fun c52 => ?_) (fun c52 => ?_)
              · skip
                refine a_iconst C dX7_rows_59 ?_
                refine a_iadd C dX7_rows_60 ?_
                refine a_istore_n C 3 [(3, vI (n1 + 0)), (4, vI k), (0, .ref (vq v b)), (1, vI i1), (2, vI w1)] dX7_rows_61 rfl (by decide) rfl ?_
                refine a_iinc C (k + 1) [(4, vI (k + 1)), (3, vI (n1 + 0)), (0, .ref (vq v b)), (1, vI i1), (2, vI w1)] dX7_rows_62 1 rfl (by omega) (by decide) rfl ?_
                refine a_goto C 32 dX7_rows_65 (by decide) ?_
                exact ih _ (by omega) _ _ rfl (by omega) (by rw [smR_step (by omega)] at iv2; simp only [← e51] at iv2; (first | rw [if_pos (by omega)] at iv2 | rw [if_neg (by omega)] at iv2); omega)
              · skip
                refine a_iconst C dX7_rows_55 ?_
                refine a_goto C 60 dX7_rows_56 (by decide) ?_
                refine a_iadd C dX7_rows_60 ?_
                refine a_istore_n C 3 [(3, vI (n1 + 1)), (4, vI k), (0, .ref (vq v b)), (1, vI i1), (2, vI w1)] dX7_rows_61 rfl (by decide) rfl ?_
                refine a_iinc C (k + 1) [(4, vI (k + 1)), (3, vI (n1 + 1)), (0, .ref (vq v b)), (1, vI i1), (2, vI w1)] dX7_rows_62 1 rfl (by omega) (by decide) rfl ?_
                refine a_goto C 32 dX7_rows_65 (by decide) ?_
                exact ih _ (by omega) _ _ rfl (by omega) (by rw [smR_step (by omega)] at iv2; simp only [← e51] at iv2; (first | rw [if_pos (by omega)] at iv2 | rw [if_neg (by omega)] at iv2); omega)
        exact lp _ 0 0 rfl (by omega) (by omega)
      · skip
        refine a_aload_n C dX7_rows_16 0 rfl rfl ?_
        refine a_iconst C dX7_rows_17 ?_
        refine a_cVI C (k0 := 1) (As := [vI 1]) (rest := []) (c_X7_refuse x.2.1 v σ b hM 1 (by omega)) gX7_rows_X7_refuse rfl (by decide +kernel) (by decide) hM.f0 rfl hM.n0 rfl rfl (Nat.le_of_ble_eq_true rfl) dX7_rows_18 (fun z18 u18 r18 p18 => ?_)
        obtain ⟨e18, p18⟩ := p18
        subst u18
        refine hret _ _ _ _ dX7_rows_21 r18 ?_
        (repeat (first | rw [if_pos (by omega)] | rw [if_neg (by omega)]))
        exact ⟨by omega, rfl⟩
set_option maxHeartbeats 4000000 in
set_option maxRecDepth 100000 in
theorem c_X7_sample (l : Launch) (v : VC) (σ : Mem) (b : Nat) (hM : shMo v b) (i1 k1 s1 : Int) (h1 : rg i1) (h2 : rg k1) (h3 : rg s1) : CtI l yX7_sample wsX7_sample 1 21 v [.ref (vq v b), vI i1, vI k1, vI s1] σ (fun z u => (if ¬ ((0 ≤ i1 ∧ i1 < 3) ∧ (1 ≤ k1 ∧ k1 ≤ 16) ∧ 0 ≤ s1) then (z = 0 ∧ u = sput σ b 0 1) else (z = 1 ∧ u = sput (sput (sput (sput σ (b + 7) i1 k1) (b + 8) i1 0) (b + 10) (100000 + i1) s1) b 0 0))) := by
  refine mkZ (cc := cX7_sample) (n := 4) (by decide +kernel) rfl (Nat.le_of_ble_eq_true rfl) (fun x A Q hx C hret => ?_)
  subst hx
  show At x v A Q _ 0 [(0, .ref (vq v b)), (1, vI i1), (2, vI k1), (3, vI s1)] [] σ
  have iX7 : ∀ w ∈ wsX70, w ∈ wsX7_sample := by decide +kernel
  have k33 : Cond.fieldLink RX7 33 (TX7 9).1 (TX7 9).2.1 (TX7 9).2.2.1 ∈ wsX7_sample := by decide +kernel
  have k36 : Cond.fieldLink RX7 36 (TX7 10).1 (TX7 10).2.1 (TX7 10).2.2.1 ∈ wsX7_sample := by decide +kernel
  have k42 : Cond.fieldLink RX7 42 (TX7 12).1 (TX7 12).2.1 (TX7 12).2.2.1 ∈ wsX7_sample := by decide +kernel
  refine a_iload_n C dX7_sample_0 1 rfl rfl ?_
  refine a_cSI C (k0 := 1) (As := [vI i1]) (rest := []) (c_X7_isColumn x.2.1 v σ i1 (by omega)) gX7_sample_X7_isColumn rfl (by decide +kernel) (by decide) rfl rfl (Nat.le_of_ble_eq_true rfl) dX7_sample_1 (fun z1 u1 r1 p1 => ?_)
  obtain ⟨e1, p1⟩ := p1
  subst u1
  have q1 := zz e1
  refine a_if_eq C 22 r1 dX7_sample_4 (by decide) (fun c4 => ?_) (fun c4 => ?_)
  · skip
    refine a_aload_n C dX7_sample_22 0 rfl rfl ?_
    refine a_iconst C dX7_sample_23 ?_
    refine a_cVI C (k0 := 1) (As := [vI 1]) (rest := []) (c_X7_is x.2.1 v σ b hM 1 (by omega)) gX7_sample_X7_is rfl (by decide +kernel) (by decide) hM.f0 rfl hM.n0 rfl rfl (Nat.le_of_ble_eq_true rfl) dX7_sample_24 (fun z24 u24 r24 p24 => ?_)
    obtain ⟨e24, p24⟩ := p24
    subst u24
    have q24 := zz e24
    refine hret _ _ _ _ dX7_sample_27 (by omega) ?_
    (repeat (first | rw [if_pos (by omega)] | rw [if_neg (by omega)]))
    exact ⟨by omega, rfl⟩
  · skip
    refine a_iload_n C dX7_sample_7 2 rfl rfl ?_
    refine a_iconst C dX7_sample_8 ?_
    refine a_icmp_lt C 22 (by omega) (by decide) dX7_sample_9 (by decide) (fun c9 => ?_) (fun c9 => ?_)
    · skip
      refine a_aload_n C dX7_sample_22 0 rfl rfl ?_
      refine a_iconst C dX7_sample_23 ?_
      refine a_cVI C (k0 := 1) (As := [vI 1]) (rest := []) (c_X7_is x.2.1 v σ b hM 1 (by omega)) gX7_sample_X7_is rfl (by decide +kernel) (by decide) hM.f0 rfl hM.n0 rfl rfl (Nat.le_of_ble_eq_true rfl) dX7_sample_24 (fun z24 u24 r24 p24 => ?_)
      obtain ⟨e24, p24⟩ := p24
      subst u24
      have q24 := zz e24
      refine hret _ _ _ _ dX7_sample_27 (by omega) ?_
      (repeat (first | rw [if_pos (by omega)] | rw [if_neg (by omega)]))
      exact ⟨by omega, rfl⟩
    · skip
      refine a_iload_n C dX7_sample_12 2 rfl rfl ?_
      refine a_bipush C dX7_sample_13 ?_
      refine a_icmp_gt C 22 (by omega) (by decide) dX7_sample_15 (by decide) (fun c15 => ?_) (fun c15 => ?_)
      · skip
        refine a_aload_n C dX7_sample_22 0 rfl rfl ?_
        refine a_iconst C dX7_sample_23 ?_
        refine a_cVI C (k0 := 1) (As := [vI 1]) (rest := []) (c_X7_is x.2.1 v σ b hM 1 (by omega)) gX7_sample_X7_is rfl (by decide +kernel) (by decide) hM.f0 rfl hM.n0 rfl rfl (Nat.le_of_ble_eq_true rfl) dX7_sample_24 (fun z24 u24 r24 p24 => ?_)
        obtain ⟨e24, p24⟩ := p24
        subst u24
        have q24 := zz e24
        refine hret _ _ _ _ dX7_sample_27 (by omega) ?_
        (repeat (first | rw [if_pos (by omega)] | rw [if_neg (by omega)]))
        exact ⟨by omega, rfl⟩
      · skip
        refine a_iload_n C dX7_sample_18 3 rfl rfl ?_
        refine a_if_ge C 28 (by omega) dX7_sample_19 (by decide) (fun c19 => ?_) (fun c19 => ?_)
        · skip
          refine a_aload_n C dX7_sample_28 0 rfl rfl ?_
          refine a_getf C hM.f0 hM.n0 (Cn := RX7) (T := TX7) (N := 30) rfl iX7 9 (by decide) k33 (w := .ref (vq v (b + 7))) rfl dX7_sample_29 ?_
          refine a_iload_n C dX7_sample_32 1 rfl rfl ?_
          refine a_iload_n C dX7_sample_33 2 rfl rfl ?_
          refine a_iast C hM.f7 hM.n7 0 hM.tI (by omega) (by omega) (by decide) (by omega) dX7_sample_34 ?_
          refine a_aload_n C dX7_sample_35 0 rfl rfl ?_
          refine a_getf C hM.f0 hM.n0 (Cn := RX7) (T := TX7) (N := 30) rfl iX7 10 (by decide) k36 (w := .ref (vq v (b + 8))) rfl dX7_sample_36 ?_
          refine a_iload_n C dX7_sample_39 1 rfl rfl ?_
          refine a_iconst C dX7_sample_40 ?_
          refine a_iast C hM.f8 hM.n8 0 hM.tI (by omega) (by omega) (by decide) (by decide) dX7_sample_41 ?_
          refine a_aload_n C dX7_sample_42 0 rfl rfl ?_
          refine a_getf C hM.f0 hM.n0 (Cn := RX7) (T := TX7) (N := 30) rfl iX7 12 (by decide) k42 (w := .ref (vq v (b + 10))) rfl dX7_sample_43 ?_
          refine a_iload_n C dX7_sample_46 1 rfl rfl ?_
          refine a_iload_n C dX7_sample_47 3 rfl rfl ?_
          refine a_i2l C (by omega) dX7_sample_48 ?_
          refine a_last C hM.f10 hM.n10 1 hM.tL (by omega) (by omega) (by decide) (by omega) dX7_sample_49 ?_
          refine a_aload_n C dX7_sample_50 0 rfl rfl ?_
          refine a_iconst C dX7_sample_51 ?_
          refine a_cVI C (k0 := 1) (As := [vI 0]) (rest := []) (c_X7_is x.2.1 v (sput (sput (sput σ (b + 7) i1 k1) (b + 8) i1 0) (b + 10) (100000 + i1) s1) b hM 0 (by omega)) gX7_sample_X7_is rfl (by decide +kernel) (by decide) hM.f0 rfl hM.n0 rfl rfl (Nat.le_of_ble_eq_true rfl) dX7_sample_52 (fun z52 u52 r52 p52 => ?_)
          obtain ⟨e52, p52⟩ := p52
          subst u52
          have q52 := zz e52
          refine hret _ _ _ _ dX7_sample_55 (by omega) ?_
          (repeat (first | rw [if_pos (by omega)] | rw [if_neg (by omega)]))
          exact ⟨by omega, rfl⟩
        · skip
          refine a_aload_n C dX7_sample_22 0 rfl rfl ?_
          refine a_iconst C dX7_sample_23 ?_
          refine a_cVI C (k0 := 1) (As := [vI 1]) (rest := []) (c_X7_is x.2.1 v σ b hM 1 (by omega)) gX7_sample_X7_is rfl (by decide +kernel) (by decide) hM.f0 rfl hM.n0 rfl rfl (Nat.le_of_ble_eq_true rfl) dX7_sample_24 (fun z24 u24 r24 p24 => ?_)
          obtain ⟨e24, p24⟩ := p24
          subst u24
          have q24 := zz e24
          refine hret _ _ _ _ dX7_sample_27 (by omega) ?_
          (repeat (first | rw [if_pos (by omega)] | rw [if_neg (by omega)]))
          exact ⟨by omega, rfl⟩
set_option maxHeartbeats 4000000 in
set_option maxRecDepth 100000 in
theorem c_X7_drawn (l : Launch) (v : VC) (σ : Mem) (b : Nat) (hM : shMo v b) (i1 k1 : Int) (h1 : rg i1) (h2 : rg k1) : CtI l yX7_drawn wsX7_drawn 1 21 v [.ref (vq v b), vI i1, vI k1] σ (fun z u => (if ¬ ((0 ≤ i1 ∧ i1 < 3) ∧ (0 ≤ k1 ∧ k1 ≤ 15)) then (z = -1 ∧ u = sput σ b 0 1) else (if σ (b + 7) i1 ≤ k1 ∨ σ (b + 8) i1 ≤ k1 then (z = -1 ∧ u = sput σ b 0 6) else (z = (if σ (b + 9) (16 * i1 + k1) = -1 then -2 else σ (b + 9) (16 * i1 + k1)) ∧ u = sput σ b 0 0)))) := by
  refine mkI (cc := cX7_drawn) (n := 3) (by decide +kernel) rfl (Nat.le_of_ble_eq_true rfl) (fun x A Q hx C hret => ?_)
  subst hx
  show At x v A Q _ 0 [(0, .ref (vq v b)), (1, vI i1), (2, vI k1)] [] σ
  have iX7 : ∀ w ∈ wsX70, w ∈ wsX7_drawn := by decide +kernel
  have k33 : Cond.fieldLink RX7 33 (TX7 9).1 (TX7 9).2.1 (TX7 9).2.2.1 ∈ wsX7_drawn := by decide +kernel
  have k36 : Cond.fieldLink RX7 36 (TX7 10).1 (TX7 10).2.1 (TX7 10).2.2.1 ∈ wsX7_drawn := by decide +kernel
  have k85 : Cond.fieldLink RX7 85 (TX7 0).1 (TX7 0).2.1 (TX7 0).2.2.1 ∈ wsX7_drawn := by decide +kernel
  have k39 : Cond.fieldLink RX7 39 (TX7 11).1 (TX7 11).2.1 (TX7 11).2.2.1 ∈ wsX7_drawn := by decide +kernel
  refine a_iload_n C dX7_drawn_0 1 rfl rfl ?_
  refine a_cSI C (k0 := 1) (As := [vI i1]) (rest := []) (c_X7_isColumn x.2.1 v σ i1 (by omega)) gX7_drawn_X7_isColumn rfl (by decide +kernel) (by decide) rfl rfl (Nat.le_of_ble_eq_true rfl) dX7_drawn_1 (fun z1 u1 r1 p1 => ?_)
  obtain ⟨e1, p1⟩ := p1
  subst u1
  have q1 := zz e1
  refine a_if_eq C 17 r1 dX7_drawn_4 (by decide) (fun c4 => ?_) (fun c4 => ?_)
  · skip
    refine a_aload_n C dX7_drawn_17 0 rfl rfl ?_
    refine a_iconst C dX7_drawn_18 ?_
    refine a_cVI C (k0 := 1) (As := [vI 1]) (rest := []) (c_X7_refuse x.2.1 v σ b hM 1 (by omega)) gX7_drawn_X7_refuse rfl (by decide +kernel) (by decide) hM.f0 rfl hM.n0 rfl rfl (Nat.le_of_ble_eq_true rfl) dX7_drawn_19 (fun z19 u19 r19 p19 => ?_)
    obtain ⟨e19, p19⟩ := p19
    subst u19
    refine hret _ _ _ _ dX7_drawn_22 r19 ?_
    (repeat (first | rw [if_pos (by omega)] | rw [if_neg (by omega)]))
    exact ⟨by omega, rfl⟩
  · skip
    refine a_iload_n C dX7_drawn_7 2 rfl rfl ?_
    refine a_if_lt C 17 (by omega) dX7_drawn_8 (by decide) (fun c8 => ?_) (fun c8 => ?_)
    · skip
      refine a_aload_n C dX7_drawn_17 0 rfl rfl ?_
      refine a_iconst C dX7_drawn_18 ?_
      refine a_cVI C (k0 := 1) (As := [vI 1]) (rest := []) (c_X7_refuse x.2.1 v σ b hM 1 (by omega)) gX7_drawn_X7_refuse rfl (by decide +kernel) (by decide) hM.f0 rfl hM.n0 rfl rfl (Nat.le_of_ble_eq_true rfl) dX7_drawn_19 (fun z19 u19 r19 p19 => ?_)
      obtain ⟨e19, p19⟩ := p19
      subst u19
      refine hret _ _ _ _ dX7_drawn_22 r19 ?_
      (repeat (first | rw [if_pos (by omega)] | rw [if_neg (by omega)]))
      exact ⟨by omega, rfl⟩
    · skip
      refine a_iload_n C dX7_drawn_11 2 rfl rfl ?_
      refine a_bipush C dX7_drawn_12 ?_
      refine a_icmp_lt C 23 (by omega) (by decide) dX7_drawn_14 (by decide) (fun c14 => ?_) (fun c14 => ?_)
      · skip
        refine a_iload_n C dX7_drawn_23 2 rfl rfl ?_
        refine a_aload_n C dX7_drawn_24 0 rfl rfl ?_
        refine a_getf C hM.f0 hM.n0 (Cn := RX7) (T := TX7) (N := 30) rfl iX7 9 (by decide) k33 (w := .ref (vq v (b + 7))) rfl dX7_drawn_25 ?_
        refine a_iload_n C dX7_drawn_28 1 rfl rfl ?_
        refine a_iald C hM.f7 hM.n7 0 hM.tI (by omega) (by omega) (by decide) dX7_drawn_29 (fun z29 e29 r29 => ?_)
        refine a_icmp_ge C 43 (by omega) r29 dX7_drawn_30 (by decide) (fun c30 => ?_) (fun c30 => ?_)
        · skip
          refine a_aload_n C dX7_drawn_43 0 rfl rfl ?_
          refine a_bipush C dX7_drawn_44 ?_
          refine a_cVI C (k0 := 1) (As := [vI 6]) (rest := []) (c_X7_refuse x.2.1 v σ b hM 6 (by omega)) gX7_drawn_X7_refuse rfl (by decide +kernel) (by decide) hM.f0 rfl hM.n0 rfl rfl (Nat.le_of_ble_eq_true rfl) dX7_drawn_46 (fun z46 u46 r46 p46 => ?_)
          obtain ⟨e46, p46⟩ := p46
          subst u46
          refine hret _ _ _ _ dX7_drawn_49 r46 ?_
          (repeat (first | rw [if_pos (by omega)] | rw [if_neg (by omega)]))
          exact ⟨by omega, rfl⟩
        · skip
          refine a_iload_n C dX7_drawn_33 2 rfl rfl ?_
          refine a_aload_n C dX7_drawn_34 0 rfl rfl ?_
          refine a_getf C hM.f0 hM.n0 (Cn := RX7) (T := TX7) (N := 30) rfl iX7 10 (by decide) k36 (w := .ref (vq v (b + 8))) rfl dX7_drawn_35 ?_
          refine a_iload_n C dX7_drawn_38 1 rfl rfl ?_
          refine a_iald C hM.f8 hM.n8 0 hM.tI (by omega) (by omega) (by decide) dX7_drawn_39 (fun z39 e39 r39 => ?_)
          refine a_icmp_lt C 50 (by omega) r39 dX7_drawn_40 (by decide) (fun c40 => ?_) (fun c40 => ?_)
          · skip
            refine a_aload_n C dX7_drawn_50 0 rfl rfl ?_
            refine a_iconst C dX7_drawn_51 ?_
            refine a_puti C hM.f0 hM.n0 (Cn := RX7) (T := TX7) (N := 30) rfl iX7 tyX7_ok nmX7 0 (by decide) k85 rfl rfl 0 (by decide) (fun _ => Nat.le_of_ble_eq_true rfl) (fun _ => rfl) dX7_drawn_52 ?_
            refine a_aload_n C dX7_drawn_55 0 rfl rfl ?_
            refine a_getf C hM.f0 hM.n0 (Cn := RX7) (T := TX7) (N := 30) rfl iX7 11 (by decide) k39 (w := .ref (vq v (b + 9))) rfl dX7_drawn_56 ?_
            refine a_bipush C dX7_drawn_59 ?_
            refine a_iload_n C dX7_drawn_61 1 rfl rfl ?_
            refine a_imul C dX7_drawn_62 ?_
            refine a_iload_n C dX7_drawn_63 2 rfl rfl ?_
            refine a_iadd C dX7_drawn_64 ?_
            refine a_iald C hM.f9 hM.n9 0 hM.tI (by omega) (by omega) (by decide) dX7_drawn_65 (fun z65 e65 r65 => ?_)
            try simp [sput_r, mset_n, sput, mset] at e65
            refine a_iconst C dX7_drawn_66 ?_
            refine a_icmp_ne C 75 r65 (by decide) dX7_drawn_67 (by decide) (fun c67 => ?_) (fun c67 => ?_)
            · skip
              refine a_aload_n C dX7_drawn_75 0 rfl rfl ?_
              refine a_getf C hM.f0 hM.n0 (Cn := RX7) (T := TX7) (N := 30) rfl iX7 11 (by decide) k39 (w := .ref (vq v (b + 9))) rfl dX7_drawn_76 ?_
              refine a_bipush C dX7_drawn_79 ?_
              refine a_iload_n C dX7_drawn_81 1 rfl rfl ?_
              refine a_imul C dX7_drawn_82 ?_
              refine a_iload_n C dX7_drawn_83 2 rfl rfl ?_
              refine a_iadd C dX7_drawn_84 ?_
              refine a_iald C hM.f9 hM.n9 0 hM.tI (by omega) (by omega) (by decide) dX7_drawn_85 (fun z85 e85 r85 => ?_)
              try simp [sput_r, mset_n, sput, mset] at e85
              refine hret _ _ _ _ dX7_drawn_86 r85 ?_
              (repeat (first | rw [if_pos (by omega)] | rw [if_neg (by omega)]))
              exact ⟨by omega, rfl⟩
            · skip
              refine a_bipush C dX7_drawn_70 ?_
              refine a_goto C 86 dX7_drawn_72 (by decide) ?_
              refine hret _ _ _ _ dX7_drawn_86 (by decide) ?_
              (repeat (first | rw [if_pos (by omega)] | rw [if_neg (by omega)]))
              exact ⟨by omega, rfl⟩
          · skip
            refine a_aload_n C dX7_drawn_43 0 rfl rfl ?_
            refine a_bipush C dX7_drawn_44 ?_
            refine a_cVI C (k0 := 1) (As := [vI 6]) (rest := []) (c_X7_refuse x.2.1 v σ b hM 6 (by omega)) gX7_drawn_X7_refuse rfl (by decide +kernel) (by decide) hM.f0 rfl hM.n0 rfl rfl (Nat.le_of_ble_eq_true rfl) dX7_drawn_46 (fun z46 u46 r46 p46 => ?_)
            obtain ⟨e46, p46⟩ := p46
            subst u46
            refine hret _ _ _ _ dX7_drawn_49 r46 ?_
            (repeat (first | rw [if_pos (by omega)] | rw [if_neg (by omega)]))
            exact ⟨by omega, rfl⟩
      · skip
        refine a_aload_n C dX7_drawn_17 0 rfl rfl ?_
        refine a_iconst C dX7_drawn_18 ?_
        refine a_cVI C (k0 := 1) (As := [vI 1]) (rest := []) (c_X7_refuse x.2.1 v σ b hM 1 (by omega)) gX7_drawn_X7_refuse rfl (by decide +kernel) (by decide) hM.f0 rfl hM.n0 rfl rfl (Nat.le_of_ble_eq_true rfl) dX7_drawn_19 (fun z19 u19 r19 p19 => ?_)
        obtain ⟨e19, p19⟩ := p19
        subst u19
        refine hret _ _ _ _ dX7_drawn_22 r19 ?_
        (repeat (first | rw [if_pos (by omega)] | rw [if_neg (by omega)]))
        exact ⟨by omega, rfl⟩
set_option maxHeartbeats 4000000 in
set_option maxRecDepth 100000 in
theorem c_X7_pack (l : Launch) (v : VC) (σ : Mem) (b : Nat) (hM : shMo v b) (i1 i2 : Int) (h1 : rg i1) (h2 : rg i2) (hK : ∀ c : Int, 0 ≤ c → c < 3 → moK σ b c) (hR : ∀ c : Int, 0 ≤ c → c < 3 → mrB σ b c 100000000 ∧ msB σ b c 100000000) (hT : mtW σ b) [Decidable (∀ j : Int, 0 ≤ j → j < σ (b + 2) i2 → -1 ≤ σ (b + 3) (100000 + (100 * i2 + j)) ∧ σ (b + 3) (100000 + (100 * i2 + j)) ≤ 39)] : CtI l yX7_pack wsX7_pack 2 46 v [.ref (vq v b), vI i1, vI i2] σ (fun z u => (if ¬ ((0 ≤ i1 ∧ i1 < 3) ∧ (0 ≤ i2 ∧ i2 < 4)) then (z = -1 ∧ u = sput σ b 0 1) else (if σ (b + 2) i2 = -1 then (z = -1 ∧ u = sput σ b 0 2) else (if ¬ (∀ j : Int, 0 ≤ j → j < σ (b + 2) i2 → -1 ≤ σ (b + 3) (100000 + (100 * i2 + j)) ∧ σ (b + 3) (100000 + (100 * i2 + j)) ≤ 39) then (z = -1 ∧ u = sput σ b 0 1) else (if 10000 < σ (b + 6) i1 + σ (b + 5) i1 + σ (b + 2) i2 then (z = -1 ∧ u = sput σ b 0 4) else (z = σ (b + 2) i2 ∧ u = sput (itrR (fun k τ => mpS b i1 (σ (b + 3) (100000 + (100 * i2 + k))) τ) 0 (σ (b + 2) i2) σ) b 0 0)))))) := by
  refine mkI (cc := cX7_pack) (n := 5) (by decide +kernel) rfl (Nat.le_of_ble_eq_true rfl) (fun x A Q hx C hret => ?_)
  subst hx
  show At x v A Q _ 0 [(0, .ref (vq v b)), (1, vI i1), (2, vI i2)] [] σ
  have iX7 : ∀ w ∈ wsX70, w ∈ wsX7_pack := by decide +kernel
  have k17 : Cond.fieldLink RX7 17 (TX7 4).1 (TX7 4).2.1 (TX7 4).2.2.1 ∈ wsX7_pack := by decide +kernel
  have k85 : Cond.fieldLink RX7 85 (TX7 0).1 (TX7 0).2.1 (TX7 0).2.2.1 ∈ wsX7_pack := by decide +kernel
  have k20 : Cond.fieldLink RX7 20 (TX7 5).1 (TX7 5).2.1 (TX7 5).2.2.1 ∈ wsX7_pack := by decide +kernel
  refine a_iload_n C dX7_pack_0 1 rfl rfl ?_
  refine a_cSI C (k0 := 1) (As := [vI i1]) (rest := []) (c_X7_isColumn x.2.1 v σ i1 (by omega)) gX7_pack_X7_isColumn rfl (by decide +kernel) (by decide) rfl rfl (Nat.le_of_ble_eq_true rfl) dX7_pack_1 (fun z1 u1 r1 p1 => ?_)
  obtain ⟨e1, p1⟩ := p1
  subst u1
  have q1 := zz e1
  refine a_if_eq C 14 r1 dX7_pack_4 (by decide) (fun c4 => ?_) (fun c4 => ?_)
  · skip
    refine a_aload_n C dX7_pack_14 0 rfl rfl ?_
    refine a_iconst C dX7_pack_15 ?_
    refine a_cVI C (k0 := 1) (As := [vI 1]) (rest := []) (c_X7_refuse x.2.1 v σ b hM 1 (by omega)) gX7_pack_X7_refuse rfl (by decide +kernel) (by decide) hM.f0 rfl hM.n0 rfl rfl (Nat.le_of_ble_eq_true rfl) dX7_pack_16 (fun z16 u16 r16 p16 => ?_)
    obtain ⟨e16, p16⟩ := p16
    subst u16
    refine hret _ _ _ _ dX7_pack_19 (by omega) ?_
    (repeat (first | rw [if_pos (by omega)] | rw [if_neg (by omega)]))
    exact ⟨by omega, rfl⟩
  · skip
    refine a_iload_n C dX7_pack_7 2 rfl rfl ?_
    refine a_cSI C (k0 := 1) (As := [vI i2]) (rest := []) (c_X7_isTray x.2.1 v σ i2 (by omega)) gX7_pack_X7_isTray rfl (by decide +kernel) (by decide) rfl rfl (Nat.le_of_ble_eq_true rfl) dX7_pack_8 (fun z8 u8 r8 p8 => ?_)
    obtain ⟨e8, p8⟩ := p8
    subst u8
    have q8 := zz e8
    refine a_if_ne C 20 r8 dX7_pack_11 (by decide) (fun c11 => ?_) (fun c11 => ?_)
    · skip
      have t2 := hT i2 (by omega) (by omega)
      refine a_aload_n C dX7_pack_20 0 rfl rfl ?_
      refine a_getf C hM.f0 hM.n0 (Cn := RX7) (T := TX7) (N := 30) rfl iX7 4 (by decide) k17 (w := .ref (vq v (b + 2))) rfl dX7_pack_21 ?_
      refine a_iload_n C dX7_pack_24 2 rfl rfl ?_
      refine a_iald C hM.f2 hM.n2 0 hM.tI (by omega) (by omega) (by decide) dX7_pack_25 (fun z25 e25 r25 => ?_)
      refine a_iconst C dX7_pack_26 ?_
      refine a_icmp_ne C 36 r25 (by decide) dX7_pack_27 (by decide) (fun c27 => ?_) (fun c27 => ?_)
      · skip
        refine a_iconst C dX7_pack_36 ?_
        refine a_istore_n C 3 [(3, vI 0), (0, .ref (vq v b)), (1, vI i1), (2, vI i2)] dX7_pack_37 rfl (by decide) rfl ?_
        have lpA : ∀ (n : Nat) (k : Int) , (100 - k).toNat = n → 0 ≤ k ∧ k ≤ σ (b + 2) i2 → (∀ j : Int, 0 ≤ j → j < k → -1 ≤ σ (b + 3) (100000 + (100 * i2 + j)) ∧ σ (b + 3) (100000 + (100 * i2 + j)) ≤ 39) → At x v A Q 5 38 [(3, vI k), (0, .ref (vq v b)), (1, vI i1), (2, vI i2)] [] σ := by
          intro n
          induction n using Nat.strongRecOn with
          | _ n ih =>
            intro k hn iv1 iv2
            refine a_iload_n C dX7_pack_38 0 rfl rfl ?_
            refine a_aload_n C dX7_pack_39 1 rfl rfl ?_
            refine a_getf C hM.f0 hM.n0 (Cn := RX7) (T := TX7) (N := 30) rfl iX7 4 (by decide) k17 (w := .ref (vq v (b + 2))) rfl dX7_pack_40 ?_
            refine a_iload_n C dX7_pack_43 3 rfl rfl ?_
            refine a_iald C hM.f2 hM.n2 0 hM.tI (by omega) (by omega) (by decide) dX7_pack_44 (fun z44 e44 r44 => ?_)
            refine a_icmp_ge C 96 (by omega) r44 dX7_pack_45 (by decide) (fun c45 => ?_) (fun c45 => ?_)
            · skip
              have hRB : (∀ j : Int, 0 ≤ j → j < σ (b + 2) i2 → -1 ≤ σ (b + 3) (100000 + (100 * i2 + j)) ∧ σ (b + 3) (100000 + (100 * i2 + j)) ≤ 39) := fun j q1 q2 => iv2 j q1 (by omega)
              have k0 := hK i1 (by omega) (by omega)
              obtain ⟨kN, kE, kB, kH, kT, kV, kU⟩ := k0
              refine a_aload_n C dX7_pack_96 1 rfl rfl ?_
              refine a_iload_n C dX7_pack_97 2 rfl rfl ?_
              refine a_cVI C (k0 := 1) (As := [vI i1]) (rest := []) (c_X7_all x.2.1 v σ b hM i1 (by omega) kV kU) gX7_pack_X7_all rfl (by decide +kernel) (by decide) hM.f0 rfl hM.n0 rfl rfl (Nat.le_of_ble_eq_true rfl) dX7_pack_98 (fun z98 u98 r98 p98 => ?_)
              obtain ⟨e98, p98⟩ := p98
              subst u98
              refine a_aload_n C dX7_pack_101 1 rfl rfl ?_
              refine a_getf C hM.f0 hM.n0 (Cn := RX7) (T := TX7) (N := 30) rfl iX7 4 (by decide) k17 (w := .ref (vq v (b + 2))) rfl dX7_pack_102 ?_
              refine a_iload_n C dX7_pack_105 3 rfl rfl ?_
              refine a_iald C hM.f2 hM.n2 0 hM.tI (by omega) (by omega) (by decide) dX7_pack_106 (fun z106 e106 r106 => ?_)
              refine a_iadd C dX7_pack_107 ?_
              refine a_sipush C dX7_pack_108 ?_
              refine a_icmp_le C 120 (by omega) (by decide) dX7_pack_111 (by decide) (fun c111 => ?_) (fun c111 => ?_)
              · skip
                refine a_iconst C dX7_pack_120 ?_
                refine a_istore_n C 3 [(3, vI 0), (0, .ref (vq v b)), (1, vI i1), (2, vI i2)] dX7_pack_121 rfl (by decide) rfl ?_
                have hR1 := hR i1 (by omega) (by omega)
                have lpB : ∀ (n : Nat) (k : Int) (τ : Mem) , (100 - k).toNat = n → 0 ≤ k ∧ k ≤ σ (b + 2) i2 → τ = itrR (fun k τ => mpS b i1 (σ (b + 3) (100000 + (100 * i2 + k))) τ) 0 k σ → mrB τ b i1 (100000000 + k) → msB τ b i1 (100000000 + k) → (∀ a : Nat, (a < b + 4 ∨ b + 16 < a) → τ a = σ a) → At x v A Q 5 122 [(3, vI k), (0, .ref (vq v b)), (1, vI i1), (2, vI i2)] [] τ := by
                  intro n
                  induction n using Nat.strongRecOn with
                  | _ n ih =>
                    intro k τ hn iv1 iM iB iS iF
                    refine a_iload_n C dX7_pack_122 0 rfl rfl ?_
                    refine a_aload_n C dX7_pack_123 1 rfl rfl ?_
                    refine a_getf C hM.f0 hM.n0 (Cn := RX7) (T := TX7) (N := 30) rfl iX7 4 (by decide) k17 (w := .ref (vq v (b + 2))) rfl dX7_pack_124 ?_
                    refine a_iload_n C dX7_pack_127 3 rfl rfl ?_
                    refine a_iald C hM.f2 hM.n2 0 hM.tI (by omega) (by omega) (by decide) dX7_pack_128 (fun z128 e128 r128 => ?_)
                    rw [iF (b + 2) (by omega)] at e128
                    refine a_icmp_ge C 167 (by omega) r128 dX7_pack_129 (by decide) (fun c129 => ?_) (fun c129 => ?_)
                    · skip
                      refine a_aload_n C dX7_pack_167 1 rfl rfl ?_
                      refine a_iconst C dX7_pack_168 ?_
                      refine a_puti C hM.f0 hM.n0 (Cn := RX7) (T := TX7) (N := 30) rfl iX7 tyX7_ok nmX7 0 (by decide) k85 rfl rfl 0 (by decide) (fun _ => Nat.le_of_ble_eq_true rfl) (fun _ => rfl) dX7_pack_169 ?_
                      refine a_aload_n C dX7_pack_172 1 rfl rfl ?_
                      refine a_getf C hM.f0 hM.n0 (Cn := RX7) (T := TX7) (N := 30) rfl iX7 4 (by decide) k17 (w := .ref (vq v (b + 2))) rfl dX7_pack_173 ?_
                      refine a_iload_n C dX7_pack_176 3 rfl rfl ?_
                      refine a_iald C hM.f2 hM.n2 0 hM.tI (by omega) (by omega) (by decide) dX7_pack_177 (fun z177 e177 r177 => ?_)
                      try simp [sput_r, mset_n, sput, mset] at e177
                      rw [iF (b + 2) (by omega)] at e177
                      refine hret _ _ _ _ dX7_pack_178 (by omega) ?_
                      (repeat (first | rw [if_pos (by omega)] | rw [if_neg (by omega)] | rw [if_pos hNB] | rw [if_neg (fun q => q hRB)]))
                      exact ⟨by omega, by rw [iM, show k = σ (b + 2) i2 by omega]⟩
                    · skip
                      refine a_aload_n C dX7_pack_132 1 rfl rfl ?_
                      refine a_getf C hM.f0 hM.n0 (Cn := RX7) (T := TX7) (N := 30) rfl iX7 5 (by decide) k20 (w := .ref (vq v (b + 3))) rfl dX7_pack_133 ?_
                      refine a_bipush C dX7_pack_136 ?_
                      refine a_iload_n C dX7_pack_138 3 rfl rfl ?_
                      refine a_imul C dX7_pack_139 ?_
                      refine a_iload_n C dX7_pack_140 0 rfl rfl ?_
                      refine a_iadd C dX7_pack_141 ?_
                      refine a_lald C hM.f3 hM.n3 1 hM.tL (by omega) (by omega) (by decide) dX7_pack_142 (fun z142 e142 r142 => ?_)
                      rw [iF (b + 3) (by omega)] at e142
                      have q142 := hRB k (by omega) (by omega)
                      rw [← e142] at q142
                      refine a_l2i C dX7_pack_143 ?_
                      refine a_istore C [(4, vI z142), (3, vI k), (0, .ref (vq v b)), (1, vI i1), (2, vI i2)] dX7_pack_144 (by decide) rfl ?_
                      refine a_aload_n C dX7_pack_146 2 rfl rfl ?_
                      refine a_iload_n C dX7_pack_147 3 rfl rfl ?_
                      refine a_iload C dX7_pack_148 0 rfl ?_
                      refine a_iconst C dX7_pack_150 ?_
                      refine a_cVV C (k0 := 3) (As := [vI i1, vI z142, vI 1]) (rest := []) (c_X7_changes x.2.1 v τ b hM i1 z142 1 (100000000 + k) (by omega) (by omega) (Or.inl rfl) (by omega) iB) gX7_pack_X7_changes rfl (by decide +kernel) (by decide) hM.f0 rfl hM.n0 rfl rfl (Nat.le_of_ble_eq_true rfl) dX7_pack_151 (fun u151 p151 => ?_)
                      subst u151
                      refine a_aload_n C dX7_pack_154 2 rfl rfl ?_
                      refine a_iload_n C dX7_pack_155 3 rfl rfl ?_
                      refine a_iload C dX7_pack_156 0 rfl ?_
                      refine a_cVV C (k0 := 2) (As := [vI i1, vI z142]) (rest := []) (c_X7_draw x.2.1 v (mcM τ b i1 z142 1) b hM i1 z142 (100000000 + k) (by omega) (by omega) (by omega) (msB_row (mcM_fr _ (by omega) (by omega) (by omega) (by omega) (by omega) (by omega)) (mcM_fr _ (by omega) (by omega) (by omega) (by omega) (by omega) (by omega)) (mcM_fr _ (by omega) (by omega) (by omega) (by omega) (by omega) (by omega)) iS)) gX7_pack_X7_draw rfl (by decide +kernel) (by decide) hM.f0 rfl hM.n0 rfl rfl (Nat.le_of_ble_eq_true rfl) dX7_pack_158 (fun u158 p158 => ?_)
                      subst u158
                      refine a_iinc C (k + 1) [(3, vI (k + 1)), (4, vI z142), (0, .ref (vq v b)), (1, vI i1), (2, vI i2)] dX7_pack_161 1 rfl (by omega) (by decide) rfl ?_
                      refine a_goto C 122 dX7_pack_164 (by decide) ?_
                      refine a_sub [0, 2, 3, 4] [(3, vI (k + 1)), (0, .ref (vq v b)), (1, vI i1), (2, vI i2)] rfl ?_
                      refine ih _ (by omega) (k + 1) _ rfl (by omega) ?_ ?_ ?_ (fun a q => by show mpS b i1 _ τ a = σ a; rw [mpS_fr a q]; exact iF a q)
                      · rw [itrR_right (by omega), ← iM, ← e142]; rfl
                      · have := (mpS_B (val := z142) (by omega) iB iS).1; rw [show 100000000 + (k + 1) = 100000000 + k + 1 by omega]; exact this
                      · have := (mpS_B (val := z142) (by omega) iB iS).2; rw [show 100000000 + (k + 1) = 100000000 + k + 1 by omega]; exact this
                exact lpB _ 0 σ rfl (by omega) (by rw [itrR_nil (by omega)]) (by rw [Int.add_zero]; exact hR1.1) (by rw [Int.add_zero]; exact hR1.2) (fun _ _ => rfl)
              · skip
                refine a_aload_n C dX7_pack_114 1 rfl rfl ?_
                refine a_iconst C dX7_pack_115 ?_
                refine a_cVI C (k0 := 1) (As := [vI 4]) (rest := []) (c_X7_refuse x.2.1 v σ b hM 4 (by omega)) gX7_pack_X7_refuse rfl (by decide +kernel) (by decide) hM.f0 rfl hM.n0 rfl rfl (Nat.le_of_ble_eq_true rfl) dX7_pack_116 (fun z116 u116 r116 p116 => ?_)
                obtain ⟨e116, p116⟩ := p116
                subst u116
                refine hret _ _ _ _ dX7_pack_119 (by omega) ?_
                (repeat (first | rw [if_pos (by omega)] | rw [if_neg (by omega)] | rw [if_pos hNB] | rw [if_neg (fun q => q hRB)]))
                exact ⟨by omega, rfl⟩
            · skip
              refine a_aload_n C dX7_pack_48 1 rfl rfl ?_
              refine a_getf C hM.f0 hM.n0 (Cn := RX7) (T := TX7) (N := 30) rfl iX7 5 (by decide) k20 (w := .ref (vq v (b + 3))) rfl dX7_pack_49 ?_
              refine a_bipush C dX7_pack_52 ?_
              refine a_iload_n C dX7_pack_54 3 rfl rfl ?_
              refine a_imul C dX7_pack_55 ?_
              refine a_iload_n C dX7_pack_56 0 rfl rfl ?_
              refine a_iadd C dX7_pack_57 ?_
              refine a_lald C hM.f3 hM.n3 1 hM.tL (by omega) (by omega) (by decide) dX7_pack_58 (fun z58 e58 r58 => ?_)
              refine a_ldc2 C (-1) (w := (-1)) (by decide +kernel) rfl dX7_pack_59 ?_
              refine a_lcmp C r58 (by decide) dX7_pack_62 (fun z62 e62 r62 => ?_)
              refine a_if_lt C 84 r62 dX7_pack_63 (by decide) (fun c63 => ?_) (fun c63 => ?_)
              · skip
                refine a_aload_n C dX7_pack_84 1 rfl rfl ?_
                refine a_iconst C dX7_pack_85 ?_
                refine a_cVI C (k0 := 1) (As := [vI 1]) (rest := []) (c_X7_refuse x.2.1 v σ b hM 1 (by omega)) gX7_pack_X7_refuse rfl (by decide +kernel) (by decide) hM.f0 rfl hM.n0 rfl rfl (Nat.le_of_ble_eq_true rfl) dX7_pack_86 (fun z86 u86 r86 p86 => ?_)
                obtain ⟨e86, p86⟩ := p86
                subst u86
                have hNB : ¬ (∀ j : Int, 0 ≤ j → j < σ (b + 2) i2 → -1 ≤ σ (b + 3) (100000 + (100 * i2 + j)) ∧ σ (b + 3) (100000 + (100 * i2 + j)) ≤ 39) := fun q => by have := q k (by omega) (by omega); omega
                refine hret _ _ _ _ dX7_pack_89 (by omega) ?_
                (repeat (first | rw [if_pos (by omega)] | rw [if_neg (by omega)] | rw [if_pos hNB] | rw [if_neg (fun q => q hRB)]))
                exact ⟨by omega, rfl⟩
              · skip
                refine a_aload_n C dX7_pack_66 1 rfl rfl ?_
                refine a_getf C hM.f0 hM.n0 (Cn := RX7) (T := TX7) (N := 30) rfl iX7 5 (by decide) k20 (w := .ref (vq v (b + 3))) rfl dX7_pack_67 ?_
                refine a_bipush C dX7_pack_70 ?_
                refine a_iload_n C dX7_pack_72 3 rfl rfl ?_
                refine a_imul C dX7_pack_73 ?_
                refine a_iload_n C dX7_pack_74 0 rfl rfl ?_
                refine a_iadd C dX7_pack_75 ?_
                refine a_lald C hM.f3 hM.n3 1 hM.tL (by omega) (by omega) (by decide) dX7_pack_76 (fun z76 e76 r76 => ?_)
                refine a_ldc2 C 40 (w := 40) (by decide +kernel) rfl dX7_pack_77 ?_
                refine a_lcmp C r76 (by decide) dX7_pack_80 (fun z80 e80 r80 => ?_)
                refine a_if_lt C 90 r80 dX7_pack_81 (by decide) (fun c81 => ?_) (fun c81 => ?_)
                · skip
                  refine a_iinc C (k + 1) [(3, vI (k + 1)), (0, .ref (vq v b)), (1, vI i1), (2, vI i2)] dX7_pack_90 0 rfl (by omega) (by decide) rfl ?_
                  refine a_goto C 38 dX7_pack_93 (by decide) ?_
                  exact ih _ (by omega) (k + 1) rfl (by omega) (fun j q1 q2 => by by_cases hj : j = k; (subst hj; omega); exact iv2 j q1 (by omega))
                · skip
                  refine a_aload_n C dX7_pack_84 1 rfl rfl ?_
                  refine a_iconst C dX7_pack_85 ?_
                  refine a_cVI C (k0 := 1) (As := [vI 1]) (rest := []) (c_X7_refuse x.2.1 v σ b hM 1 (by omega)) gX7_pack_X7_refuse rfl (by decide +kernel) (by decide) hM.f0 rfl hM.n0 rfl rfl (Nat.le_of_ble_eq_true rfl) dX7_pack_86 (fun z86 u86 r86 p86 => ?_)
                  obtain ⟨e86, p86⟩ := p86
                  subst u86
                  have hNB : ¬ (∀ j : Int, 0 ≤ j → j < σ (b + 2) i2 → -1 ≤ σ (b + 3) (100000 + (100 * i2 + j)) ∧ σ (b + 3) (100000 + (100 * i2 + j)) ≤ 39) := fun q => by have := q k (by omega) (by omega); omega
                  refine hret _ _ _ _ dX7_pack_89 (by omega) ?_
                  (repeat (first | rw [if_pos (by omega)] | rw [if_neg (by omega)] | rw [if_pos hNB] | rw [if_neg (fun q => q hRB)]))
                  exact ⟨by omega, rfl⟩
        exact lpA _ 0 rfl (by omega) (fun j q1 q2 => by omega)
      · skip
        refine a_aload_n C dX7_pack_30 0 rfl rfl ?_
        refine a_iconst C dX7_pack_31 ?_
        refine a_cVI C (k0 := 1) (As := [vI 2]) (rest := []) (c_X7_refuse x.2.1 v σ b hM 2 (by omega)) gX7_pack_X7_refuse rfl (by decide +kernel) (by decide) hM.f0 rfl hM.n0 rfl rfl (Nat.le_of_ble_eq_true rfl) dX7_pack_32 (fun z32 u32 r32 p32 => ?_)
        obtain ⟨e32, p32⟩ := p32
        subst u32
        refine hret _ _ _ _ dX7_pack_35 (by omega) ?_
        (repeat (first | rw [if_pos (by omega)] | rw [if_neg (by omega)]))
        exact ⟨by omega, rfl⟩
    · skip
      refine a_aload_n C dX7_pack_14 0 rfl rfl ?_
      refine a_iconst C dX7_pack_15 ?_
      refine a_cVI C (k0 := 1) (As := [vI 1]) (rest := []) (c_X7_refuse x.2.1 v σ b hM 1 (by omega)) gX7_pack_X7_refuse rfl (by decide +kernel) (by decide) hM.f0 rfl hM.n0 rfl rfl (Nat.le_of_ble_eq_true rfl) dX7_pack_16 (fun z16 u16 r16 p16 => ?_)
      obtain ⟨e16, p16⟩ := p16
      subst u16
      refine hret _ _ _ _ dX7_pack_19 (by omega) ?_
      (repeat (first | rw [if_pos (by omega)] | rw [if_neg (by omega)]))
      exact ⟨by omega, rfl⟩
