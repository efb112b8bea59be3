/-! ===== the model's TRAYS ===== -/
set_option maxHeartbeats 4000000 in
set_option maxRecDepth 100000 in
theorem c_X7_tray (l : Launch) (v : VC) (σ : Mem) (b : Nat) (hM : shMo v b) (i1 s1 m1 : Int) (h1 : rg i1) (h2 : rg s1) (h3 : rg m1) : CtI l yX7_tray wsX7_tray 1 21 v [.ref (vq v b), vI i1, vI s1, vI m1] σ (fun z u => (if ¬ ((0 ≤ i1 ∧ i1 < 4) ∧ (0 ≤ s1 ∧ s1 ≤ 3) ∧ (0 ≤ m1 ∧ m1 ≤ 100)) then (z = 0 ∧ u = sput σ b 0 1) else (z = 1 ∧ (∀ j : Int, 0 ≤ j → j < m1 → u (b + 3) (100000 + (100 * i1 + j)) = 0) ∧ (∀ j : Int, (j < 100000 + 100 * i1 ∨ 100000 + 100 * i1 + 100 ≤ j) → u (b + 3) j = σ (b + 3) j) ∧ ∀ a : Nat, a ≠ b + 3 → u a = (sput (sput (sput σ (b + 1) i1 s1) (b + 2) i1 m1) b 0 0) a))) := by
  refine mkZ (cc := cX7_tray) (n := 5) (by decide +kernel) rfl (Nat.le_of_ble_eq_true rfl) (fun x A Q hx C hret => ?_)
  subst hx
  show At x v A Q _ 0 [(0, .ref (vq v b)), (1, vI i1), (2, vI s1), (3, vI m1)] [] σ
  have iX7 : ∀ w ∈ wsX70, w ∈ wsX7_tray := by decide +kernel
  have k13 : Cond.fieldLink RX7 13 (TX7 3).1 (TX7 3).2.1 (TX7 3).2.2.1 ∈ wsX7_tray := by decide +kernel
  have k17 : Cond.fieldLink RX7 17 (TX7 4).1 (TX7 4).2.1 (TX7 4).2.2.1 ∈ wsX7_tray := by decide +kernel
  have k20 : Cond.fieldLink RX7 20 (TX7 5).1 (TX7 5).2.1 (TX7 5).2.2.1 ∈ wsX7_tray := by decide +kernel
  refine a_iload_n C dX7_tray_0 1 rfl rfl ?_
  refine a_cSI C (k0 := 1) (As := [vI i1]) (rest := []) (c_X7_isTray x.2.1 v σ i1 (by omega)) gX7_tray_X7_isTray rfl (by decide +kernel) (by decide) rfl rfl (Nat.le_of_ble_eq_true rfl) dX7_tray_1 (fun z1 u1 r1 p1 => ?_)
  obtain ⟨e1, p1⟩ := p1
  subst u1
  have q1 := zz e1
  refine a_if_eq C 26 r1 dX7_tray_4 (by decide) (fun c4 => ?_) (fun c4 => ?_)
  · skip
    refine a_aload_n C dX7_tray_26 0 rfl rfl ?_
    refine a_iconst C dX7_tray_27 ?_
    refine a_cVI C (k0 := 1) (As := [vI 1]) (rest := []) (c_X7_is x.2.1 v σ b hM 1 (by omega)) gX7_tray_X7_is rfl (by decide +kernel) (by decide) hM.f0 rfl hM.n0 rfl rfl (Nat.le_of_ble_eq_true rfl) dX7_tray_28 (fun z28 u28 r28 p28 => ?_)
    obtain ⟨e28, p28⟩ := p28
    subst u28
    have q28 := zz e28
    refine hret _ _ _ _ dX7_tray_31 (by omega) ?_
    (repeat (first | rw [if_pos (by omega)] | rw [if_neg (by omega)]))
    (first | exact ⟨by omega, rfl⟩ | (refine ⟨by omega, fun j j0 j1 => by rw [sput_r (by omega)]; exact iF.1 j j0 j1, fun j q => by rw [sput_r (by omega)]; exact iF.2.1 j q, fun a q => sput_cg (iF.2.2 a q)⟩))
  · skip
    refine a_iload_n C dX7_tray_7 2 rfl rfl ?_
    refine a_if_lt C 26 (by omega) dX7_tray_8 (by decide) (fun c8 => ?_) (fun c8 => ?_)
    · skip
      refine a_aload_n C dX7_tray_26 0 rfl rfl ?_
      refine a_iconst C dX7_tray_27 ?_
      refine a_cVI C (k0 := 1) (As := [vI 1]) (rest := []) (c_X7_is x.2.1 v σ b hM 1 (by omega)) gX7_tray_X7_is rfl (by decide +kernel) (by decide) hM.f0 rfl hM.n0 rfl rfl (Nat.le_of_ble_eq_true rfl) dX7_tray_28 (fun z28 u28 r28 p28 => ?_)
      obtain ⟨e28, p28⟩ := p28
      subst u28
      have q28 := zz e28
      refine hret _ _ _ _ dX7_tray_31 (by omega) ?_
      (repeat (first | rw [if_pos (by omega)] | rw [if_neg (by omega)]))
      (first | exact ⟨by omega, rfl⟩ | (refine ⟨by omega, fun j j0 j1 => by rw [sput_r (by omega)]; exact iF.1 j j0 j1, fun j q => by rw [sput_r (by omega)]; exact iF.2.1 j q, fun a q => sput_cg (iF.2.2 a q)⟩))
    · skip
      refine a_iload_n C dX7_tray_11 2 rfl rfl ?_
      refine a_iconst C dX7_tray_12 ?_
      refine a_icmp_gt C 26 (by omega) (by decide) dX7_tray_13 (by decide) (fun c13 => ?_) (fun c13 => ?_)
      · skip
        refine a_aload_n C dX7_tray_26 0 rfl rfl ?_
        refine a_iconst C dX7_tray_27 ?_
        refine a_cVI C (k0 := 1) (As := [vI 1]) (rest := []) (c_X7_is x.2.1 v σ b hM 1 (by omega)) gX7_tray_X7_is rfl (by decide +kernel) (by decide) hM.f0 rfl hM.n0 rfl rfl (Nat.le_of_ble_eq_true rfl) dX7_tray_28 (fun z28 u28 r28 p28 => ?_)
        obtain ⟨e28, p28⟩ := p28
        subst u28
        have q28 := zz e28
        refine hret _ _ _ _ dX7_tray_31 (by omega) ?_
        (repeat (first | rw [if_pos (by omega)] | rw [if_neg (by omega)]))
        (first | exact ⟨by omega, rfl⟩ | (refine ⟨by omega, fun j j0 j1 => by rw [sput_r (by omega)]; exact iF.1 j j0 j1, fun j q => by rw [sput_r (by omega)]; exact iF.2.1 j q, fun a q => sput_cg (iF.2.2 a q)⟩))
      · skip
        refine a_iload_n C dX7_tray_16 3 rfl rfl ?_
        refine a_if_lt C 26 (by omega) dX7_tray_17 (by decide) (fun c17 => ?_) (fun c17 => ?_)
        · skip
          refine a_aload_n C dX7_tray_26 0 rfl rfl ?_
          refine a_iconst C dX7_tray_27 ?_
          refine a_cVI C (k0 := 1) (As := [vI 1]) (rest := []) (c_X7_is x.2.1 v σ b hM 1 (by omega)) gX7_tray_X7_is rfl (by decide +kernel) (by decide) hM.f0 rfl hM.n0 rfl rfl (Nat.le_of_ble_eq_true rfl) dX7_tray_28 (fun z28 u28 r28 p28 => ?_)
          obtain ⟨e28, p28⟩ := p28
          subst u28
          have q28 := zz e28
          refine hret _ _ _ _ dX7_tray_31 (by omega) ?_
          (repeat (first | rw [if_pos (by omega)] | rw [if_neg (by omega)]))
          (first | exact ⟨by omega, rfl⟩ | (refine ⟨by omega, fun j j0 j1 => by rw [sput_r (by omega)]; exact iF.1 j j0 j1, fun j q => by rw [sput_r (by omega)]; exact iF.2.1 j q, fun a q => sput_cg (iF.2.2 a q)⟩))
        · skip
          refine a_iload_n C dX7_tray_20 3 rfl rfl ?_
          refine a_bipush C dX7_tray_21 ?_
          refine a_icmp_le C 32 (by omega) (by decide) dX7_tray_23 (by decide) (fun c23 => ?_) (fun c23 => ?_)
          · skip
            refine a_aload_n C dX7_tray_32 0 rfl rfl ?_
            refine a_getf C hM.f0 hM.n0 (Cn := RX7) (T := TX7) (N := 30) rfl iX7 3 (by decide) k13 (w := .ref (vq v (b + 1))) rfl dX7_tray_33 ?_
            refine a_iload_n C dX7_tray_36 1 rfl rfl ?_
            refine a_iload_n C dX7_tray_37 2 rfl rfl ?_
            refine a_iast C hM.f1 hM.n1 0 hM.tI (by omega) (by omega) (by decide) (by omega) dX7_tray_38 ?_
            refine a_aload_n C dX7_tray_39 0 rfl rfl ?_
            refine a_getf C hM.f0 hM.n0 (Cn := RX7) (T := TX7) (N := 30) rfl iX7 4 (by decide) k17 (w := .ref (vq v (b + 2))) rfl dX7_tray_40 ?_
            refine a_iload_n C dX7_tray_43 1 rfl rfl ?_
            refine a_iload_n C dX7_tray_44 3 rfl rfl ?_
            refine a_iast C hM.f2 hM.n2 0 hM.tI (by omega) (by omega) (by decide) (by omega) dX7_tray_45 ?_
            refine a_iconst C dX7_tray_46 ?_
            refine a_istore C [(4, vI 0), (0, .ref (vq v b)), (1, vI i1), (2, vI s1), (3, vI m1)] dX7_tray_47 (by decide) rfl ?_
            have lp : ∀ (n : Nat) (k : Int) (τ : Mem) , (m1 - k).toNat = n → 0 ≤ k ∧ k ≤ m1 → ((∀ j : Int, 0 ≤ j → j < k → τ (b + 3) (100000 + (100 * i1 + j)) = 0) ∧ (∀ j : Int, (j < 100000 + 100 * i1 ∨ 100000 + 100 * i1 + 100 ≤ j) → τ (b + 3) j = σ (b + 3) j) ∧ ∀ a : Nat, a ≠ b + 3 → τ a = (sput (sput σ (b + 1) i1 s1) (b + 2) i1 m1) a) → At x v A Q 5 49 [(4, vI k), (0, .ref (vq v b)), (1, vI i1), (2, vI s1), (3, vI m1)] [] τ := by
              intro n
              induction n using Nat.strongRecOn with
              | _ n ih =>
                intro k τ hn iv1 iF
                refine a_iload C dX7_tray_49 0 rfl ?_
                refine a_iload_n C dX7_tray_51 4 rfl rfl ?_
                refine a_icmp_ge C 74 (by omega) (by omega) dX7_tray_52 (by decide) (fun c52 => ?_) (fun c52 => ?_)
                · skip
                  refine a_aload_n C dX7_tray_74 1 rfl rfl ?_
                  refine a_iconst C dX7_tray_75 ?_
                  have hkm : k = m1 := by omega
                  subst hkm
                  refine a_cVI C (k0 := 1) (As := [vI 0]) (rest := []) (c_X7_is x.2.1 v τ b hM 0 (by omega)) gX7_tray_X7_is rfl (by decide +kernel) (by decide) hM.f0 rfl hM.n0 rfl rfl (Nat.le_of_ble_eq_true rfl) dX7_tray_76 (fun z76 u76 r76 p76 => ?_)
                  obtain ⟨e76, p76⟩ := p76
                  subst u76
                  have q76 := zz e76
                  refine hret _ _ _ _ dX7_tray_79 (by omega) ?_
                  (repeat (first | rw [if_pos (by omega)] | rw [if_neg (by omega)]))
                  (first | exact ⟨by omega, rfl⟩ | (refine ⟨by omega, fun j j0 j1 => by rw [sput_r (by omega)]; exact iF.1 j j0 j1, fun j q => by rw [sput_r (by omega)]; exact iF.2.1 j q, fun a q => sput_cg (iF.2.2 a q)⟩))
                · skip
                  refine a_aload_n C dX7_tray_55 1 rfl rfl ?_
                  refine a_getf C hM.f0 hM.n0 (Cn := RX7) (T := TX7) (N := 30) rfl iX7 5 (by decide) k20 (w := .ref (vq v (b + 3))) rfl dX7_tray_56 ?_
                  refine a_bipush C dX7_tray_59 ?_
                  refine a_iload_n C dX7_tray_61 2 rfl rfl ?_
                  refine a_imul C dX7_tray_62 ?_
                  refine a_iload C dX7_tray_63 0 rfl ?_
                  refine a_iadd C dX7_tray_65 ?_
                  refine a_lconst C 0 dX7_tray_66 rfl ?_
                  refine a_last C hM.f3 hM.n3 1 hM.tL (by omega) (by omega) (by decide) (by decide) dX7_tray_67 ?_
                  refine a_iinc C (k + 1) [(4, vI (k + 1)), (0, .ref (vq v b)), (1, vI i1), (2, vI s1), (3, vI m1)] dX7_tray_68 0 rfl (by omega) (by decide) rfl ?_
                  refine a_goto C 49 dX7_tray_71 (by decide) ?_
                  refine ih _ (by omega) (k + 1) _ rfl (by omega) ⟨fun j j0 j1 => ?_, fun j q => ?_, fun a q => by rw [sput_r q]; exact iF.2.2 a q⟩
                  · by_cases hj : j = k
                    · subst hj; rw [sput_s]
                    · rw [sput_j _ _ _ _ _ (by omega)]; exact iF.1 j j0 (by omega)
                  · rw [sput_j _ _ _ _ _ (by omega)]; exact iF.2.1 j q
            exact lp _ 0 _ rfl (by omega) ⟨fun j j0 j1 => by omega, fun j q => by rw [sput_r (by omega), sput_r (by omega)], fun a _ => rfl⟩
          · skip
            refine a_aload_n C dX7_tray_26 0 rfl rfl ?_
            refine a_iconst C dX7_tray_27 ?_
            refine a_cVI C (k0 := 1) (As := [vI 1]) (rest := []) (c_X7_is x.2.1 v σ b hM 1 (by omega)) gX7_tray_X7_is rfl (by decide +kernel) (by decide) hM.f0 rfl hM.n0 rfl rfl (Nat.le_of_ble_eq_true rfl) dX7_tray_28 (fun z28 u28 r28 p28 => ?_)
            obtain ⟨e28, p28⟩ := p28
            subst u28
            have q28 := zz e28
            refine hret _ _ _ _ dX7_tray_31 (by omega) ?_
            (repeat (first | rw [if_pos (by omega)] | rw [if_neg (by omega)]))
            (first | exact ⟨by omega, rfl⟩ | (refine ⟨by omega, fun j j0 j1 => by rw [sput_r (by omega)]; exact iF.1 j j0 j1, fun j q => by rw [sput_r (by omega)]; exact iF.2.1 j q, fun a q => sput_cg (iF.2.2 a q)⟩))
set_option maxHeartbeats 4000000 in
set_option maxRecDepth 100000 in
theorem c_X7_write (l : Launch) (v : VC) (σ : Mem) (b : Nat) (hM : shMo v b) (i1 p1 x1 : Int) (h1 : rg i1) (h2 : rg p1) (h3 : rgL x1) (hT : mtW σ b) : CtI l yX7_write wsX7_write 2 42 v [.ref (vq v b), vI i1, vI p1, vJ x1] σ (fun z u => (if ¬ (0 ≤ i1 ∧ i1 < 4) then (z = 0 ∧ u = sput σ b 0 1) else (if σ (b + 2) i1 = -1 then (z = 0 ∧ u = sput σ b 0 2) else (if ¬ (0 ≤ p1 ∧ p1 < σ (b + 2) i1) then (z = 0 ∧ u = sput σ b 0 3) else (z = 1 ∧ u = sput (sput σ (b + 3) (100000 + (100 * i1 + p1)) (fitI (σ (b + 1) i1) x1)) b 0 0))))) := by
  refine mkZ (cc := cX7_write) (n := 6) (by decide +kernel) rfl (Nat.le_of_ble_eq_true rfl) (fun x A Q hx C hret => ?_)
  subst hx
  show At x v A Q _ 0 [(0, .ref (vq v b)), (1, vI i1), (2, vI p1), (3, vJ x1)] [] σ
  have iX7 : ∀ w ∈ wsX70, w ∈ wsX7_write := by decide +kernel
  have k20 : Cond.fieldLink RX7 20 (TX7 5).1 (TX7 5).2.1 (TX7 5).2.2.1 ∈ wsX7_write := by decide +kernel
  have k13 : Cond.fieldLink RX7 13 (TX7 3).1 (TX7 3).2.1 (TX7 3).2.2.1 ∈ wsX7_write := by decide +kernel
  refine a_aload_n C dX7_write_0 0 rfl rfl ?_
  refine a_iload_n C dX7_write_1 1 rfl rfl ?_
  refine a_iload_n C dX7_write_2 2 rfl rfl ?_
  refine a_cVI C (k0 := 2) (As := [vI i1, vI p1]) (rest := []) (c_X7_wrong x.2.1 v σ b hM i1 p1 (by omega) (by omega)) gX7_write_X7_wrong rfl (by decide +kernel) (by decide) hM.f0 rfl hM.n0 rfl rfl (Nat.le_of_ble_eq_true rfl) dX7_write_3 (fun z3 u3 r3 p3 => ?_)
  obtain ⟨e3, p3⟩ := p3
  subst u3
  have q3 := zq4 e3
  rcases q3 with ⟨h3, k3⟩ | ⟨h3, k3⟩ | ⟨h3, k3⟩ | ⟨h3, k3⟩ <;> subst h3
  · skip
    show At x v A Q _ 6 [(0, .ref (vq v b)), (1, vI i1), (2, vI p1), (3, vJ x1)] [vI 1] σ
    refine a_istore C [(5, vI 1), (0, .ref (vq v b)), (1, vI i1), (2, vI p1), (3, vJ x1)] dX7_write_6 (by decide) rfl ?_
    refine a_iload C dX7_write_8 0 rfl ?_
    refine a_if_ne C 34 (by decide) dX7_write_10 (by decide) (fun c10 => ?_) (fun c10 => ?_)
    · skip
      refine a_aload_n C dX7_write_34 1 rfl rfl ?_
      refine a_iload C dX7_write_35 0 rfl ?_
      refine a_cVI C (k0 := 1) (As := [vI 1]) (rest := []) (c_X7_is x.2.1 v σ b hM 1 (by omega)) gX7_write_X7_is rfl (by decide +kernel) (by decide) hM.f0 rfl hM.n0 rfl rfl (Nat.le_of_ble_eq_true rfl) dX7_write_37 (fun z37 u37 r37 p37 => ?_)
      obtain ⟨e37, p37⟩ := p37
      subst u37
      have q37 := zz e37
      refine hret _ _ _ _ dX7_write_40 (by omega) ?_
      (repeat (first | rw [if_pos (by omega)] | rw [if_neg (by omega)]))
      (first | exact ⟨by omega, rfl⟩ | exact ⟨by omega, by rw [e30]⟩)
    · skip
      exfalso; omega
  · skip
    show At x v A Q _ 6 [(0, .ref (vq v b)), (1, vI i1), (2, vI p1), (3, vJ x1)] [vI 2] σ
    refine a_istore C [(5, vI 2), (0, .ref (vq v b)), (1, vI i1), (2, vI p1), (3, vJ x1)] dX7_write_6 (by decide) rfl ?_
    refine a_iload C dX7_write_8 0 rfl ?_
    refine a_if_ne C 34 (by decide) dX7_write_10 (by decide) (fun c10 => ?_) (fun c10 => ?_)
    · skip
      refine a_aload_n C dX7_write_34 1 rfl rfl ?_
      refine a_iload C dX7_write_35 0 rfl ?_
      refine a_cVI C (k0 := 1) (As := [vI 2]) (rest := []) (c_X7_is x.2.1 v σ b hM 2 (by omega)) gX7_write_X7_is rfl (by decide +kernel) (by decide) hM.f0 rfl hM.n0 rfl rfl (Nat.le_of_ble_eq_true rfl) dX7_write_37 (fun z37 u37 r37 p37 => ?_)
      obtain ⟨e37, p37⟩ := p37
      subst u37
      have q37 := zz e37
      refine hret _ _ _ _ dX7_write_40 (by omega) ?_
      (repeat (first | rw [if_pos (by omega)] | rw [if_neg (by omega)]))
      (first | exact ⟨by omega, rfl⟩ | exact ⟨by omega, by rw [e30]⟩)
    · skip
      exfalso; omega
  · skip
    show At x v A Q _ 6 [(0, .ref (vq v b)), (1, vI i1), (2, vI p1), (3, vJ x1)] [vI 3] σ
    refine a_istore C [(5, vI 3), (0, .ref (vq v b)), (1, vI i1), (2, vI p1), (3, vJ x1)] dX7_write_6 (by decide) rfl ?_
    refine a_iload C dX7_write_8 0 rfl ?_
    refine a_if_ne C 34 (by decide) dX7_write_10 (by decide) (fun c10 => ?_) (fun c10 => ?_)
    · skip
      refine a_aload_n C dX7_write_34 1 rfl rfl ?_
      refine a_iload C dX7_write_35 0 rfl ?_
      refine a_cVI C (k0 := 1) (As := [vI 3]) (rest := []) (c_X7_is x.2.1 v σ b hM 3 (by omega)) gX7_write_X7_is rfl (by decide +kernel) (by decide) hM.f0 rfl hM.n0 rfl rfl (Nat.le_of_ble_eq_true rfl) dX7_write_37 (fun z37 u37 r37 p37 => ?_)
      obtain ⟨e37, p37⟩ := p37
      subst u37
      have q37 := zz e37
      refine hret _ _ _ _ dX7_write_40 (by omega) ?_
      (repeat (first | rw [if_pos (by omega)] | rw [if_neg (by omega)]))
      (first | exact ⟨by omega, rfl⟩ | exact ⟨by omega, by rw [e30]⟩)
    · skip
      exfalso; omega
  · skip
    show At x v A Q _ 6 [(0, .ref (vq v b)), (1, vI i1), (2, vI p1), (3, vJ x1)] [vI 0] σ
    refine a_istore C [(5, vI 0), (0, .ref (vq v b)), (1, vI i1), (2, vI p1), (3, vJ x1)] dX7_write_6 (by decide) rfl ?_
    refine a_iload C dX7_write_8 0 rfl ?_
    refine a_if_ne C 34 (by decide) dX7_write_10 (by decide) (fun c10 => ?_) (fun c10 => ?_)
    · skip
      exfalso; omega
    · skip
      have t1 := hT i1 (by omega) (by omega)
      refine a_aload_n C dX7_write_13 1 rfl rfl ?_
      refine a_getf C hM.f0 hM.n0 (Cn := RX7) (T := TX7) (N := 30) rfl iX7 5 (by decide) k20 (w := .ref (vq v (b + 3))) rfl dX7_write_14 ?_
      refine a_bipush C dX7_write_17 ?_
      refine a_iload_n C dX7_write_19 2 rfl rfl ?_
      refine a_imul C dX7_write_20 ?_
      refine a_iload_n C dX7_write_21 3 rfl rfl ?_
      refine a_iadd C dX7_write_22 ?_
      refine a_lload_n C dX7_write_23 4 rfl rfl ?_
      refine a_aload_n C dX7_write_24 1 rfl rfl ?_
      refine a_getf C hM.f0 hM.n0 (Cn := RX7) (T := TX7) (N := 30) rfl iX7 3 (by decide) k13 (w := .ref (vq v (b + 1))) rfl dX7_write_25 ?_
      refine a_iload_n C dX7_write_28 2 rfl rfl ?_
      refine a_iald C hM.f1 hM.n1 0 hM.tI (by omega) (by omega) (by decide) dX7_write_29 (fun z29 e29 r29 => ?_)
      refine a_cSL C (k0 := 2) (As := [vJ x1, vI z29]) (rest := [vI ((100 * i1) + p1), .ref (vq v (b + 3))]) (c_X7_cut x.2.1 v σ x1 z29 h3 (by omega)) gX7_write_X7_cut rfl (by decide +kernel) (by decide) rfl rfl (Nat.le_of_ble_eq_true rfl) dX7_write_30 (fun z30 u30 r30 p30 => ?_)
      obtain ⟨e30, p30⟩ := p30
      subst u30
      rw [e29] at e30
      refine a_last C hM.f3 hM.n3 1 hM.tL (by omega) (by omega) (by decide) r30 dX7_write_33 ?_
      refine a_aload_n C dX7_write_34 1 rfl rfl ?_
      refine a_iload C dX7_write_35 0 rfl ?_
      refine a_cVI C (k0 := 1) (As := [vI 0]) (rest := []) (c_X7_is x.2.1 v (sput σ (b + 3) (100000 + ((100 * i1) + p1)) z30) b hM 0 (by omega)) gX7_write_X7_is rfl (by decide +kernel) (by decide) hM.f0 rfl hM.n0 rfl rfl (Nat.le_of_ble_eq_true rfl) dX7_write_37 (fun z37 u37 r37 p37 => ?_)
      obtain ⟨e37, p37⟩ := p37
      subst u37
      have q37 := zz e37
      refine hret _ _ _ _ dX7_write_40 (by omega) ?_
      (repeat (first | rw [if_pos (by omega)] | rw [if_neg (by omega)]))
      (first | exact ⟨by omega, rfl⟩ | exact ⟨by omega, by rw [e30]⟩)
set_option maxHeartbeats 4000000 in
set_option maxRecDepth 100000 in
theorem c_X7_read (l : Launch) (v : VC) (σ : Mem) (b : Nat) (hM : shMo v b) (i1 p1 : Int) (h1 : rg i1) (h2 : rg p1) (hT : mtW σ b) : CtL l yX7_read wsX7_read 2 42 v [.ref (vq v b), vI i1, vI p1] σ (fun z u => (if ¬ (0 ≤ i1 ∧ i1 < 4) then (z = -1 ∧ u = sput σ b 0 1) else (if σ (b + 2) i1 = -1 then (z = -1 ∧ u = sput σ b 0 2) else (if ¬ (0 ≤ p1 ∧ p1 < σ (b + 2) i1) then (z = -1 ∧ u = sput σ b 0 3) else (z = σ (b + 3) (100000 + (100 * i1 + p1)) ∧ u = sput σ b 0 0))))) := by
  refine mkL (cc := cX7_read) (n := 3) (by decide +kernel) rfl (Nat.le_of_ble_eq_true rfl) (fun x A Q hx C hret => ?_)
  subst hx
  show At x v A Q _ 0 [(0, .ref (vq v b)), (1, vI i1), (2, vI p1)] [] σ
  have iX7 : ∀ w ∈ wsX70, w ∈ wsX7_read := by decide +kernel
  have k85 : Cond.fieldLink RX7 85 (TX7 0).1 (TX7 0).2.1 (TX7 0).2.2.1 ∈ wsX7_read := by decide +kernel
  have k20 : Cond.fieldLink RX7 20 (TX7 5).1 (TX7 5).2.1 (TX7 5).2.2.1 ∈ wsX7_read := by decide +kernel
  refine a_aload_n C dX7_read_0 0 rfl rfl ?_
  refine a_aload_n C dX7_read_1 0 rfl rfl ?_
  refine a_iload_n C dX7_read_2 1 rfl rfl ?_
  refine a_iload_n C dX7_read_3 2 rfl rfl ?_
  refine a_cVI C (k0 := 2) (As := [vI i1, vI p1]) (rest := [.ref (vq v b)]) (c_X7_wrong x.2.1 v σ b hM i1 p1 (by omega) (by omega)) gX7_read_X7_wrong rfl (by decide +kernel) (by decide) hM.f0 rfl hM.n0 rfl rfl (Nat.le_of_ble_eq_true rfl) dX7_read_4 (fun z4 u4 r4 p4 => ?_)
  obtain ⟨e4, p4⟩ := p4
  subst u4
  have q4 := zq4 e4
  rcases q4 with ⟨h4, k4⟩ | ⟨h4, k4⟩ | ⟨h4, k4⟩ | ⟨h4, k4⟩ <;> subst h4
  · skip
    show At x v A Q _ 7 [(0, .ref (vq v b)), (1, vI i1), (2, vI p1)] [vI 1, .ref (vq v b)] σ
    refine a_puti C hM.f0 hM.n0 (Cn := RX7) (T := TX7) (N := 30) rfl iX7 tyX7_ok nmX7 0 (by decide) k85 rfl rfl 0 (by decide) (fun _ => Nat.le_of_ble_eq_true rfl) (fun _ => rfl) dX7_read_7 ?_
    refine a_aload_n C dX7_read_10 0 rfl rfl ?_
    refine a_geti C hM.f0 hM.n0 (Cn := RX7) (T := TX7) (N := 30) rfl iX7 0 (by decide) k85 0 (by decide) rfl dX7_read_11 (fun z11 e11 r11 => ?_)
    try simp [sput_r, mset_n, sput, mset] at e11
    refine a_if_le C 23 r11 dX7_read_14 (by decide) (fun c14 => ?_) (fun c14 => ?_)
    · skip
      exfalso; omega
    · skip
      refine a_ldc2 C (-1) (w := (-1)) (by decide +kernel) rfl dX7_read_17 ?_
      refine a_goto C 34 dX7_read_20 (by decide) ?_
      refine hret _ _ _ _ dX7_read_34 (by omega) ?_
      (repeat (first | rw [if_pos (by omega)] | rw [if_neg (by omega)]))
      exact ⟨by omega, rfl⟩
  · skip
    show At x v A Q _ 7 [(0, .ref (vq v b)), (1, vI i1), (2, vI p1)] [vI 2, .ref (vq v b)] σ
    refine a_puti C hM.f0 hM.n0 (Cn := RX7) (T := TX7) (N := 30) rfl iX7 tyX7_ok nmX7 0 (by decide) k85 rfl rfl 0 (by decide) (fun _ => Nat.le_of_ble_eq_true rfl) (fun _ => rfl) dX7_read_7 ?_
    refine a_aload_n C dX7_read_10 0 rfl rfl ?_
    refine a_geti C hM.f0 hM.n0 (Cn := RX7) (T := TX7) (N := 30) rfl iX7 0 (by decide) k85 0 (by decide) rfl dX7_read_11 (fun z11 e11 r11 => ?_)
    try simp [sput_r, mset_n, sput, mset] at e11
    refine a_if_le C 23 r11 dX7_read_14 (by decide) (fun c14 => ?_) (fun c14 => ?_)
    · skip
      exfalso; omega
    · skip
      refine a_ldc2 C (-1) (w := (-1)) (by decide +kernel) rfl dX7_read_17 ?_
      refine a_goto C 34 dX7_read_20 (by decide) ?_
      refine hret _ _ _ _ dX7_read_34 (by omega) ?_
      (repeat (first | rw [if_pos (by omega)] | rw [if_neg (by omega)]))
      exact ⟨by omega, rfl⟩
  · skip
    show At x v A Q _ 7 [(0, .ref (vq v b)), (1, vI i1), (2, vI p1)] [vI 3, .ref (vq v b)] σ
    refine a_puti C hM.f0 hM.n0 (Cn := RX7) (T := TX7) (N := 30) rfl iX7 tyX7_ok nmX7 0 (by decide) k85 rfl rfl 0 (by decide) (fun _ => Nat.le_of_ble_eq_true rfl) (fun _ => rfl) dX7_read_7 ?_
    refine a_aload_n C dX7_read_10 0 rfl rfl ?_
    refine a_geti C hM.f0 hM.n0 (Cn := RX7) (T := TX7) (N := 30) rfl iX7 0 (by decide) k85 0 (by decide) rfl dX7_read_11 (fun z11 e11 r11 => ?_)
    try simp [sput_r, mset_n, sput, mset] at e11
    refine a_if_le C 23 r11 dX7_read_14 (by decide) (fun c14 => ?_) (fun c14 => ?_)
    · skip
      exfalso; omega
    · skip
      refine a_ldc2 C (-1) (w := (-1)) (by decide +kernel) rfl dX7_read_17 ?_
      refine a_goto C 34 dX7_read_20 (by decide) ?_
      refine hret _ _ _ _ dX7_read_34 (by omega) ?_
      (repeat (first | rw [if_pos (by omega)] | rw [if_neg (by omega)]))
      exact ⟨by omega, rfl⟩
  · skip
    show At x v A Q _ 7 [(0, .ref (vq v b)), (1, vI i1), (2, vI p1)] [vI 0, .ref (vq v b)] σ
    refine a_puti C hM.f0 hM.n0 (Cn := RX7) (T := TX7) (N := 30) rfl iX7 tyX7_ok nmX7 0 (by decide) k85 rfl rfl 0 (by decide) (fun _ => Nat.le_of_ble_eq_true rfl) (fun _ => rfl) dX7_read_7 ?_
    refine a_aload_n C dX7_read_10 0 rfl rfl ?_
    refine a_geti C hM.f0 hM.n0 (Cn := RX7) (T := TX7) (N := 30) rfl iX7 0 (by decide) k85 0 (by decide) rfl dX7_read_11 (fun z11 e11 r11 => ?_)
    try simp [sput_r, mset_n, sput, mset] at e11
    refine a_if_le C 23 r11 dX7_read_14 (by decide) (fun c14 => ?_) (fun c14 => ?_)
    · skip
      have t1 := hT i1 (by omega) (by omega)
      refine a_aload_n C dX7_read_23 0 rfl rfl ?_
      refine a_getf C hM.f0 hM.n0 (Cn := RX7) (T := TX7) (N := 30) rfl iX7 5 (by decide) k20 (w := .ref (vq v (b + 3))) rfl dX7_read_24 ?_
      refine a_bipush C dX7_read_27 ?_
      refine a_iload_n C dX7_read_29 1 rfl rfl ?_
      refine a_imul C dX7_read_30 ?_
      refine a_iload_n C dX7_read_31 2 rfl rfl ?_
      refine a_iadd C dX7_read_32 ?_
      refine a_lald C hM.f3 hM.n3 1 hM.tL (by omega) (by omega) (by decide) dX7_read_33 (fun z33 e33 r33 => ?_)
      try simp [sput_r, mset_n, sput, mset] at e33
      refine hret _ _ _ _ dX7_read_34 (by omega) ?_
      (repeat (first | rw [if_pos (by omega)] | rw [if_neg (by omega)]))
      exact ⟨by omega, rfl⟩
    · skip
      exfalso; omega
set_option maxHeartbeats 4000000 in
set_option maxRecDepth 100000 in
theorem c_X7_pour (l : Launch) (v : VC) (σ : Mem) (b : Nat) (hM : shMo v b) (i1 p1 i2 p2 m1 : Int) (h1 : rg i1) (h2 : rg p1) (h3 : rg i2) (h4 : rg p2) (h5 : rg m1) (hT : mtW σ b) : CtI l yX7_pour wsX7_pour 1 21 v [.ref (vq v b), vI i1, vI p1, vI i2, vI p2, vI m1] σ (fun z u => (if ¬ ((0 ≤ i1 ∧ i1 < 4) ∧ (0 ≤ i2 ∧ i2 < 4) ∧ 0 ≤ p1 ∧ 0 ≤ p2 ∧ 0 ≤ m1) then (z = 0 ∧ u = sput σ b 0 1) else (if σ (b + 2) i1 = -1 ∨ σ (b + 2) i2 = -1 then (z = 0 ∧ u = sput σ b 0 2) else (if σ (b + 1) i1 ≠ σ (b + 1) i2 then (z = 0 ∧ u = sput σ b 0 7) else (if ¬ (m1 ≤ σ (b + 2) i1 - p1 ∧ m1 ≤ σ (b + 2) i2 - p2) then (z = 0 ∧ u = sput σ b 0 3) else (z = 1 ∧ (∀ j : Int, u (b + 3) (100000 + j) = if 0 ≤ (j - (100 * i2 + p2)) ∧ (j - (100 * i2 + p2)) < m1 then σ (b + 3) (100000 + (100 * i1 + p1 + (j - (100 * i2 + p2)))) else σ (b + 3) (100000 + j)) ∧ ∀ a : Nat, a ≠ b + 3 → u a = sput σ b 0 0 a)))))) := by
  refine mkZ (cc := cX7_pour) (n := 8) (by decide +kernel) rfl (Nat.le_of_ble_eq_true rfl) (fun x A Q hx C hret => ?_)
  subst hx
  show At x v A Q _ 0 [(0, .ref (vq v b)), (1, vI i1), (2, vI p1), (3, vI i2), (4, vI p2), (5, vI m1)] [] σ
  have iX7 : ∀ w ∈ wsX70, w ∈ wsX7_pour := by decide +kernel
  have k17 : Cond.fieldLink RX7 17 (TX7 4).1 (TX7 4).2.1 (TX7 4).2.2.1 ∈ wsX7_pour := by decide +kernel
  have k13 : Cond.fieldLink RX7 13 (TX7 3).1 (TX7 3).2.1 (TX7 3).2.2.1 ∈ wsX7_pour := by decide +kernel
  have k20 : Cond.fieldLink RX7 20 (TX7 5).1 (TX7 5).2.1 (TX7 5).2.2.1 ∈ wsX7_pour := by decide +kernel
  refine a_iload_n C dX7_pour_0 1 rfl rfl ?_
  refine a_cSI C (k0 := 1) (As := [vI i1]) (rest := []) (c_X7_isTray x.2.1 v σ i1 (by omega)) gX7_pour_X7_isTray rfl (by decide +kernel) (by decide) rfl rfl (Nat.le_of_ble_eq_true rfl) dX7_pour_1 (fun z1 u1 r1 p1 => ?_)
  obtain ⟨e1, p1⟩ := p1
  subst u1
  have q1 := zz e1
  refine a_if_eq C 28 r1 dX7_pour_4 (by decide) (fun c4 => ?_) (fun c4 => ?_)
  · skip
    refine a_aload_n C dX7_pour_28 0 rfl rfl ?_
    refine a_iconst C dX7_pour_29 ?_
    refine a_cVI C (k0 := 1) (As := [vI 1]) (rest := []) (c_X7_is x.2.1 v σ b hM 1 (by omega)) gX7_pour_X7_is rfl (by decide +kernel) (by decide) hM.f0 rfl hM.n0 rfl rfl (Nat.le_of_ble_eq_true rfl) dX7_pour_30 (fun z30 u30 r30 p30 => ?_)
    obtain ⟨e30, p30⟩ := p30
    subst u30
    have q30 := zz e30
    refine hret _ _ _ _ dX7_pour_33 (by omega) ?_
    (repeat (first | rw [if_pos (by omega)] | rw [if_neg (by omega)]))
    exact ⟨by omega, rfl⟩
  · skip
    refine a_iload_n C dX7_pour_7 3 rfl rfl ?_
    refine a_cSI C (k0 := 1) (As := [vI i2]) (rest := []) (c_X7_isTray x.2.1 v σ i2 (by omega)) gX7_pour_X7_isTray rfl (by decide +kernel) (by decide) rfl rfl (Nat.le_of_ble_eq_true rfl) dX7_pour_8 (fun z8 u8 r8 p8 => ?_)
    obtain ⟨e8, p8⟩ := p8
    subst u8
    have q8 := zz e8
    refine a_if_eq C 28 r8 dX7_pour_11 (by decide) (fun c11 => ?_) (fun c11 => ?_)
    · skip
      refine a_aload_n C dX7_pour_28 0 rfl rfl ?_
      refine a_iconst C dX7_pour_29 ?_
      refine a_cVI C (k0 := 1) (As := [vI 1]) (rest := []) (c_X7_is x.2.1 v σ b hM 1 (by omega)) gX7_pour_X7_is rfl (by decide +kernel) (by decide) hM.f0 rfl hM.n0 rfl rfl (Nat.le_of_ble_eq_true rfl) dX7_pour_30 (fun z30 u30 r30 p30 => ?_)
      obtain ⟨e30, p30⟩ := p30
      subst u30
      have q30 := zz e30
      refine hret _ _ _ _ dX7_pour_33 (by omega) ?_
      (repeat (first | rw [if_pos (by omega)] | rw [if_neg (by omega)]))
      exact ⟨by omega, rfl⟩
    · skip
      refine a_iload_n C dX7_pour_14 2 rfl rfl ?_
      refine a_if_lt C 28 (by omega) dX7_pour_15 (by decide) (fun c15 => ?_) (fun c15 => ?_)
      · skip
        refine a_aload_n C dX7_pour_28 0 rfl rfl ?_
        refine a_iconst C dX7_pour_29 ?_
        refine a_cVI C (k0 := 1) (As := [vI 1]) (rest := []) (c_X7_is x.2.1 v σ b hM 1 (by omega)) gX7_pour_X7_is rfl (by decide +kernel) (by decide) hM.f0 rfl hM.n0 rfl rfl (Nat.le_of_ble_eq_true rfl) dX7_pour_30 (fun z30 u30 r30 p30 => ?_)
        obtain ⟨e30, p30⟩ := p30
        subst u30
        have q30 := zz e30
        refine hret _ _ _ _ dX7_pour_33 (by omega) ?_
        (repeat (first | rw [if_pos (by omega)] | rw [if_neg (by omega)]))
        exact ⟨by omega, rfl⟩
      · skip
        refine a_iload C dX7_pour_18 4 rfl ?_
        refine a_if_lt C 28 (by omega) dX7_pour_20 (by decide) (fun c20 => ?_) (fun c20 => ?_)
        · skip
          refine a_aload_n C dX7_pour_28 0 rfl rfl ?_
          refine a_iconst C dX7_pour_29 ?_
          refine a_cVI C (k0 := 1) (As := [vI 1]) (rest := []) (c_X7_is x.2.1 v σ b hM 1 (by omega)) gX7_pour_X7_is rfl (by decide +kernel) (by decide) hM.f0 rfl hM.n0 rfl rfl (Nat.le_of_ble_eq_true rfl) dX7_pour_30 (fun z30 u30 r30 p30 => ?_)
          obtain ⟨e30, p30⟩ := p30
          subst u30
          have q30 := zz e30
          refine hret _ _ _ _ dX7_pour_33 (by omega) ?_
          (repeat (first | rw [if_pos (by omega)] | rw [if_neg (by omega)]))
          exact ⟨by omega, rfl⟩
        · skip
          refine a_iload C dX7_pour_23 5 rfl ?_
          refine a_if_ge C 34 (by omega) dX7_pour_25 (by decide) (fun c25 => ?_) (fun c25 => ?_)
          · skip
            refine a_aload_n C dX7_pour_34 0 rfl rfl ?_
            refine a_getf C hM.f0 hM.n0 (Cn := RX7) (T := TX7) (N := 30) rfl iX7 4 (by decide) k17 (w := .ref (vq v (b + 2))) rfl dX7_pour_35 ?_
            refine a_iload_n C dX7_pour_38 1 rfl rfl ?_
            refine a_iald C hM.f2 hM.n2 0 hM.tI (by omega) (by omega) (by decide) dX7_pour_39 (fun z39 e39 r39 => ?_)
            refine a_iconst C dX7_pour_40 ?_
            refine a_icmp_eq C 54 r39 (by decide) dX7_pour_41 (by decide) (fun c41 => ?_) (fun c41 => ?_)
            · skip
              refine a_aload_n C dX7_pour_54 0 rfl rfl ?_
              refine a_iconst C dX7_pour_55 ?_
              refine a_cVI C (k0 := 1) (As := [vI 2]) (rest := []) (c_X7_is x.2.1 v σ b hM 2 (by omega)) gX7_pour_X7_is rfl (by decide +kernel) (by decide) hM.f0 rfl hM.n0 rfl rfl (Nat.le_of_ble_eq_true rfl) dX7_pour_56 (fun z56 u56 r56 p56 => ?_)
              obtain ⟨e56, p56⟩ := p56
              subst u56
              have q56 := zz e56
              refine hret _ _ _ _ dX7_pour_59 (by omega) ?_
              (repeat (first | rw [if_pos (by omega)] | rw [if_neg (by omega)]))
              exact ⟨by omega, rfl⟩
            · skip
              refine a_aload_n C dX7_pour_44 0 rfl rfl ?_
              refine a_getf C hM.f0 hM.n0 (Cn := RX7) (T := TX7) (N := 30) rfl iX7 4 (by decide) k17 (w := .ref (vq v (b + 2))) rfl dX7_pour_45 ?_
              refine a_iload_n C dX7_pour_48 3 rfl rfl ?_
              refine a_iald C hM.f2 hM.n2 0 hM.tI (by omega) (by omega) (by decide) dX7_pour_49 (fun z49 e49 r49 => ?_)
              refine a_iconst C dX7_pour_50 ?_
              refine a_icmp_ne C 60 r49 (by decide) dX7_pour_51 (by decide) (fun c51 => ?_) (fun c51 => ?_)
              · skip
                refine a_aload_n C dX7_pour_60 0 rfl rfl ?_
                refine a_getf C hM.f0 hM.n0 (Cn := RX7) (T := TX7) (N := 30) rfl iX7 3 (by decide) k13 (w := .ref (vq v (b + 1))) rfl dX7_pour_61 ?_
                refine a_iload_n C dX7_pour_64 1 rfl rfl ?_
                refine a_iald C hM.f1 hM.n1 0 hM.tI (by omega) (by omega) (by decide) dX7_pour_65 (fun z65 e65 r65 => ?_)
                refine a_aload_n C dX7_pour_66 0 rfl rfl ?_
                refine a_getf C hM.f0 hM.n0 (Cn := RX7) (T := TX7) (N := 30) rfl iX7 3 (by decide) k13 (w := .ref (vq v (b + 1))) rfl dX7_pour_67 ?_
                refine a_iload_n C dX7_pour_70 3 rfl rfl ?_
                refine a_iald C hM.f1 hM.n1 0 hM.tI (by omega) (by omega) (by decide) dX7_pour_71 (fun z71 e71 r71 => ?_)
                refine a_icmp_eq C 82 r65 r71 dX7_pour_72 (by decide) (fun c72 => ?_) (fun c72 => ?_)
                · skip
                  have t1 := hT i1 (by omega) (by omega)
                  have t2 := hT i2 (by omega) (by omega)
                  refine a_iload C dX7_pour_82 5 rfl ?_
                  refine a_aload_n C dX7_pour_84 0 rfl rfl ?_
                  refine a_getf C hM.f0 hM.n0 (Cn := RX7) (T := TX7) (N := 30) rfl iX7 4 (by decide) k17 (w := .ref (vq v (b + 2))) rfl dX7_pour_85 ?_
                  refine a_iload_n C dX7_pour_88 1 rfl rfl ?_
                  refine a_iald C hM.f2 hM.n2 0 hM.tI (by omega) (by omega) (by decide) dX7_pour_89 (fun z89 e89 r89 => ?_)
                  refine a_iload_n C dX7_pour_90 2 rfl rfl ?_
                  refine a_isub C dX7_pour_91 ?_
                  refine a_icmp_gt C 109 (by omega) (by omega) dX7_pour_92 (by decide) (fun c92 => ?_) (fun c92 => ?_)
                  · skip
                    refine a_aload_n C dX7_pour_109 0 rfl rfl ?_
                    refine a_iconst C dX7_pour_110 ?_
                    refine a_cVI C (k0 := 1) (As := [vI 3]) (rest := []) (c_X7_is x.2.1 v σ b hM 3 (by omega)) gX7_pour_X7_is rfl (by decide +kernel) (by decide) hM.f0 rfl hM.n0 rfl rfl (Nat.le_of_ble_eq_true rfl) dX7_pour_111 (fun z111 u111 r111 p111 => ?_)
                    obtain ⟨e111, p111⟩ := p111
                    subst u111
                    have q111 := zz e111
                    refine hret _ _ _ _ dX7_pour_114 (by omega) ?_
                    (repeat (first | rw [if_pos (by omega)] | rw [if_neg (by omega)]))
                    exact ⟨by omega, rfl⟩
                  · skip
                    refine a_iload C dX7_pour_95 5 rfl ?_
                    refine a_aload_n C dX7_pour_97 0 rfl rfl ?_
                    refine a_getf C hM.f0 hM.n0 (Cn := RX7) (T := TX7) (N := 30) rfl iX7 4 (by decide) k17 (w := .ref (vq v (b + 2))) rfl dX7_pour_98 ?_
                    refine a_iload_n C dX7_pour_101 3 rfl rfl ?_
                    refine a_iald C hM.f2 hM.n2 0 hM.tI (by omega) (by omega) (by decide) dX7_pour_102 (fun z102 e102 r102 => ?_)
                    refine a_iload C dX7_pour_103 4 rfl ?_
                    refine a_isub C dX7_pour_105 ?_
                    refine a_icmp_le C 115 (by omega) (by omega) dX7_pour_106 (by decide) (fun c106 => ?_) (fun c106 => ?_)
                    · skip
                      refine a_iconst C dX7_pour_115 ?_
                      refine a_istore C [(6, vI 0), (0, .ref (vq v b)), (1, vI i1), (2, vI p1), (3, vI i2), (4, vI p2), (5, vI m1)] dX7_pour_116 (by decide) rfl ?_
                      have lp : ∀ (n : Nat) (i9 : Int) (τ : Mem) , (m1 - i9).toNat = n → 0 ≤ i9 ∧ i9 ≤ m1 → (∀ j : Int, τ (b + 3) (100000 + j) = if 0 ≤ (j - (100 * i2 + p2)) ∧ (j - (100 * i2 + p2)) < m1 ∧ (p1 < p2 ∧ m1 - i9 ≤ (j - (100 * i2 + p2)) ∨ p2 ≤ p1 ∧ (j - (100 * i2 + p2)) < i9) then σ (b + 3) (100000 + (100 * i1 + p1 + (j - (100 * i2 + p2)))) else σ (b + 3) (100000 + j)) → (∀ a : Nat, a ≠ b + 3 → τ a = σ a) → At x v A Q 8 118 [(6, vI i9), (0, .ref (vq v b)), (1, vI i1), (2, vI p1), (3, vI i2), (4, vI p2), (5, vI m1)] [] τ := by
                        intro n
                        induction n using Nat.strongRecOn with
                        | _ n ih =>
                          intro i9 τ hn iv1 iA iF
                          refine a_iload C dX7_pour_118 0 rfl ?_
                          refine a_iload C dX7_pour_120 6 rfl ?_
                          refine a_icmp_ge C 180 (by omega) (by omega) dX7_pour_122 (by decide) (fun c122 => ?_) (fun c122 => ?_)
                          · skip
                            refine a_aload_n C dX7_pour_180 1 rfl rfl ?_
                            refine a_iconst C dX7_pour_181 ?_
                            refine a_cVI C (k0 := 1) (As := [vI 0]) (rest := []) (c_X7_is x.2.1 v τ b hM 0 (by omega)) gX7_pour_X7_is rfl (by decide +kernel) (by decide) hM.f0 rfl hM.n0 rfl rfl (Nat.le_of_ble_eq_true rfl) dX7_pour_182 (fun z182 u182 r182 p182 => ?_)
                            obtain ⟨e182, p182⟩ := p182
                            subst u182
                            have q182 := zz e182
                            refine hret _ _ _ _ dX7_pour_185 (by omega) ?_
                            (repeat (first | rw [if_pos (by omega)] | rw [if_neg (by omega)]))
                            refine ⟨by omega, fun j => ?_, fun a q => sput_cg (iF a q)⟩
                            rw [sput_r (by omega), iA j]
                            by_cases q : 0 ≤ (j - (100 * i2 + p2)) ∧ (j - (100 * i2 + p2)) < m1
                            · rw [if_pos q, if_pos (by omega)]
                            · rw [if_neg q, if_neg (by omega)]
                          · skip
                            refine a_iload_n C dX7_pour_125 3 rfl rfl ?_
                            refine a_iload C dX7_pour_126 5 rfl ?_
                            refine a_icmp_ge C 141 (by omega) (by omega) dX7_pour_128 (by decide) (fun c128 => ?_) (fun c128 => ?_)
                            · skip
                              refine a_iload C dX7_pour_141 0 rfl ?_
                              refine a_istore C [(7, vI i9), (6, vI i9), (0, .ref (vq v b)), (1, vI i1), (2, vI p1), (3, vI i2), (4, vI p2), (5, vI m1)] dX7_pour_143 (by decide) rfl ?_
                              refine a_aload_n C dX7_pour_145 2 rfl rfl ?_
                              refine a_getf C hM.f0 hM.n0 (Cn := RX7) (T := TX7) (N := 30) rfl iX7 5 (by decide) k20 (w := .ref (vq v (b + 3))) rfl dX7_pour_146 ?_
                              refine a_bipush C dX7_pour_149 ?_
                              refine a_iload_n C dX7_pour_151 5 rfl rfl ?_
                              refine a_imul C dX7_pour_152 ?_
                              refine a_iload C dX7_pour_153 6 rfl ?_
                              refine a_iadd C dX7_pour_155 ?_
                              refine a_iload C dX7_pour_156 0 rfl ?_
                              refine a_iadd C dX7_pour_158 ?_
                              refine a_aload_n C dX7_pour_159 2 rfl rfl ?_
                              refine a_getf C hM.f0 hM.n0 (Cn := RX7) (T := TX7) (N := 30) rfl iX7 5 (by decide) k20 (w := .ref (vq v (b + 3))) rfl dX7_pour_160 ?_
                              refine a_bipush C dX7_pour_163 ?_
                              refine a_iload_n C dX7_pour_165 3 rfl rfl ?_
                              refine a_imul C dX7_pour_166 ?_
                              refine a_iload_n C dX7_pour_167 4 rfl rfl ?_
                              refine a_iadd C dX7_pour_168 ?_
                              refine a_iload C dX7_pour_169 0 rfl ?_
                              refine a_iadd C dX7_pour_171 ?_
                              refine a_lald C hM.f3 hM.n3 1 hM.tL (by omega) (by omega) (by decide) dX7_pour_172 (fun z172 e172 r172 => ?_)
                              refine a_last C hM.f3 hM.n3 1 hM.tL (by omega) (by omega) (by decide) r172 dX7_pour_173 ?_
                              refine a_iinc C (i9 + 1) [(6, vI (i9 + 1)), (7, vI i9), (0, .ref (vq v b)), (1, vI i1), (2, vI p1), (3, vI i2), (4, vI p2), (5, vI m1)] dX7_pour_174 1 rfl (by omega) (by decide) rfl ?_
                              refine a_goto C 118 dX7_pour_177 (by decide) ?_
                              refine a_sub [0, 2, 3, 4, 5, 6, 7] [(6, vI (i9 + 1)), (0, .ref (vq v b)), (1, vI i1), (2, vI p1), (3, vI i2), (4, vI p2), (5, vI m1)] rfl ?_
                              refine ih _ (by omega) (i9 + 1) _ rfl (by omega) (fun j => ?_) (fun a q => by rw [sput_r q]; exact iF a q)
                              have h8 := iA (100 * i1 + p1 + i9)
                              rw [if_neg (by omega)] at h8
                              have h9 := iA j
                              by_cases hj : j = 100 * i2 + p2 + i9
                              · subst hj; rw [sput_s, if_pos (by omega), e172, h8]; congr 2; omega
                              · rw [sput_j _ _ _ _ _ (by omega), h9]
                                by_cases q : 0 ≤ (j - (100 * i2 + p2)) ∧ (j - (100 * i2 + p2)) < m1 ∧ (p1 < p2 ∧ m1 - i9 ≤ (j - (100 * i2 + p2)) ∨ p2 ≤ p1 ∧ (j - (100 * i2 + p2)) < i9)
                                · rw [if_pos q, if_pos (by omega)]
                                · rw [if_neg q, if_neg (by omega)]
                            · skip
                              refine a_iload C dX7_pour_131 6 rfl ?_
                              refine a_iconst C dX7_pour_133 ?_
                              refine a_isub C dX7_pour_134 ?_
                              refine a_iload C dX7_pour_135 0 rfl ?_
                              refine a_isub C dX7_pour_137 ?_
                              refine a_goto C 143 dX7_pour_138 (by decide) ?_
                              refine a_istore C [(7, vI ((m1 - 1) - i9)), (6, vI i9), (0, .ref (vq v b)), (1, vI i1), (2, vI p1), (3, vI i2), (4, vI p2), (5, vI m1)] dX7_pour_143 (by decide) rfl ?_
                              refine a_aload_n C dX7_pour_145 2 rfl rfl ?_
                              refine a_getf C hM.f0 hM.n0 (Cn := RX7) (T := TX7) (N := 30) rfl iX7 5 (by decide) k20 (w := .ref (vq v (b + 3))) rfl dX7_pour_146 ?_
                              refine a_bipush C dX7_pour_149 ?_
                              refine a_iload_n C dX7_pour_151 5 rfl rfl ?_
                              refine a_imul C dX7_pour_152 ?_
                              refine a_iload C dX7_pour_153 6 rfl ?_
                              refine a_iadd C dX7_pour_155 ?_
                              refine a_iload C dX7_pour_156 0 rfl ?_
                              refine a_iadd C dX7_pour_158 ?_
                              refine a_aload_n C dX7_pour_159 2 rfl rfl ?_
                              refine a_getf C hM.f0 hM.n0 (Cn := RX7) (T := TX7) (N := 30) rfl iX7 5 (by decide) k20 (w := .ref (vq v (b + 3))) rfl dX7_pour_160 ?_
                              refine a_bipush C dX7_pour_163 ?_
                              refine a_iload_n C dX7_pour_165 3 rfl rfl ?_
                              refine a_imul C dX7_pour_166 ?_
                              refine a_iload_n C dX7_pour_167 4 rfl rfl ?_
                              refine a_iadd C dX7_pour_168 ?_
                              refine a_iload C dX7_pour_169 0 rfl ?_
                              refine a_iadd C dX7_pour_171 ?_
                              refine a_lald C hM.f3 hM.n3 1 hM.tL (by omega) (by omega) (by decide) dX7_pour_172 (fun z172 e172 r172 => ?_)
                              refine a_last C hM.f3 hM.n3 1 hM.tL (by omega) (by omega) (by decide) r172 dX7_pour_173 ?_
                              refine a_iinc C (i9 + 1) [(6, vI (i9 + 1)), (7, vI ((m1 - 1) - i9)), (0, .ref (vq v b)), (1, vI i1), (2, vI p1), (3, vI i2), (4, vI p2), (5, vI m1)] dX7_pour_174 1 rfl (by omega) (by decide) rfl ?_
                              refine a_goto C 118 dX7_pour_177 (by decide) ?_
                              refine a_sub [0, 2, 3, 4, 5, 6, 7] [(6, vI (i9 + 1)), (0, .ref (vq v b)), (1, vI i1), (2, vI p1), (3, vI i2), (4, vI p2), (5, vI m1)] rfl ?_
                              refine ih _ (by omega) (i9 + 1) _ rfl (by omega) (fun j => ?_) (fun a q => by rw [sput_r q]; exact iF a q)
                              have h8 := iA (100 * i1 + p1 + (m1 - 1 - i9))
                              rw [if_neg (by omega)] at h8
                              have h9 := iA j
                              by_cases hj : j = 100 * i2 + p2 + (m1 - 1 - i9)
                              · subst hj; rw [sput_s, if_pos (by omega), e172, h8]; congr 2; omega
                              · rw [sput_j _ _ _ _ _ (by omega), h9]
                                by_cases q : 0 ≤ (j - (100 * i2 + p2)) ∧ (j - (100 * i2 + p2)) < m1 ∧ (p1 < p2 ∧ m1 - i9 ≤ (j - (100 * i2 + p2)) ∨ p2 ≤ p1 ∧ (j - (100 * i2 + p2)) < i9)
                                · rw [if_pos q, if_pos (by omega)]
                                · rw [if_neg q, if_neg (by omega)]
                      exact lp _ 0 σ rfl (by omega) (fun j => by rw [if_neg (by omega)]) (fun _ _ => rfl)
                    · skip
                      refine a_aload_n C dX7_pour_109 0 rfl rfl ?_
                      refine a_iconst C dX7_pour_110 ?_
                      refine a_cVI C (k0 := 1) (As := [vI 3]) (rest := []) (c_X7_is x.2.1 v σ b hM 3 (by omega)) gX7_pour_X7_is rfl (by decide +kernel) (by decide) hM.f0 rfl hM.n0 rfl rfl (Nat.le_of_ble_eq_true rfl) dX7_pour_111 (fun z111 u111 r111 p111 => ?_)
                      obtain ⟨e111, p111⟩ := p111
                      subst u111
                      have q111 := zz e111
                      refine hret _ _ _ _ dX7_pour_114 (by omega) ?_
                      (repeat (first | rw [if_pos (by omega)] | rw [if_neg (by omega)]))
                      exact ⟨by omega, rfl⟩
                · skip
                  refine a_aload_n C dX7_pour_75 0 rfl rfl ?_
                  refine a_bipush C dX7_pour_76 ?_
                  refine a_cVI C (k0 := 1) (As := [vI 7]) (rest := []) (c_X7_is x.2.1 v σ b hM 7 (by omega)) gX7_pour_X7_is rfl (by decide +kernel) (by decide) hM.f0 rfl hM.n0 rfl rfl (Nat.le_of_ble_eq_true rfl) dX7_pour_78 (fun z78 u78 r78 p78 => ?_)
                  obtain ⟨e78, p78⟩ := p78
                  subst u78
                  have q78 := zz e78
                  refine hret _ _ _ _ dX7_pour_81 (by omega) ?_
                  (repeat (first | rw [if_pos (by omega)] | rw [if_neg (by omega)]))
                  exact ⟨by omega, rfl⟩
              · skip
                refine a_aload_n C dX7_pour_54 0 rfl rfl ?_
                refine a_iconst C dX7_pour_55 ?_
                refine a_cVI C (k0 := 1) (As := [vI 2]) (rest := []) (c_X7_is x.2.1 v σ b hM 2 (by omega)) gX7_pour_X7_is rfl (by decide +kernel) (by decide) hM.f0 rfl hM.n0 rfl rfl (Nat.le_of_ble_eq_true rfl) dX7_pour_56 (fun z56 u56 r56 p56 => ?_)
                obtain ⟨e56, p56⟩ := p56
                subst u56
                have q56 := zz e56
                refine hret _ _ _ _ dX7_pour_59 (by omega) ?_
                (repeat (first | rw [if_pos (by omega)] | rw [if_neg (by omega)]))
                exact ⟨by omega, rfl⟩
          · skip
            refine a_aload_n C dX7_pour_28 0 rfl rfl ?_
            refine a_iconst C dX7_pour_29 ?_
            refine a_cVI C (k0 := 1) (As := [vI 1]) (rest := []) (c_X7_is x.2.1 v σ b hM 1 (by omega)) gX7_pour_X7_is rfl (by decide +kernel) (by decide) hM.f0 rfl hM.n0 rfl rfl (Nat.le_of_ble_eq_true rfl) dX7_pour_30 (fun z30 u30 r30 p30 => ?_)
            obtain ⟨e30, p30⟩ := p30
            subst u30
            have q30 := zz e30
            refine hret _ _ _ _ dX7_pour_33 (by omega) ?_
            (repeat (first | rw [if_pos (by omega)] | rw [if_neg (by omega)]))
            exact ⟨by omega, rfl⟩
