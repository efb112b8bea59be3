set_option maxHeartbeats 4000000 in
set_option maxRecDepth 100000 in
theorem c_X4_greatestPlain (l : Launch) (v : VC) (σ : Mem) (b : Nat) (hS : shSk v b) (t : Nat) (ht : vF v t = eI (kI v) 40) (htn : t < vN v)  : CtI l yX4_greatestPlain wsX4_greatestPlain 0 0 v [.ref (vq v b), .ref (vq v t)] σ (fun z u => z = gpV (σ (b + 4)) (σ t) ∧ u = σ) := by
  refine mkI (cc := cX4_greatestPlain) (n := 5) (by decide +kernel) rfl (Nat.le_of_ble_eq_true rfl) (fun x A Q hx C hret => ?_)
  subst hx
  show At x v A Q _ 0 [(0, .ref (vq v b)), (1, .ref (vq v t))] [] σ
  have iX4 : ∀ w ∈ wsX40, w ∈ wsX4_greatestPlain := by decide +kernel
  have k21 : Cond.fieldLink RX4 21 (TX4 3).1 (TX4 3).2.1 (TX4 3).2.2.1 ∈ wsX4_greatestPlain := by decide +kernel
  have lp : ∀ (n : Nat) (k g at1 : Int) , (40 - k).toNat = n → 0 ≤ k → k ≤ 40 → rg g ∧ -1 ≤ at1 ∧ at1 < 40 → (itrR (gpF (σ (b + 4)) (σ t)) k 40 (g, at1)).2 = (itrR (gpF (σ (b + 4)) (σ t)) 0 40 (0, -1)).2 → At x v A Q 5 7 [(4, vI k), (3, vI at1), (2, vI g), (0, .ref (vq v b)), (1, .ref (vq v t))] [] σ := by
    intro n
    induction n using Nat.strongRecOn with
    | _ n ih =>
      intro k g at1 hn i1 i2 i3 iR
      refine a_iload C dX4_greatestPlain_7 0 rfl ?_
      refine a_bipush C dX4_greatestPlain_9 ?_
      refine a_icmp_ge C 46 (by omega) (by decide) dX4_greatestPlain_11 (by decide) (fun c11 => ?_) (fun c11 => ?_)
      · skip
        refine a_iload_n C dX4_greatestPlain_46 1 rfl rfl ?_
        exact hret _ _ _ _ dX4_greatestPlain_47 (by omega) ⟨by unfold gpV; rw [← iR, itrR_nil (by omega)], rfl⟩
      · skip
        refine a_aload_n C dX4_greatestPlain_14 3 rfl rfl ?_
        refine a_getf C hS.f0 hS.n0 (Cn := RX4) (T := TX4) (N := 7) rfl iX4 3 (by decide) k21 (w := .ref (vq v (b + 4))) rfl dX4_greatestPlain_15 ?_
        refine a_iload C dX4_greatestPlain_18 0 rfl ?_
        refine a_zald C hS.f4 hS.n4 2 hS.tB (by omega) (by omega) (by decide) dX4_greatestPlain_20 (fun z20 e20 r20 => ?_)
        refine a_if_ne C 40 r20 dX4_greatestPlain_21 (by decide) (fun c21 => ?_) (fun c21 => ?_)
        · skip
          refine a_iinc C (k + 1) [(4, vI (k + 1)), (3, vI at1), (2, vI g), (0, .ref (vq v b)), (1, .ref (vq v t))] dX4_greatestPlain_40 0 rfl (by omega) (by decide) rfl ?_
          refine a_goto C 7 dX4_greatestPlain_43 (by decide) ?_
          refine ih _ (by omega) _ _ _ rfl (by omega) (by omega) (by omega) ?_
          rw [← iR, itrR_step (a := k) (by omega)]
          congr 1
          congr 1
          unfold gpF
          dsimp only
          (first | (rw [if_pos (by omega)]; rw [Prod.mk.injEq]; omega) | rw [if_neg (by omega)])
        · skip
          refine a_aload_n C dX4_greatestPlain_24 4 rfl rfl ?_
          refine a_iload C dX4_greatestPlain_25 0 rfl ?_
          refine a_iald C ht htn 0 hS.tI (by omega) (by omega) (by decide) dX4_greatestPlain_27 (fun z27 e27 r27 => ?_)
          refine a_iload_n C dX4_greatestPlain_28 2 rfl rfl ?_
          refine a_icmp_le C 40 r27 (by omega) dX4_greatestPlain_29 (by decide) (fun c29 => ?_) (fun c29 => ?_)
          · skip
            refine a_iinc C (k + 1) [(4, vI (k + 1)), (3, vI at1), (2, vI g), (0, .ref (vq v b)), (1, .ref (vq v t))] dX4_greatestPlain_40 0 rfl (by omega) (by decide) rfl ?_
            refine a_goto C 7 dX4_greatestPlain_43 (by decide) ?_
            refine ih _ (by omega) _ _ _ rfl (by omega) (by omega) (by omega) ?_
            rw [← iR, itrR_step (a := k) (by omega)]
            congr 1
            congr 1
            unfold gpF
            dsimp only
            (first | (rw [if_pos (by omega)]; rw [Prod.mk.injEq]; omega) | rw [if_neg (by omega)])
          · skip
            refine a_aload_n C dX4_greatestPlain_32 4 rfl rfl ?_
            refine a_iload C dX4_greatestPlain_33 0 rfl ?_
            refine a_iald C ht htn 0 hS.tI (by omega) (by omega) (by decide) dX4_greatestPlain_35 (fun z35 e35 r35 => ?_)
            refine a_istore_n C 2 [(2, vI z35), (4, vI k), (3, vI at1), (0, .ref (vq v b)), (1, .ref (vq v t))] dX4_greatestPlain_36 rfl (by decide) rfl ?_
            refine a_iload C dX4_greatestPlain_37 1 rfl ?_
            refine a_istore_n C 3 [(3, vI k), (2, vI z35), (4, vI k), (0, .ref (vq v b)), (1, .ref (vq v t))] dX4_greatestPlain_39 rfl (by decide) rfl ?_
            refine a_iinc C (k + 1) [(4, vI (k + 1)), (3, vI k), (2, vI z35), (0, .ref (vq v b)), (1, .ref (vq v t))] dX4_greatestPlain_40 2 rfl (by omega) (by decide) rfl ?_
            refine a_goto C 7 dX4_greatestPlain_43 (by decide) ?_
            refine ih _ (by omega) _ _ _ rfl (by omega) (by omega) (by omega) ?_
            rw [← iR, itrR_step (a := k) (by omega)]
            congr 1
            congr 1
            unfold gpF
            dsimp only
            (first | (rw [if_pos (by omega)]; rw [Prod.mk.injEq]; omega) | rw [if_neg (by omega)])
  refine a_iconst C dX4_greatestPlain_0 ?_
  refine a_istore_n C 2 [(2, vI 0), (0, .ref (vq v b)), (1, .ref (vq v t))] dX4_greatestPlain_1 rfl (by decide) rfl ?_
  refine a_iconst C dX4_greatestPlain_2 ?_
  refine a_istore_n C 3 [(3, vI (-1)), (2, vI 0), (0, .ref (vq v b)), (1, .ref (vq v t))] dX4_greatestPlain_3 rfl (by decide) rfl ?_
  refine a_iconst C dX4_greatestPlain_4 ?_
  refine a_istore C [(4, vI 0), (3, vI (-1)), (2, vI 0), (0, .ref (vq v b)), (1, .ref (vq v t))] dX4_greatestPlain_5 (by decide) rfl ?_
  exact lp _ 0 0 (-1) rfl (by omega) (by omega) (by omega) rfl
set_option maxHeartbeats 4000000 in
set_option maxRecDepth 100000 in
theorem c_X4_chooseHeavy (l : Launch) (v : VC) (σ : Mem) (b : Nat) (hS : shSk v b) (t : Nat) (ht : vF v t = eI (kI v) 40) (htn : t < vN v) (hbt : t < b ∨ b + 5 < t) (al nn dd : Int) (hal : 0 ≤ al ∧ al ≤ 10000) (hnn : 0 ≤ nn ∧ nn ≤ 1000) (hdd : 1 ≤ dd ∧ dd ≤ 1000) (hT : ∀ j : Int, 0 ≤ j → j < 40 → 0 ≤ σ t j ∧ σ t j ≤ 10000) : CtV l yX4_chooseHeavy wsX4_chooseHeavy 1 24 v [.ref (vq v b), .ref (vq v t), vI al, vI nn, vI dd] σ (fun u => (∀ j : Int, 0 ≤ j → j < 40 → u (b + 4) j = (chV (σ t) al nn dd 8 (fun _ => 0, fun _ => 0)).1 j ∧ u (b + 5) j = (chV (σ t) al nn dd 8 (fun _ => 0, fun _ => 0)).2 j) ∧ (∀ a : Nat, a ≠ b + 4 → a ≠ b + 5 → u a = σ a)) := by
  refine mkV (cc := cX4_chooseHeavy) (n := 7) (by decide +kernel) rfl (Nat.le_of_ble_eq_true rfl) (fun x A Q hx C hret => ?_)
  subst hx
  show At x v A Q _ 0 [(0, .ref (vq v b)), (1, .ref (vq v t)), (2, vI al), (3, vI nn), (4, vI dd)] [] σ
  have iX4 : ∀ w ∈ wsX40, w ∈ wsX4_chooseHeavy := by decide +kernel
  have k21 : Cond.fieldLink RX4 21 (TX4 3).1 (TX4 3).2.1 (TX4 3).2.2.1 ∈ wsX4_chooseHeavy := by decide +kernel
  have k25 : Cond.fieldLink RX4 25 (TX4 4).1 (TX4 4).2.1 (TX4 4).2.2.1 ∈ wsX4_chooseHeavy := by decide +kernel
  have lp2 : ∀ (n : Nat) (i : Int) (τ : Mem) , (8 - i).toNat = n → 0 ≤ i ∧ i ≤ 8 → chV (σ t) al nn dd (8 - i).toNat (mkR 40 (τ (b + 4)), mkR 40 (τ (b + 5))) = (chV (σ t) al nn dd 8 (fun _ => 0, fun _ => 0)) → (∀ a : Nat, a ≠ b + 4 → a ≠ b + 5 → τ a = σ a) → At x v A Q 7 35 [(5, vI i), (0, .ref (vq v b)), (1, .ref (vq v t)), (2, vI al), (3, vI nn), (4, vI dd)] [] τ := by
    intro n
    induction n using Nat.strongRecOn with
    | _ n ih =>
      intro i τ hn i1 iR iF
      refine a_iload C dX4_chooseHeavy_35 0 rfl ?_
      refine a_bipush C dX4_chooseHeavy_37 ?_
      refine a_icmp_ge C 99 (by omega) (by decide) dX4_chooseHeavy_39 (by decide) (fun c39 => ?_) (fun c39 => ?_)
      · skip
        refine hret _ _ _ dX4_chooseHeavy_99 ⟨?_, iF⟩
        intro j j0 j1
        (first | (have q8 : i = 8 := by omega) | (have q8 : i < 8 := by omega))
        have qq : (mkR 40 (τ (b + 4)), mkR 40 (τ (b + 5))) = (chV (σ t) al nn dd 8 (fun _ => 0, fun _ => 0)) := by
          rw [← iR]
          (first | (rw [show (8 - i).toNat = 0 by omega]; rfl) | (rw [show (8 - i).toNat = (8 - (i + 1)).toNat + 1 by omega]; simp only [chV]; rw [if_pos (by rw [← eg]; omega)]))
        rw [← qq]
        exact ⟨(mkR_in j0 j1).symm, (mkR_in j0 j1).symm⟩
      · skip
        refine a_aload_n C dX4_chooseHeavy_42 1 rfl rfl ?_
        refine a_aload_n C dX4_chooseHeavy_43 2 rfl rfl ?_
        refine a_cVI C (k0 := 1) (As := [.ref (vq v t)]) (rest := []) (c_X4_greatestPlain x.2.1 v τ b hS t ht htn) gX4_chooseHeavy_X4_greatestPlain rfl (by decide +kernel) (by decide) hS.f0 rfl hS.n0 rfl rfl (Nat.le_of_ble_eq_true rfl) dX4_chooseHeavy_44 (fun z44 u44 r44 p44 => ?_)
        obtain ⟨e44, p44⟩ := p44
        subst u44
        have gb := gp_bd (τ (b + 4)) (τ t)
        rw [← e44] at gb
        have eg : z44 = gpV (mkR 40 (τ (b + 4))) (σ t) := by rw [e44]; exact gp_congr (fun w q1 q2 => (mkR_in q1 q2).symm) (fun w _ _ => by rw [iF t (by omega) (by omega)])
        refine a_istore C [(6, vI z44), (5, vI i), (0, .ref (vq v b)), (1, .ref (vq v t)), (2, vI al), (3, vI nn), (4, vI dd)] dX4_chooseHeavy_47 (by decide) rfl ?_
        refine a_iload C dX4_chooseHeavy_49 0 rfl ?_
        refine a_iconst C dX4_chooseHeavy_51 ?_
        refine a_icmp_eq C 73 r44 (by decide) dX4_chooseHeavy_52 (by decide) (fun c52 => ?_) (fun c52 => ?_)
        · skip
          refine hret _ _ _ dX4_chooseHeavy_73 ⟨?_, iF⟩
          intro j j0 j1
          (first | (have q8 : i = 8 := by omega) | (have q8 : i < 8 := by omega))
          have qq : (mkR 40 (τ (b + 4)), mkR 40 (τ (b + 5))) = (chV (σ t) al nn dd 8 (fun _ => 0, fun _ => 0)) := by
            rw [← iR]
            (first | (rw [show (8 - i).toNat = 0 by omega]; rfl) | (rw [show (8 - i).toNat = (8 - (i + 1)).toNat + 1 by omega]; simp only [chV]; rw [if_pos (by rw [← eg]; omega)]))
          rw [← qq]
          exact ⟨(mkR_in j0 j1).symm, (mkR_in j0 j1).symm⟩
        · skip
          refine a_aload_n C dX4_chooseHeavy_55 3 rfl rfl ?_
          refine a_iload C dX4_chooseHeavy_56 0 rfl ?_
          refine a_iald C ht htn 0 hS.tI (by omega) (by omega) (by decide) dX4_chooseHeavy_58 (fun z58 e58 r58 => ?_)
          rw [iF t (by omega) (by omega)] at e58
          refine a_i2l C r58 dX4_chooseHeavy_59 ?_
          refine a_iload C dX4_chooseHeavy_60 6 rfl ?_
          refine a_i2l C (by omega) dX4_chooseHeavy_62 ?_
          refine a_lmul C dX4_chooseHeavy_63 ?_
          refine a_iload_n C dX4_chooseHeavy_64 4 rfl rfl ?_
          refine a_i2l C (by omega) dX4_chooseHeavy_65 ?_
          refine a_iload_n C dX4_chooseHeavy_66 5 rfl rfl ?_
          refine a_i2l C (by omega) dX4_chooseHeavy_67 ?_
          refine a_lmul C dX4_chooseHeavy_68 ?_
          have b58 := hT z44 (by omega) (by omega)
          have m1 := mul_bd (a := z58) (b := dd) (A := 10000) (B := 1000) (by omega) (by omega) (by omega) (by omega) (by decide)
          have m2 := mul_bd (a := al) (b := nn) (A := 10000) (B := 1000) (by omega) (by omega) (by omega) (by omega) (by decide)
          have e58b : z58 * dd = σ t z44 * dd := by rw [e58]
          refine a_lcmp C (by omega) (by omega) dX4_chooseHeavy_69 (fun z69 e69 r69 => ?_)
          refine a_if_ge C 74 r69 dX4_chooseHeavy_70 (by decide) (fun c70 => ?_) (fun c70 => ?_)
          · skip
            refine a_aload_n C dX4_chooseHeavy_74 2 rfl rfl ?_
            refine a_getf C hS.f0 hS.n0 (Cn := RX4) (T := TX4) (N := 7) rfl iX4 3 (by decide) k21 (w := .ref (vq v (b + 4))) rfl dX4_chooseHeavy_75 ?_
            refine a_iload C dX4_chooseHeavy_78 0 rfl ?_
            refine a_iconst C dX4_chooseHeavy_80 ?_
            refine a_zast C hS.f4 hS.n4 2 hS.tB (by omega) (by omega) (by decide) (by omega) dX4_chooseHeavy_81 ?_
            refine a_aload_n C dX4_chooseHeavy_82 2 rfl rfl ?_
            refine a_getf C hS.f0 hS.n0 (Cn := RX4) (T := TX4) (N := 7) rfl iX4 4 (by decide) k25 (w := .ref (vq v (b + 5))) rfl dX4_chooseHeavy_83 ?_
            refine a_iload C dX4_chooseHeavy_86 0 rfl ?_
            refine a_aload_n C dX4_chooseHeavy_88 3 rfl rfl ?_
            refine a_iload C dX4_chooseHeavy_89 0 rfl ?_
            refine a_iald C ht htn 0 hS.tI (by omega) (by omega) (by decide) dX4_chooseHeavy_91 (fun z91 e91 r91 => ?_)
            try simp [sput_r, mset_n, sput, mset] at e91
            rw [if_neg (by omega), iF t (by omega) (by omega)] at e91
            refine a_iast C hS.f5 hS.n5 0 hS.tI (by omega) (by omega) (by decide) r91 dX4_chooseHeavy_92 ?_
            refine a_iinc C (i + 1) [(5, vI (i + 1)), (6, vI z44), (0, .ref (vq v b)), (1, .ref (vq v t)), (2, vI al), (3, vI nn), (4, vI dd)] dX4_chooseHeavy_93 1 rfl (by omega) (by decide) rfl ?_
            refine a_goto C 35 dX4_chooseHeavy_96 (by decide) ?_
            refine a_sub [0, 2, 3, 4, 5, 6] [(5, vI (i + 1)), (0, .ref (vq v b)), (1, .ref (vq v t)), (2, vI al), (3, vI nn), (4, vI dd)] rfl ?_
            refine ih _ (by omega) (i + 1) _ rfl (by omega) ?_ (fun a q1 q2 => by rw [sput_r q2, sput_r q1]; exact iF a q1 q2)
            rw [sput_r (show b + 4 ≠ b + 5 by omega), sput_up, sput_up, sput_r (show b + 5 ≠ b + 4 by omega), mkR_up (by omega) (by omega), mkR_up (by omega) (by omega), ← iR, show (8 - i).toNat = (8 - (i + 1)).toNat + 1 by omega]
            simp only [chV]
            rw [if_neg (by rw [← eg]; omega), ← eg, e91]
          · skip
            refine hret _ _ _ dX4_chooseHeavy_73 ⟨?_, iF⟩
            intro j j0 j1
            (first | (have q8 : i = 8 := by omega) | (have q8 : i < 8 := by omega))
            have qq : (mkR 40 (τ (b + 4)), mkR 40 (τ (b + 5))) = (chV (σ t) al nn dd 8 (fun _ => 0, fun _ => 0)) := by
              rw [← iR]
              (first | (rw [show (8 - i).toNat = 0 by omega]; rfl) | (rw [show (8 - i).toNat = (8 - (i + 1)).toNat + 1 by omega]; simp only [chV]; rw [if_pos (by rw [← eg]; omega)]))
            rw [← qq]
            exact ⟨(mkR_in j0 j1).symm, (mkR_in j0 j1).symm⟩
  have lp1 : ∀ (n : Nat) (w : Int) (τ : Mem) , (40 - w).toNat = n → 0 ≤ w ∧ w ≤ 40 → (∀ j : Int, 0 ≤ j → j < w → τ (b + 4) j = 0 ∧ τ (b + 5) j = 0) → (∀ a : Nat, a ≠ b + 4 → a ≠ b + 5 → τ a = σ a) → At x v A Q 7 3 [(5, vI w), (0, .ref (vq v b)), (1, .ref (vq v t)), (2, vI al), (3, vI nn), (4, vI dd)] [] τ := by
    intro n
    induction n using Nat.strongRecOn with
    | _ n ih =>
      intro w τ hn i1 iz iF
      refine a_iload C dX4_chooseHeavy_3 0 rfl ?_
      refine a_bipush C dX4_chooseHeavy_5 ?_
      refine a_icmp_ge C 32 (by omega) (by decide) dX4_chooseHeavy_7 (by decide) (fun c7 => ?_) (fun c7 => ?_)
      · skip
        refine a_iconst C dX4_chooseHeavy_32 ?_
        refine a_istore C [(5, vI 0), (0, .ref (vq v b)), (1, .ref (vq v t)), (2, vI al), (3, vI nn), (4, vI dd)] dX4_chooseHeavy_33 (by decide) rfl ?_
        have hw40 : w = 40 := by omega
        subst hw40
        refine lp2 _ 0 τ rfl (by omega) ?_ iF
        rw [show (8 - (0 : Int)).toNat = 8 from rfl]
        congr 1
        refine Prod.ext ?_ ?_
        · funext j; show mkR 40 (τ (b + 4)) j = 0; by_cases q : 0 ≤ j ∧ j < 40; (rw [mkR_in q.1 q.2]; exact (iz j q.1 q.2).1); exact mkR_out q
        · funext j; show mkR 40 (τ (b + 5)) j = 0; by_cases q : 0 ≤ j ∧ j < 40; (rw [mkR_in q.1 q.2]; exact (iz j q.1 q.2).2); exact mkR_out q
      · skip
        refine a_aload_n C dX4_chooseHeavy_10 1 rfl rfl ?_
        refine a_getf C hS.f0 hS.n0 (Cn := RX4) (T := TX4) (N := 7) rfl iX4 3 (by decide) k21 (w := .ref (vq v (b + 4))) rfl dX4_chooseHeavy_11 ?_
        refine a_iload C dX4_chooseHeavy_14 0 rfl ?_
        refine a_iconst C dX4_chooseHeavy_16 ?_
        refine a_zast C hS.f4 hS.n4 2 hS.tB (by omega) (by omega) (by decide) (by omega) dX4_chooseHeavy_17 ?_
        refine a_aload_n C dX4_chooseHeavy_18 1 rfl rfl ?_
        refine a_getf C hS.f0 hS.n0 (Cn := RX4) (T := TX4) (N := 7) rfl iX4 4 (by decide) k25 (w := .ref (vq v (b + 5))) rfl dX4_chooseHeavy_19 ?_
        refine a_iload C dX4_chooseHeavy_22 0 rfl ?_
        refine a_iconst C dX4_chooseHeavy_24 ?_
        refine a_iast C hS.f5 hS.n5 0 hS.tI (by omega) (by omega) (by decide) (by decide) dX4_chooseHeavy_25 ?_
        refine a_iinc C (w + 1) [(5, vI (w + 1)), (0, .ref (vq v b)), (1, .ref (vq v t)), (2, vI al), (3, vI nn), (4, vI dd)] dX4_chooseHeavy_26 0 rfl (by omega) (by decide) rfl ?_
        refine a_goto C 3 dX4_chooseHeavy_29 (by decide) ?_
        refine ih _ (by omega) (w + 1) _ rfl (by omega) ?_ (fun a q1 q2 => by rw [sput_r q2, sput_r q1]; exact iF a q1 q2)
        intro j j0 j1
        rw [sput_r (show b + 4 ≠ b + 5 by omega)]
        by_cases hj : j = w
        · subst hj; rw [sput_s, sput_s]; exact ⟨rfl, rfl⟩
        · rw [sput_j _ _ _ _ _ hj, sput_j _ _ _ _ _ hj, sput_r (show b + 5 ≠ b + 4 by omega)]; exact iz j j0 (by omega)
  refine a_iconst C dX4_chooseHeavy_0 ?_
  refine a_istore C [(5, vI 0), (0, .ref (vq v b)), (1, .ref (vq v t)), (2, vI al), (3, vI nn), (4, vI dd)] dX4_chooseHeavy_1 (by decide) rfl ?_
  exact lp1 _ 0 σ rfl (by omega) (fun j q1 q2 => by omega) (fun _ _ _ => rfl)
set_option maxHeartbeats 4000000 in
set_option maxRecDepth 100000 in
theorem c_X4_begin (l : Launch) (v : VC) (σ : Mem) (b : Nat) (hS : shSk v b) (e : Nat) (he : vF v e = eI (kI v) 12) (hen : e < vN v) (hbe : e < b ∨ b + 5 < e) (mm : Int) (t : Nat) (ht : vF v t = eI (kI v) 40) (htn : t < vN v) (hbt : t < b ∨ b + 5 < t) (hm : 1 ≤ mm ∧ mm ≤ 12) (hE : ∀ j : Int, 0 ≤ j → j < mm → 0 ≤ σ e j ∧ σ e j ≤ 39) (hT : ∀ j : Int, 0 ≤ j → j < 40 → 0 ≤ σ t j ∧ σ t j ≤ 10000) : CtV l yX4_begin wsX4_begin 1 21 v [.ref (vq v b), .ref (vq v e), vI mm, .ref (vq v t)] σ (fun u => u b 5 = mm ∧ u b 6 = 0 ∧ (∀ j : Int, 0 ≤ j → j < mm → u (b + 1) j = σ e j ∧ u (b + 2) j = smR (fun v => if σ (b + 4) v = 0 then σ t v else 0) (foF (σ e) j) (σ e j + 1) ∧ u (b + 3) j = 0) ∧ (∀ a : Nat, a ≠ b → a ≠ b + 1 → a ≠ b + 2 → a ≠ b + 3 → u a = σ a)) := by
  refine mkV (cc := cX4_begin) (n := 6) (by decide +kernel) rfl (Nat.le_of_ble_eq_true rfl) (fun x A Q hx C hret => ?_)
  subst hx
  show At x v A Q _ 0 [(0, .ref (vq v b)), (1, .ref (vq v e)), (2, vI mm), (3, .ref (vq v t))] [] σ
  have iX4 : ∀ w ∈ wsX40, w ∈ wsX4_begin := by decide +kernel
  have k15 : Cond.fieldLink RX4 15 (TX4 1).1 (TX4 1).2.1 (TX4 1).2.2.1 ∈ wsX4_begin := by decide +kernel
  have k21 : Cond.fieldLink RX4 21 (TX4 3).1 (TX4 3).2.1 (TX4 3).2.2.1 ∈ wsX4_begin := by decide +kernel
  have k9 : Cond.fieldLink RX4 9 (TX4 0).1 (TX4 0).2.1 (TX4 0).2.2.1 ∈ wsX4_begin := by decide +kernel
  have k18 : Cond.fieldLink RX4 18 (TX4 2).1 (TX4 2).2.1 (TX4 2).2.2.1 ∈ wsX4_begin := by decide +kernel
  have k28 : Cond.fieldLink RX4 28 (TX4 5).1 (TX4 5).2.1 (TX4 5).2.2.1 ∈ wsX4_begin := by decide +kernel
  have k36 : Cond.fieldLink RX4 36 (TX4 6).1 (TX4 6).2.1 (TX4 6).2.2.1 ∈ wsX4_begin := by decide +kernel
  have lpi : ∀ (k : Int) (μ : Mem), 0 ≤ k → k < mm → (∀ a : Nat, a ≠ b → a ≠ b + 1 → a ≠ b + 2 → a ≠ b + 3 → μ a = σ a) → μ (b + 2) k = 0 → 0 ≤ foF (σ e) k ∧ foF (σ e) k ≤ 40 → (∀ τ : Mem, (∀ a : Nat, a ≠ b + 2 → τ a = μ a) → (∀ j : Int, j ≠ k → τ (b + 2) j = μ (b + 2) j) → τ (b + 2) k = smR (fun v => if σ (b + 4) v = 0 then σ t v else 0) (foF (σ e) k) (σ e k + 1) → At x v A Q 6 97 [(4, vI k), (0, .ref (vq v b)), (1, .ref (vq v e)), (2, vI mm), (3, .ref (vq v t))] [] τ) → At x v A Q 6 54 [(5, vI (foF (σ e) k)), (4, vI k), (0, .ref (vq v b)), (1, .ref (vq v e)), (2, vI mm), (3, .ref (vq v t))] [] μ := by
    intro k μ k0 k1 gF gz gf hk
    have hne := hE k k0 k1
    have lq : ∀ (n : Nat) (w : Int) (τ : Mem) , (40 - w).toNat = n → 0 ≤ w → w ≤ 40 → τ (b + 2) k + smR (fun v => if σ (b + 4) v = 0 then σ t v else 0) w (σ e k + 1) = smR (fun v => if σ (b + 4) v = 0 then σ t v else 0) (foF (σ e) k) (σ e k + 1) → 0 ≤ τ (b + 2) k ∧ τ (b + 2) k ≤ 10000 * w → (∀ a : Nat, a ≠ b + 2 → τ a = μ a) → (∀ j : Int, j ≠ k → τ (b + 2) j = μ (b + 2) j) → At x v A Q 6 54 [(5, vI w), (4, vI k), (0, .ref (vq v b)), (1, .ref (vq v e)), (2, vI mm), (3, .ref (vq v t))] [] τ := by
      intro n
      induction n using Nat.strongRecOn with
      | _ n ih =>
        intro w τ hn i1 i2 iS iB iF iO
        refine a_iload C dX4_begin_54 0 rfl ?_
        refine a_aload_n C dX4_begin_56 3 rfl rfl ?_
        refine a_iload C dX4_begin_57 1 rfl ?_
        refine a_iald C he hen 0 hS.tI (by omega) (by omega) (by decide) dX4_begin_59 (fun z59 e59 r59 => ?_)
        rw [iF e (by omega), gF e (by omega) (by omega) (by omega) (by omega)] at e59
        refine a_icmp_gt C 97 (by omega) r59 dX4_begin_60 (by decide) (fun c60 => ?_) (fun c60 => ?_)
        · skip
          refine a_sub [1, 2, 3, 4, 5] [(4, vI k), (0, .ref (vq v b)), (1, .ref (vq v e)), (2, vI mm), (3, .ref (vq v t))] rfl ?_
          exact hk τ iF iO (by rw [← iS, smR_nil (by omega), Int.add_zero])
        · skip
          refine a_aload_n C dX4_begin_63 2 rfl rfl ?_
          refine a_getf C hS.f0 hS.n0 (Cn := RX4) (T := TX4) (N := 7) rfl iX4 1 (by decide) k15 (w := .ref (vq v (b + 2))) rfl dX4_begin_64 ?_
          refine a_iload C dX4_begin_67 1 rfl ?_
          refine a_dup2 C dX4_begin_69 rfl rfl ?_
          refine a_iald C hS.f2 hS.n2 0 hS.tI (by omega) (by omega) (by decide) dX4_begin_70 (fun z70 e70 r70 => ?_)
          refine a_aload_n C dX4_begin_71 2 rfl rfl ?_
          refine a_getf C hS.f0 hS.n0 (Cn := RX4) (T := TX4) (N := 7) rfl iX4 3 (by decide) k21 (w := .ref (vq v (b + 4))) rfl dX4_begin_72 ?_
          refine a_iload C dX4_begin_75 0 rfl ?_
          refine a_zald C hS.f4 hS.n4 2 hS.tB (by omega) (by omega) (by decide) dX4_begin_77 (fun z77 e77 r77 => ?_)
          rw [iF (b + 4) (by omega), gF (b + 4) (by omega) (by omega) (by omega) (by omega)] at e77
          refine a_if_eq C 85 r77 dX4_begin_78 (by decide) (fun c78 => ?_) (fun c78 => ?_)
          · skip
            refine a_aload_n C dX4_begin_85 5 rfl rfl ?_
            refine a_iload C dX4_begin_86 0 rfl ?_
            refine a_iald C ht htn 0 hS.tI (by omega) (by omega) (by decide) dX4_begin_88 (fun z88 e88 r88 => ?_)
            rw [iF t (by omega), gF t (by omega) (by omega) (by omega) (by omega)] at e88
            have q88 := hT w (by omega) (by omega)
            refine a_iadd C dX4_begin_89 ?_
            refine a_iast C hS.f2 hS.n2 0 hS.tI (by omega) (by omega) (by decide) (by omega) dX4_begin_90 ?_
            refine a_iinc C (w + 1) [(5, vI (w + 1)), (4, vI k), (0, .ref (vq v b)), (1, .ref (vq v e)), (2, vI mm), (3, .ref (vq v t))] dX4_begin_91 0 rfl (by omega) (by decide) rfl ?_
            refine a_goto C 54 dX4_begin_94 (by decide) ?_
            refine ih _ (by omega) (w + 1) _ rfl (by omega) (by omega) ?_ ?_ (fun a q => by rw [sput_r q]; exact iF a q) (fun j q => by rw [sput_j _ _ _ _ _ q]; exact iO j q)
            · rw [sput_s, ← iS, smR_step (f := fun v => if σ (b + 4) v = 0 then σ t v else 0) (a := w) (by omega)]
              (first | rw [if_pos (by omega)] | rw [if_neg (by omega)])
              omega
            · rw [sput_s]; omega
          · skip
            refine a_iconst C dX4_begin_81 ?_
            refine a_goto C 89 dX4_begin_82 (by decide) ?_
            refine a_iadd C dX4_begin_89 ?_
            refine a_iast C hS.f2 hS.n2 0 hS.tI (by omega) (by omega) (by decide) (by omega) dX4_begin_90 ?_
            refine a_iinc C (w + 1) [(5, vI (w + 1)), (4, vI k), (0, .ref (vq v b)), (1, .ref (vq v e)), (2, vI mm), (3, .ref (vq v t))] dX4_begin_91 0 rfl (by omega) (by decide) rfl ?_
            refine a_goto C 54 dX4_begin_94 (by decide) ?_
            refine ih _ (by omega) (w + 1) _ rfl (by omega) (by omega) ?_ ?_ (fun a q => by rw [sput_r q]; exact iF a q) (fun j q => by rw [sput_j _ _ _ _ _ q]; exact iO j q)
            · rw [sput_s, ← iS, smR_step (f := fun v => if σ (b + 4) v = 0 then σ t v else 0) (a := w) (by omega)]
              (first | rw [if_pos (by omega)] | rw [if_neg (by omega)])
              omega
            · rw [sput_s]; omega
    exact lq _ _ μ rfl (by omega) (by omega) (by rw [gz]; omega) (by rw [gz]; omega) (fun _ _ => rfl) (fun _ _ => rfl)
  have lpo : ∀ (n : Nat) (k : Int) (τ : Mem) , (40 - k).toNat = n → 0 ≤ k → k ≤ mm → τ b 5 = mm → τ b 6 = 0 → (∀ j : Int, 0 ≤ j → j < k → τ (b + 1) j = σ e j ∧ τ (b + 2) j = smR (fun v => if σ (b + 4) v = 0 then σ t v else 0) (foF (σ e) j) (σ e j + 1) ∧ τ (b + 3) j = 0) → (∀ a : Nat, a ≠ b → a ≠ b + 1 → a ≠ b + 2 → a ≠ b + 3 → τ a = σ a) → At x v A Q 6 13 [(4, vI k), (0, .ref (vq v b)), (1, .ref (vq v e)), (2, vI mm), (3, .ref (vq v t))] [] τ := by
    intro n
    induction n using Nat.strongRecOn with
    | _ n ih =>
      intro k τ hn i1 i2 i5 i6 iD iF
      refine a_iload C dX4_begin_13 0 rfl ?_
      refine a_iload_n C dX4_begin_15 3 rfl rfl ?_
      refine a_icmp_ge C 103 (by omega) (by omega) dX4_begin_16 (by decide) (fun c16 => ?_) (fun c16 => ?_)
      · skip
        have hkm : k = mm := by omega
        subst hkm
        exact hret _ _ _ dX4_begin_103 ⟨i5, i6, iD, iF⟩
      · skip
        refine a_aload_n C dX4_begin_19 1 rfl rfl ?_
        refine a_getf C hS.f0 hS.n0 (Cn := RX4) (T := TX4) (N := 7) rfl iX4 0 (by decide) k9 (w := .ref (vq v (b + 1))) rfl dX4_begin_20 ?_
        refine a_iload C dX4_begin_23 0 rfl ?_
        refine a_aload_n C dX4_begin_25 2 rfl rfl ?_
        refine a_iload C dX4_begin_26 0 rfl ?_
        refine a_iald C he hen 0 hS.tI (by omega) (by omega) (by decide) dX4_begin_28 (fun z28 e28 r28 => ?_)
        rw [iF e (by omega) (by omega) (by omega) (by omega)] at e28
        refine a_iast C hS.f1 hS.n1 0 hS.tI (by omega) (by omega) (by decide) r28 dX4_begin_29 ?_
        refine a_aload_n C dX4_begin_30 1 rfl rfl ?_
        refine a_getf C hS.f0 hS.n0 (Cn := RX4) (T := TX4) (N := 7) rfl iX4 1 (by decide) k15 (w := .ref (vq v (b + 2))) rfl dX4_begin_31 ?_
        refine a_iload C dX4_begin_34 0 rfl ?_
        refine a_iconst C dX4_begin_36 ?_
        refine a_iast C hS.f2 hS.n2 0 hS.tI (by omega) (by omega) (by decide) (by decide) dX4_begin_37 ?_
        refine a_aload_n C dX4_begin_38 1 rfl rfl ?_
        refine a_getf C hS.f0 hS.n0 (Cn := RX4) (T := TX4) (N := 7) rfl iX4 2 (by decide) k18 (w := .ref (vq v (b + 3))) rfl dX4_begin_39 ?_
        refine a_iload C dX4_begin_42 0 rfl ?_
        refine a_iconst C dX4_begin_44 ?_
        refine a_iast C hS.f3 hS.n3 0 hS.tI (by omega) (by omega) (by decide) (by decide) dX4_begin_45 ?_
        refine a_aload_n C dX4_begin_46 1 rfl rfl ?_
        refine a_iload C dX4_begin_47 0 rfl ?_
        refine a_cVI C (k0 := 1) (As := [vI k]) (rest := []) (c_X4_firstOf x.2.1 v (sput (sput (sput τ (b + 1) k z28) (b + 2) k 0) (b + 3) k 0) b hS k (by omega) (by intro q; simp [sput, show ¬ k - 1 = k by omega]; have := iD (k - 1) (by omega) (by omega); rw [this.1]; exact hE (k - 1) (by omega) (by omega))) gX4_begin_X4_firstOf rfl (by decide +kernel) (by decide) hS.f0 rfl hS.n0 rfl rfl (Nat.le_of_ble_eq_true rfl) dX4_begin_49 (fun z49 u49 r49 p49 => ?_)
        obtain ⟨e49, p49⟩ := p49
        subst u49
        try simp [sput_r, mset_n, sput, mset] at e49
        have e50 : z49 = foF (σ e) k := by rw [e49]; unfold foF; split; (next q => simp [sput, show ¬ k - 1 = k by omega]; rw [(iD (k - 1) (by omega) (by omega)).1]); rfl
        have f50 : 0 ≤ foF (σ e) k ∧ foF (σ e) k ≤ 40 := by unfold foF; split; (next q => have := hE (k - 1) (by omega) (by omega); omega); omega
        refine a_istore C [(5, vI z49), (4, vI k), (0, .ref (vq v b)), (1, .ref (vq v e)), (2, vI mm), (3, .ref (vq v t))] dX4_begin_52 (by decide) rfl ?_
        rw [e50]
        refine lpi k _ i1 (by omega) (fun a q0 q1 q2 q3 => by rw [sput_r q3, sput_r q2, sput_r q1]; exact iF a q0 q1 q2 q3) (by simp [sput]) f50 (fun u97 h5 h6 h7 => ?_)
        refine a_iinc C (k + 1) [(4, vI (k + 1)), (0, .ref (vq v b)), (1, .ref (vq v e)), (2, vI mm), (3, .ref (vq v t))] dX4_begin_97 0 rfl (by omega) (by decide) rfl ?_
        refine a_goto C 13 dX4_begin_100 (by decide) ?_
        refine ih _ (by omega) (k + 1) _ rfl (by omega) (by omega) ?_ ?_ ?_ ?_
        · rw [h5 b (by omega)]; simp [sput]; exact i5
        · rw [h5 b (by omega)]; simp [sput]; exact i6
        · intro j j0 j1
          by_cases hj : j = k
          · subst hj
            refine ⟨?_, h7, ?_⟩
            · rw [h5 (b + 1) (by omega)]; simp [sput]; exact e28
            · rw [h5 (b + 3) (by omega)]; simp [sput]
          · have := iD j j0 (by omega)
            refine ⟨?_, ?_, ?_⟩
            · rw [h5 (b + 1) (by omega)]; simp [sput, hj]; exact this.1
            · rw [h6 j hj]; simp [sput, hj]; exact this.2.1
            · rw [h5 (b + 3) (by omega)]; simp [sput, hj]; exact this.2.2
        · intro a q0 q1 q2 q3; rw [h5 a q2, sput_r q3, sput_r q2, sput_r q1]; exact iF a q0 q1 q2 q3
  refine a_aload_n C dX4_begin_0 0 rfl rfl ?_
  refine a_iload_n C dX4_begin_1 2 rfl rfl ?_
  refine a_puti C hS.f0 hS.n0 (Cn := RX4) (T := TX4) (N := 7) rfl iX4 tyX4_ok nmX4 5 (by decide) k28 rfl rfl 5 (by omega) (fun _ => Nat.le_of_ble_eq_true rfl) (fun _ => rfl) dX4_begin_2 ?_
  refine a_aload_n C dX4_begin_5 0 rfl rfl ?_
  refine a_iconst C dX4_begin_6 ?_
  refine a_puti C hS.f0 hS.n0 (Cn := RX4) (T := TX4) (N := 7) rfl iX4 tyX4_ok nmX4 6 (by decide) k36 rfl rfl 6 (by decide) (fun _ => Nat.le_of_ble_eq_true rfl) (fun _ => rfl) dX4_begin_7 ?_
  refine a_iconst C dX4_begin_10 ?_
  refine a_istore C [(4, vI 0), (0, .ref (vq v b)), (1, .ref (vq v e)), (2, vI mm), (3, .ref (vq v t))] dX4_begin_11 (by decide) rfl ?_
  exact lpo _ 0 _ rfl (by omega) (by omega) (by simp [sput]) (by simp [sput]) (fun j q1 q2 => by omega) (fun a q0 _ _ _ => by rw [sput_r q0, sput_r q0])
