set_option maxHeartbeats 4000000 in
set_option maxRecDepth 100000 in
theorem c_X4_doublePlace (l : Launch) (v : VC) (σ : Mem) (b : Nat) (hS : shSk v b) (k : Int) (hk : 0 ≤ k ∧ k ≤ σ b 5) (hn : σ b 5 < 24) : CtV l yX4_doublePlace wsX4_doublePlace 1 26 v [.ref (vq v b), vI k] σ (fun u => dblF σ u b k) := by
  refine mkV (cc := cX4_doublePlace) (n := 3) (by decide +kernel) rfl (Nat.le_of_ble_eq_true rfl) (fun x A Q hx C hret => ?_)
  subst hx
  show At x v A Q _ 0 [(0, .ref (vq v b)), (1, vI k)] [] σ
  have iX4 : ∀ w ∈ wsX40, w ∈ wsX4_doublePlace := by decide +kernel
  have k28 : Cond.fieldLink RX4 28 (TX4 5).1 (TX4 5).2.1 (TX4 5).2.2.1 ∈ wsX4_doublePlace := by decide +kernel
  have k9 : Cond.fieldLink RX4 9 (TX4 0).1 (TX4 0).2.1 (TX4 0).2.2.1 ∈ wsX4_doublePlace := by decide +kernel
  have k15 : Cond.fieldLink RX4 15 (TX4 1).1 (TX4 1).2.1 (TX4 1).2.2.1 ∈ wsX4_doublePlace := by decide +kernel
  have k18 : Cond.fieldLink RX4 18 (TX4 2).1 (TX4 2).2.1 (TX4 2).2.2.1 ∈ wsX4_doublePlace := by decide +kernel
  refine a_aload_n C dX4_doublePlace_0 0 rfl rfl ?_
  refine a_geti C hS.f0 hS.n0 (Cn := RX4) (T := TX4) (N := 7) rfl iX4 5 (by decide) k28 5 (by decide) rfl dX4_doublePlace_1 (fun z1 e1 r1 => ?_)
  refine a_iload_n C dX4_doublePlace_4 1 rfl rfl ?_
  refine a_isub C dX4_doublePlace_5 ?_
  refine a_istore_n C 2 [(2, vI (z1 - k)), (0, .ref (vq v b)), (1, vI k)] dX4_doublePlace_6 rfl (by decide) rfl ?_
  refine a_aload_n C dX4_doublePlace_7 1 rfl rfl ?_
  refine a_getf C hS.f0 hS.n0 (Cn := RX4) (T := TX4) (N := 7) rfl iX4 0 (by decide) k9 (w := .ref (vq v (b + 1))) rfl dX4_doublePlace_8 ?_
  refine a_iload_n C dX4_doublePlace_11 2 rfl rfl ?_
  refine a_aload_n C dX4_doublePlace_12 1 rfl rfl ?_
  refine a_getf C hS.f0 hS.n0 (Cn := RX4) (T := TX4) (N := 7) rfl iX4 0 (by decide) k9 (w := .ref (vq v (b + 1))) rfl dX4_doublePlace_13 ?_
  refine a_iload_n C dX4_doublePlace_16 2 rfl rfl ?_
  refine a_iconst C dX4_doublePlace_17 ?_
  refine a_iadd C dX4_doublePlace_18 ?_
  refine a_iload_n C dX4_doublePlace_19 0 rfl rfl ?_
  refine a_copyi C hS.f1 hS.f1 hS.n1 hS.n1 0 hS.tI hS.tI (by omega) (by omega) (by omega) (by omega) (by omega) (by decide) (by decide) (by decide +kernel) ⟨by decide, Nat.le_of_ble_eq_true rfl⟩ dX4_doublePlace_20 ?_
  refine a_aload_n C dX4_doublePlace_23 1 rfl rfl ?_
  refine a_getf C hS.f0 hS.n0 (Cn := RX4) (T := TX4) (N := 7) rfl iX4 1 (by decide) k15 (w := .ref (vq v (b + 2))) rfl dX4_doublePlace_24 ?_
  refine a_iload_n C dX4_doublePlace_27 2 rfl rfl ?_
  refine a_aload_n C dX4_doublePlace_28 1 rfl rfl ?_
  refine a_getf C hS.f0 hS.n0 (Cn := RX4) (T := TX4) (N := 7) rfl iX4 1 (by decide) k15 (w := .ref (vq v (b + 2))) rfl dX4_doublePlace_29 ?_
  refine a_iload_n C dX4_doublePlace_32 2 rfl rfl ?_
  refine a_iconst C dX4_doublePlace_33 ?_
  refine a_iadd C dX4_doublePlace_34 ?_
  refine a_iload_n C dX4_doublePlace_35 0 rfl rfl ?_
  refine a_copyi C hS.f2 hS.f2 hS.n2 hS.n2 0 hS.tI hS.tI (by omega) (by omega) (by omega) (by omega) (by omega) (by decide) (by decide) (by decide +kernel) ⟨by decide, Nat.le_of_ble_eq_true rfl⟩ dX4_doublePlace_36 ?_
  refine a_aload_n C dX4_doublePlace_39 1 rfl rfl ?_
  refine a_getf C hS.f0 hS.n0 (Cn := RX4) (T := TX4) (N := 7) rfl iX4 2 (by decide) k18 (w := .ref (vq v (b + 3))) rfl dX4_doublePlace_40 ?_
  refine a_iload_n C dX4_doublePlace_43 2 rfl rfl ?_
  refine a_aload_n C dX4_doublePlace_44 1 rfl rfl ?_
  refine a_getf C hS.f0 hS.n0 (Cn := RX4) (T := TX4) (N := 7) rfl iX4 2 (by decide) k18 (w := .ref (vq v (b + 3))) rfl dX4_doublePlace_45 ?_
  refine a_iload_n C dX4_doublePlace_48 2 rfl rfl ?_
  refine a_iconst C dX4_doublePlace_49 ?_
  refine a_iadd C dX4_doublePlace_50 ?_
  refine a_iload_n C dX4_doublePlace_51 0 rfl rfl ?_
  refine a_copyi C hS.f3 hS.f3 hS.n3 hS.n3 0 hS.tI hS.tI (by omega) (by omega) (by omega) (by omega) (by omega) (by decide) (by decide) (by decide +kernel) ⟨by decide, Nat.le_of_ble_eq_true rfl⟩ dX4_doublePlace_52 ?_
  refine a_aload_n C dX4_doublePlace_55 1 rfl rfl ?_
  refine a_dup C dX4_doublePlace_56 rfl ?_
  refine a_geti C hS.f0 hS.n0 (Cn := RX4) (T := TX4) (N := 7) rfl iX4 5 (by decide) k28 5 (by decide) rfl dX4_doublePlace_57 (fun z57 e57 r57 => ?_)
  try simp [sput_r, mset_n, sput, mset] at e57
  refine a_iconst C dX4_doublePlace_60 ?_
  refine a_iadd C dX4_doublePlace_61 ?_
  refine a_puti C hS.f0 hS.n0 (Cn := RX4) (T := TX4) (N := 7) rfl iX4 tyX4_ok nmX4 5 (by decide) k28 rfl rfl 5 (by omega) (fun _ => Nat.le_of_ble_eq_true rfl) (fun _ => rfl) dX4_doublePlace_62 ?_
  refine hret _ _ _ dX4_doublePlace_65 ⟨?_, ?_, ?_, ?_, ?_⟩
  · simp [sput]; omega
  · intro j
    simp [sput, mset]
    rw [mcpy_app]
    split
    · rw [if_pos (by omega)]; congr 1; omega
    · rw [if_neg (by omega)]
  · intro j
    simp [sput, mset]
    rw [mcpy_app]
    split
    · rw [if_pos (by omega)]; congr 1; omega
    · rw [if_neg (by omega)]
  · intro j
    simp [sput, mset]
    rw [mcpy_app]
    split
    · rw [if_pos (by omega)]; congr 1; omega
    · rw [if_neg (by omega)]
  · intro a j q1 q2 q3 q4
    simp [sput, mset, q1, q2, q3]
    omega
set_option maxHeartbeats 4000000 in
set_option maxRecDepth 100000 in
theorem c_X4_cut (l : Launch) (v : VC) (σ : Mem) (b : Nat) (hS : shSk v b) (k val : Int) (hk : 0 ≤ k ∧ k < σ b 5) (hn : σ b 5 < 24) (hv : 0 ≤ val ∧ val ≤ 39) (hW : skW σ b) (hB : skB σ b) : CtV l yX4_cut wsX4_cut 3 65 v [.ref (vq v b), vI k, vI val] σ (fun u => skFr σ u b ∧ skV u b = cutV (σ (b + 4)) (skV σ b) k val) := by
  refine mkV (cc := cX4_cut) (n := 8) (by decide +kernel) rfl (Nat.le_of_ble_eq_true rfl) (fun x A Q hx C hret => ?_)
  subst hx
  show At x v A Q _ 0 [(0, .ref (vq v b)), (1, vI k), (2, vI val)] [] σ
  have iX4 : ∀ w ∈ wsX40, w ∈ wsX4_cut := by decide +kernel
  have k28 : Cond.fieldLink RX4 28 (TX4 5).1 (TX4 5).2.1 (TX4 5).2.2.1 ∈ wsX4_cut := by decide +kernel
  have k9 : Cond.fieldLink RX4 9 (TX4 0).1 (TX4 0).2.1 (TX4 0).2.2.1 ∈ wsX4_cut := by decide +kernel
  have k15 : Cond.fieldLink RX4 15 (TX4 1).1 (TX4 1).2.1 (TX4 1).2.2.1 ∈ wsX4_cut := by decide +kernel
  have k18 : Cond.fieldLink RX4 18 (TX4 2).1 (TX4 2).2.1 (TX4 2).2.2.1 ∈ wsX4_cut := by decide +kernel
  have hw1 := hW.1
  have hw2 := hW.2.1
  have hf := foF_bd hW (k := k) (by omega)
  have he := hW.2.2 k hk.1 hk.2
  have hc := hB.1 k hk.1 hk.2
  have hd := hB.2.1 k hk.1 hk.2
  refine a_iload_n C dX4_cut_0 1 rfl rfl ?_
  refine a_if_lt C 21 (by omega) dX4_cut_1 (by decide) (fun c1 => ?_) (fun c1 => ?_)
  · skip
    exfalso; omega
  · skip
    refine a_iload_n C dX4_cut_4 1 rfl rfl ?_
    refine a_aload_n C dX4_cut_5 0 rfl rfl ?_
    refine a_geti C hS.f0 hS.n0 (Cn := RX4) (T := TX4) (N := 7) rfl iX4 5 (by decide) k28 5 (by decide) rfl dX4_cut_6 (fun z6 e6 r6 => ?_)
    refine a_icmp_ge C 21 (by omega) r6 dX4_cut_9 (by decide) (fun c9 => ?_) (fun c9 => ?_)
    · skip
      exfalso; omega
    · skip
      refine a_aload_n C dX4_cut_12 0 rfl rfl ?_
      refine a_geti C hS.f0 hS.n0 (Cn := RX4) (T := TX4) (N := 7) rfl iX4 5 (by decide) k28 5 (by decide) rfl dX4_cut_13 (fun z13 e13 r13 => ?_)
      refine a_bipush C dX4_cut_16 ?_
      refine a_icmp_lt C 22 r13 (by decide) dX4_cut_18 (by decide) (fun c18 => ?_) (fun c18 => ?_)
      · skip
        refine a_aload_n C dX4_cut_22 0 rfl rfl ?_
        refine a_aload_n C dX4_cut_23 0 rfl rfl ?_
        refine a_iload_n C dX4_cut_24 1 rfl rfl ?_
        refine a_cVI C (k0 := 1) (As := [vI k]) (rest := [.ref (vq v b)]) (c_X4_firstOf x.2.1 v σ b hS k (by omega) (fun q => hW.2.2 _ (by omega) (by omega))) gX4_cut_X4_firstOf rfl (by decide +kernel) (by decide) hS.f0 rfl hS.n0 rfl rfl (Nat.le_of_ble_eq_true rfl) dX4_cut_25 (fun z25 u25 r25 p25 => ?_)
        obtain ⟨e25, p25⟩ := p25
        subst u25
        refine a_iload_n C dX4_cut_28 2 rfl rfl ?_
        refine a_cVI C (k0 := 2) (As := [vI z25, vI val]) (rest := []) (c_X4_plainBetween x.2.1 v σ b hS z25 val r25 (by omega)) gX4_cut_X4_plainBetween rfl (by decide +kernel) (by decide) hS.f0 rfl hS.n0 rfl rfl (Nat.le_of_ble_eq_true rfl) dX4_cut_29 (fun z29 u29 r29 p29 => ?_)
        obtain ⟨e29, p29⟩ := p29
        subst u29
        have q29 := ltC_bd (σ (b + 4)) z25 val
        rw [← e29] at q29
        refine a_istore_n C 3 [(3, vI z29), (0, .ref (vq v b)), (1, vI k), (2, vI val)] dX4_cut_32 rfl (by decide) rfl ?_
        refine a_aload_n C dX4_cut_33 1 rfl rfl ?_
        refine a_iload_n C dX4_cut_34 3 rfl rfl ?_
        refine a_iconst C dX4_cut_35 ?_
        refine a_iadd C dX4_cut_36 ?_
        refine a_aload_n C dX4_cut_37 1 rfl rfl ?_
        refine a_getf C hS.f0 hS.n0 (Cn := RX4) (T := TX4) (N := 7) rfl iX4 0 (by decide) k9 (w := .ref (vq v (b + 1))) rfl dX4_cut_38 ?_
        refine a_iload_n C dX4_cut_41 2 rfl rfl ?_
        refine a_iald C hS.f1 hS.n1 0 hS.tI (by omega) (by omega) (by decide) dX4_cut_42 (fun z42 e42 r42 => ?_)
        refine a_cVI C (k0 := 2) (As := [vI (val + 1), vI z42]) (rest := []) (c_X4_plainBetween x.2.1 v σ b hS (val + 1) z42 (by omega) r42) gX4_cut_X4_plainBetween rfl (by decide +kernel) (by decide) hS.f0 rfl hS.n0 rfl rfl (Nat.le_of_ble_eq_true rfl) dX4_cut_43 (fun z43 u43 r43 p43 => ?_)
        obtain ⟨e43, p43⟩ := p43
        subst u43
        have q43 := ltC_bd (σ (b + 4)) (val + 1) z42
        rw [← e43] at q43
        refine a_istore C [(4, vI z43), (3, vI z29), (0, .ref (vq v b)), (1, vI k), (2, vI val)] dX4_cut_46 (by decide) rfl ?_
        refine a_aload_n C dX4_cut_48 2 rfl rfl ?_
        refine a_getf C hS.f0 hS.n0 (Cn := RX4) (T := TX4) (N := 7) rfl iX4 1 (by decide) k15 (w := .ref (vq v (b + 2))) rfl dX4_cut_49 ?_
        refine a_iload_n C dX4_cut_52 3 rfl rfl ?_
        refine a_iald C hS.f2 hS.n2 0 hS.tI (by omega) (by omega) (by decide) dX4_cut_53 (fun z53 e53 r53 => ?_)
        refine a_istore C [(5, vI z53), (4, vI z43), (3, vI z29), (0, .ref (vq v b)), (1, vI k), (2, vI val)] dX4_cut_54 (by decide) rfl ?_
        refine a_aload_n C dX4_cut_56 3 rfl rfl ?_
        refine a_getf C hS.f0 hS.n0 (Cn := RX4) (T := TX4) (N := 7) rfl iX4 2 (by decide) k18 (w := .ref (vq v (b + 3))) rfl dX4_cut_57 ?_
        refine a_iload_n C dX4_cut_60 4 rfl rfl ?_
        refine a_iald C hS.f3 hS.n3 0 hS.tI (by omega) (by omega) (by decide) dX4_cut_61 (fun z61 e61 r61 => ?_)
        refine a_istore C [(6, vI z61), (5, vI z53), (4, vI z43), (3, vI z29), (0, .ref (vq v b)), (1, vI k), (2, vI val)] dX4_cut_62 (by decide) rfl ?_
        refine a_aload_n C dX4_cut_64 4 rfl rfl ?_
        refine a_iload_n C dX4_cut_65 5 rfl rfl ?_
        refine a_cVV C (k0 := 1) (As := [vI k]) (rest := []) (c_X4_doublePlace x.2.1 v σ b hS k (by omega) hn) gX4_cut_X4_doublePlace rfl (by decide +kernel) (by decide) hS.f0 rfl hS.n0 rfl rfl (Nat.le_of_ble_eq_true rfl) dX4_cut_66 (fun u66 p66 => ?_)
        refine a_aload_n C dX4_cut_69 4 rfl rfl ?_
        refine a_getf C hS.f0 hS.n0 (Cn := RX4) (T := TX4) (N := 7) rfl iX4 0 (by decide) k9 (w := .ref (vq v (b + 1))) rfl dX4_cut_70 ?_
        refine a_iload_n C dX4_cut_73 5 rfl rfl ?_
        refine a_iload_n C dX4_cut_74 6 rfl rfl ?_
        refine a_iast C hS.f1 hS.n1 0 hS.tI (by omega) (by omega) (by decide) (by omega) dX4_cut_75 ?_
        refine a_iload_n C dX4_cut_76 3 rfl rfl ?_
        refine a_if_ne C 90 r29 dX4_cut_77 (by decide) (fun c77 => ?_) (fun c77 => ?_)
        · skip
          refine a_iload C dX4_cut_90 2 rfl ?_
          refine a_if_ne C 107 r43 dX4_cut_92 (by decide) (fun c92 => ?_) (fun c92 => ?_)
          · skip
            have m1 := mul_bd (a := z53) (b := z29) (A := 40000000) (B := 40) (by omega) (by omega) (by omega) (by omega) (by omega)
            refine a_iload C dX4_cut_107 1 rfl ?_
            refine a_i2l C r53 dX4_cut_109 ?_
            refine a_iload_n C dX4_cut_110 3 rfl rfl ?_
            refine a_i2l C r29 dX4_cut_111 ?_
            refine a_lmul C dX4_cut_112 ?_
            refine a_iload_n C dX4_cut_113 3 rfl rfl ?_
            refine a_iload C dX4_cut_114 2 rfl ?_
            refine a_iadd C dX4_cut_116 ?_
            refine a_i2l C (by omega) dX4_cut_117 ?_
            refine a_cSL C (k0 := 2) (As := [vJ (z53 * z29), vJ (z29 + z43)]) (rest := []) (c_J9_floorDiv_f86c9 x.2.1 v (sput u66 (b + 1) k val) (z53 * z29) (z29 + z43) (by omega) (by omega) (by omega)) gX4_cut_J9_floorDiv_f86c9 rfl (by decide +kernel) (by decide) rfl rfl (Nat.le_of_ble_eq_true rfl) dX4_cut_118 (fun z118 u118 r118 p118 => ?_)
            obtain ⟨e118, p118⟩ := p118
            subst u118
            try simp [sput_r, mset_n, sput, mset] at e118
            have m2 := share_bd (c := z53) (L := z29) (R := z43) (by omega) (by omega) (by omega)
            rw [← e118] at m2
            refine a_l2i C dX4_cut_121 ?_
            refine a_istore C [(7, vI z118), (6, vI z61), (5, vI z53), (4, vI z43), (3, vI z29), (0, .ref (vq v b)), (1, vI k), (2, vI val)] dX4_cut_122 (by decide) rfl ?_
            refine a_aload_n C dX4_cut_124 5 rfl rfl ?_
            refine a_iload_n C dX4_cut_125 6 rfl rfl ?_
            refine a_iload C dX4_cut_126 0 rfl ?_
            refine a_iload C dX4_cut_128 0 rfl ?_
            refine a_iload C dX4_cut_130 2 rfl ?_
            refine a_iload C dX4_cut_132 1 rfl ?_
            refine a_cSI C (k0 := 3) (As := [vI z118, vI z53, vI z61]) (rest := [vI z118, vI k, .ref (vq v b)]) (c_X4_pieceDoubt x.2.1 v (sput u66 (b + 1) k val) z118 z53 z61 (by omega) (by omega) (by omega)) gX4_cut_X4_pieceDoubt rfl (by decide +kernel) (by decide) rfl rfl (Nat.le_of_ble_eq_true rfl) dX4_cut_134 (fun z134 u134 r134 p134 => ?_)
            obtain ⟨e134, p134⟩ := p134
            subst u134
            try simp [sput_r, mset_n, sput, mset] at e134
            refine a_cVV C (k0 := 3) (As := [vI k, vI z118, vI z134]) (rest := []) (c_X4_setPiece x.2.1 v (sput u66 (b + 1) k val) b hS k z118 z134 (by omega) (by omega) r134) gX4_cut_X4_setPiece rfl (by decide +kernel) (by decide) hS.f0 rfl hS.n0 rfl rfl (Nat.le_of_ble_eq_true rfl) dX4_cut_137 (fun u137 p137 => ?_)
            subst u137
            refine a_aload_n C dX4_cut_140 5 rfl rfl ?_
            refine a_iload_n C dX4_cut_141 6 rfl rfl ?_
            refine a_iconst C dX4_cut_142 ?_
            refine a_iadd C dX4_cut_143 ?_
            refine a_iload C dX4_cut_144 2 rfl ?_
            refine a_iload C dX4_cut_146 0 rfl ?_
            refine a_isub C dX4_cut_148 ?_
            refine a_iload C dX4_cut_149 2 rfl ?_
            refine a_iload C dX4_cut_151 0 rfl ?_
            refine a_isub C dX4_cut_153 ?_
            refine a_iload C dX4_cut_154 2 rfl ?_
            refine a_iload C dX4_cut_156 1 rfl ?_
            refine a_cSI C (k0 := 3) (As := [vI (z53 - z118), vI z53, vI z61]) (rest := [vI (z53 - z118), vI (k + 1), .ref (vq v b)]) (c_X4_pieceDoubt x.2.1 v (sput (sput (sput u66 (b + 1) k val) (b + 2) k z118) (b + 3) k z134) (z53 - z118) z53 z61 (by omega) (by omega) (by omega)) gX4_cut_X4_pieceDoubt rfl (by decide +kernel) (by decide) rfl rfl (Nat.le_of_ble_eq_true rfl) dX4_cut_158 (fun z158 u158 r158 p158 => ?_)
            obtain ⟨e158, p158⟩ := p158
            subst u158
            try simp [sput_r, mset_n, sput, mset] at e158
            refine a_cVV C (k0 := 3) (As := [vI (k + 1), vI (z53 - z118), vI z158]) (rest := []) (c_X4_setPiece x.2.1 v (sput (sput (sput u66 (b + 1) k val) (b + 2) k z118) (b + 3) k z134) b hS (k + 1) (z53 - z118) z158 (by omega) (by omega) r158) gX4_cut_X4_setPiece rfl (by decide +kernel) (by decide) hS.f0 rfl hS.n0 rfl rfl (Nat.le_of_ble_eq_true rfl) dX4_cut_161 (fun u161 p161 => ?_)
            subst u161
            refine hret _ _ _ dX4_cut_164 (cut_rows (L := z29) (R := z43) (cl := z118) (dl := z134) (cr := (z53 - z118)) (dr := z158) hk.1 hk.2 p66 (by rw [e29, e25]) (by rw [e43, e42]) ?_ (by simp [sput]) ?_ (by simp [sput]) ?_ ?_ ?_ ?_ ?_ ?_ ?_)
            · rw [← e53, ← e61]; unfold hvF; (first | (rw [if_pos (by omega)]) | (rw [if_neg (by omega), if_pos (by omega)]) | (rw [if_neg (by omega), if_neg (by omega), ← e118, ← e134, ← e158]))
            · intro j q1; simp [sput, q1]
            · intro j q1 q2; simp [sput, q1, q2]
            · simp [sput]; (first | done | (intro q; omega) | (rw [p66.2.2.1]; (repeat rw [if_neg (by omega)]); exact e53.symm))
            · simp [sput]; (first | done | (intro q; omega) | (rw [p66.2.2.1]; (repeat rw [if_neg (by omega)]); rw [if_pos (by omega), show k + 1 - 1 = k by omega]; exact e53.symm))
            · intro j q1 q2; simp [sput, q1, q2]
            · simp [sput]; (first | done | (intro q; omega) | (rw [p66.2.2.2.1]; (repeat rw [if_neg (by omega)]); exact e61.symm))
            · simp [sput]; (first | done | (intro q; omega) | (rw [p66.2.2.2.1]; (repeat rw [if_neg (by omega)]); rw [if_pos (by omega), show k + 1 - 1 = k by omega]; exact e61.symm))
            · intro a j q1 q2 q3 q4; simp [sput, q1, q2, q3]
          · skip
            refine a_aload_n C dX4_cut_95 4 rfl rfl ?_
            refine a_iload_n C dX4_cut_96 5 rfl rfl ?_
            refine a_iconst C dX4_cut_97 ?_
            refine a_iadd C dX4_cut_98 ?_
            refine a_iconst C dX4_cut_99 ?_
            refine a_iconst C dX4_cut_100 ?_
            refine a_cVV C (k0 := 3) (As := [vI (k + 1), vI 0, vI 0]) (rest := []) (c_X4_setPiece x.2.1 v (sput u66 (b + 1) k val) b hS (k + 1) 0 0 (by omega) (by omega) (by omega)) gX4_cut_X4_setPiece rfl (by decide +kernel) (by decide) hS.f0 rfl hS.n0 rfl rfl (Nat.le_of_ble_eq_true rfl) dX4_cut_101 (fun u101 p101 => ?_)
            subst u101
            refine a_goto C 164 dX4_cut_104 (by decide) ?_
            refine hret _ _ _ dX4_cut_164 (cut_rows (L := z29) (R := z43) (cl := z53) (dl := z61) (cr := 0) (dr := 0) hk.1 hk.2 p66 (by rw [e29, e25]) (by rw [e43, e42]) ?_ (by simp [sput]) ?_ (by simp [sput]) ?_ ?_ ?_ ?_ ?_ ?_ ?_)
            · rw [← e53, ← e61]; unfold hvF; (first | (rw [if_pos (by omega)]) | (rw [if_neg (by omega), if_pos (by omega)]) | (rw [if_neg (by omega), if_neg (by omega), ← e118, ← e134, ← e158]))
            · intro j q1; simp [sput, q1]
            · intro j q1 q2; simp [sput, q1, q2]
            · simp [sput]; (first | done | (intro q; omega) | (rw [p66.2.2.1]; (repeat rw [if_neg (by omega)]); exact e53.symm))
            · simp [sput]; (first | done | (intro q; omega) | (rw [p66.2.2.1]; (repeat rw [if_neg (by omega)]); rw [if_pos (by omega), show k + 1 - 1 = k by omega]; exact e53.symm))
            · intro j q1 q2; simp [sput, q1, q2]
            · simp [sput]; (first | done | (intro q; omega) | (rw [p66.2.2.2.1]; (repeat rw [if_neg (by omega)]); exact e61.symm))
            · simp [sput]; (first | done | (intro q; omega) | (rw [p66.2.2.2.1]; (repeat rw [if_neg (by omega)]); rw [if_pos (by omega), show k + 1 - 1 = k by omega]; exact e61.symm))
            · intro a j q1 q2 q3 q4; simp [sput, q1, q2, q3]
        · skip
          refine a_aload_n C dX4_cut_80 4 rfl rfl ?_
          refine a_iload_n C dX4_cut_81 5 rfl rfl ?_
          refine a_iconst C dX4_cut_82 ?_
          refine a_iconst C dX4_cut_83 ?_
          refine a_cVV C (k0 := 3) (As := [vI k, vI 0, vI 0]) (rest := []) (c_X4_setPiece x.2.1 v (sput u66 (b + 1) k val) b hS k 0 0 (by omega) (by omega) (by omega)) gX4_cut_X4_setPiece rfl (by decide +kernel) (by decide) hS.f0 rfl hS.n0 rfl rfl (Nat.le_of_ble_eq_true rfl) dX4_cut_84 (fun u84 p84 => ?_)
          subst u84
          refine a_goto C 164 dX4_cut_87 (by decide) ?_
          refine hret _ _ _ dX4_cut_164 (cut_rows (L := z29) (R := z43) (cl := 0) (dl := 0) (cr := z53) (dr := z61) hk.1 hk.2 p66 (by rw [e29, e25]) (by rw [e43, e42]) ?_ (by simp [sput]) ?_ (by simp [sput]) ?_ ?_ ?_ ?_ ?_ ?_ ?_)
          · rw [← e53, ← e61]; unfold hvF; (first | (rw [if_pos (by omega)]) | (rw [if_neg (by omega), if_pos (by omega)]) | (rw [if_neg (by omega), if_neg (by omega), ← e118, ← e134, ← e158]))
          · intro j q1; simp [sput, q1]
          · intro j q1 q2; simp [sput, q1, q2]
          · simp [sput]; (first | done | (intro q; omega) | (rw [p66.2.2.1]; (repeat rw [if_neg (by omega)]); exact e53.symm))
          · simp [sput]; (first | done | (intro q; omega) | (rw [p66.2.2.1]; (repeat rw [if_neg (by omega)]); rw [if_pos (by omega), show k + 1 - 1 = k by omega]; exact e53.symm))
          · intro j q1 q2; simp [sput, q1, q2]
          · simp [sput]; (first | done | (intro q; omega) | (rw [p66.2.2.2.1]; (repeat rw [if_neg (by omega)]); exact e61.symm))
          · simp [sput]; (first | done | (intro q; omega) | (rw [p66.2.2.2.1]; (repeat rw [if_neg (by omega)]); rw [if_pos (by omega), show k + 1 - 1 = k by omega]; exact e61.symm))
          · intro a j q1 q2 q3 q4; simp [sput, q1, q2, q3]
      · skip
        exfalso; omega
set_option maxHeartbeats 4000000 in
set_option maxRecDepth 100000 in
theorem c_X4_fuse (l : Launch) (v : VC) (σ : Mem) (b : Nat) (hS : shSk v b) (k : Int) (hk : 0 ≤ k ∧ k < σ b 5 - 1) (hW : skW σ b) (hB : skC σ b) : CtV l yX4_fuse wsX4_fuse 2 43 v [.ref (vq v b), vI k] σ (fun u => skFr σ u b ∧ skV u b = fuseV (skV σ b) k) := by
  refine mkV (cc := cX4_fuse) (n := 5) (by decide +kernel) rfl (Nat.le_of_ble_eq_true rfl) (fun x A Q hx C hret => ?_)
  subst hx
  show At x v A Q _ 0 [(0, .ref (vq v b)), (1, vI k)] [] σ
  have iX4 : ∀ w ∈ wsX40, w ∈ wsX4_fuse := by decide +kernel
  have k28 : Cond.fieldLink RX4 28 (TX4 5).1 (TX4 5).2.1 (TX4 5).2.2.1 ∈ wsX4_fuse := by decide +kernel
  have k15 : Cond.fieldLink RX4 15 (TX4 1).1 (TX4 1).2.1 (TX4 1).2.2.1 ∈ wsX4_fuse := by decide +kernel
  have k18 : Cond.fieldLink RX4 18 (TX4 2).1 (TX4 2).2.1 (TX4 2).2.2.1 ∈ wsX4_fuse := by decide +kernel
  have k9 : Cond.fieldLink RX4 9 (TX4 0).1 (TX4 0).2.1 (TX4 0).2.2.1 ∈ wsX4_fuse := by decide +kernel
  have hw1 := hW.1
  have hw2 := hW.2.1
  refine a_iload_n C dX4_fuse_0 1 rfl rfl ?_
  refine a_if_lt C 14 (by omega) dX4_fuse_1 (by decide) (fun c1 => ?_) (fun c1 => ?_)
  · skip
    exfalso; omega
  · skip
    refine a_iload_n C dX4_fuse_4 1 rfl rfl ?_
    refine a_aload_n C dX4_fuse_5 0 rfl rfl ?_
    refine a_geti C hS.f0 hS.n0 (Cn := RX4) (T := TX4) (N := 7) rfl iX4 5 (by decide) k28 5 (by decide) rfl dX4_fuse_6 (fun z6 e6 r6 => ?_)
    refine a_iconst C dX4_fuse_9 ?_
    refine a_isub C dX4_fuse_10 ?_
    refine a_icmp_lt C 15 (by omega) (by omega) dX4_fuse_11 (by decide) (fun c11 => ?_) (fun c11 => ?_)
    · skip
      refine a_aload_n C dX4_fuse_15 0 rfl rfl ?_
      refine a_getf C hS.f0 hS.n0 (Cn := RX4) (T := TX4) (N := 7) rfl iX4 1 (by decide) k15 (w := .ref (vq v (b + 2))) rfl dX4_fuse_16 ?_
      refine a_iload_n C dX4_fuse_19 1 rfl rfl ?_
      refine a_iald C hS.f2 hS.n2 0 hS.tI (by omega) (by omega) (by decide) dX4_fuse_20 (fun z20 e20 r20 => ?_)
      have q20 := hB.1 k (by omega) (by omega)
      rw [← e20] at q20
      refine a_aload_n C dX4_fuse_21 0 rfl rfl ?_
      refine a_getf C hS.f0 hS.n0 (Cn := RX4) (T := TX4) (N := 7) rfl iX4 1 (by decide) k15 (w := .ref (vq v (b + 2))) rfl dX4_fuse_22 ?_
      refine a_iload_n C dX4_fuse_25 1 rfl rfl ?_
      refine a_iconst C dX4_fuse_26 ?_
      refine a_iadd C dX4_fuse_27 ?_
      refine a_iald C hS.f2 hS.n2 0 hS.tI (by omega) (by omega) (by decide) dX4_fuse_28 (fun z28 e28 r28 => ?_)
      have q28 := hB.1 (k + 1) (by omega) (by omega)
      rw [← e28] at q28
      refine a_iadd C dX4_fuse_29 ?_
      refine a_istore_n C 2 [(2, vI (z20 + z28)), (0, .ref (vq v b)), (1, vI k)] dX4_fuse_30 rfl (by decide) rfl ?_
      refine a_aload_n C dX4_fuse_31 1 rfl rfl ?_
      refine a_getf C hS.f0 hS.n0 (Cn := RX4) (T := TX4) (N := 7) rfl iX4 2 (by decide) k18 (w := .ref (vq v (b + 3))) rfl dX4_fuse_32 ?_
      refine a_iload_n C dX4_fuse_35 2 rfl rfl ?_
      refine a_iald C hS.f3 hS.n3 0 hS.tI (by omega) (by omega) (by decide) dX4_fuse_36 (fun z36 e36 r36 => ?_)
      have q36 := hB.2 k (by omega) (by omega)
      rw [← e36] at q36
      refine a_aload_n C dX4_fuse_37 1 rfl rfl ?_
      refine a_getf C hS.f0 hS.n0 (Cn := RX4) (T := TX4) (N := 7) rfl iX4 2 (by decide) k18 (w := .ref (vq v (b + 3))) rfl dX4_fuse_38 ?_
      refine a_iload_n C dX4_fuse_41 2 rfl rfl ?_
      refine a_iconst C dX4_fuse_42 ?_
      refine a_iadd C dX4_fuse_43 ?_
      refine a_iald C hS.f3 hS.n3 0 hS.tI (by omega) (by omega) (by decide) dX4_fuse_44 (fun z44 e44 r44 => ?_)
      have q44 := hB.2 (k + 1) (by omega) (by omega)
      rw [← e44] at q44
      refine a_iadd C dX4_fuse_45 ?_
      refine a_cSI C (k0 := 1) (As := [vI (z36 + z44)]) (rest := []) (c_X4_limited x.2.1 v σ (z36 + z44) (by omega)) gX4_fuse_X4_limited rfl (by decide +kernel) (by decide) rfl rfl (Nat.le_of_ble_eq_true rfl) dX4_fuse_46 (fun z46 u46 r46 p46 => ?_)
      obtain ⟨e46, p46⟩ := p46
      subst u46
      refine a_istore_n C 3 [(3, vI z46), (2, vI (z20 + z28)), (0, .ref (vq v b)), (1, vI k)] dX4_fuse_49 rfl (by decide) rfl ?_
      refine a_aload_n C dX4_fuse_50 2 rfl rfl ?_
      refine a_geti C hS.f0 hS.n0 (Cn := RX4) (T := TX4) (N := 7) rfl iX4 5 (by decide) k28 5 (by decide) rfl dX4_fuse_51 (fun z51 e51 r51 => ?_)
      refine a_iload_n C dX4_fuse_54 3 rfl rfl ?_
      refine a_isub C dX4_fuse_55 ?_
      refine a_iconst C dX4_fuse_56 ?_
      refine a_isub C dX4_fuse_57 ?_
      refine a_istore C [(4, vI ((z51 - k) - 1)), (3, vI z46), (2, vI (z20 + z28)), (0, .ref (vq v b)), (1, vI k)] dX4_fuse_58 (by decide) rfl ?_
      refine a_aload_n C dX4_fuse_60 3 rfl rfl ?_
      refine a_getf C hS.f0 hS.n0 (Cn := RX4) (T := TX4) (N := 7) rfl iX4 0 (by decide) k9 (w := .ref (vq v (b + 1))) rfl dX4_fuse_61 ?_
      refine a_iload_n C dX4_fuse_64 4 rfl rfl ?_
      refine a_iconst C dX4_fuse_65 ?_
      refine a_iadd C dX4_fuse_66 ?_
      refine a_aload_n C dX4_fuse_67 3 rfl rfl ?_
      refine a_getf C hS.f0 hS.n0 (Cn := RX4) (T := TX4) (N := 7) rfl iX4 0 (by decide) k9 (w := .ref (vq v (b + 1))) rfl dX4_fuse_68 ?_
      refine a_iload_n C dX4_fuse_71 4 rfl rfl ?_
      refine a_iload C dX4_fuse_72 0 rfl ?_
      refine a_copyi C hS.f1 hS.f1 hS.n1 hS.n1 0 hS.tI hS.tI (by omega) (by omega) (by omega) (by omega) (by omega) (by decide) (by decide) (by decide +kernel) ⟨by decide, Nat.le_of_ble_eq_true rfl⟩ dX4_fuse_74 ?_
      refine a_aload_n C dX4_fuse_77 3 rfl rfl ?_
      refine a_getf C hS.f0 hS.n0 (Cn := RX4) (T := TX4) (N := 7) rfl iX4 1 (by decide) k15 (w := .ref (vq v (b + 2))) rfl dX4_fuse_78 ?_
      refine a_iload_n C dX4_fuse_81 4 rfl rfl ?_
      refine a_iconst C dX4_fuse_82 ?_
      refine a_iadd C dX4_fuse_83 ?_
      refine a_aload_n C dX4_fuse_84 3 rfl rfl ?_
      refine a_getf C hS.f0 hS.n0 (Cn := RX4) (T := TX4) (N := 7) rfl iX4 1 (by decide) k15 (w := .ref (vq v (b + 2))) rfl dX4_fuse_85 ?_
      refine a_iload_n C dX4_fuse_88 4 rfl rfl ?_
      refine a_iload C dX4_fuse_89 0 rfl ?_
      refine a_copyi C hS.f2 hS.f2 hS.n2 hS.n2 0 hS.tI hS.tI (by omega) (by omega) (by omega) (by omega) (by omega) (by decide) (by decide) (by decide +kernel) ⟨by decide, Nat.le_of_ble_eq_true rfl⟩ dX4_fuse_91 ?_
      refine a_aload_n C dX4_fuse_94 3 rfl rfl ?_
      refine a_getf C hS.f0 hS.n0 (Cn := RX4) (T := TX4) (N := 7) rfl iX4 2 (by decide) k18 (w := .ref (vq v (b + 3))) rfl dX4_fuse_95 ?_
      refine a_iload_n C dX4_fuse_98 4 rfl rfl ?_
      refine a_iconst C dX4_fuse_99 ?_
      refine a_iadd C dX4_fuse_100 ?_
      refine a_aload_n C dX4_fuse_101 3 rfl rfl ?_
      refine a_getf C hS.f0 hS.n0 (Cn := RX4) (T := TX4) (N := 7) rfl iX4 2 (by decide) k18 (w := .ref (vq v (b + 3))) rfl dX4_fuse_102 ?_
      refine a_iload_n C dX4_fuse_105 4 rfl rfl ?_
      refine a_iload C dX4_fuse_106 0 rfl ?_
      refine a_copyi C hS.f3 hS.f3 hS.n3 hS.n3 0 hS.tI hS.tI (by omega) (by omega) (by omega) (by omega) (by omega) (by decide) (by decide) (by decide +kernel) ⟨by decide, Nat.le_of_ble_eq_true rfl⟩ dX4_fuse_108 ?_
      refine a_aload_n C dX4_fuse_111 3 rfl rfl ?_
      refine a_dup C dX4_fuse_112 rfl ?_
      refine a_geti C hS.f0 hS.n0 (Cn := RX4) (T := TX4) (N := 7) rfl iX4 5 (by decide) k28 5 (by decide) rfl dX4_fuse_113 (fun z113 e113 r113 => ?_)
      try simp [sput_r, mset_n, sput, mset] at e113
      refine a_iconst C dX4_fuse_116 ?_
      refine a_isub C dX4_fuse_117 ?_
      refine a_puti C hS.f0 hS.n0 (Cn := RX4) (T := TX4) (N := 7) rfl iX4 tyX4_ok nmX4 5 (by decide) k28 rfl rfl 5 (by omega) (fun _ => Nat.le_of_ble_eq_true rfl) (fun _ => rfl) dX4_fuse_118 ?_
      refine a_aload_n C dX4_fuse_121 3 rfl rfl ?_
      refine a_iload_n C dX4_fuse_122 4 rfl rfl ?_
      refine a_iload_n C dX4_fuse_123 2 rfl rfl ?_
      refine a_iload_n C dX4_fuse_124 1 rfl rfl ?_
      refine a_cVV C (k0 := 3) (As := [vI k, vI (z20 + z28), vI z46]) (rest := []) (c_X4_setPiece x.2.1 v (sput (mset (mset (mset σ (b + 1) (mcpy (σ (b + 1)) (σ (b + 1)) (k + 1) k ((z51 - k) - 1))) (b + 2) (mcpy ((mset σ (b + 1) (mcpy (σ (b + 1)) (σ (b + 1)) (k + 1) k ((z51 - k) - 1))) (b + 2)) ((mset σ (b + 1) (mcpy (σ (b + 1)) (σ (b + 1)) (k + 1) k ((z51 - k) - 1))) (b + 2)) (k + 1) k ((z51 - k) - 1))) (b + 3) (mcpy ((mset (mset σ (b + 1) (mcpy (σ (b + 1)) (σ (b + 1)) (k + 1) k ((z51 - k) - 1))) (b + 2) (mcpy ((mset σ (b + 1) (mcpy (σ (b + 1)) (σ (b + 1)) (k + 1) k ((z51 - k) - 1))) (b + 2)) ((mset σ (b + 1) (mcpy (σ (b + 1)) (σ (b + 1)) (k + 1) k ((z51 - k) - 1))) (b + 2)) (k + 1) k ((z51 - k) - 1))) (b + 3)) ((mset (mset σ (b + 1) (mcpy (σ (b + 1)) (σ (b + 1)) (k + 1) k ((z51 - k) - 1))) (b + 2) (mcpy ((mset σ (b + 1) (mcpy (σ (b + 1)) (σ (b + 1)) (k + 1) k ((z51 - k) - 1))) (b + 2)) ((mset σ (b + 1) (mcpy (σ (b + 1)) (σ (b + 1)) (k + 1) k ((z51 - k) - 1))) (b + 2)) (k + 1) k ((z51 - k) - 1))) (b + 3)) (k + 1) k ((z51 - k) - 1))) b 5 (z113 - 1)) b hS k (z20 + z28) z46 (by omega) (by omega) r46) gX4_fuse_X4_setPiece rfl (by decide +kernel) (by decide) hS.f0 rfl hS.n0 rfl rfl (Nat.le_of_ble_eq_true rfl) dX4_fuse_125 (fun u125 p125 => ?_)
      subst u125
      refine hret _ _ _ dX4_fuse_128 ⟨?_, skV_fuse hk.1 (by omega) ?_ ?_ ?_ ?_⟩
      · intro a j q1 q2 q3 q4; simp [sput, mset, q1, q2, q3]; omega
      · simp [sput, mset]; omega
      · intro j j0 j1
        simp [sput, mset]
        rw [mcpy_app]
        rcases (by omega : j < k ∨ j = k ∨ k < j) with q | q | q
        · rw [delR_lt q, if_neg (by omega)]
        · rw [q, delR_k, if_pos (by omega)]; congr 1; omega
        · rw [delR_gt q, if_pos (by omega)]; congr 1; omega
      · intro j j0 j1
        rcases (by omega : j < k ∨ j = k ∨ k < j) with q | q | q
        · simp [sput, mset, show ¬ j = k by omega]
          rw [mcpy_app, delR_lt q, if_neg (by omega)]
        · subst q
          simp [sput, mset]
          rw [delR_k, e20, e28]
        · simp [sput, mset, show ¬ j = k by omega]
          rw [mcpy_app, delR_gt q, if_pos (by omega)]; congr 1; omega
      · intro j j0 j1
        rcases (by omega : j < k ∨ j = k ∨ k < j) with q | q | q
        · simp [sput, mset, show ¬ j = k by omega]
          rw [mcpy_app, delR_lt q, if_neg (by omega)]
        · subst q
          simp [sput, mset]
          rw [delR_k, e46, e36, e44]
        · simp [sput, mset, show ¬ j = k by omega]
          rw [mcpy_app, delR_gt q, if_pos (by omega)]; congr 1; omega
    · skip
      exfalso; omega
