/-! ===== the model's QUESTIONS ===== -/
def moL (σ : Mem) (b : Nat) (cl a1 a2 : Int) : Int := hvS (shR (σ (b + 14)) (40 * cl)) (shR (σ (b + 13)) (40 * cl)) a1 a2 + smR (lwF (shR (σ (b + 14)) (40 * cl)) (shR (σ (b + 15)) (40 * cl)) (shR (σ (b + 16)) (40 * cl)) (shR (σ (b + 17)) (40 * cl)) a1 a2) 0 (σ (b + 11) cl)
def moH (σ : Mem) (b : Nat) (cl a1 a2 : Int) : Int := hvS (shR (σ (b + 14)) (40 * cl)) (shR (σ (b + 13)) (40 * cl)) a1 a2 + smR (hiF (shR (σ (b + 14)) (40 * cl)) (shR (σ (b + 15)) (40 * cl)) (shR (σ (b + 16)) (40 * cl)) (shR (σ (b + 17)) (40 * cl)) a1 a2) 0 (σ (b + 11) cl)
theorem moL_st (σ : Mem) (b : Nat) (cl a1 a2 w : Int) : moL (sput σ b 0 w) b cl a1 a2 = moL σ b cl a1 a2 := by unfold moL; simp only [sput_r (show b + 11 ≠ b by omega), sput_r (show b + 13 ≠ b by omega), sput_r (show b + 14 ≠ b by omega), sput_r (show b + 15 ≠ b by omega), sput_r (show b + 16 ≠ b by omega), sput_r (show b + 17 ≠ b by omega)]
theorem moH_st (σ : Mem) (b : Nat) (cl a1 a2 w : Int) : moH (sput σ b 0 w) b cl a1 a2 = moH σ b cl a1 a2 := by unfold moH; simp only [sput_r (show b + 11 ≠ b by omega), sput_r (show b + 13 ≠ b by omega), sput_r (show b + 14 ≠ b by omega), sput_r (show b + 15 ≠ b by omega), sput_r (show b + 16 ≠ b by omega), sput_r (show b + 17 ≠ b by omega)]
theorem moL_bd {σ : Mem} {b : Nat} {cl : Int} (hB : ∀ j : Int, 0 ≤ j → j < (σ (b + 11) cl) → (-10000000 ≤ (shR (σ (b + 16)) (40 * cl)) j ∧ (shR (σ (b + 16)) (40 * cl)) j ≤ 10000000) ∧ 0 ≤ (shR (σ (b + 17)) (40 * cl)) j ∧ (shR (σ (b + 17)) (40 * cl)) j ≤ 1000000) (hH : ∀ j : Int, 0 ≤ j → j < 40 → -4000000 ≤ (shR (σ (b + 13)) (40 * cl)) j ∧ (shR (σ (b + 13)) (40 * cl)) j ≤ 4000000) (hn : 0 ≤ (σ (b + 11) cl) ∧ (σ (b + 11) cl) ≤ 12) (a1 a2 : Int) : (-160000000 ≤ moL σ b cl a1 a2 ∧ moL σ b cl a1 a2 ≤ 400000000) ∧ -160000000 ≤ moH σ b cl a1 a2 ∧ moH σ b cl a1 a2 ≤ 400000000 := by
  have g1 := hvS_bd (h := (shR (σ (b + 14)) (40 * cl))) (c := (shR (σ (b + 13)) (40 * cl))) (M := 4000000) (by decide) hH a1 a2
  have g2 := smR_bd (f := lwF (shR (σ (b + 14)) (40 * cl)) (shR (σ (b + 15)) (40 * cl)) (shR (σ (b + 16)) (40 * cl)) (shR (σ (b + 17)) (40 * cl)) a1 a2) (a := 0) (b := (σ (b + 11) cl)) (lo := 0) (hi := 11000000) (fun j q1 q2 => by have := hB j q1 q2; unfold lwF; split <;> omega) hn.1
  have g3 := smR_bd (f := hiF (shR (σ (b + 14)) (40 * cl)) (shR (σ (b + 15)) (40 * cl)) (shR (σ (b + 16)) (40 * cl)) (shR (σ (b + 17)) (40 * cl)) a1 a2) (a := 0) (b := (σ (b + 11) cl)) (lo := 0) (hi := 11000000) (fun j q1 q2 => by have := hB j q1 q2; unfold hiF; split <;> omega) hn.1
  unfold moL moH
  omega
theorem moK_st {σ : Mem} {b : Nat} {cl w : Int} (h : moK σ b cl) : moK (sput σ b 0 w) b cl := by
  unfold moK at *
  rw [moE_st]
  simp only [sput_r (show b + 11 ≠ b by omega), sput_r (show b + 13 ≠ b by omega), sput_r (show b + 16 ≠ b by omega), sput_r (show b + 17 ≠ b by omega), sput_r (show b + 4 ≠ b by omega), sput_r (show b + 5 ≠ b by omega), sput_r (show b + 6 ≠ b by omega)]
  exact h
set_option maxHeartbeats 4000000 in
set_option maxRecDepth 100000 in
theorem c_X7_boundOf (l : Launch) (v : VC) (σ : Mem) (b : Nat) (hM : shMo v b) (i1 a1 a2 w1 : Int) (hc : 0 ≤ i1 ∧ i1 < 3) (hq : (0 ≤ a1 ∧ a1 ≤ a2 ∧ a2 ≤ 39)) (hw : rg w1) (hk : moK σ b i1) (hn0 : (σ (b + 11) i1) ≠ 0) : CtI l yX7_boundOf wsX7_boundOf 2 49 v [.ref (vq v b), vI i1, vI a1, vI a2, vI w1] σ (fun z u => z = (if w1 = 0 then moL σ b i1 a1 a2 else moH σ b i1 a1 a2) ∧ u = σ) := by
  refine mkI (cc := cX7_boundOf) (n := 8) (by decide +kernel) rfl (Nat.le_of_ble_eq_true rfl) (fun x A Q hx C hret => ?_)
  subst hx
  show At x v A Q _ 0 [(0, .ref (vq v b)), (1, vI i1), (2, vI a1), (3, vI a2), (4, vI w1)] [] σ
  have iX7 : ∀ w ∈ wsX70, w ∈ wsX7_boundOf := by decide +kernel
  have k45 : Cond.fieldLink RX7 45 (TX7 13).1 (TX7 13).2.1 (TX7 13).2.2.1 ∈ wsX7_boundOf := by decide +kernel
  have k61 : Cond.fieldLink RX7 61 (TX7 18).1 (TX7 18).2.1 (TX7 18).2.2.1 ∈ wsX7_boundOf := by decide +kernel
  have k64 : Cond.fieldLink RX7 64 (TX7 19).1 (TX7 19).2.1 (TX7 19).2.2.1 ∈ wsX7_boundOf := by decide +kernel
  obtain ⟨kN, kE, hB, kH, -, -, -⟩ := hk
  have hE := kE hn0
  have gb := moL_bd hB kH kN a1 a2
  have gh := hvS_bd (h := (shR (σ (b + 14)) (40 * i1))) (c := (shR (σ (b + 13)) (40 * i1))) (M := 4000000) (by decide) kH a1 a2
  have lp : ∀ (n : Nat) (k n1 : Int) , (24 - k).toNat = n → 0 ≤ k ∧ k ≤ (σ (b + 11) i1) → (w1 = 0 → n1 + smR (lwF (shR (σ (b + 14)) (40 * i1)) (shR (σ (b + 15)) (40 * i1)) (shR (σ (b + 16)) (40 * i1)) (shR (σ (b + 17)) (40 * i1)) a1 a2) k (σ (b + 11) i1) = hvS (shR (σ (b + 14)) (40 * i1)) (shR (σ (b + 13)) (40 * i1)) a1 a2 + smR (lwF (shR (σ (b + 14)) (40 * i1)) (shR (σ (b + 15)) (40 * i1)) (shR (σ (b + 16)) (40 * i1)) (shR (σ (b + 17)) (40 * i1)) a1 a2) 0 (σ (b + 11) i1)) → (w1 ≠ 0 → n1 + smR (hiF (shR (σ (b + 14)) (40 * i1)) (shR (σ (b + 15)) (40 * i1)) (shR (σ (b + 16)) (40 * i1)) (shR (σ (b + 17)) (40 * i1)) a1 a2) k (σ (b + 11) i1) = hvS (shR (σ (b + 14)) (40 * i1)) (shR (σ (b + 13)) (40 * i1)) a1 a2 + smR (hiF (shR (σ (b + 14)) (40 * i1)) (shR (σ (b + 15)) (40 * i1)) (shR (σ (b + 16)) (40 * i1)) (shR (σ (b + 17)) (40 * i1)) a1 a2) 0 (σ (b + 11) i1)) → At x v A Q 8 12 [(6, vI k), (5, vI n1), (0, .ref (vq v b)), (1, vI i1), (2, vI a1), (3, vI a2), (4, vI w1)] [] σ := by
    intro n
    induction n using Nat.strongRecOn with
    | _ n ih =>
      intro k n1 hn iv1 iv2 iv3
      refine a_iload C dX7_boundOf_12 0 rfl ?_
      refine a_aload_n C dX7_boundOf_14 2 rfl rfl ?_
      refine a_getf C hM.f0 hM.n0 (Cn := RX7) (T := TX7) (N := 30) rfl iX7 13 (by decide) k45 (w := .ref (vq v (b + 11))) rfl dX7_boundOf_15 ?_
      refine a_iload_n C dX7_boundOf_18 3 rfl rfl ?_
      refine a_iald C hM.f11 hM.n11 0 hM.tI (by omega) (by omega) (by decide) dX7_boundOf_19 (fun z19 e19 r19 => ?_)
      refine a_icmp_ge C 136 (by omega) r19 dX7_boundOf_20 (by decide) (fun c20 => ?_) (fun c20 => ?_)
      · skip
        refine a_iload C dX7_boundOf_136 1 rfl ?_
        have hz : n1 = (if w1 = 0 then moL σ b i1 a1 a2 else moH σ b i1 a1 a2) := by
          by_cases q : w1 = 0
          · rw [if_pos q]; have h9 := iv2 q; rw [smR_nil (by omega)] at h9; unfold moL; omega
          · rw [if_neg q]; have h9 := iv3 q; rw [smR_nil (by omega)] at h9; unfold moH; omega
        exact hret _ _ _ _ dX7_boundOf_138 (by rw [hz]; split <;> omega) ⟨hz, rfl⟩
      · skip
        refine a_aload_n C dX7_boundOf_23 2 rfl rfl ?_
        refine a_iload_n C dX7_boundOf_24 3 rfl rfl ?_
        refine a_iload C dX7_boundOf_25 0 rfl ?_
        refine a_iload_n C dX7_boundOf_27 4 rfl rfl ?_
        refine a_iload_n C dX7_boundOf_28 5 rfl rfl ?_
        refine a_cVI C (k0 := 4) (As := [vI i1, vI k, vI a1, vI a2]) (rest := []) (c_X7_asked x.2.1 v σ b hM i1 k a1 a2 hc (by omega) hq hE) gX7_boundOf_X7_asked rfl (by decide +kernel) (by decide) hM.f0 rfl hM.n0 rfl rfl (Nat.le_of_ble_eq_true rfl) dX7_boundOf_29 (fun z29 u29 r29 p29 => ?_)
        obtain ⟨e29, p29⟩ := p29
        subst u29
        have q29 := ltC_bd (shR (σ (b + 14)) (40 * i1)) (max (foF (shR (σ (b + 15)) (40 * i1)) k) a1) (min ((shR (σ (b + 15)) (40 * i1)) k) a2)
        rw [show ltC (shR (σ (b + 14)) (40 * i1)) (max (foF (shR (σ (b + 15)) (40 * i1)) k) a1) (min ((shR (σ (b + 15)) (40 * i1)) k) a2) = z29 from e29.symm] at q29
        skip
        refine a_istore C [(7, vI z29), (6, vI k), (5, vI n1), (0, .ref (vq v b)), (1, vI i1), (2, vI a1), (3, vI a2), (4, vI w1)] dX7_boundOf_32 (by decide) rfl ?_
        refine a_iload C dX7_boundOf_34 0 rfl ?_
        refine a_if_ne C 42 r29 dX7_boundOf_36 (by decide) (fun c36 => ?_) (fun c36 => ?_)
        · skip
          refine a_iload C dX7_boundOf_42 7 rfl ?_
          refine a_if_eq C 84 (by omega) dX7_boundOf_44 (by decide) (fun c44 => ?_) (fun c44 => ?_)
          · skip
            refine a_iload C dX7_boundOf_84 0 rfl ?_
            refine a_aload_n C dX7_boundOf_86 3 rfl rfl ?_
            refine a_iload_n C dX7_boundOf_87 4 rfl rfl ?_
            refine a_iload C dX7_boundOf_88 1 rfl ?_
            refine a_cVI C (k0 := 2) (As := [vI i1, vI k]) (rest := [vI z29]) (c_X7_longOf x.2.1 v σ b hM i1 k hc (by omega) hE) gX7_boundOf_X7_longOf rfl (by decide +kernel) (by decide) hM.f0 rfl hM.n0 rfl rfl (Nat.le_of_ble_eq_true rfl) dX7_boundOf_90 (fun z90 u90 r90 p90 => ?_)
            obtain ⟨e90, p90⟩ := p90
            subst u90
            have q90 := ltC_bd (shR (σ (b + 14)) (40 * i1)) (foF (shR (σ (b + 15)) (40 * i1)) k) ((shR (σ (b + 15)) (40 * i1)) k)
            rw [show ltC (shR (σ (b + 14)) (40 * i1)) (foF (shR (σ (b + 15)) (40 * i1)) k) ((shR (σ (b + 15)) (40 * i1)) k) = z90 from e90.symm] at q90
            refine a_icmp_ne C 130 r29 r90 dX7_boundOf_93 (by decide) (fun c93 => ?_) (fun c93 => ?_)
            · skip
              refine a_iinc C (k + 1) [(6, vI (k + 1)), (7, vI z29), (5, vI n1), (0, .ref (vq v b)), (1, vI i1), (2, vI a1), (3, vI a2), (4, vI w1)] dX7_boundOf_130 1 rfl (by omega) (by decide) rfl ?_
              refine a_goto C 12 dX7_boundOf_133 (by decide) ?_
              refine a_sub [0, 2, 3, 4, 5, 6, 7] [(6, vI (k + 1)), (5, vI n1), (0, .ref (vq v b)), (1, vI i1), (2, vI a1), (3, vI a2), (4, vI w1)] rfl ?_
              refine ih _ (by omega) _ _ rfl (by omega) (fun q => ?_) (fun q => ?_)
              · have h9 := iv2 q
                rw [smR_step (by omega)] at h9
                have h8 : lwF (shR (σ (b + 14)) (40 * i1)) (shR (σ (b + 15)) (40 * i1)) (shR (σ (b + 16)) (40 * i1)) (shR (σ (b + 17)) (40 * i1)) a1 a2 k = lwF (shR (σ (b + 14)) (40 * i1)) (shR (σ (b + 15)) (40 * i1)) (shR (σ (b + 16)) (40 * i1)) (shR (σ (b + 17)) (40 * i1)) a1 a2 k := rfl
                conv at h8 => rhs; unfold lwF
                (first | (exfalso; omega) | (rw [if_neg (by omega)] at h8; omega) | (rw [if_pos (by omega), ← e110, ← e122] at h8; omega))
              · have h9 := iv3 q
                rw [smR_step (by omega)] at h9
                have h8 : hiF (shR (σ (b + 14)) (40 * i1)) (shR (σ (b + 15)) (40 * i1)) (shR (σ (b + 16)) (40 * i1)) (shR (σ (b + 17)) (40 * i1)) a1 a2 k = hiF (shR (σ (b + 14)) (40 * i1)) (shR (σ (b + 15)) (40 * i1)) (shR (σ (b + 16)) (40 * i1)) (shR (σ (b + 17)) (40 * i1)) a1 a2 k := rfl
                conv at h8 => rhs; unfold hiF
                (first | (exfalso; omega) | (rw [if_neg (by omega)] at h8; omega) | (rw [if_pos (by omega), ← e61, ← e73] at h8; omega))
            · skip
              refine a_iload C dX7_boundOf_96 2 rfl ?_
              refine a_iconst C dX7_boundOf_98 ?_
              refine a_aload_n C dX7_boundOf_99 3 rfl rfl ?_
              refine a_getf C hM.f0 hM.n0 (Cn := RX7) (T := TX7) (N := 30) rfl iX7 18 (by decide) k61 (w := .ref (vq v (b + 16))) rfl dX7_boundOf_100 ?_
              refine a_bipush C dX7_boundOf_103 ?_
              refine a_iload_n C dX7_boundOf_105 4 rfl rfl ?_
              refine a_imul C dX7_boundOf_106 ?_
              refine a_iload C dX7_boundOf_107 1 rfl ?_
              refine a_iadd C dX7_boundOf_109 ?_
              refine a_iald C hM.f16 hM.n16 0 hM.tI (by omega) (by omega) (by decide) dX7_boundOf_110 (fun z110 e110 r110 => ?_)
              rw [shR_i (σ (b + 16)) (40 * i1) k _ rfl] at e110
              have b61 := hB k (by omega) (by omega)
              refine a_aload_n C dX7_boundOf_111 3 rfl rfl ?_
              refine a_getf C hM.f0 hM.n0 (Cn := RX7) (T := TX7) (N := 30) rfl iX7 19 (by decide) k64 (w := .ref (vq v (b + 17))) rfl dX7_boundOf_112 ?_
              refine a_bipush C dX7_boundOf_115 ?_
              refine a_iload_n C dX7_boundOf_117 4 rfl rfl ?_
              refine a_imul C dX7_boundOf_118 ?_
              refine a_iload C dX7_boundOf_119 1 rfl ?_
              refine a_iadd C dX7_boundOf_121 ?_
              refine a_iald C hM.f17 hM.n17 0 hM.tI (by omega) (by omega) (by decide) dX7_boundOf_122 (fun z122 e122 r122 => ?_)
              rw [shR_i (σ (b + 17)) (40 * i1) k _ rfl] at e122
              refine a_isub C dX7_boundOf_123 ?_
              refine a_mmax C (by decide) (by omega) (by decide +kernel) ⟨by decide, Nat.le_of_ble_eq_true rfl⟩ dX7_boundOf_124 ?_
              obtain ⟨z124, e124⟩ : ∃ w : Int, w = max 0 (z110 - z122) := ⟨_, rfl⟩
              rw [← e124]
              refine a_iadd C dX7_boundOf_127 ?_
              refine a_istore C [(5, vI (n1 + z124)), (7, vI z29), (6, vI k), (0, .ref (vq v b)), (1, vI i1), (2, vI a1), (3, vI a2), (4, vI w1)] dX7_boundOf_128 (by decide) rfl ?_
              refine a_iinc C (k + 1) [(6, vI (k + 1)), (5, vI (n1 + z124)), (7, vI z29), (0, .ref (vq v b)), (1, vI i1), (2, vI a1), (3, vI a2), (4, vI w1)] dX7_boundOf_130 2 rfl (by omega) (by decide) rfl ?_
              refine a_goto C 12 dX7_boundOf_133 (by decide) ?_
              refine a_sub [0, 1, 3, 4, 5, 6, 7] [(6, vI (k + 1)), (5, vI (n1 + z124)), (0, .ref (vq v b)), (1, vI i1), (2, vI a1), (3, vI a2), (4, vI w1)] rfl ?_
              refine ih _ (by omega) _ _ rfl (by omega) (fun q => ?_) (fun q => ?_)
              · have h9 := iv2 q
                rw [smR_step (by omega)] at h9
                have h8 : lwF (shR (σ (b + 14)) (40 * i1)) (shR (σ (b + 15)) (40 * i1)) (shR (σ (b + 16)) (40 * i1)) (shR (σ (b + 17)) (40 * i1)) a1 a2 k = lwF (shR (σ (b + 14)) (40 * i1)) (shR (σ (b + 15)) (40 * i1)) (shR (σ (b + 16)) (40 * i1)) (shR (σ (b + 17)) (40 * i1)) a1 a2 k := rfl
                conv at h8 => rhs; unfold lwF
                (first | (exfalso; omega) | (rw [if_neg (by omega)] at h8; omega) | (rw [if_pos (by omega), ← e110, ← e122] at h8; omega))
              · have h9 := iv3 q
                rw [smR_step (by omega)] at h9
                have h8 : hiF (shR (σ (b + 14)) (40 * i1)) (shR (σ (b + 15)) (40 * i1)) (shR (σ (b + 16)) (40 * i1)) (shR (σ (b + 17)) (40 * i1)) a1 a2 k = hiF (shR (σ (b + 14)) (40 * i1)) (shR (σ (b + 15)) (40 * i1)) (shR (σ (b + 16)) (40 * i1)) (shR (σ (b + 17)) (40 * i1)) a1 a2 k := rfl
                conv at h8 => rhs; unfold hiF
                (first | (exfalso; omega) | (rw [if_neg (by omega)] at h8; omega) | (rw [if_pos (by omega), ← e61, ← e73] at h8; omega))
          · skip
            refine a_iload C dX7_boundOf_47 2 rfl ?_
            refine a_iconst C dX7_boundOf_49 ?_
            refine a_aload_n C dX7_boundOf_50 3 rfl rfl ?_
            refine a_getf C hM.f0 hM.n0 (Cn := RX7) (T := TX7) (N := 30) rfl iX7 18 (by decide) k61 (w := .ref (vq v (b + 16))) rfl dX7_boundOf_51 ?_
            refine a_bipush C dX7_boundOf_54 ?_
            refine a_iload_n C dX7_boundOf_56 4 rfl rfl ?_
            refine a_imul C dX7_boundOf_57 ?_
            refine a_iload C dX7_boundOf_58 1 rfl ?_
            refine a_iadd C dX7_boundOf_60 ?_
            refine a_iald C hM.f16 hM.n16 0 hM.tI (by omega) (by omega) (by decide) dX7_boundOf_61 (fun z61 e61 r61 => ?_)
            rw [shR_i (σ (b + 16)) (40 * i1) k _ rfl] at e61
            have b61 := hB k (by omega) (by omega)
            refine a_aload_n C dX7_boundOf_62 3 rfl rfl ?_
            refine a_getf C hM.f0 hM.n0 (Cn := RX7) (T := TX7) (N := 30) rfl iX7 19 (by decide) k64 (w := .ref (vq v (b + 17))) rfl dX7_boundOf_63 ?_
            refine a_bipush C dX7_boundOf_66 ?_
            refine a_iload_n C dX7_boundOf_68 4 rfl rfl ?_
            refine a_imul C dX7_boundOf_69 ?_
            refine a_iload C dX7_boundOf_70 1 rfl ?_
            refine a_iadd C dX7_boundOf_72 ?_
            refine a_iald C hM.f17 hM.n17 0 hM.tI (by omega) (by omega) (by decide) dX7_boundOf_73 (fun z73 e73 r73 => ?_)
            rw [shR_i (σ (b + 17)) (40 * i1) k _ rfl] at e73
            refine a_iadd C dX7_boundOf_74 ?_
            refine a_mmax C (by decide) (by omega) (by decide +kernel) ⟨by decide, Nat.le_of_ble_eq_true rfl⟩ dX7_boundOf_75 ?_
            obtain ⟨z75, e75⟩ : ∃ w : Int, w = max 0 (z61 + z73) := ⟨_, rfl⟩
            rw [← e75]
            refine a_iadd C dX7_boundOf_78 ?_
            refine a_istore C [(5, vI (n1 + z75)), (7, vI z29), (6, vI k), (0, .ref (vq v b)), (1, vI i1), (2, vI a1), (3, vI a2), (4, vI w1)] dX7_boundOf_79 (by decide) rfl ?_
            refine a_goto C 130 dX7_boundOf_81 (by decide) ?_
            refine a_iinc C (k + 1) [(6, vI (k + 1)), (5, vI (n1 + z75)), (7, vI z29), (0, .ref (vq v b)), (1, vI i1), (2, vI a1), (3, vI a2), (4, vI w1)] dX7_boundOf_130 2 rfl (by omega) (by decide) rfl ?_
            refine a_goto C 12 dX7_boundOf_133 (by decide) ?_
            refine a_sub [0, 1, 3, 4, 5, 6, 7] [(6, vI (k + 1)), (5, vI (n1 + z75)), (0, .ref (vq v b)), (1, vI i1), (2, vI a1), (3, vI a2), (4, vI w1)] rfl ?_
            refine ih _ (by omega) _ _ rfl (by omega) (fun q => ?_) (fun q => ?_)
            · have h9 := iv2 q
              rw [smR_step (by omega)] at h9
              have h8 : lwF (shR (σ (b + 14)) (40 * i1)) (shR (σ (b + 15)) (40 * i1)) (shR (σ (b + 16)) (40 * i1)) (shR (σ (b + 17)) (40 * i1)) a1 a2 k = lwF (shR (σ (b + 14)) (40 * i1)) (shR (σ (b + 15)) (40 * i1)) (shR (σ (b + 16)) (40 * i1)) (shR (σ (b + 17)) (40 * i1)) a1 a2 k := rfl
              conv at h8 => rhs; unfold lwF
              (first | (exfalso; omega) | (rw [if_neg (by omega)] at h8; omega) | (rw [if_pos (by omega), ← e110, ← e122] at h8; omega))
            · have h9 := iv3 q
              rw [smR_step (by omega)] at h9
              have h8 : hiF (shR (σ (b + 14)) (40 * i1)) (shR (σ (b + 15)) (40 * i1)) (shR (σ (b + 16)) (40 * i1)) (shR (σ (b + 17)) (40 * i1)) a1 a2 k = hiF (shR (σ (b + 14)) (40 * i1)) (shR (σ (b + 15)) (40 * i1)) (shR (σ (b + 16)) (40 * i1)) (shR (σ (b + 17)) (40 * i1)) a1 a2 k := rfl
              conv at h8 => rhs; unfold hiF
              (first | (exfalso; omega) | (rw [if_neg (by omega)] at h8; omega) | (rw [if_pos (by omega), ← e61, ← e73] at h8; omega))
        · skip
          refine a_goto C 130 dX7_boundOf_39 (by decide) ?_
          refine a_iinc C (k + 1) [(6, vI (k + 1)), (7, vI z29), (5, vI n1), (0, .ref (vq v b)), (1, vI i1), (2, vI a1), (3, vI a2), (4, vI w1)] dX7_boundOf_130 1 rfl (by omega) (by decide) rfl ?_
          refine a_goto C 12 dX7_boundOf_133 (by decide) ?_
          refine a_sub [0, 2, 3, 4, 5, 6, 7] [(6, vI (k + 1)), (5, vI n1), (0, .ref (vq v b)), (1, vI i1), (2, vI a1), (3, vI a2), (4, vI w1)] rfl ?_
          refine ih _ (by omega) _ _ rfl (by omega) (fun q => ?_) (fun q => ?_)
          · have h9 := iv2 q
            rw [smR_step (by omega)] at h9
            have h8 : lwF (shR (σ (b + 14)) (40 * i1)) (shR (σ (b + 15)) (40 * i1)) (shR (σ (b + 16)) (40 * i1)) (shR (σ (b + 17)) (40 * i1)) a1 a2 k = lwF (shR (σ (b + 14)) (40 * i1)) (shR (σ (b + 15)) (40 * i1)) (shR (σ (b + 16)) (40 * i1)) (shR (σ (b + 17)) (40 * i1)) a1 a2 k := rfl
            conv at h8 => rhs; unfold lwF
            (first | (exfalso; omega) | (rw [if_neg (by omega)] at h8; omega) | (rw [if_pos (by omega), ← e110, ← e122] at h8; omega))
          · have h9 := iv3 q
            rw [smR_step (by omega)] at h9
            have h8 : hiF (shR (σ (b + 14)) (40 * i1)) (shR (σ (b + 15)) (40 * i1)) (shR (σ (b + 16)) (40 * i1)) (shR (σ (b + 17)) (40 * i1)) a1 a2 k = hiF (shR (σ (b + 14)) (40 * i1)) (shR (σ (b + 15)) (40 * i1)) (shR (σ (b + 16)) (40 * i1)) (shR (σ (b + 17)) (40 * i1)) a1 a2 k := rfl
            conv at h8 => rhs; unfold hiF
            (first | (exfalso; omega) | (rw [if_neg (by omega)] at h8; omega) | (rw [if_pos (by omega), ← e61, ← e73] at h8; omega))
  refine a_aload_n C dX7_boundOf_0 0 rfl rfl ?_
  refine a_iload_n C dX7_boundOf_1 1 rfl rfl ?_
  refine a_iload_n C dX7_boundOf_2 2 rfl rfl ?_
  refine a_iload_n C dX7_boundOf_3 3 rfl rfl ?_
  refine a_cVI C (k0 := 3) (As := [vI i1, vI a1, vI a2]) (rest := []) (c_X7_heavies x.2.1 v σ b hM i1 a1 a2 hc (by omega) (by omega) (by omega)) gX7_boundOf_X7_heavies rfl (by decide +kernel) (by decide) hM.f0 rfl hM.n0 rfl rfl (Nat.le_of_ble_eq_true rfl) dX7_boundOf_4 (fun z4 u4 r4 p4 => ?_)
  obtain ⟨e4, p4⟩ := p4
  subst u4
  refine a_istore C [(5, vI z4), (0, .ref (vq v b)), (1, vI i1), (2, vI a1), (3, vI a2), (4, vI w1)] dX7_boundOf_7 (by decide) rfl ?_
  refine a_iconst C dX7_boundOf_9 ?_
  refine a_istore C [(6, vI 0), (5, vI z4), (0, .ref (vq v b)), (1, vI i1), (2, vI a1), (3, vI a2), (4, vI w1)] dX7_boundOf_10 (by decide) rfl ?_
  exact lp _ 0 _ rfl (by omega) (fun _ => by rw [e4]) (fun _ => by rw [e4])
set_option maxHeartbeats 4000000 in
set_option maxRecDepth 100000 in
theorem c_X7_bound (l : Launch) (v : VC) (σ : Mem) (b : Nat) (hM : shMo v b) (i1 a1 a2 w1 : Int) (h1 : rg i1) (h2 : rg a1) (h3 : rg a2) (h4 : rg w1) (hK : ∀ c : Int, 0 ≤ c → c < 3 → moK σ b c) : CtI l yX7_bound wsX7_bound 3 76 v [.ref (vq v b), vI i1, vI a1, vI a2, vI w1] σ (fun z u => (if ¬ ((0 ≤ i1 ∧ i1 < 3) ∧ (0 ≤ a1 ∧ a1 ≤ a2 ∧ a2 ≤ 39)) then (z = -1 ∧ u = sput σ b 0 1) else (if (σ (b + 11) i1) = 0 then (z = -1 ∧ u = sput σ b 0 5) else (if w1 = 0 then (z = moL σ b i1 a1 a2 ∧ u = sput σ b 0 0) else (z = moH σ b i1 a1 a2 ∧ u = sput σ b 0 0))))) := by
  refine mkI (cc := cX7_bound) (n := 6) (by decide +kernel) rfl (Nat.le_of_ble_eq_true rfl) (fun x A Q hx C hret => ?_)
  subst hx
  show At x v A Q _ 0 [(0, .ref (vq v b)), (1, vI i1), (2, vI a1), (3, vI a2), (4, vI w1)] [] σ
  have iX7 : ∀ w ∈ wsX70, w ∈ wsX7_bound := by decide +kernel
  have k85 : Cond.fieldLink RX7 85 (TX7 0).1 (TX7 0).2.1 (TX7 0).2.2.1 ∈ wsX7_bound := by decide +kernel
  refine a_aload_n C dX7_bound_0 0 rfl rfl ?_
  refine a_iload_n C dX7_bound_1 1 rfl rfl ?_
  refine a_iload_n C dX7_bound_2 2 rfl rfl ?_
  refine a_iload_n C dX7_bound_3 3 rfl rfl ?_
  refine a_cVI C (k0 := 3) (As := [vI i1, vI a1, vI a2]) (rest := []) (c_X7_wrongAsk x.2.1 v σ b hM i1 a1 a2 (by omega) (by omega) (by omega)) gX7_bound_X7_wrongAsk rfl (by decide +kernel) (by decide) hM.f0 rfl hM.n0 rfl rfl (Nat.le_of_ble_eq_true rfl) dX7_bound_4 (fun z4 u4 r4 p4 => ?_)
  obtain ⟨e4, p4⟩ := p4
  subst u4
  have q4 := zq4 e4
  rcases q4 with ⟨h4, k4⟩ | ⟨h4, k4⟩ | ⟨h4, k4⟩ | ⟨h4, k4⟩ <;> subst h4
  · skip
    show At x v A Q _ 7 [(0, .ref (vq v b)), (1, vI i1), (2, vI a1), (3, vI a2), (4, vI w1)] [vI 1] σ
    refine a_istore C [(5, vI 1), (0, .ref (vq v b)), (1, vI i1), (2, vI a1), (3, vI a2), (4, vI w1)] dX7_bound_7 (by decide) rfl ?_
    refine a_iload C dX7_bound_9 0 rfl ?_
    refine a_if_le C 21 (by decide) dX7_bound_11 (by decide) (fun c11 => ?_) (fun c11 => ?_)
    · skip
      exfalso; omega
    · skip
      refine a_aload_n C dX7_bound_14 1 rfl rfl ?_
      refine a_iload C dX7_bound_15 0 rfl ?_
      refine a_cVI C (k0 := 1) (As := [vI 1]) (rest := []) (c_X7_refuse x.2.1 v σ b hM 1 (by omega)) gX7_bound_X7_refuse rfl (by decide +kernel) (by decide) hM.f0 rfl hM.n0 rfl rfl (Nat.le_of_ble_eq_true rfl) dX7_bound_17 (fun z17 u17 r17 p17 => ?_)
      obtain ⟨e17, p17⟩ := p17
      subst u17
      refine hret _ _ _ _ dX7_bound_20 r17 ?_
      (repeat (first | rw [if_pos (by omega)] | rw [if_neg (by omega)]))
      (first | exact ⟨by omega, rfl⟩ | (by_cases hw : w1 = 0; (rw [if_pos hw] at e32 ⊢; exact ⟨e32, rfl⟩); (rw [if_neg hw] at e32 ⊢; exact ⟨e32, rfl⟩)))
  · skip
    show At x v A Q _ 7 [(0, .ref (vq v b)), (1, vI i1), (2, vI a1), (3, vI a2), (4, vI w1)] [vI 1] σ
    refine a_istore C [(5, vI 1), (0, .ref (vq v b)), (1, vI i1), (2, vI a1), (3, vI a2), (4, vI w1)] dX7_bound_7 (by decide) rfl ?_
    refine a_iload C dX7_bound_9 0 rfl ?_
    refine a_if_le C 21 (by decide) dX7_bound_11 (by decide) (fun c11 => ?_) (fun c11 => ?_)
    · skip
      exfalso; omega
    · skip
      refine a_aload_n C dX7_bound_14 1 rfl rfl ?_
      refine a_iload C dX7_bound_15 0 rfl ?_
      refine a_cVI C (k0 := 1) (As := [vI 1]) (rest := []) (c_X7_refuse x.2.1 v σ b hM 1 (by omega)) gX7_bound_X7_refuse rfl (by decide +kernel) (by decide) hM.f0 rfl hM.n0 rfl rfl (Nat.le_of_ble_eq_true rfl) dX7_bound_17 (fun z17 u17 r17 p17 => ?_)
      obtain ⟨e17, p17⟩ := p17
      subst u17
      refine hret _ _ _ _ dX7_bound_20 r17 ?_
      (repeat (first | rw [if_pos (by omega)] | rw [if_neg (by omega)]))
      (first | exact ⟨by omega, rfl⟩ | (by_cases hw : w1 = 0; (rw [if_pos hw] at e32 ⊢; exact ⟨e32, rfl⟩); (rw [if_neg hw] at e32 ⊢; exact ⟨e32, rfl⟩)))
  · skip
    show At x v A Q _ 7 [(0, .ref (vq v b)), (1, vI i1), (2, vI a1), (3, vI a2), (4, vI w1)] [vI 5] σ
    refine a_istore C [(5, vI 5), (0, .ref (vq v b)), (1, vI i1), (2, vI a1), (3, vI a2), (4, vI w1)] dX7_bound_7 (by decide) rfl ?_
    refine a_iload C dX7_bound_9 0 rfl ?_
    refine a_if_le C 21 (by decide) dX7_bound_11 (by decide) (fun c11 => ?_) (fun c11 => ?_)
    · skip
      exfalso; omega
    · skip
      refine a_aload_n C dX7_bound_14 1 rfl rfl ?_
      refine a_iload C dX7_bound_15 0 rfl ?_
      refine a_cVI C (k0 := 1) (As := [vI 5]) (rest := []) (c_X7_refuse x.2.1 v σ b hM 5 (by omega)) gX7_bound_X7_refuse rfl (by decide +kernel) (by decide) hM.f0 rfl hM.n0 rfl rfl (Nat.le_of_ble_eq_true rfl) dX7_bound_17 (fun z17 u17 r17 p17 => ?_)
      obtain ⟨e17, p17⟩ := p17
      subst u17
      refine hret _ _ _ _ dX7_bound_20 r17 ?_
      (repeat (first | rw [if_pos (by omega)] | rw [if_neg (by omega)]))
      (first | exact ⟨by omega, rfl⟩ | (by_cases hw : w1 = 0; (rw [if_pos hw] at e32 ⊢; exact ⟨e32, rfl⟩); (rw [if_neg hw] at e32 ⊢; exact ⟨e32, rfl⟩)))
  · skip
    show At x v A Q _ 7 [(0, .ref (vq v b)), (1, vI i1), (2, vI a1), (3, vI a2), (4, vI w1)] [vI 0] σ
    refine a_istore C [(5, vI 0), (0, .ref (vq v b)), (1, vI i1), (2, vI a1), (3, vI a2), (4, vI w1)] dX7_bound_7 (by decide) rfl ?_
    refine a_iload C dX7_bound_9 0 rfl ?_
    refine a_if_le C 21 (by decide) dX7_bound_11 (by decide) (fun c11 => ?_) (fun c11 => ?_)
    · skip
      refine a_aload_n C dX7_bound_21 1 rfl rfl ?_
      refine a_iconst C dX7_bound_22 ?_
      refine a_puti C hM.f0 hM.n0 (Cn := RX7) (T := TX7) (N := 30) rfl iX7 tyX7_ok nmX7 0 (by decide) k85 rfl rfl 0 (by decide) (fun _ => Nat.le_of_ble_eq_true rfl) (fun _ => rfl) dX7_bound_23 ?_
      refine a_aload_n C dX7_bound_26 1 rfl rfl ?_
      refine a_iload_n C dX7_bound_27 2 rfl rfl ?_
      refine a_iload_n C dX7_bound_28 3 rfl rfl ?_
      refine a_iload_n C dX7_bound_29 4 rfl rfl ?_
      refine a_iload C dX7_bound_30 5 rfl ?_
      refine a_cVI C (k0 := 4) (As := [vI i1, vI a1, vI a2, vI w1]) (rest := []) (c_X7_boundOf x.2.1 v (sput σ b 0 0) b hM i1 a1 a2 w1 (by omega) (by omega) (by omega) (moK_st (hK i1 (by omega) (by omega))) (by rw [sput_r (by omega)]; omega)) gX7_bound_X7_boundOf rfl (by decide +kernel) (by decide) hM.f0 rfl hM.n0 rfl rfl (Nat.le_of_ble_eq_true rfl) dX7_bound_32 (fun z32 u32 r32 p32 => ?_)
      obtain ⟨e32, p32⟩ := p32
      subst u32
      try simp [sput_r, mset_n, sput, mset] at e32
      rw [moL_st, moH_st] at e32
      refine hret _ _ _ _ dX7_bound_35 r32 ?_
      (repeat (first | rw [if_pos (by omega)] | rw [if_neg (by omega)]))
      (first | exact ⟨by omega, rfl⟩ | (by_cases hw : w1 = 0; (rw [if_pos hw] at e32 ⊢; exact ⟨e32, rfl⟩); (rw [if_neg hw] at e32 ⊢; exact ⟨e32, rfl⟩)))
    · skip
      exfalso; omega
set_option maxHeartbeats 4000000 in
set_option maxRecDepth 100000 in
theorem c_X7_common (l : Launch) (v : VC) (σ : Mem) (a1 b1 : Int) (ha : -9223372036854775807 ≤ a1 ∧ a1 ≤ 9223372036854775807) (hb : 0 < b1 ∧ b1 ≤ 9223372036854775807) : CtL l yX7_common wsX7_common 0 0 v [vJ a1, vJ b1] σ (fun z u => z = gcI a1 b1 ∧ u = σ) := by
  refine mkL (cc := cX7_common) (n := 10) (by decide +kernel) rfl (Nat.le_of_ble_eq_true rfl) (fun x A Q hx C hret => ?_)
  subst hx
  show At x v A Q _ 0 [(0, vJ a1), (2, vJ b1)] [] σ
  have lp : ∀ (n : Nat) (sm gr : Int) , (sm).toNat = n → 0 ≤ gr → gr ≤ 9223372036854775807 → 0 ≤ sm → sm ≤ 9223372036854775807 → gcI gr sm = gcI a1 b1 → (sm = 0 → True) → At x v A Q 10 17 [(6, vJ sm), (4, vJ gr), (0, vJ a1), (2, vJ b1)] [] σ := by
    intro n
    induction n using Nat.strongRecOn with
    | _ n ih =>
      intro sm gr hn ig ig2 is is2 ic ip
      refine a_lload C dX7_common_17 0 rfl ?_
      refine a_lconst C 0 dX7_common_19 rfl ?_
      refine a_lcmp C (by omega) (by decide) dX7_common_20 (fun z20 e20 r20 => ?_)
      refine a_if_eq C 42 r20 dX7_common_21 (by decide) (fun c21 => ?_) (fun c21 => ?_)
      · skip
        refine a_lload C dX7_common_42 1 rfl ?_
        have hsm : sm = 0 := by omega
        subst hsm
        exact hret _ _ _ _ dX7_common_44 (by omega) ⟨by rw [← ic, gcI_zero _ ig], rfl⟩
      · skip
        refine a_lload C dX7_common_24 1 rfl ?_
        refine a_lload C dX7_common_26 0 rfl ?_
        have hem := eu_mod (g := gr) (s := sm) ig (by omega)
        have hm0 := Int.emod_nonneg gr (show sm ≠ 0 by omega)
        have hm1 := Int.emod_lt_of_pos gr (show 0 < sm by omega)
        refine a_lrem C (by omega) (by omega) (by omega) dX7_common_28 ?_
        refine a_lstore C [(8, vJ (gr.tmod sm)), (6, vJ sm), (4, vJ gr), (0, vJ a1), (2, vJ b1)] dX7_common_29 (by decide) rfl ?_
        refine a_lload C dX7_common_31 1 rfl ?_
        refine a_lstore C [(4, vJ sm), (8, vJ (gr.tmod sm)), (6, vJ sm), (0, vJ a1), (2, vJ b1)] dX7_common_33 (by decide) rfl ?_
        refine a_lload C dX7_common_35 1 rfl ?_
        refine a_lstore C [(6, vJ (gr.tmod sm)), (4, vJ sm), (8, vJ (gr.tmod sm)), (0, vJ a1), (2, vJ b1)] dX7_common_37 (by decide) rfl ?_
        refine a_goto C 17 dX7_common_39 (by decide) ?_
        refine a_sub [0, 1, 3, 4] [(6, vJ (gr.tmod sm)), (4, vJ sm), (0, vJ a1), (2, vJ b1)] rfl ?_
        refine ih _ (by omega) _ _ rfl (by omega) (by omega) (by omega) (by omega) ?_ (fun _ => trivial)
        rw [eu_gcd ig (by omega)]; exact ic
  refine a_lload_n C dX7_common_0 0 rfl rfl ?_
  refine a_lconst C 0 dX7_common_1 rfl ?_
  refine a_lcmp C (by omega) (by decide) dX7_common_2 (fun z2 e2 r2 => ?_)
  refine a_if_ge C 11 r2 dX7_common_3 (by decide) (fun c3 => ?_) (fun c3 => ?_)
  · skip
    refine a_lload_n C dX7_common_11 0 rfl rfl ?_
    refine a_lstore C [(4, vJ a1), (0, vJ a1), (2, vJ b1)] dX7_common_12 (by decide) rfl ?_
    refine a_lload_n C dX7_common_14 2 rfl rfl ?_
    refine a_lstore C [(6, vJ b1), (4, vJ a1), (0, vJ a1), (2, vJ b1)] dX7_common_15 (by decide) rfl ?_
    exact lp _ _ _ rfl (by omega) (by omega) (by omega) (by omega) (by (first | rfl | (unfold gcI; congr 2; omega))) (fun _ => trivial)
  · skip
    refine a_lload_n C dX7_common_6 0 rfl rfl ?_
    refine a_lneg C dX7_common_7 ?_
    refine a_goto C 12 dX7_common_8 (by decide) ?_
    refine a_lstore C [(4, vJ (-a1)), (0, vJ a1), (2, vJ b1)] dX7_common_12 (by decide) rfl ?_
    refine a_lload_n C dX7_common_14 2 rfl rfl ?_
    refine a_lstore C [(6, vJ b1), (4, vJ (-a1)), (0, vJ a1), (2, vJ b1)] dX7_common_15 (by decide) rfl ?_
    exact lp _ _ _ rfl (by omega) (by omega) (by omega) (by omega) (by (first | rfl | (unfold gcI; congr 2; omega))) (fun _ => trivial)
set_option maxHeartbeats 4000000 in
set_option maxRecDepth 100000 in
theorem c_X7_tells (l : Launch) (v : VC) (σ : Mem) (b : Nat) (hM : shMo v b) (a1 b1 : Int) (ha : -9223372036854775807 ≤ a1 ∧ a1 ≤ 9223372036854775807) (hb : 0 < b1 ∧ b1 ≤ 9223372036854775807) : CtI l yX7_tells wsX7_tells 0 0 v [.ref (vq v b), vJ a1, vJ b1] σ (fun z u => z = sgI a1 ∧ u = sput (sput (sput σ b 100001 (frN a1 b1)) b 100002 (frD a1 b1)) b 0 0) := by
  refine mkI (cc := cX7_tells) (n := 11) (by decide +kernel) rfl (Nat.le_of_ble_eq_true rfl) (fun x A Q hx C hret => ?_)
  subst hx
  show At x v A Q _ 0 [(0, .ref (vq v b)), (1, vJ a1), (3, vJ b1)] [] σ
  have iX7 : ∀ w ∈ wsX70, w ∈ wsX7_tells := by decide +kernel
  have k89 : Cond.fieldLink RX7 89 (TX7 1).1 (TX7 1).2.1 (TX7 1).2.2.1 ∈ wsX7_tells := by decide +kernel
  have k7 : Cond.fieldLink RX7 7 (TX7 2).1 (TX7 2).2.1 (TX7 2).2.2.1 ∈ wsX7_tells := by decide +kernel
  have k85 : Cond.fieldLink RX7 85 (TX7 0).1 (TX7 0).2.1 (TX7 0).2.2.1 ∈ wsX7_tells := by decide +kernel
  have g1 := gcI_pos (a := a1) hb.1
  have g2 := gcI_le (a := a1) hb.1
  have g3 := frN_bd (a := a1) (M := 9223372036854775807) hb.1 (by omega) (by omega) (by decide)
  have g4 := frD_pos (a := a1) hb.1
  have g5 := frD_le (a := a1) hb.1
  have lp : ∀ (n : Nat) (sm gr : Int) , (sm).toNat = n → 0 ≤ gr → gr ≤ 9223372036854775807 → 0 ≤ sm → sm ≤ 9223372036854775807 → gcI gr sm = gcI a1 b1 → (sm = 0 → True) → At x v A Q 11 17 [(7, vJ sm), (5, vJ gr), (0, .ref (vq v b)), (1, vJ a1), (3, vJ b1)] [] σ := by
    intro n
    induction n using Nat.strongRecOn with
    | _ n ih =>
      intro sm gr hn ig ig2 is is2 ic ip
      refine a_lload C dX7_tells_17 0 rfl ?_
      refine a_lconst C 0 dX7_tells_19 rfl ?_
      refine a_lcmp C (by omega) (by decide) dX7_tells_20 (fun z20 e20 r20 => ?_)
      refine a_if_eq C 42 r20 dX7_tells_21 (by decide) (fun c21 => ?_) (fun c21 => ?_)
      · skip
        have hsm : sm = 0 := by omega
        subst hsm
        have hgr : gr = gcI a1 b1 := by rw [← ic, gcI_zero _ ig]
        subst hgr
        have g6 : a1.tdiv (gcI a1 b1) = frN a1 b1 := tdiv_dvd (by omega) (gcI_dl a1 b1)
        have g7 : b1.tdiv (gcI a1 b1) = frD a1 b1 := tdiv_dvd (by omega) (gcI_dr a1 b1)
        refine a_aload_n C dX7_tells_42 2 rfl rfl ?_
        refine a_lload_n C dX7_tells_43 3 rfl rfl ?_
        refine a_lload C dX7_tells_44 1 rfl ?_
        refine a_ldiv C (by omega) (by omega) (by omega) dX7_tells_46 ?_
        refine a_putl C hM.f0 hM.n0 (Cn := RX7) (T := TX7) (N := 30) rfl iX7 tyX7_ok nmX7 1 (by decide) k89 rfl rfl 100001 (by decide) (by rw [g6]; omega) (fun _ => Nat.le_of_ble_eq_true rfl) (fun _ => rfl) dX7_tells_47 ?_
        refine a_aload_n C dX7_tells_50 2 rfl rfl ?_
        refine a_lload_n C dX7_tells_51 4 rfl rfl ?_
        refine a_lload C dX7_tells_52 1 rfl ?_
        refine a_ldiv C (by omega) (by omega) (by omega) dX7_tells_54 ?_
        refine a_putl C hM.f0 hM.n0 (Cn := RX7) (T := TX7) (N := 30) rfl iX7 tyX7_ok nmX7 2 (by decide) k7 rfl rfl 100002 (by decide) (by rw [g7]; omega) (fun _ => Nat.le_of_ble_eq_true rfl) (fun _ => rfl) dX7_tells_55 ?_
        refine a_aload_n C dX7_tells_58 2 rfl rfl ?_
        refine a_iconst C dX7_tells_59 ?_
        refine a_puti C hM.f0 hM.n0 (Cn := RX7) (T := TX7) (N := 30) rfl iX7 tyX7_ok nmX7 0 (by decide) k85 rfl rfl 0 (by decide) (fun _ => Nat.le_of_ble_eq_true rfl) (fun _ => rfl) dX7_tells_60 ?_
        refine a_lload_n C dX7_tells_63 3 rfl rfl ?_
        refine a_lconst C 0 dX7_tells_64 rfl ?_
        refine a_lcmp C (by omega) (by decide) dX7_tells_65 (fun z65 e65 r65 => ?_)
        refine a_if_le C 73 r65 dX7_tells_66 (by decide) (fun c66 => ?_) (fun c66 => ?_)
        · skip
          refine a_lload_n C dX7_tells_73 3 rfl rfl ?_
          refine a_lconst C 0 dX7_tells_74 rfl ?_
          refine a_lcmp C (by omega) (by decide) dX7_tells_75 (fun z75 e75 r75 => ?_)
          refine a_if_ge C 83 r75 dX7_tells_76 (by decide) (fun c76 => ?_) (fun c76 => ?_)
          · skip
            refine a_iconst C dX7_tells_83 ?_
            exact hret _ _ _ _ dX7_tells_84 (by decide) ⟨by unfold sgI; (first | rw [if_pos (by omega)] | (rw [if_neg (by omega)]; (first | rw [if_pos (by omega)] | rw [if_neg (by omega)]))), by rw [g6, g7]⟩
          · skip
            refine a_iconst C dX7_tells_79 ?_
            refine a_goto C 84 dX7_tells_80 (by decide) ?_
            exact hret _ _ _ _ dX7_tells_84 (by decide) ⟨by unfold sgI; (first | rw [if_pos (by omega)] | (rw [if_neg (by omega)]; (first | rw [if_pos (by omega)] | rw [if_neg (by omega)]))), by rw [g6, g7]⟩
        · skip
          refine a_iconst C dX7_tells_69 ?_
          refine a_goto C 84 dX7_tells_70 (by decide) ?_
          exact hret _ _ _ _ dX7_tells_84 (by decide) ⟨by unfold sgI; (first | rw [if_pos (by omega)] | (rw [if_neg (by omega)]; (first | rw [if_pos (by omega)] | rw [if_neg (by omega)]))), by rw [g6, g7]⟩
      · skip
        refine a_lload C dX7_tells_24 1 rfl ?_
        refine a_lload C dX7_tells_26 0 rfl ?_
        have hem := eu_mod (g := gr) (s := sm) ig (by omega)
        have hm0 := Int.emod_nonneg gr (show sm ≠ 0 by omega)
        have hm1 := Int.emod_lt_of_pos gr (show 0 < sm by omega)
        refine a_lrem C (by omega) (by omega) (by omega) dX7_tells_28 ?_
        refine a_lstore C [(9, vJ (gr.tmod sm)), (7, vJ sm), (5, vJ gr), (0, .ref (vq v b)), (1, vJ a1), (3, vJ b1)] dX7_tells_29 (by decide) rfl ?_
        refine a_lload C dX7_tells_31 1 rfl ?_
        refine a_lstore C [(5, vJ sm), (9, vJ (gr.tmod sm)), (7, vJ sm), (0, .ref (vq v b)), (1, vJ a1), (3, vJ b1)] dX7_tells_33 (by decide) rfl ?_
        refine a_lload C dX7_tells_35 1 rfl ?_
        refine a_lstore C [(7, vJ (gr.tmod sm)), (5, vJ sm), (9, vJ (gr.tmod sm)), (0, .ref (vq v b)), (1, vJ a1), (3, vJ b1)] dX7_tells_37 (by decide) rfl ?_
        refine a_goto C 17 dX7_tells_39 (by decide) ?_
        refine a_sub [0, 1, 3, 4, 5] [(7, vJ (gr.tmod sm)), (5, vJ sm), (0, .ref (vq v b)), (1, vJ a1), (3, vJ b1)] rfl ?_
        refine ih _ (by omega) _ _ rfl (by omega) (by omega) (by omega) (by omega) ?_ (fun _ => trivial)
        rw [eu_gcd ig (by omega)]; exact ic
  refine a_lload_n C dX7_tells_0 1 rfl rfl ?_
  refine a_lconst C 0 dX7_tells_1 rfl ?_
  refine a_lcmp C (by omega) (by decide) dX7_tells_2 (fun z2 e2 r2 => ?_)
  refine a_if_ge C 11 r2 dX7_tells_3 (by decide) (fun c3 => ?_) (fun c3 => ?_)
  · skip
    refine a_lload_n C dX7_tells_11 1 rfl rfl ?_
    refine a_lstore C [(5, vJ a1), (0, .ref (vq v b)), (1, vJ a1), (3, vJ b1)] dX7_tells_12 (by decide) rfl ?_
    refine a_lload_n C dX7_tells_14 3 rfl rfl ?_
    refine a_lstore C [(7, vJ b1), (5, vJ a1), (0, .ref (vq v b)), (1, vJ a1), (3, vJ b1)] dX7_tells_15 (by decide) rfl ?_
    exact lp _ _ _ rfl (by omega) (by omega) (by omega) (by omega) (by (first | rfl | (unfold gcI; congr 2; omega))) (fun _ => trivial)
  · skip
    refine a_lload_n C dX7_tells_6 1 rfl rfl ?_
    refine a_lneg C dX7_tells_7 ?_
    refine a_goto C 12 dX7_tells_8 (by decide) ?_
    refine a_lstore C [(5, vJ (-a1)), (0, .ref (vq v b)), (1, vJ a1), (3, vJ b1)] dX7_tells_12 (by decide) rfl ?_
    refine a_lload_n C dX7_tells_14 3 rfl rfl ?_
    refine a_lstore C [(7, vJ b1), (5, vJ (-a1)), (0, .ref (vq v b)), (1, vJ a1), (3, vJ b1)] dX7_tells_15 (by decide) rfl ?_
    exact lp _ _ _ rfl (by omega) (by omega) (by omega) (by omega) (by (first | rfl | (unfold gcI; congr 2; omega))) (fun _ => trivial)
set_option maxHeartbeats 4000000 in
set_option maxRecDepth 100000 in
theorem c_X7_harm (l : Launch) (v : VC) (σ : Mem) (b : Nat) (hM : shMo v b) (i1 a1 a2 i2 b1 b2 : Int) (h1 : rg i1) (h2 : rg a1) (h3 : rg a2) (h4 : rg i2) (h5 : rg b1) (h6 : rg b2) (hK : ∀ c : Int, 0 ≤ c → c < 3 → moK σ b c) : CtI l yX7_harm wsX7_harm 3 76 v [.ref (vq v b), vI i1, vI a1, vI a2, vI i2, vI b1, vI b2] σ (fun z u => (if ¬ ((0 ≤ i1 ∧ i1 < 3) ∧ (0 ≤ i2 ∧ i2 < 3) ∧ (0 ≤ a1 ∧ a1 ≤ a2 ∧ a2 ≤ 39) ∧ (0 ≤ b1 ∧ b1 ≤ b2 ∧ b2 ≤ 39)) then (z = -1 ∧ u = sput σ b 0 1) else (if (σ (b + 11) i1) = 0 ∨ σ (b + 11) i2 = 0 then (z = -1 ∧ u = sput σ b 0 5) else (z = sgI (moH σ b i1 a1 a2) ∧ u = sput (sput (sput σ b 100001 (frN (moH σ b i1 a1 a2) (max 1 (moL σ b i2 b1 b2)))) b 100002 (frD (moH σ b i1 a1 a2) (max 1 (moL σ b i2 b1 b2)))) b 0 0)))) := by
  refine mkI (cc := cX7_harm) (n := 9) (by decide +kernel) rfl (Nat.le_of_ble_eq_true rfl) (fun x A Q hx C hret => ?_)
  subst hx
  show At x v A Q _ 0 [(0, .ref (vq v b)), (1, vI i1), (2, vI a1), (3, vI a2), (4, vI i2), (5, vI b1), (6, vI b2)] [] σ
  refine a_aload_n C dX7_harm_0 0 rfl rfl ?_
  refine a_iload_n C dX7_harm_1 1 rfl rfl ?_
  refine a_iload_n C dX7_harm_2 2 rfl rfl ?_
  refine a_iload_n C dX7_harm_3 3 rfl rfl ?_
  refine a_cVI C (k0 := 3) (As := [vI i1, vI a1, vI a2]) (rest := []) (c_X7_wrongAsk x.2.1 v σ b hM i1 a1 a2 (by omega) (by omega) (by omega)) gX7_harm_X7_wrongAsk rfl (by decide +kernel) (by decide) hM.f0 rfl hM.n0 rfl rfl (Nat.le_of_ble_eq_true rfl) dX7_harm_4 (fun z4 u4 r4 p4 => ?_)
  obtain ⟨e4, p4⟩ := p4
  subst u4
  have q4 := zq4 e4
  rcases q4 with ⟨h4, k4⟩ | ⟨h4, k4⟩ | ⟨h4, k4⟩ | ⟨h4, k4⟩ <;> subst h4
  · skip
    show At x v A Q _ 7 [(0, .ref (vq v b)), (1, vI i1), (2, vI a1), (3, vI a2), (4, vI i2), (5, vI b1), (6, vI b2)] [vI 1] σ
    refine a_istore C [(7, vI 1), (0, .ref (vq v b)), (1, vI i1), (2, vI a1), (3, vI a2), (4, vI i2), (5, vI b1), (6, vI b2)] dX7_harm_7 (by decide) rfl ?_
    refine a_aload_n C dX7_harm_9 1 rfl rfl ?_
    refine a_iload C dX7_harm_10 5 rfl ?_
    refine a_iload C dX7_harm_12 6 rfl ?_
    refine a_iload C dX7_harm_14 7 rfl ?_
    refine a_cVI C (k0 := 3) (As := [vI i2, vI b1, vI b2]) (rest := []) (c_X7_wrongAsk x.2.1 v σ b hM i2 b1 b2 (by omega) (by omega) (by omega)) gX7_harm_X7_wrongAsk rfl (by decide +kernel) (by decide) hM.f0 rfl hM.n0 rfl rfl (Nat.le_of_ble_eq_true rfl) dX7_harm_16 (fun z16 u16 r16 p16 => ?_)
    obtain ⟨e16, p16⟩ := p16
    subst u16
    have q16 := zq4 e16
    rcases q16 with ⟨h16, k16⟩ | ⟨h16, k16⟩ | ⟨h16, k16⟩ | ⟨h16, k16⟩ <;> subst h16
    · skip
      show At x v A Q _ 19 [(7, vI 1), (0, .ref (vq v b)), (1, vI i1), (2, vI a1), (3, vI a2), (4, vI i2), (5, vI b1), (6, vI b2)] [vI 1] σ
      refine a_istore C [(8, vI 1), (7, vI 1), (0, .ref (vq v b)), (1, vI i1), (2, vI a1), (3, vI a2), (4, vI i2), (5, vI b1), (6, vI b2)] dX7_harm_19 (by decide) rfl ?_
      refine a_iload C dX7_harm_21 1 rfl ?_
      refine a_iconst C dX7_harm_23 ?_
      refine a_icmp_eq C 33 (by decide) (by decide) dX7_harm_24 (by decide) (fun c24 => ?_) (fun c24 => ?_)
      · skip
        refine a_aload_n C dX7_harm_33 2 rfl rfl ?_
        refine a_iconst C dX7_harm_34 ?_
        refine a_cVI C (k0 := 1) (As := [vI 1]) (rest := []) (c_X7_refuse x.2.1 v σ b hM 1 (by omega)) gX7_harm_X7_refuse rfl (by decide +kernel) (by decide) hM.f0 rfl hM.n0 rfl rfl (Nat.le_of_ble_eq_true rfl) dX7_harm_35 (fun z35 u35 r35 p35 => ?_)
        obtain ⟨e35, p35⟩ := p35
        subst u35
        refine hret _ _ _ _ dX7_harm_38 r35 ?_
        (repeat (first | rw [if_pos (by omega)] | rw [if_neg (by omega)]))
        (first | exact ⟨by omega, rfl⟩ | exact ⟨by rw [e81, e61], by rw [e77, e61, e74]⟩)
      · skip
        exfalso; omega
    · skip
      show At x v A Q _ 19 [(7, vI 1), (0, .ref (vq v b)), (1, vI i1), (2, vI a1), (3, vI a2), (4, vI i2), (5, vI b1), (6, vI b2)] [vI 1] σ
      refine a_istore C [(8, vI 1), (7, vI 1), (0, .ref (vq v b)), (1, vI i1), (2, vI a1), (3, vI a2), (4, vI i2), (5, vI b1), (6, vI b2)] dX7_harm_19 (by decide) rfl ?_
      refine a_iload C dX7_harm_21 1 rfl ?_
      refine a_iconst C dX7_harm_23 ?_
      refine a_icmp_eq C 33 (by decide) (by decide) dX7_harm_24 (by decide) (fun c24 => ?_) (fun c24 => ?_)
      · skip
        refine a_aload_n C dX7_harm_33 2 rfl rfl ?_
        refine a_iconst C dX7_harm_34 ?_
        refine a_cVI C (k0 := 1) (As := [vI 1]) (rest := []) (c_X7_refuse x.2.1 v σ b hM 1 (by omega)) gX7_harm_X7_refuse rfl (by decide +kernel) (by decide) hM.f0 rfl hM.n0 rfl rfl (Nat.le_of_ble_eq_true rfl) dX7_harm_35 (fun z35 u35 r35 p35 => ?_)
        obtain ⟨e35, p35⟩ := p35
        subst u35
        refine hret _ _ _ _ dX7_harm_38 r35 ?_
        (repeat (first | rw [if_pos (by omega)] | rw [if_neg (by omega)]))
        (first | exact ⟨by omega, rfl⟩ | exact ⟨by rw [e81, e61], by rw [e77, e61, e74]⟩)
      · skip
        exfalso; omega
    · skip
      show At x v A Q _ 19 [(7, vI 1), (0, .ref (vq v b)), (1, vI i1), (2, vI a1), (3, vI a2), (4, vI i2), (5, vI b1), (6, vI b2)] [vI 5] σ
      refine a_istore C [(8, vI 5), (7, vI 1), (0, .ref (vq v b)), (1, vI i1), (2, vI a1), (3, vI a2), (4, vI i2), (5, vI b1), (6, vI b2)] dX7_harm_19 (by decide) rfl ?_
      refine a_iload C dX7_harm_21 1 rfl ?_
      refine a_iconst C dX7_harm_23 ?_
      refine a_icmp_eq C 33 (by decide) (by decide) dX7_harm_24 (by decide) (fun c24 => ?_) (fun c24 => ?_)
      · skip
        refine a_aload_n C dX7_harm_33 2 rfl rfl ?_
        refine a_iconst C dX7_harm_34 ?_
        refine a_cVI C (k0 := 1) (As := [vI 1]) (rest := []) (c_X7_refuse x.2.1 v σ b hM 1 (by omega)) gX7_harm_X7_refuse rfl (by decide +kernel) (by decide) hM.f0 rfl hM.n0 rfl rfl (Nat.le_of_ble_eq_true rfl) dX7_harm_35 (fun z35 u35 r35 p35 => ?_)
        obtain ⟨e35, p35⟩ := p35
        subst u35
        refine hret _ _ _ _ dX7_harm_38 r35 ?_
        (repeat (first | rw [if_pos (by omega)] | rw [if_neg (by omega)]))
        (first | exact ⟨by omega, rfl⟩ | exact ⟨by rw [e81, e61], by rw [e77, e61, e74]⟩)
      · skip
        exfalso; omega
    · skip
      show At x v A Q _ 19 [(7, vI 1), (0, .ref (vq v b)), (1, vI i1), (2, vI a1), (3, vI a2), (4, vI i2), (5, vI b1), (6, vI b2)] [vI 0] σ
      refine a_istore C [(8, vI 0), (7, vI 1), (0, .ref (vq v b)), (1, vI i1), (2, vI a1), (3, vI a2), (4, vI i2), (5, vI b1), (6, vI b2)] dX7_harm_19 (by decide) rfl ?_
      refine a_iload C dX7_harm_21 1 rfl ?_
      refine a_iconst C dX7_harm_23 ?_
      refine a_icmp_eq C 33 (by decide) (by decide) dX7_harm_24 (by decide) (fun c24 => ?_) (fun c24 => ?_)
      · skip
        refine a_aload_n C dX7_harm_33 2 rfl rfl ?_
        refine a_iconst C dX7_harm_34 ?_
        refine a_cVI C (k0 := 1) (As := [vI 1]) (rest := []) (c_X7_refuse x.2.1 v σ b hM 1 (by omega)) gX7_harm_X7_refuse rfl (by decide +kernel) (by decide) hM.f0 rfl hM.n0 rfl rfl (Nat.le_of_ble_eq_true rfl) dX7_harm_35 (fun z35 u35 r35 p35 => ?_)
        obtain ⟨e35, p35⟩ := p35
        subst u35
        refine hret _ _ _ _ dX7_harm_38 r35 ?_
        (repeat (first | rw [if_pos (by omega)] | rw [if_neg (by omega)]))
        (first | exact ⟨by omega, rfl⟩ | exact ⟨by rw [e81, e61], by rw [e77, e61, e74]⟩)
      · skip
        exfalso; omega
  · skip
    show At x v A Q _ 7 [(0, .ref (vq v b)), (1, vI i1), (2, vI a1), (3, vI a2), (4, vI i2), (5, vI b1), (6, vI b2)] [vI 1] σ
    refine a_istore C [(7, vI 1), (0, .ref (vq v b)), (1, vI i1), (2, vI a1), (3, vI a2), (4, vI i2), (5, vI b1), (6, vI b2)] dX7_harm_7 (by decide) rfl ?_
    refine a_aload_n C dX7_harm_9 1 rfl rfl ?_
    refine a_iload C dX7_harm_10 5 rfl ?_
    refine a_iload C dX7_harm_12 6 rfl ?_
    refine a_iload C dX7_harm_14 7 rfl ?_
    refine a_cVI C (k0 := 3) (As := [vI i2, vI b1, vI b2]) (rest := []) (c_X7_wrongAsk x.2.1 v σ b hM i2 b1 b2 (by omega) (by omega) (by omega)) gX7_harm_X7_wrongAsk rfl (by decide +kernel) (by decide) hM.f0 rfl hM.n0 rfl rfl (Nat.le_of_ble_eq_true rfl) dX7_harm_16 (fun z16 u16 r16 p16 => ?_)
    obtain ⟨e16, p16⟩ := p16
    subst u16
    have q16 := zq4 e16
    rcases q16 with ⟨h16, k16⟩ | ⟨h16, k16⟩ | ⟨h16, k16⟩ | ⟨h16, k16⟩ <;> subst h16
    · skip
      show At x v A Q _ 19 [(7, vI 1), (0, .ref (vq v b)), (1, vI i1), (2, vI a1), (3, vI a2), (4, vI i2), (5, vI b1), (6, vI b2)] [vI 1] σ
      refine a_istore C [(8, vI 1), (7, vI 1), (0, .ref (vq v b)), (1, vI i1), (2, vI a1), (3, vI a2), (4, vI i2), (5, vI b1), (6, vI b2)] dX7_harm_19 (by decide) rfl ?_
      refine a_iload C dX7_harm_21 1 rfl ?_
      refine a_iconst C dX7_harm_23 ?_
      refine a_icmp_eq C 33 (by decide) (by decide) dX7_harm_24 (by decide) (fun c24 => ?_) (fun c24 => ?_)
      · skip
        refine a_aload_n C dX7_harm_33 2 rfl rfl ?_
        refine a_iconst C dX7_harm_34 ?_
        refine a_cVI C (k0 := 1) (As := [vI 1]) (rest := []) (c_X7_refuse x.2.1 v σ b hM 1 (by omega)) gX7_harm_X7_refuse rfl (by decide +kernel) (by decide) hM.f0 rfl hM.n0 rfl rfl (Nat.le_of_ble_eq_true rfl) dX7_harm_35 (fun z35 u35 r35 p35 => ?_)
        obtain ⟨e35, p35⟩ := p35
        subst u35
        refine hret _ _ _ _ dX7_harm_38 r35 ?_
        (repeat (first | rw [if_pos (by omega)] | rw [if_neg (by omega)]))
        (first | exact ⟨by omega, rfl⟩ | exact ⟨by rw [e81, e61], by rw [e77, e61, e74]⟩)
      · skip
        exfalso; omega
    · skip
      show At x v A Q _ 19 [(7, vI 1), (0, .ref (vq v b)), (1, vI i1), (2, vI a1), (3, vI a2), (4, vI i2), (5, vI b1), (6, vI b2)] [vI 1] σ
      refine a_istore C [(8, vI 1), (7, vI 1), (0, .ref (vq v b)), (1, vI i1), (2, vI a1), (3, vI a2), (4, vI i2), (5, vI b1), (6, vI b2)] dX7_harm_19 (by decide) rfl ?_
      refine a_iload C dX7_harm_21 1 rfl ?_
      refine a_iconst C dX7_harm_23 ?_
      refine a_icmp_eq C 33 (by decide) (by decide) dX7_harm_24 (by decide) (fun c24 => ?_) (fun c24 => ?_)
      · skip
        refine a_aload_n C dX7_harm_33 2 rfl rfl ?_
        refine a_iconst C dX7_harm_34 ?_
        refine a_cVI C (k0 := 1) (As := [vI 1]) (rest := []) (c_X7_refuse x.2.1 v σ b hM 1 (by omega)) gX7_harm_X7_refuse rfl (by decide +kernel) (by decide) hM.f0 rfl hM.n0 rfl rfl (Nat.le_of_ble_eq_true rfl) dX7_harm_35 (fun z35 u35 r35 p35 => ?_)
        obtain ⟨e35, p35⟩ := p35
        subst u35
        refine hret _ _ _ _ dX7_harm_38 r35 ?_
        (repeat (first | rw [if_pos (by omega)] | rw [if_neg (by omega)]))
        (first | exact ⟨by omega, rfl⟩ | exact ⟨by rw [e81, e61], by rw [e77, e61, e74]⟩)
      · skip
        exfalso; omega
    · skip
      show At x v A Q _ 19 [(7, vI 1), (0, .ref (vq v b)), (1, vI i1), (2, vI a1), (3, vI a2), (4, vI i2), (5, vI b1), (6, vI b2)] [vI 5] σ
      refine a_istore C [(8, vI 5), (7, vI 1), (0, .ref (vq v b)), (1, vI i1), (2, vI a1), (3, vI a2), (4, vI i2), (5, vI b1), (6, vI b2)] dX7_harm_19 (by decide) rfl ?_
      refine a_iload C dX7_harm_21 1 rfl ?_
      refine a_iconst C dX7_harm_23 ?_
      refine a_icmp_eq C 33 (by decide) (by decide) dX7_harm_24 (by decide) (fun c24 => ?_) (fun c24 => ?_)
      · skip
        refine a_aload_n C dX7_harm_33 2 rfl rfl ?_
        refine a_iconst C dX7_harm_34 ?_
        refine a_cVI C (k0 := 1) (As := [vI 1]) (rest := []) (c_X7_refuse x.2.1 v σ b hM 1 (by omega)) gX7_harm_X7_refuse rfl (by decide +kernel) (by decide) hM.f0 rfl hM.n0 rfl rfl (Nat.le_of_ble_eq_true rfl) dX7_harm_35 (fun z35 u35 r35 p35 => ?_)
        obtain ⟨e35, p35⟩ := p35
        subst u35
        refine hret _ _ _ _ dX7_harm_38 r35 ?_
        (repeat (first | rw [if_pos (by omega)] | rw [if_neg (by omega)]))
        (first | exact ⟨by omega, rfl⟩ | exact ⟨by rw [e81, e61], by rw [e77, e61, e74]⟩)
      · skip
        exfalso; omega
    · skip
      show At x v A Q _ 19 [(7, vI 1), (0, .ref (vq v b)), (1, vI i1), (2, vI a1), (3, vI a2), (4, vI i2), (5, vI b1), (6, vI b2)] [vI 0] σ
      refine a_istore C [(8, vI 0), (7, vI 1), (0, .ref (vq v b)), (1, vI i1), (2, vI a1), (3, vI a2), (4, vI i2), (5, vI b1), (6, vI b2)] dX7_harm_19 (by decide) rfl ?_
      refine a_iload C dX7_harm_21 1 rfl ?_
      refine a_iconst C dX7_harm_23 ?_
      refine a_icmp_eq C 33 (by decide) (by decide) dX7_harm_24 (by decide) (fun c24 => ?_) (fun c24 => ?_)
      · skip
        refine a_aload_n C dX7_harm_33 2 rfl rfl ?_
        refine a_iconst C dX7_harm_34 ?_
        refine a_cVI C (k0 := 1) (As := [vI 1]) (rest := []) (c_X7_refuse x.2.1 v σ b hM 1 (by omega)) gX7_harm_X7_refuse rfl (by decide +kernel) (by decide) hM.f0 rfl hM.n0 rfl rfl (Nat.le_of_ble_eq_true rfl) dX7_harm_35 (fun z35 u35 r35 p35 => ?_)
        obtain ⟨e35, p35⟩ := p35
        subst u35
        refine hret _ _ _ _ dX7_harm_38 r35 ?_
        (repeat (first | rw [if_pos (by omega)] | rw [if_neg (by omega)]))
        (first | exact ⟨by omega, rfl⟩ | exact ⟨by rw [e81, e61], by rw [e77, e61, e74]⟩)
      · skip
        exfalso; omega
  · skip
    show At x v A Q _ 7 [(0, .ref (vq v b)), (1, vI i1), (2, vI a1), (3, vI a2), (4, vI i2), (5, vI b1), (6, vI b2)] [vI 5] σ
    refine a_istore C [(7, vI 5), (0, .ref (vq v b)), (1, vI i1), (2, vI a1), (3, vI a2), (4, vI i2), (5, vI b1), (6, vI b2)] dX7_harm_7 (by decide) rfl ?_
    refine a_aload_n C dX7_harm_9 1 rfl rfl ?_
    refine a_iload C dX7_harm_10 5 rfl ?_
    refine a_iload C dX7_harm_12 6 rfl ?_
    refine a_iload C dX7_harm_14 7 rfl ?_
    refine a_cVI C (k0 := 3) (As := [vI i2, vI b1, vI b2]) (rest := []) (c_X7_wrongAsk x.2.1 v σ b hM i2 b1 b2 (by omega) (by omega) (by omega)) gX7_harm_X7_wrongAsk rfl (by decide +kernel) (by decide) hM.f0 rfl hM.n0 rfl rfl (Nat.le_of_ble_eq_true rfl) dX7_harm_16 (fun z16 u16 r16 p16 => ?_)
    obtain ⟨e16, p16⟩ := p16
    subst u16
    have q16 := zq4 e16
    rcases q16 with ⟨h16, k16⟩ | ⟨h16, k16⟩ | ⟨h16, k16⟩ | ⟨h16, k16⟩ <;> subst h16
    · skip
      show At x v A Q _ 19 [(7, vI 5), (0, .ref (vq v b)), (1, vI i1), (2, vI a1), (3, vI a2), (4, vI i2), (5, vI b1), (6, vI b2)] [vI 1] σ
      refine a_istore C [(8, vI 1), (7, vI 5), (0, .ref (vq v b)), (1, vI i1), (2, vI a1), (3, vI a2), (4, vI i2), (5, vI b1), (6, vI b2)] dX7_harm_19 (by decide) rfl ?_
      refine a_iload C dX7_harm_21 1 rfl ?_
      refine a_iconst C dX7_harm_23 ?_
      refine a_icmp_eq C 33 (by decide) (by decide) dX7_harm_24 (by decide) (fun c24 => ?_) (fun c24 => ?_)
      · skip
        exfalso; omega
      · skip
        refine a_iload C dX7_harm_27 0 rfl ?_
        refine a_iconst C dX7_harm_29 ?_
        refine a_icmp_ne C 39 (by decide) (by decide) dX7_harm_30 (by decide) (fun c30 => ?_) (fun c30 => ?_)
        · skip
          exfalso; omega
        · skip
          refine a_aload_n C dX7_harm_33 2 rfl rfl ?_
          refine a_iconst C dX7_harm_34 ?_
          refine a_cVI C (k0 := 1) (As := [vI 1]) (rest := []) (c_X7_refuse x.2.1 v σ b hM 1 (by omega)) gX7_harm_X7_refuse rfl (by decide +kernel) (by decide) hM.f0 rfl hM.n0 rfl rfl (Nat.le_of_ble_eq_true rfl) dX7_harm_35 (fun z35 u35 r35 p35 => ?_)
          obtain ⟨e35, p35⟩ := p35
          subst u35
          refine hret _ _ _ _ dX7_harm_38 r35 ?_
          (repeat (first | rw [if_pos (by omega)] | rw [if_neg (by omega)]))
          (first | exact ⟨by omega, rfl⟩ | exact ⟨by rw [e81, e61], by rw [e77, e61, e74]⟩)
    · skip
      show At x v A Q _ 19 [(7, vI 5), (0, .ref (vq v b)), (1, vI i1), (2, vI a1), (3, vI a2), (4, vI i2), (5, vI b1), (6, vI b2)] [vI 1] σ
      refine a_istore C [(8, vI 1), (7, vI 5), (0, .ref (vq v b)), (1, vI i1), (2, vI a1), (3, vI a2), (4, vI i2), (5, vI b1), (6, vI b2)] dX7_harm_19 (by decide) rfl ?_
      refine a_iload C dX7_harm_21 1 rfl ?_
      refine a_iconst C dX7_harm_23 ?_
      refine a_icmp_eq C 33 (by decide) (by decide) dX7_harm_24 (by decide) (fun c24 => ?_) (fun c24 => ?_)
      · skip
        exfalso; omega
      · skip
        refine a_iload C dX7_harm_27 0 rfl ?_
        refine a_iconst C dX7_harm_29 ?_
        refine a_icmp_ne C 39 (by decide) (by decide) dX7_harm_30 (by decide) (fun c30 => ?_) (fun c30 => ?_)
        · skip
          exfalso; omega
        · skip
          refine a_aload_n C dX7_harm_33 2 rfl rfl ?_
          refine a_iconst C dX7_harm_34 ?_
          refine a_cVI C (k0 := 1) (As := [vI 1]) (rest := []) (c_X7_refuse x.2.1 v σ b hM 1 (by omega)) gX7_harm_X7_refuse rfl (by decide +kernel) (by decide) hM.f0 rfl hM.n0 rfl rfl (Nat.le_of_ble_eq_true rfl) dX7_harm_35 (fun z35 u35 r35 p35 => ?_)
          obtain ⟨e35, p35⟩ := p35
          subst u35
          refine hret _ _ _ _ dX7_harm_38 r35 ?_
          (repeat (first | rw [if_pos (by omega)] | rw [if_neg (by omega)]))
          (first | exact ⟨by omega, rfl⟩ | exact ⟨by rw [e81, e61], by rw [e77, e61, e74]⟩)
    · skip
      show At x v A Q _ 19 [(7, vI 5), (0, .ref (vq v b)), (1, vI i1), (2, vI a1), (3, vI a2), (4, vI i2), (5, vI b1), (6, vI b2)] [vI 5] σ
      refine a_istore C [(8, vI 5), (7, vI 5), (0, .ref (vq v b)), (1, vI i1), (2, vI a1), (3, vI a2), (4, vI i2), (5, vI b1), (6, vI b2)] dX7_harm_19 (by decide) rfl ?_
      refine a_iload C dX7_harm_21 1 rfl ?_
      refine a_iconst C dX7_harm_23 ?_
      refine a_icmp_eq C 33 (by decide) (by decide) dX7_harm_24 (by decide) (fun c24 => ?_) (fun c24 => ?_)
      · skip
        exfalso; omega
      · skip
        refine a_iload C dX7_harm_27 0 rfl ?_
        refine a_iconst C dX7_harm_29 ?_
        refine a_icmp_ne C 39 (by decide) (by decide) dX7_harm_30 (by decide) (fun c30 => ?_) (fun c30 => ?_)
        · skip
          refine a_iload C dX7_harm_39 1 rfl ?_
          refine a_if_gt C 49 (by decide) dX7_harm_41 (by decide) (fun c41 => ?_) (fun c41 => ?_)
          · skip
            refine a_aload_n C dX7_harm_49 2 rfl rfl ?_
            refine a_iconst C dX7_harm_50 ?_
            refine a_cVI C (k0 := 1) (As := [vI 5]) (rest := []) (c_X7_refuse x.2.1 v σ b hM 5 (by omega)) gX7_harm_X7_refuse rfl (by decide +kernel) (by decide) hM.f0 rfl hM.n0 rfl rfl (Nat.le_of_ble_eq_true rfl) dX7_harm_51 (fun z51 u51 r51 p51 => ?_)
            obtain ⟨e51, p51⟩ := p51
            subst u51
            refine hret _ _ _ _ dX7_harm_54 r51 ?_
            (repeat (first | rw [if_pos (by omega)] | rw [if_neg (by omega)]))
            (first | exact ⟨by omega, rfl⟩ | exact ⟨by rw [e81, e61], by rw [e77, e61, e74]⟩)
          · skip
            exfalso; omega
        · skip
          exfalso; omega
    · skip
      show At x v A Q _ 19 [(7, vI 5), (0, .ref (vq v b)), (1, vI i1), (2, vI a1), (3, vI a2), (4, vI i2), (5, vI b1), (6, vI b2)] [vI 0] σ
      refine a_istore C [(8, vI 0), (7, vI 5), (0, .ref (vq v b)), (1, vI i1), (2, vI a1), (3, vI a2), (4, vI i2), (5, vI b1), (6, vI b2)] dX7_harm_19 (by decide) rfl ?_
      refine a_iload C dX7_harm_21 1 rfl ?_
      refine a_iconst C dX7_harm_23 ?_
      refine a_icmp_eq C 33 (by decide) (by decide) dX7_harm_24 (by decide) (fun c24 => ?_) (fun c24 => ?_)
      · skip
        exfalso; omega
      · skip
        refine a_iload C dX7_harm_27 0 rfl ?_
        refine a_iconst C dX7_harm_29 ?_
        refine a_icmp_ne C 39 (by decide) (by decide) dX7_harm_30 (by decide) (fun c30 => ?_) (fun c30 => ?_)
        · skip
          refine a_iload C dX7_harm_39 1 rfl ?_
          refine a_if_gt C 49 (by decide) dX7_harm_41 (by decide) (fun c41 => ?_) (fun c41 => ?_)
          · skip
            refine a_aload_n C dX7_harm_49 2 rfl rfl ?_
            refine a_iconst C dX7_harm_50 ?_
            refine a_cVI C (k0 := 1) (As := [vI 5]) (rest := []) (c_X7_refuse x.2.1 v σ b hM 5 (by omega)) gX7_harm_X7_refuse rfl (by decide +kernel) (by decide) hM.f0 rfl hM.n0 rfl rfl (Nat.le_of_ble_eq_true rfl) dX7_harm_51 (fun z51 u51 r51 p51 => ?_)
            obtain ⟨e51, p51⟩ := p51
            subst u51
            refine hret _ _ _ _ dX7_harm_54 r51 ?_
            (repeat (first | rw [if_pos (by omega)] | rw [if_neg (by omega)]))
            (first | exact ⟨by omega, rfl⟩ | exact ⟨by rw [e81, e61], by rw [e77, e61, e74]⟩)
          · skip
            exfalso; omega
        · skip
          exfalso; omega
  · skip
    show At x v A Q _ 7 [(0, .ref (vq v b)), (1, vI i1), (2, vI a1), (3, vI a2), (4, vI i2), (5, vI b1), (6, vI b2)] [vI 0] σ
    refine a_istore C [(7, vI 0), (0, .ref (vq v b)), (1, vI i1), (2, vI a1), (3, vI a2), (4, vI i2), (5, vI b1), (6, vI b2)] dX7_harm_7 (by decide) rfl ?_
    refine a_aload_n C dX7_harm_9 1 rfl rfl ?_
    refine a_iload C dX7_harm_10 5 rfl ?_
    refine a_iload C dX7_harm_12 6 rfl ?_
    refine a_iload C dX7_harm_14 7 rfl ?_
    refine a_cVI C (k0 := 3) (As := [vI i2, vI b1, vI b2]) (rest := []) (c_X7_wrongAsk x.2.1 v σ b hM i2 b1 b2 (by omega) (by omega) (by omega)) gX7_harm_X7_wrongAsk rfl (by decide +kernel) (by decide) hM.f0 rfl hM.n0 rfl rfl (Nat.le_of_ble_eq_true rfl) dX7_harm_16 (fun z16 u16 r16 p16 => ?_)
    obtain ⟨e16, p16⟩ := p16
    subst u16
    have q16 := zq4 e16
    rcases q16 with ⟨h16, k16⟩ | ⟨h16, k16⟩ | ⟨h16, k16⟩ | ⟨h16, k16⟩ <;> subst h16
    · skip
      show At x v A Q _ 19 [(7, vI 0), (0, .ref (vq v b)), (1, vI i1), (2, vI a1), (3, vI a2), (4, vI i2), (5, vI b1), (6, vI b2)] [vI 1] σ
      refine a_istore C [(8, vI 1), (7, vI 0), (0, .ref (vq v b)), (1, vI i1), (2, vI a1), (3, vI a2), (4, vI i2), (5, vI b1), (6, vI b2)] dX7_harm_19 (by decide) rfl ?_
      refine a_iload C dX7_harm_21 1 rfl ?_
      refine a_iconst C dX7_harm_23 ?_
      refine a_icmp_eq C 33 (by decide) (by decide) dX7_harm_24 (by decide) (fun c24 => ?_) (fun c24 => ?_)
      · skip
        exfalso; omega
      · skip
        refine a_iload C dX7_harm_27 0 rfl ?_
        refine a_iconst C dX7_harm_29 ?_
        refine a_icmp_ne C 39 (by decide) (by decide) dX7_harm_30 (by decide) (fun c30 => ?_) (fun c30 => ?_)
        · skip
          exfalso; omega
        · skip
          refine a_aload_n C dX7_harm_33 2 rfl rfl ?_
          refine a_iconst C dX7_harm_34 ?_
          refine a_cVI C (k0 := 1) (As := [vI 1]) (rest := []) (c_X7_refuse x.2.1 v σ b hM 1 (by omega)) gX7_harm_X7_refuse rfl (by decide +kernel) (by decide) hM.f0 rfl hM.n0 rfl rfl (Nat.le_of_ble_eq_true rfl) dX7_harm_35 (fun z35 u35 r35 p35 => ?_)
          obtain ⟨e35, p35⟩ := p35
          subst u35
          refine hret _ _ _ _ dX7_harm_38 r35 ?_
          (repeat (first | rw [if_pos (by omega)] | rw [if_neg (by omega)]))
          (first | exact ⟨by omega, rfl⟩ | exact ⟨by rw [e81, e61], by rw [e77, e61, e74]⟩)
    · skip
      show At x v A Q _ 19 [(7, vI 0), (0, .ref (vq v b)), (1, vI i1), (2, vI a1), (3, vI a2), (4, vI i2), (5, vI b1), (6, vI b2)] [vI 1] σ
      refine a_istore C [(8, vI 1), (7, vI 0), (0, .ref (vq v b)), (1, vI i1), (2, vI a1), (3, vI a2), (4, vI i2), (5, vI b1), (6, vI b2)] dX7_harm_19 (by decide) rfl ?_
      refine a_iload C dX7_harm_21 1 rfl ?_
      refine a_iconst C dX7_harm_23 ?_
      refine a_icmp_eq C 33 (by decide) (by decide) dX7_harm_24 (by decide) (fun c24 => ?_) (fun c24 => ?_)
      · skip
        exfalso; omega
      · skip
        refine a_iload C dX7_harm_27 0 rfl ?_
        refine a_iconst C dX7_harm_29 ?_
        refine a_icmp_ne C 39 (by decide) (by decide) dX7_harm_30 (by decide) (fun c30 => ?_) (fun c30 => ?_)
        · skip
          exfalso; omega
        · skip
          refine a_aload_n C dX7_harm_33 2 rfl rfl ?_
          refine a_iconst C dX7_harm_34 ?_
          refine a_cVI C (k0 := 1) (As := [vI 1]) (rest := []) (c_X7_refuse x.2.1 v σ b hM 1 (by omega)) gX7_harm_X7_refuse rfl (by decide +kernel) (by decide) hM.f0 rfl hM.n0 rfl rfl (Nat.le_of_ble_eq_true rfl) dX7_harm_35 (fun z35 u35 r35 p35 => ?_)
          obtain ⟨e35, p35⟩ := p35
          subst u35
          refine hret _ _ _ _ dX7_harm_38 r35 ?_
          (repeat (first | rw [if_pos (by omega)] | rw [if_neg (by omega)]))
          (first | exact ⟨by omega, rfl⟩ | exact ⟨by rw [e81, e61], by rw [e77, e61, e74]⟩)
    · skip
      show At x v A Q _ 19 [(7, vI 0), (0, .ref (vq v b)), (1, vI i1), (2, vI a1), (3, vI a2), (4, vI i2), (5, vI b1), (6, vI b2)] [vI 5] σ
      refine a_istore C [(8, vI 5), (7, vI 0), (0, .ref (vq v b)), (1, vI i1), (2, vI a1), (3, vI a2), (4, vI i2), (5, vI b1), (6, vI b2)] dX7_harm_19 (by decide) rfl ?_
      refine a_iload C dX7_harm_21 1 rfl ?_
      refine a_iconst C dX7_harm_23 ?_
      refine a_icmp_eq C 33 (by decide) (by decide) dX7_harm_24 (by decide) (fun c24 => ?_) (fun c24 => ?_)
      · skip
        exfalso; omega
      · skip
        refine a_iload C dX7_harm_27 0 rfl ?_
        refine a_iconst C dX7_harm_29 ?_
        refine a_icmp_ne C 39 (by decide) (by decide) dX7_harm_30 (by decide) (fun c30 => ?_) (fun c30 => ?_)
        · skip
          refine a_iload C dX7_harm_39 1 rfl ?_
          refine a_if_gt C 49 (by decide) dX7_harm_41 (by decide) (fun c41 => ?_) (fun c41 => ?_)
          · skip
            exfalso; omega
          · skip
            refine a_iload C dX7_harm_44 0 rfl ?_
            refine a_if_le C 55 (by decide) dX7_harm_46 (by decide) (fun c46 => ?_) (fun c46 => ?_)
            · skip
              exfalso; omega
            · skip
              refine a_aload_n C dX7_harm_49 2 rfl rfl ?_
              refine a_iconst C dX7_harm_50 ?_
              refine a_cVI C (k0 := 1) (As := [vI 5]) (rest := []) (c_X7_refuse x.2.1 v σ b hM 5 (by omega)) gX7_harm_X7_refuse rfl (by decide +kernel) (by decide) hM.f0 rfl hM.n0 rfl rfl (Nat.le_of_ble_eq_true rfl) dX7_harm_51 (fun z51 u51 r51 p51 => ?_)
              obtain ⟨e51, p51⟩ := p51
              subst u51
              refine hret _ _ _ _ dX7_harm_54 r51 ?_
              (repeat (first | rw [if_pos (by omega)] | rw [if_neg (by omega)]))
              (first | exact ⟨by omega, rfl⟩ | exact ⟨by rw [e81, e61], by rw [e77, e61, e74]⟩)
        · skip
          exfalso; omega
    · skip
      show At x v A Q _ 19 [(7, vI 0), (0, .ref (vq v b)), (1, vI i1), (2, vI a1), (3, vI a2), (4, vI i2), (5, vI b1), (6, vI b2)] [vI 0] σ
      refine a_istore C [(8, vI 0), (7, vI 0), (0, .ref (vq v b)), (1, vI i1), (2, vI a1), (3, vI a2), (4, vI i2), (5, vI b1), (6, vI b2)] dX7_harm_19 (by decide) rfl ?_
      refine a_iload C dX7_harm_21 1 rfl ?_
      refine a_iconst C dX7_harm_23 ?_
      refine a_icmp_eq C 33 (by decide) (by decide) dX7_harm_24 (by decide) (fun c24 => ?_) (fun c24 => ?_)
      · skip
        exfalso; omega
      · skip
        refine a_iload C dX7_harm_27 0 rfl ?_
        refine a_iconst C dX7_harm_29 ?_
        refine a_icmp_ne C 39 (by decide) (by decide) dX7_harm_30 (by decide) (fun c30 => ?_) (fun c30 => ?_)
        · skip
          refine a_iload C dX7_harm_39 1 rfl ?_
          refine a_if_gt C 49 (by decide) dX7_harm_41 (by decide) (fun c41 => ?_) (fun c41 => ?_)
          · skip
            exfalso; omega
          · skip
            refine a_iload C dX7_harm_44 0 rfl ?_
            refine a_if_le C 55 (by decide) dX7_harm_46 (by decide) (fun c46 => ?_) (fun c46 => ?_)
            · skip
              refine a_aload_n C dX7_harm_55 2 rfl rfl ?_
              refine a_aload_n C dX7_harm_56 2 rfl rfl ?_
              refine a_iload_n C dX7_harm_57 3 rfl rfl ?_
              refine a_iload_n C dX7_harm_58 4 rfl rfl ?_
              refine a_iload_n C dX7_harm_59 5 rfl rfl ?_
              refine a_iconst C dX7_harm_60 ?_
              refine a_cVI C (k0 := 4) (As := [vI i1, vI a1, vI a2, vI 1]) (rest := [.ref (vq v b)]) (c_X7_boundOf x.2.1 v σ b hM i1 a1 a2 1 (by omega) (by omega) (by decide) (hK i1 (by omega) (by omega)) (by omega)) gX7_harm_X7_boundOf rfl (by decide +kernel) (by decide) hM.f0 rfl hM.n0 rfl rfl (Nat.le_of_ble_eq_true rfl) dX7_harm_61 (fun z61 u61 r61 p61 => ?_)
              obtain ⟨e61, p61⟩ := p61
              subst u61
              rw [if_neg (by decide)] at e61
              have y1 := hK i1 (by omega) (by omega)
              have b61 := (moL_bd y1.2.2.1 y1.2.2.2.1 y1.1 a1 a2).2
              rw [← e61] at b61
              refine a_i2l C r61 dX7_harm_64 ?_
              refine a_iconst C dX7_harm_65 ?_
              refine a_aload_n C dX7_harm_66 2 rfl rfl ?_
              refine a_iload C dX7_harm_67 6 rfl ?_
              refine a_iload C dX7_harm_69 7 rfl ?_
              refine a_iload C dX7_harm_71 8 rfl ?_
              refine a_iconst C dX7_harm_73 ?_
              refine a_cVI C (k0 := 4) (As := [vI i2, vI b1, vI b2, vI 0]) (rest := [vI 1, vJ z61, .ref (vq v b)]) (c_X7_boundOf x.2.1 v σ b hM i2 b1 b2 0 (by omega) (by omega) (by decide) (hK i2 (by omega) (by omega)) (by omega)) gX7_harm_X7_boundOf rfl (by decide +kernel) (by decide) hM.f0 rfl hM.n0 rfl rfl (Nat.le_of_ble_eq_true rfl) dX7_harm_74 (fun z74 u74 r74 p74 => ?_)
              obtain ⟨e74, p74⟩ := p74
              subst u74
              rw [if_pos rfl] at e74
              have y2 := hK i2 (by omega) (by omega)
              have b74 := (moL_bd y2.2.2.1 y2.2.2.2.1 y2.1 b1 b2).1
              rw [← e74] at b74
              refine a_mmax C (by decide) r74 (by decide +kernel) ⟨by decide, Nat.le_of_ble_eq_true rfl⟩ dX7_harm_77 ?_
              obtain ⟨z77, e77⟩ : ∃ w : Int, w = max 1 z74 := ⟨_, rfl⟩
              rw [← e77]
              refine a_i2l C (by omega) dX7_harm_80 ?_
              refine a_cVI C (k0 := 2) (As := [vJ z61, vJ z77]) (rest := []) (c_X7_tells x.2.1 v σ b hM z61 z77 (by omega) (by omega)) gX7_harm_X7_tells rfl (by decide +kernel) (by decide) hM.f0 rfl hM.n0 rfl rfl (Nat.le_of_ble_eq_true rfl) dX7_harm_81 (fun z81 u81 r81 p81 => ?_)
              obtain ⟨e81, p81⟩ := p81
              subst u81
              refine hret _ _ _ _ dX7_harm_84 r81 ?_
              (repeat (first | rw [if_pos (by omega)] | rw [if_neg (by omega)]))
              (first | exact ⟨by omega, rfl⟩ | exact ⟨by rw [e81, e61], by rw [e77, e61, e74]⟩)
            · skip
              exfalso; omega
        · skip
          exfalso; omega
