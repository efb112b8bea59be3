/-! ===== the model's GUESS and JOIN ===== -/
/-- one span's part of the model's guess, not cut -/
def mgF (h e c : Int → Int) (a1 a2 k : Int) (s : Int × Int) : Int × Int :=
  if askF h e a1 a2 k = 0 then s else if askF h e a1 a2 k = loN h e k then (s.1 + s.2 * c k, s.2) else (s.1 * loN h e k + s.2 * c k * askF h e a1 a2 k, s.2 * loN h e k)
def moG (σ : Mem) (b : Nat) (cl a1 a2 : Int) : Int × Int := itrR (mgF (shR (σ (b + 14)) (40 * cl)) (shR (σ (b + 15)) (40 * cl)) (shR (σ (b + 16)) (40 * cl)) a1 a2) 0 (σ (b + 11) cl) (hvS (shR (σ (b + 14)) (40 * cl)) (shR (σ (b + 13)) (40 * cl)) a1 a2, 1)
set_option maxHeartbeats 4000000 in
set_option maxRecDepth 100000 in
theorem c_X7_guess (l : Launch) (v : VC) (σ : Mem) (b : Nat) (hM : shMo v b) (i1 a1 a2 : Int) (h1 : rg i1) (h2 : rg a1) (h3 : rg a2) (hK : ∀ c : Int, 0 ≤ c → c < 3 → moK σ b c) (hG : (0 ≤ i1 ∧ i1 < 3) → (0 ≤ a1 ∧ a1 ≤ a2 ∧ a2 ≤ 39) → (σ (b + 11) i1) ≠ 0 → (-9223372036854775807 ≤ (moG σ b i1 a1 a2).1 ∧ (moG σ b i1 a1 a2).1 ≤ 9223372036854775807) ∧ 0 < (moG σ b i1 a1 a2).2 ∧ (moG σ b i1 a1 a2).2 ≤ 9223372036854775807) : CtI l yX7_guess wsX7_guess 3 64 v [.ref (vq v b), vI i1, vI a1, vI a2] σ (fun z u => (if ¬ ((0 ≤ i1 ∧ i1 < 3) ∧ (0 ≤ a1 ∧ a1 ≤ a2 ∧ a2 ≤ 39)) then (z = -1 ∧ u = sput σ b 0 1) else (if (σ (b + 11) i1) = 0 then (z = -1 ∧ u = sput σ b 0 5) else (z = sgI (moG σ b i1 a1 a2).1 ∧ u = sput (sput (sput σ b 100001 (frN (moG σ b i1 a1 a2).1 (moG σ b i1 a1 a2).2)) b 100002 (frD (moG σ b i1 a1 a2).1 (moG σ b i1 a1 a2).2)) b 0 0)))) := by
  refine mkI (cc := cX7_guess) (n := 14) (by decide +kernel) rfl (Nat.le_of_ble_eq_true rfl) (fun x A Q hx C hret => ?_)
  subst hx
  show At x v A Q _ 0 [(0, .ref (vq v b)), (1, vI i1), (2, vI a1), (3, vI a2)] [] σ
  have iX7 : ∀ w ∈ wsX70, w ∈ wsX7_guess := by decide +kernel
  have k45 : Cond.fieldLink RX7 45 (TX7 13).1 (TX7 13).2.1 (TX7 13).2.2.1 ∈ wsX7_guess := by decide +kernel
  have k61 : Cond.fieldLink RX7 61 (TX7 18).1 (TX7 18).2.1 (TX7 18).2.2.1 ∈ wsX7_guess := by decide +kernel
  refine a_aload_n C dX7_guess_0 0 rfl rfl ?_
  refine a_iload_n C dX7_guess_1 1 rfl rfl ?_
  refine a_iload_n C dX7_guess_2 2 rfl rfl ?_
  refine a_iload_n C dX7_guess_3 3 rfl rfl ?_
  refine a_cVI C (k0 := 3) (As := [vI i1, vI a1, vI a2]) (rest := []) (c_X7_wrongAsk x.2.1 v σ b hM i1 a1 a2 (by omega) (by omega) (by omega)) gX7_guess_X7_wrongAsk rfl (by decide +kernel) (by decide) hM.f0 rfl hM.n0 rfl rfl (Nat.le_of_ble_eq_true rfl) dX7_guess_4 (fun z4 u4 r4 p4 => ?_)
  obtain ⟨e4, p4⟩ := p4
  subst u4
  have q4 := zq4 e4
  rcases q4 with ⟨h4, k4⟩ | ⟨h4, k4⟩ | ⟨h4, k4⟩ | ⟨h4, k4⟩ <;> subst h4
  · skip
    show At x v A Q _ 7 [(0, .ref (vq v b)), (1, vI i1), (2, vI a1), (3, vI a2)] [vI 1] σ
    refine a_istore C [(4, vI 1), (0, .ref (vq v b)), (1, vI i1), (2, vI a1), (3, vI a2)] dX7_guess_7 (by decide) rfl ?_
    refine a_iload C dX7_guess_9 0 rfl ?_
    refine a_if_le C 21 (by decide) dX7_guess_11 (by decide) (fun c11 => ?_) (fun c11 => ?_)
    · skip
      exfalso; omega
    · skip
      refine a_aload_n C dX7_guess_14 1 rfl rfl ?_
      refine a_iload C dX7_guess_15 0 rfl ?_
      refine a_cVI C (k0 := 1) (As := [vI 1]) (rest := []) (c_X7_refuse x.2.1 v σ b hM 1 (by omega)) gX7_guess_X7_refuse rfl (by decide +kernel) (by decide) hM.f0 rfl hM.n0 rfl rfl (Nat.le_of_ble_eq_true rfl) dX7_guess_17 (fun z17 u17 r17 p17 => ?_)
      obtain ⟨e17, p17⟩ := p17
      subst u17
      refine hret _ _ _ _ dX7_guess_20 r17 ?_
      (repeat (first | rw [if_pos (by omega)] | rw [if_neg (by omega)]))
      exact ⟨by omega, rfl⟩
  · skip
    show At x v A Q _ 7 [(0, .ref (vq v b)), (1, vI i1), (2, vI a1), (3, vI a2)] [vI 1] σ
    refine a_istore C [(4, vI 1), (0, .ref (vq v b)), (1, vI i1), (2, vI a1), (3, vI a2)] dX7_guess_7 (by decide) rfl ?_
    refine a_iload C dX7_guess_9 0 rfl ?_
    refine a_if_le C 21 (by decide) dX7_guess_11 (by decide) (fun c11 => ?_) (fun c11 => ?_)
    · skip
      exfalso; omega
    · skip
      refine a_aload_n C dX7_guess_14 1 rfl rfl ?_
      refine a_iload C dX7_guess_15 0 rfl ?_
      refine a_cVI C (k0 := 1) (As := [vI 1]) (rest := []) (c_X7_refuse x.2.1 v σ b hM 1 (by omega)) gX7_guess_X7_refuse rfl (by decide +kernel) (by decide) hM.f0 rfl hM.n0 rfl rfl (Nat.le_of_ble_eq_true rfl) dX7_guess_17 (fun z17 u17 r17 p17 => ?_)
      obtain ⟨e17, p17⟩ := p17
      subst u17
      refine hret _ _ _ _ dX7_guess_20 r17 ?_
      (repeat (first | rw [if_pos (by omega)] | rw [if_neg (by omega)]))
      exact ⟨by omega, rfl⟩
  · skip
    show At x v A Q _ 7 [(0, .ref (vq v b)), (1, vI i1), (2, vI a1), (3, vI a2)] [vI 5] σ
    refine a_istore C [(4, vI 5), (0, .ref (vq v b)), (1, vI i1), (2, vI a1), (3, vI a2)] dX7_guess_7 (by decide) rfl ?_
    refine a_iload C dX7_guess_9 0 rfl ?_
    refine a_if_le C 21 (by decide) dX7_guess_11 (by decide) (fun c11 => ?_) (fun c11 => ?_)
    · skip
      exfalso; omega
    · skip
      refine a_aload_n C dX7_guess_14 1 rfl rfl ?_
      refine a_iload C dX7_guess_15 0 rfl ?_
      refine a_cVI C (k0 := 1) (As := [vI 5]) (rest := []) (c_X7_refuse x.2.1 v σ b hM 5 (by omega)) gX7_guess_X7_refuse rfl (by decide +kernel) (by decide) hM.f0 rfl hM.n0 rfl rfl (Nat.le_of_ble_eq_true rfl) dX7_guess_17 (fun z17 u17 r17 p17 => ?_)
      obtain ⟨e17, p17⟩ := p17
      subst u17
      refine hret _ _ _ _ dX7_guess_20 r17 ?_
      (repeat (first | rw [if_pos (by omega)] | rw [if_neg (by omega)]))
      exact ⟨by omega, rfl⟩
  · skip
    show At x v A Q _ 7 [(0, .ref (vq v b)), (1, vI i1), (2, vI a1), (3, vI a2)] [vI 0] σ
    refine a_istore C [(4, vI 0), (0, .ref (vq v b)), (1, vI i1), (2, vI a1), (3, vI a2)] dX7_guess_7 (by decide) rfl ?_
    refine a_iload C dX7_guess_9 0 rfl ?_
    refine a_if_le C 21 (by decide) dX7_guess_11 (by decide) (fun c11 => ?_) (fun c11 => ?_)
    · skip
      have k0 := hK i1 (by omega) (by omega)
      obtain ⟨kN, kE, kB, kH, kT, kV, kU⟩ := k0
      have kE := kE (by omega)
      have kc0 : (0 ≤ i1 ∧ i1 < 3) := by omega
      have kq0 : (0 ≤ a1 ∧ a1 ≤ a2 ∧ a2 ≤ 39) := by omega
      have kn0 : (σ (b + 11) i1) ≠ 0 := by omega
      have gh := hvS_bd (h := (shR (σ (b + 14)) (40 * i1))) (c := (shR (σ (b + 13)) (40 * i1))) (M := 4000000) (by decide) kH a1 a2
      refine a_aload_n C dX7_guess_21 1 rfl rfl ?_
      refine a_iload_n C dX7_guess_22 2 rfl rfl ?_
      refine a_iload_n C dX7_guess_23 3 rfl rfl ?_
      refine a_iload_n C dX7_guess_24 4 rfl rfl ?_
      refine a_cVI C (k0 := 3) (As := [vI i1, vI a1, vI a2]) (rest := []) (c_X7_heavies x.2.1 v σ b hM i1 a1 a2 (by omega) (by omega) (by omega) (by omega)) gX7_guess_X7_heavies rfl (by decide +kernel) (by decide) hM.f0 rfl hM.n0 rfl rfl (Nat.le_of_ble_eq_true rfl) dX7_guess_25 (fun z25 u25 r25 p25 => ?_)
      obtain ⟨e25, p25⟩ := p25
      subst u25
      refine a_i2l C r25 dX7_guess_28 ?_
      refine a_lstore C [(5, vJ z25), (4, vI 0), (0, .ref (vq v b)), (1, vI i1), (2, vI a1), (3, vI a2)] dX7_guess_29 (by decide) rfl ?_
      refine a_lconst C 1 dX7_guess_31 rfl ?_
      refine a_lstore C [(7, vJ 1), (5, vJ z25), (4, vI 0), (0, .ref (vq v b)), (1, vI i1), (2, vI a1), (3, vI a2)] dX7_guess_32 (by decide) rfl ?_
      refine a_iconst C dX7_guess_34 ?_
      refine a_istore C [(9, vI 0), (7, vJ 1), (5, vJ z25), (4, vI 0), (0, .ref (vq v b)), (1, vI i1), (2, vI a1), (3, vI a2)] dX7_guess_35 (by decide) rfl ?_
      have lp : ∀ (n : Nat) (k d1 n1 : Int) , (24 - k).toNat = n → 0 ≤ k ∧ k ≤ (σ (b + 11) i1) → itrR (mgF (shR (σ (b + 14)) (40 * i1)) (shR (σ (b + 15)) (40 * i1)) (shR (σ (b + 16)) (40 * i1)) a1 a2) k (σ (b + 11) i1) (n1, d1) = itrR (mgF (shR (σ (b + 14)) (40 * i1)) (shR (σ (b + 15)) (40 * i1)) (shR (σ (b + 16)) (40 * i1)) a1 a2) 0 (σ (b + 11) i1) (hvS (shR (σ (b + 14)) (40 * i1)) (shR (σ (b + 13)) (40 * i1)) a1 a2, 1) → At x v A Q 14 37 [(9, vI k), (7, vJ d1), (5, vJ n1), (0, .ref (vq v b)), (1, vI i1), (2, vI a1), (3, vI a2), (4, vI 0)] [] σ := by
        intro n
        induction n using Nat.strongRecOn with
        | _ n ih =>
          intro k d1 n1 hn iv1 iR
          refine a_iload C dX7_guess_37 0 rfl ?_
          refine a_aload_n C dX7_guess_39 3 rfl rfl ?_
          refine a_getf C hM.f0 hM.n0 (Cn := RX7) (T := TX7) (N := 30) rfl iX7 13 (by decide) k45 (w := .ref (vq v (b + 11))) rfl dX7_guess_40 ?_
          refine a_iload_n C dX7_guess_43 4 rfl rfl ?_
          refine a_iald C hM.f11 hM.n11 0 hM.tI (by omega) (by omega) (by decide) dX7_guess_44 (fun z44 e44 r44 => ?_)
          refine a_icmp_ge C 144 (by omega) r44 dX7_guess_45 (by decide) (fun c45 => ?_) (fun c45 => ?_)
          · skip
            have hk : k = σ (b + 11) i1 := by omega
            have hfin : (n1, d1) = (moG σ b i1 a1 a2) := by unfold moG; rw [← iR, hk, itrR_nil (by omega)]
            refine a_aload_n C dX7_guess_144 3 rfl rfl ?_
            refine a_lload C dX7_guess_145 2 rfl ?_
            refine a_lload C dX7_guess_147 1 rfl ?_
            refine a_cVI C (k0 := 2) (As := [vJ n1, vJ d1]) (rest := []) (c_X7_tells x.2.1 v σ b hM n1 d1 (by have := hG kc0 kq0 kn0; rw [← hfin] at this; exact this.1) (by have := hG kc0 kq0 kn0; rw [← hfin] at this; exact this.2)) gX7_guess_X7_tells rfl (by decide +kernel) (by decide) hM.f0 rfl hM.n0 rfl rfl (Nat.le_of_ble_eq_true rfl) dX7_guess_149 (fun z149 u149 r149 p149 => ?_)
            obtain ⟨e149, p149⟩ := p149
            subst u149
            refine hret _ _ _ _ dX7_guess_152 (by omega) ?_
            rw [if_neg (by omega), if_neg (by omega)]
            exact ⟨by rw [e149, ← hfin], by rw [← hfin]⟩
          · skip
            refine a_aload_n C dX7_guess_48 3 rfl rfl ?_
            refine a_iload_n C dX7_guess_49 4 rfl rfl ?_
            refine a_iload C dX7_guess_50 0 rfl ?_
            refine a_cVI C (k0 := 2) (As := [vI i1, vI k]) (rest := []) (c_X7_longOf x.2.1 v σ b hM i1 k kc0 (by omega) kE) gX7_guess_X7_longOf rfl (by decide +kernel) (by decide) hM.f0 rfl hM.n0 rfl rfl (Nat.le_of_ble_eq_true rfl) dX7_guess_52 (fun z52 u52 r52 p52 => ?_)
            obtain ⟨e52, p52⟩ := p52
            subst u52
            have q52 := ltC_bd (shR (σ (b + 14)) (40 * i1)) (foF (shR (σ (b + 15)) (40 * i1)) k) ((shR (σ (b + 15)) (40 * i1)) k)
            rw [show ltC (shR (σ (b + 14)) (40 * i1)) (foF (shR (σ (b + 15)) (40 * i1)) k) ((shR (σ (b + 15)) (40 * i1)) k) = z52 from e52.symm] at q52
            refine a_istore C [(10, vI z52), (9, vI k), (7, vJ d1), (5, vJ n1), (0, .ref (vq v b)), (1, vI i1), (2, vI a1), (3, vI a2), (4, vI 0)] dX7_guess_55 (by decide) rfl ?_
            refine a_aload_n C dX7_guess_57 4 rfl rfl ?_
            refine a_iload_n C dX7_guess_58 5 rfl rfl ?_
            refine a_iload C dX7_guess_59 1 rfl ?_
            refine a_iload_n C dX7_guess_61 6 rfl rfl ?_
            refine a_iload_n C dX7_guess_62 7 rfl rfl ?_
            refine a_cVI C (k0 := 4) (As := [vI i1, vI k, vI a1, vI a2]) (rest := []) (c_X7_asked x.2.1 v σ b hM i1 k a1 a2 kc0 (by omega) kq0 kE) gX7_guess_X7_asked rfl (by decide +kernel) (by decide) hM.f0 rfl hM.n0 rfl rfl (Nat.le_of_ble_eq_true rfl) dX7_guess_63 (fun z63 u63 r63 p63 => ?_)
            obtain ⟨e63, p63⟩ := p63
            subst u63
            have q63 := ltC_bd (shR (σ (b + 14)) (40 * i1)) (max (foF (shR (σ (b + 15)) (40 * i1)) k) a1) (min ((shR (σ (b + 15)) (40 * i1)) k) a2)
            rw [show ltC (shR (σ (b + 14)) (40 * i1)) (max (foF (shR (σ (b + 15)) (40 * i1)) k) a1) (min ((shR (σ (b + 15)) (40 * i1)) k) a2) = z63 from e63.symm] at q63
            refine a_istore C [(11, vI z63), (10, vI z52), (9, vI k), (7, vJ d1), (5, vJ n1), (0, .ref (vq v b)), (1, vI i1), (2, vI a1), (3, vI a2), (4, vI 0)] dX7_guess_66 (by decide) rfl ?_
            refine a_iload C dX7_guess_68 0 rfl ?_
            refine a_if_ne C 76 r63 dX7_guess_70 (by decide) (fun c70 => ?_) (fun c70 => ?_)
            · skip
              refine a_iload C dX7_guess_76 0 rfl ?_
              refine a_iload C dX7_guess_78 1 rfl ?_
              refine a_icmp_ne C 87 r63 r52 dX7_guess_80 (by decide) (fun c80 => ?_) (fun c80 => ?_)
              · skip
                refine a_iload C dX7_guess_87 1 rfl ?_
                refine a_i2l C r52 dX7_guess_89 ?_
                refine a_lstore C [(12, vJ z52), (11, vI z63), (10, vI z52), (9, vI k), (7, vJ d1), (5, vJ n1), (0, .ref (vq v b)), (1, vI i1), (2, vI a1), (3, vI a2), (4, vI 0)] dX7_guess_90 (by decide) rfl ?_
                refine a_lload C dX7_guess_92 5 rfl ?_
                refine a_lload C dX7_guess_94 0 rfl ?_
                refine a_lmul C dX7_guess_96 ?_
                refine a_lload C dX7_guess_97 4 rfl ?_
                refine a_aload_n C dX7_guess_99 6 rfl rfl ?_
                refine a_getf C hM.f0 hM.n0 (Cn := RX7) (T := TX7) (N := 30) rfl iX7 18 (by decide) k61 (w := .ref (vq v (b + 16))) rfl dX7_guess_100 ?_
                refine a_bipush C dX7_guess_103 ?_
                refine a_iload_n C dX7_guess_105 7 rfl rfl ?_
                refine a_imul C dX7_guess_106 ?_
                refine a_iload C dX7_guess_107 3 rfl ?_
                refine a_iadd C dX7_guess_109 ?_
                refine a_iald C hM.f16 hM.n16 0 hM.tI (by omega) (by omega) (by decide) dX7_guess_110 (fun z110 e110 r110 => ?_)
                rw [shR_i (σ (b + 16)) (40 * i1) k _ rfl] at e110
                refine a_i2l C r110 dX7_guess_111 ?_
                refine a_lmul C dX7_guess_112 ?_
                refine a_iload C dX7_guess_113 1 rfl ?_
                refine a_iload C dX7_guess_115 2 rfl ?_
                refine a_icmp_ne C 124 r63 r52 dX7_guess_117 (by decide) (fun c117 => ?_) (fun c117 => ?_)
                · skip
                  refine a_iload C dX7_guess_124 1 rfl ?_
                  refine a_i2l C r63 dX7_guess_126 ?_
                  refine a_lmul C dX7_guess_127 ?_
                  refine a_ladd C dX7_guess_128 ?_
                  refine a_lstore C [(5, vJ ((n1 * z52) + ((d1 * z110) * z63))), (12, vJ z52), (11, vI z63), (10, vI z52), (9, vI k), (7, vJ d1), (0, .ref (vq v b)), (1, vI i1), (2, vI a1), (3, vI a2), (4, vI 0)] dX7_guess_129 (by decide) rfl ?_
                  refine a_lload C dX7_guess_131 5 rfl ?_
                  refine a_lload C dX7_guess_133 1 rfl ?_
                  refine a_lmul C dX7_guess_135 ?_
                  refine a_lstore C [(7, vJ (d1 * z52)), (5, vJ ((n1 * z52) + ((d1 * z110) * z63))), (12, vJ z52), (11, vI z63), (10, vI z52), (9, vI k), (0, .ref (vq v b)), (1, vI i1), (2, vI a1), (3, vI a2), (4, vI 0)] dX7_guess_136 (by decide) rfl ?_
                  refine a_iinc C (k + 1) [(9, vI (k + 1)), (7, vJ (d1 * z52)), (5, vJ ((n1 * z52) + ((d1 * z110) * z63))), (12, vJ z52), (11, vI z63), (10, vI z52), (0, .ref (vq v b)), (1, vI i1), (2, vI a1), (3, vI a2), (4, vI 0)] dX7_guess_138 5 rfl (by omega) (by decide) rfl ?_
                  refine a_goto C 37 dX7_guess_141 (by decide) ?_
                  refine a_sub [0, 1, 2, 6, 7, 8, 9, 10] [(9, vI (k + 1)), (7, vJ (d1 * z52)), (5, vJ ((n1 * z52) + ((d1 * z110) * z63))), (0, .ref (vq v b)), (1, vI i1), (2, vI a1), (3, vI a2), (4, vI 0)] rfl ?_
                  (first | (exfalso; omega) | (refine ih _ (by omega) _ _ _ rfl (by omega) ?_; rw [← iR, itrR_step (a := k) (by omega)]; congr 1; have h8 : mgF (shR (σ (b + 14)) (40 * i1)) (shR (σ (b + 15)) (40 * i1)) (shR (σ (b + 16)) (40 * i1)) a1 a2 k (n1, d1) = mgF (shR (σ (b + 14)) (40 * i1)) (shR (σ (b + 15)) (40 * i1)) (shR (σ (b + 16)) (40 * i1)) a1 a2 k (n1, d1) := rfl; (conv at h8 => (rhs; unfold mgF)); dsimp only at h8; rw [← e63, ← e52] at h8; (first | (rw [if_pos (by omega)] at h8; exact h8.symm) | (rw [if_neg (by omega), if_pos (by omega), ← e110] at h8; rw [h8]; simp only [Int.mul_one]) | (rw [if_neg (by omega), if_neg (by omega), ← e110] at h8; rw [h8]))))
                · skip
                  refine a_lconst C 1 dX7_guess_120 rfl ?_
                  refine a_goto C 127 dX7_guess_121 (by decide) ?_
                  refine a_lmul C dX7_guess_127 ?_
                  refine a_ladd C dX7_guess_128 ?_
                  refine a_lstore C [(5, vJ ((n1 * z52) + ((d1 * z110) * 1))), (12, vJ z52), (11, vI z63), (10, vI z52), (9, vI k), (7, vJ d1), (0, .ref (vq v b)), (1, vI i1), (2, vI a1), (3, vI a2), (4, vI 0)] dX7_guess_129 (by decide) rfl ?_
                  refine a_lload C dX7_guess_131 5 rfl ?_
                  refine a_lload C dX7_guess_133 1 rfl ?_
                  refine a_lmul C dX7_guess_135 ?_
                  refine a_lstore C [(7, vJ (d1 * z52)), (5, vJ ((n1 * z52) + ((d1 * z110) * 1))), (12, vJ z52), (11, vI z63), (10, vI z52), (9, vI k), (0, .ref (vq v b)), (1, vI i1), (2, vI a1), (3, vI a2), (4, vI 0)] dX7_guess_136 (by decide) rfl ?_
                  refine a_iinc C (k + 1) [(9, vI (k + 1)), (7, vJ (d1 * z52)), (5, vJ ((n1 * z52) + ((d1 * z110) * 1))), (12, vJ z52), (11, vI z63), (10, vI z52), (0, .ref (vq v b)), (1, vI i1), (2, vI a1), (3, vI a2), (4, vI 0)] dX7_guess_138 5 rfl (by omega) (by decide) rfl ?_
                  refine a_goto C 37 dX7_guess_141 (by decide) ?_
                  refine a_sub [0, 1, 2, 6, 7, 8, 9, 10] [(9, vI (k + 1)), (7, vJ (d1 * z52)), (5, vJ ((n1 * z52) + ((d1 * z110) * 1))), (0, .ref (vq v b)), (1, vI i1), (2, vI a1), (3, vI a2), (4, vI 0)] rfl ?_
                  (first | (exfalso; omega) | (refine ih _ (by omega) _ _ _ rfl (by omega) ?_; rw [← iR, itrR_step (a := k) (by omega)]; congr 1; have h8 : mgF (shR (σ (b + 14)) (40 * i1)) (shR (σ (b + 15)) (40 * i1)) (shR (σ (b + 16)) (40 * i1)) a1 a2 k (n1, d1) = mgF (shR (σ (b + 14)) (40 * i1)) (shR (σ (b + 15)) (40 * i1)) (shR (σ (b + 16)) (40 * i1)) a1 a2 k (n1, d1) := rfl; (conv at h8 => (rhs; unfold mgF)); dsimp only at h8; rw [← e63, ← e52] at h8; (first | (rw [if_pos (by omega)] at h8; exact h8.symm) | (rw [if_neg (by omega), if_pos (by omega), ← e110] at h8; rw [h8]; simp only [Int.mul_one]) | (rw [if_neg (by omega), if_neg (by omega), ← e110] at h8; rw [h8]))))
              · skip
                refine a_lconst C 1 dX7_guess_83 rfl ?_
                refine a_goto C 90 dX7_guess_84 (by decide) ?_
                refine a_lstore C [(12, vJ 1), (11, vI z63), (10, vI z52), (9, vI k), (7, vJ d1), (5, vJ n1), (0, .ref (vq v b)), (1, vI i1), (2, vI a1), (3, vI a2), (4, vI 0)] dX7_guess_90 (by decide) rfl ?_
                refine a_lload C dX7_guess_92 5 rfl ?_
                refine a_lload C dX7_guess_94 0 rfl ?_
                refine a_lmul C dX7_guess_96 ?_
                refine a_lload C dX7_guess_97 4 rfl ?_
                refine a_aload_n C dX7_guess_99 6 rfl rfl ?_
                refine a_getf C hM.f0 hM.n0 (Cn := RX7) (T := TX7) (N := 30) rfl iX7 18 (by decide) k61 (w := .ref (vq v (b + 16))) rfl dX7_guess_100 ?_
                refine a_bipush C dX7_guess_103 ?_
                refine a_iload_n C dX7_guess_105 7 rfl rfl ?_
                refine a_imul C dX7_guess_106 ?_
                refine a_iload C dX7_guess_107 3 rfl ?_
                refine a_iadd C dX7_guess_109 ?_
                refine a_iald C hM.f16 hM.n16 0 hM.tI (by omega) (by omega) (by decide) dX7_guess_110 (fun z110 e110 r110 => ?_)
                rw [shR_i (σ (b + 16)) (40 * i1) k _ rfl] at e110
                refine a_i2l C r110 dX7_guess_111 ?_
                refine a_lmul C dX7_guess_112 ?_
                refine a_iload C dX7_guess_113 1 rfl ?_
                refine a_iload C dX7_guess_115 2 rfl ?_
                refine a_icmp_ne C 124 r63 r52 dX7_guess_117 (by decide) (fun c117 => ?_) (fun c117 => ?_)
                · skip
                  refine a_iload C dX7_guess_124 1 rfl ?_
                  refine a_i2l C r63 dX7_guess_126 ?_
                  refine a_lmul C dX7_guess_127 ?_
                  refine a_ladd C dX7_guess_128 ?_
                  refine a_lstore C [(5, vJ ((n1 * 1) + ((d1 * z110) * z63))), (12, vJ 1), (11, vI z63), (10, vI z52), (9, vI k), (7, vJ d1), (0, .ref (vq v b)), (1, vI i1), (2, vI a1), (3, vI a2), (4, vI 0)] dX7_guess_129 (by decide) rfl ?_
                  refine a_lload C dX7_guess_131 5 rfl ?_
                  refine a_lload C dX7_guess_133 1 rfl ?_
                  refine a_lmul C dX7_guess_135 ?_
                  refine a_lstore C [(7, vJ (d1 * 1)), (5, vJ ((n1 * 1) + ((d1 * z110) * z63))), (12, vJ 1), (11, vI z63), (10, vI z52), (9, vI k), (0, .ref (vq v b)), (1, vI i1), (2, vI a1), (3, vI a2), (4, vI 0)] dX7_guess_136 (by decide) rfl ?_
                  refine a_iinc C (k + 1) [(9, vI (k + 1)), (7, vJ (d1 * 1)), (5, vJ ((n1 * 1) + ((d1 * z110) * z63))), (12, vJ 1), (11, vI z63), (10, vI z52), (0, .ref (vq v b)), (1, vI i1), (2, vI a1), (3, vI a2), (4, vI 0)] dX7_guess_138 5 rfl (by omega) (by decide) rfl ?_
                  refine a_goto C 37 dX7_guess_141 (by decide) ?_
                  refine a_sub [0, 1, 2, 6, 7, 8, 9, 10] [(9, vI (k + 1)), (7, vJ (d1 * 1)), (5, vJ ((n1 * 1) + ((d1 * z110) * z63))), (0, .ref (vq v b)), (1, vI i1), (2, vI a1), (3, vI a2), (4, vI 0)] rfl ?_
                  (first | (exfalso; omega) | (refine ih _ (by omega) _ _ _ rfl (by omega) ?_; rw [← iR, itrR_step (a := k) (by omega)]; congr 1; have h8 : mgF (shR (σ (b + 14)) (40 * i1)) (shR (σ (b + 15)) (40 * i1)) (shR (σ (b + 16)) (40 * i1)) a1 a2 k (n1, d1) = mgF (shR (σ (b + 14)) (40 * i1)) (shR (σ (b + 15)) (40 * i1)) (shR (σ (b + 16)) (40 * i1)) a1 a2 k (n1, d1) := rfl; (conv at h8 => (rhs; unfold mgF)); dsimp only at h8; rw [← e63, ← e52] at h8; (first | (rw [if_pos (by omega)] at h8; exact h8.symm) | (rw [if_neg (by omega), if_pos (by omega), ← e110] at h8; rw [h8]; simp only [Int.mul_one]) | (rw [if_neg (by omega), if_neg (by omega), ← e110] at h8; rw [h8]))))
                · skip
                  refine a_lconst C 1 dX7_guess_120 rfl ?_
                  refine a_goto C 127 dX7_guess_121 (by decide) ?_
                  refine a_lmul C dX7_guess_127 ?_
                  refine a_ladd C dX7_guess_128 ?_
                  refine a_lstore C [(5, vJ ((n1 * 1) + ((d1 * z110) * 1))), (12, vJ 1), (11, vI z63), (10, vI z52), (9, vI k), (7, vJ d1), (0, .ref (vq v b)), (1, vI i1), (2, vI a1), (3, vI a2), (4, vI 0)] dX7_guess_129 (by decide) rfl ?_
                  refine a_lload C dX7_guess_131 5 rfl ?_
                  refine a_lload C dX7_guess_133 1 rfl ?_
                  refine a_lmul C dX7_guess_135 ?_
                  refine a_lstore C [(7, vJ (d1 * 1)), (5, vJ ((n1 * 1) + ((d1 * z110) * 1))), (12, vJ 1), (11, vI z63), (10, vI z52), (9, vI k), (0, .ref (vq v b)), (1, vI i1), (2, vI a1), (3, vI a2), (4, vI 0)] dX7_guess_136 (by decide) rfl ?_
                  refine a_iinc C (k + 1) [(9, vI (k + 1)), (7, vJ (d1 * 1)), (5, vJ ((n1 * 1) + ((d1 * z110) * 1))), (12, vJ 1), (11, vI z63), (10, vI z52), (0, .ref (vq v b)), (1, vI i1), (2, vI a1), (3, vI a2), (4, vI 0)] dX7_guess_138 5 rfl (by omega) (by decide) rfl ?_
                  refine a_goto C 37 dX7_guess_141 (by decide) ?_
                  refine a_sub [0, 1, 2, 6, 7, 8, 9, 10] [(9, vI (k + 1)), (7, vJ (d1 * 1)), (5, vJ ((n1 * 1) + ((d1 * z110) * 1))), (0, .ref (vq v b)), (1, vI i1), (2, vI a1), (3, vI a2), (4, vI 0)] rfl ?_
                  (first | (exfalso; omega) | (refine ih _ (by omega) _ _ _ rfl (by omega) ?_; rw [← iR, itrR_step (a := k) (by omega)]; congr 1; have h8 : mgF (shR (σ (b + 14)) (40 * i1)) (shR (σ (b + 15)) (40 * i1)) (shR (σ (b + 16)) (40 * i1)) a1 a2 k (n1, d1) = mgF (shR (σ (b + 14)) (40 * i1)) (shR (σ (b + 15)) (40 * i1)) (shR (σ (b + 16)) (40 * i1)) a1 a2 k (n1, d1) := rfl; (conv at h8 => (rhs; unfold mgF)); dsimp only at h8; rw [← e63, ← e52] at h8; (first | (rw [if_pos (by omega)] at h8; exact h8.symm) | (rw [if_neg (by omega), if_pos (by omega), ← e110] at h8; rw [h8]; simp only [Int.mul_one]) | (rw [if_neg (by omega), if_neg (by omega), ← e110] at h8; rw [h8]))))
            · skip
              refine a_goto C 138 dX7_guess_73 (by decide) ?_
              refine a_iinc C (k + 1) [(9, vI (k + 1)), (11, vI z63), (10, vI z52), (7, vJ d1), (5, vJ n1), (0, .ref (vq v b)), (1, vI i1), (2, vI a1), (3, vI a2), (4, vI 0)] dX7_guess_138 2 rfl (by omega) (by decide) rfl ?_
              refine a_goto C 37 dX7_guess_141 (by decide) ?_
              refine a_sub [0, 3, 4, 5, 6, 7, 8, 9] [(9, vI (k + 1)), (7, vJ d1), (5, vJ n1), (0, .ref (vq v b)), (1, vI i1), (2, vI a1), (3, vI a2), (4, vI 0)] rfl ?_
              (first | (exfalso; omega) | (refine ih _ (by omega) _ _ _ rfl (by omega) ?_; rw [← iR, itrR_step (a := k) (by omega)]; congr 1; have h8 : mgF (shR (σ (b + 14)) (40 * i1)) (shR (σ (b + 15)) (40 * i1)) (shR (σ (b + 16)) (40 * i1)) a1 a2 k (n1, d1) = mgF (shR (σ (b + 14)) (40 * i1)) (shR (σ (b + 15)) (40 * i1)) (shR (σ (b + 16)) (40 * i1)) a1 a2 k (n1, d1) := rfl; (conv at h8 => (rhs; unfold mgF)); dsimp only at h8; rw [← e63, ← e52] at h8; (first | (rw [if_pos (by omega)] at h8; exact h8.symm) | (rw [if_neg (by omega), if_pos (by omega), ← e110] at h8; rw [h8]; simp only [Int.mul_one]) | (rw [if_neg (by omega), if_neg (by omega), ← e110] at h8; rw [h8]))))
      refine a_sub [0, 1, 2, 4, 5, 6, 7, 3] [(9, vI 0), (7, vJ 1), (5, vJ z25), (0, .ref (vq v b)), (1, vI i1), (2, vI a1), (3, vI a2), (4, vI 0)] rfl ?_
      exact lp _ 0 1 _ rfl (by omega) (by rw [e25])
    · skip
      exfalso; omega
/-- what both sketches have of a value, and by how much it is to be divided -/
def mjT (σ : Mem) (b : Nat) (i1 i2 : Int) : Int → Int := fun v9 => (shT (shR (σ (b + 14)) (40 * i1)) (shR (σ (b + 13)) (40 * i1)) (shR (σ (b + 15)) (40 * i1)) (shR (σ (b + 16)) (40 * i1)) (σ (b + 11) i1) v9) * (shT (shR (σ (b + 14)) (40 * i2)) (shR (σ (b + 13)) (40 * i2)) (shR (σ (b + 15)) (40 * i2)) (shR (σ (b + 16)) (40 * i2)) (σ (b + 11) i2) v9)
def mjB (σ : Mem) (b : Nat) (i1 i2 : Int) : Int → Int := fun v9 => (shB (shR (σ (b + 14)) (40 * i1)) (shR (σ (b + 15)) (40 * i1)) (σ (b + 11) i1) v9) * (shB (shR (σ (b + 14)) (40 * i2)) (shR (σ (b + 15)) (40 * i2)) (σ (b + 11) i2) v9)
def moJ (σ : Mem) (b : Nat) (i1 i2 : Int) : Int × Int := itrR (jnF (mjT σ b i1 i2) (mjB σ b i1 i2)) 0 40 (0, 1)
/-- the sums of the model's join stay within a long -/
def mjOK (σ : Mem) (b : Nat) (i1 i2 : Int) : Prop := (∀ v9 : Int, 0 ≤ v9 → v9 < 40 → 1 ≤ (shB (shR (σ (b + 14)) (40 * i1)) (shR (σ (b + 15)) (40 * i1)) (σ (b + 11) i1) v9) ∧ (shB (shR (σ (b + 14)) (40 * i1)) (shR (σ (b + 15)) (40 * i1)) (σ (b + 11) i1) v9) ≤ 40) ∧ (∀ v9 : Int, 0 ≤ v9 → v9 < 40 → 1 ≤ (shB (shR (σ (b + 14)) (40 * i2)) (shR (σ (b + 15)) (40 * i2)) (σ (b + 11) i2) v9) ∧ (shB (shR (σ (b + 14)) (40 * i2)) (shR (σ (b + 15)) (40 * i2)) (σ (b + 11) i2) v9) ≤ 40) ∧ ∃ P : Int → Int → Int → Prop, P 0 0 1 ∧ (∀ w t d : Int, 0 ≤ w → w < 40 → P w t d → (0 < d ∧ d ≤ 9223372036854775807) ∧ (-9223372036854775807 ≤ aiN t d (mjT σ b i1 i2 w) (mjB σ b i1 i2 w) ∧ aiN t d (mjT σ b i1 i2 w) (mjB σ b i1 i2 w) ≤ 9223372036854775807) ∧ aiD d (mjT σ b i1 i2 w) (mjB σ b i1 i2 w) ≤ 9223372036854775807 ∧ P (w + 1) (jnF (mjT σ b i1 i2) (mjB σ b i1 i2) w (t, d)).1 (jnF (mjT σ b i1 i2) (mjB σ b i1 i2) w (t, d)).2) ∧ ∀ t d : Int, P 40 t d → (-9223372036854775807 ≤ t ∧ t ≤ 9223372036854775807) ∧ 0 < d ∧ d ≤ 9223372036854775807
theorem ai_comm {d y : Int} (hd : 0 < d) (hy : 0 < y) : d / gcI d y * y = d * (y / gcI d y) := by
  have g := gcI_pos (a := d) hy
  obtain ⟨p, hp⟩ := gcI_dl d y
  obtain ⟨q, hq⟩ := gcI_dr d y
  have e1 : d / gcI d y = p := by conv => lhs; arg 1; rw [hp]
                                  exact Int.mul_ediv_cancel_left _ (by omega)
  have e2 : y / gcI d y = q := by conv => lhs; arg 1; rw [hq]
                                  exact Int.mul_ediv_cancel_left _ (by omega)
  rw [e1, e2]
  calc p * y = p * (gcI d y * q) := by rw [← hq]
    _ = gcI d y * p * q := by rw [← Int.mul_assoc, Int.mul_comm p]
    _ = d * q := by rw [← hp]
theorem sh_bd {h hc e c : Int → Int} {n : Int} (hn : 1 ≤ n) (hB : ∀ j : Int, 0 ≤ j → j < n → -10000000 ≤ c j ∧ c j ≤ 10000000) (hH : ∀ j : Int, 0 ≤ j → j < 40 → -4000000 ≤ hc j ∧ hc j ≤ 4000000) (v : Int) (h0 : 0 ≤ v) (h1 : v < 40) : -20000000 ≤ shT h hc e c n v ∧ shT h hc e c n v ≤ 20000000 := by
  unfold shT
  have b := spOf_bd e n v
  split
  · have := hB (spOf e n v) b.1 (b.2.1 (by omega)); omega
  · have := hH v h0 h1; omega
set_option maxHeartbeats 4000000 in
set_option maxRecDepth 100000 in
theorem c_X7_join (l : Launch) (v : VC) (σ : Mem) (b : Nat) (hM : shMo v b) (i1 i2 : Int) (h1 : rg i1) (h2 : rg i2) (hK : ∀ c : Int, 0 ≤ c → c < 3 → moK σ b c) (hG : (0 ≤ i1 ∧ i1 < 3) → (0 ≤ i2 ∧ i2 < 3) → (σ (b + 11) i1) ≠ 0 → (σ (b + 11) i2) ≠ 0 → mjOK σ b i1 i2) : CtI l yX7_join wsX7_join 2 47 v [.ref (vq v b), vI i1, vI i2] σ (fun z u => (if ¬ ((0 ≤ i1 ∧ i1 < 3) ∧ (0 ≤ i2 ∧ i2 < 3)) then (z = -1 ∧ u = sput σ b 0 1) else (if (σ (b + 11) i1) = 0 ∨ (σ (b + 11) i2) = 0 then (z = -1 ∧ u = sput σ b 0 5) else (z = sgI (moJ σ b i1 i2).1 ∧ u = sput (sput (sput σ b 100001 (frN (moJ σ b i1 i2).1 (moJ σ b i1 i2).2)) b 100002 (frD (moJ σ b i1 i2).1 (moJ σ b i1 i2).2)) b 0 0)))) := by
  refine mkI (cc := cX7_join) (n := 26) (by decide +kernel) rfl (Nat.le_of_ble_eq_true rfl) (fun x A Q hx C hret => ?_)
  subst hx
  show At x v A Q _ 0 [(0, .ref (vq v b)), (1, vI i1), (2, vI i2)] [] σ
  have iX7 : ∀ w ∈ wsX70, w ∈ wsX7_join := by decide +kernel
  have k45 : Cond.fieldLink RX7 45 (TX7 13).1 (TX7 13).2.1 (TX7 13).2.2.1 ∈ wsX7_join := by decide +kernel
  have k54 : Cond.fieldLink RX7 54 (TX7 16).1 (TX7 16).2.1 (TX7 16).2.2.1 ∈ wsX7_join := by decide +kernel
  have k61 : Cond.fieldLink RX7 61 (TX7 18).1 (TX7 18).2.1 (TX7 18).2.2.1 ∈ wsX7_join := by decide +kernel
  have k51 : Cond.fieldLink RX7 51 (TX7 15).1 (TX7 15).2.1 (TX7 15).2.2.1 ∈ wsX7_join := by decide +kernel
  refine a_iload_n C dX7_join_0 1 rfl rfl ?_
  refine a_cSI C (k0 := 1) (As := [vI i1]) (rest := []) (c_X7_isColumn x.2.1 v σ i1 (by omega)) gX7_join_X7_isColumn rfl (by decide +kernel) (by decide) rfl rfl (Nat.le_of_ble_eq_true rfl) dX7_join_1 (fun z1 u1 r1 p1 => ?_)
  obtain ⟨e1, p1⟩ := p1
  subst u1
  have q1 := zz e1
  refine a_if_eq C 14 r1 dX7_join_4 (by decide) (fun c4 => ?_) (fun c4 => ?_)
  · skip
    refine a_aload_n C dX7_join_14 0 rfl rfl ?_
    refine a_iconst C dX7_join_15 ?_
    refine a_cVI C (k0 := 1) (As := [vI 1]) (rest := []) (c_X7_refuse x.2.1 v σ b hM 1 (by omega)) gX7_join_X7_refuse rfl (by decide +kernel) (by decide) hM.f0 rfl hM.n0 rfl rfl (Nat.le_of_ble_eq_true rfl) dX7_join_16 (fun z16 u16 r16 p16 => ?_)
    obtain ⟨e16, p16⟩ := p16
    subst u16
    refine hret _ _ _ _ dX7_join_19 r16 ?_
    (repeat (first | rw [if_pos (by omega)] | rw [if_neg (by omega)]))
    exact ⟨by omega, rfl⟩
  · skip
    refine a_iload_n C dX7_join_7 2 rfl rfl ?_
    refine a_cSI C (k0 := 1) (As := [vI i2]) (rest := []) (c_X7_isColumn x.2.1 v σ i2 (by omega)) gX7_join_X7_isColumn rfl (by decide +kernel) (by decide) rfl rfl (Nat.le_of_ble_eq_true rfl) dX7_join_8 (fun z8 u8 r8 p8 => ?_)
    obtain ⟨e8, p8⟩ := p8
    subst u8
    have q8 := zz e8
    refine a_if_ne C 20 r8 dX7_join_11 (by decide) (fun c11 => ?_) (fun c11 => ?_)
    · skip
      refine a_aload_n C dX7_join_20 0 rfl rfl ?_
      refine a_getf C hM.f0 hM.n0 (Cn := RX7) (T := TX7) (N := 30) rfl iX7 13 (by decide) k45 (w := .ref (vq v (b + 11))) rfl dX7_join_21 ?_
      refine a_iload_n C dX7_join_24 1 rfl rfl ?_
      refine a_iald C hM.f11 hM.n11 0 hM.tI (by omega) (by omega) (by decide) dX7_join_25 (fun z25 e25 r25 => ?_)
      refine a_if_eq C 38 r25 dX7_join_26 (by decide) (fun c26 => ?_) (fun c26 => ?_)
      · skip
        refine a_aload_n C dX7_join_38 0 rfl rfl ?_
        refine a_iconst C dX7_join_39 ?_
        refine a_cVI C (k0 := 1) (As := [vI 5]) (rest := []) (c_X7_refuse x.2.1 v σ b hM 5 (by omega)) gX7_join_X7_refuse rfl (by decide +kernel) (by decide) hM.f0 rfl hM.n0 rfl rfl (Nat.le_of_ble_eq_true rfl) dX7_join_40 (fun z40 u40 r40 p40 => ?_)
        obtain ⟨e40, p40⟩ := p40
        subst u40
        refine hret _ _ _ _ dX7_join_43 r40 ?_
        (repeat (first | rw [if_pos (by omega)] | rw [if_neg (by omega)]))
        exact ⟨by omega, rfl⟩
      · skip
        refine a_aload_n C dX7_join_29 0 rfl rfl ?_
        refine a_getf C hM.f0 hM.n0 (Cn := RX7) (T := TX7) (N := 30) rfl iX7 13 (by decide) k45 (w := .ref (vq v (b + 11))) rfl dX7_join_30 ?_
        refine a_iload_n C dX7_join_33 2 rfl rfl ?_
        refine a_iald C hM.f11 hM.n11 0 hM.tI (by omega) (by omega) (by decide) dX7_join_34 (fun z34 e34 r34 => ?_)
        refine a_if_ne C 44 r34 dX7_join_35 (by decide) (fun c35 => ?_) (fun c35 => ?_)
        · skip
          obtain ⟨g1, g2, P, g3, g4, g5⟩ := hG (by omega) (by omega) (by omega) (by omega)
          have k1_ := hK i1 (by omega) (by omega)
          have k2_ := hK i2 (by omega) (by omega)
          have kE1 := k1_.2.1 (by omega)
          have kE2 := k2_.2.1 (by omega)
          have kN1 := k1_.1
          have kN2 := k2_.1
          have gT1 : (∀ v9 : Int, 0 ≤ v9 → v9 < 40 → -20000000 ≤ (shT (shR (σ (b + 14)) (40 * i1)) (shR (σ (b + 13)) (40 * i1)) (shR (σ (b + 15)) (40 * i1)) (shR (σ (b + 16)) (40 * i1)) (σ (b + 11) i1) v9) ∧ (shT (shR (σ (b + 14)) (40 * i1)) (shR (σ (b + 13)) (40 * i1)) (shR (σ (b + 15)) (40 * i1)) (shR (σ (b + 16)) (40 * i1)) (σ (b + 11) i1) v9) ≤ 20000000) := fun v9 p0 p1 => sh_bd (by omega) (fun j q1 q2 => (k1_.2.2.1 j q1 q2).1) k1_.2.2.2.1 v9 p0 p1
          have gT2 : (∀ v9 : Int, 0 ≤ v9 → v9 < 40 → -20000000 ≤ (shT (shR (σ (b + 14)) (40 * i2)) (shR (σ (b + 13)) (40 * i2)) (shR (σ (b + 15)) (40 * i2)) (shR (σ (b + 16)) (40 * i2)) (σ (b + 11) i2) v9) ∧ (shT (shR (σ (b + 14)) (40 * i2)) (shR (σ (b + 13)) (40 * i2)) (shR (σ (b + 15)) (40 * i2)) (shR (σ (b + 16)) (40 * i2)) (σ (b + 11) i2) v9) ≤ 20000000) := fun v9 p0 p1 => sh_bd (by omega) (fun j q1 q2 => (k2_.2.2.1 j q1 q2).1) k2_.2.2.2.1 v9 p0 p1
          refine a_lconst C 0 dX7_join_44 rfl ?_
          refine a_lstore_n C 3 [(3, vJ 0), (0, .ref (vq v b)), (1, vI i1), (2, vI i2)] dX7_join_45 rfl (by decide) rfl ?_
          refine a_lconst C 1 dX7_join_46 rfl ?_
          refine a_lstore C [(5, vJ 1), (3, vJ 0), (0, .ref (vq v b)), (1, vI i1), (2, vI i2)] dX7_join_47 (by decide) rfl ?_
          refine a_iconst C dX7_join_49 ?_
          refine a_istore C [(7, vI 0), (5, vJ 1), (3, vJ 0), (0, .ref (vq v b)), (1, vI i1), (2, vI i2)] dX7_join_50 (by decide) rfl ?_
          have lp : ∀ (n : Nat) (w9 d1 n1 : Int) , (40 - w9).toNat = n → 0 ≤ w9 ∧ w9 ≤ 40 → itrR (jnF (mjT σ b i1 i2) (mjB σ b i1 i2)) w9 40 (n1, d1) = itrR (jnF (mjT σ b i1 i2) (mjB σ b i1 i2)) 0 40 (0, 1) → P w9 n1 d1 → At x v A Q 26 52 [(7, vI w9), (5, vJ d1), (3, vJ n1), (0, .ref (vq v b)), (1, vI i1), (2, vI i2)] [] σ := by
            intro n
            induction n using Nat.strongRecOn with
            | _ n ih =>
              intro w9 d1 n1 hn iv1 iR iP
              refine a_iload C dX7_join_52 0 rfl ?_
              refine a_bipush C dX7_join_54 ?_
              refine a_icmp_ge C 299 (by omega) (by decide) dX7_join_56 (by decide) (fun c56 => ?_) (fun c56 => ?_)
              · skip
                have hw : w9 = 40 := by omega
                have hfin : (n1, d1) = (moJ σ b i1 i2) := by unfold moJ; rw [← iR, hw, itrR_nil (by omega)]
                refine a_aload_n C dX7_join_299 3 rfl rfl ?_
                refine a_lload_n C dX7_join_300 2 rfl rfl ?_
                refine a_lload C dX7_join_301 1 rfl ?_
                refine a_cVI C (k0 := 2) (As := [vJ n1, vJ d1]) (rest := []) (c_X7_tells x.2.1 v σ b hM n1 d1 (by have := g5 _ _ (by rw [hw] at iP; exact iP); exact this.1) (by have := g5 _ _ (by rw [hw] at iP; exact iP); exact this.2)) gX7_join_X7_tells rfl (by decide +kernel) (by decide) hM.f0 rfl hM.n0 rfl rfl (Nat.le_of_ble_eq_true rfl) dX7_join_303 (fun z303 u303 r303 p303 => ?_)
                obtain ⟨e303, p303⟩ := p303
                subst u303
                refine hret _ _ _ _ dX7_join_306 (by omega) ?_
                rw [if_neg (by omega), if_neg (by omega)]
                exact ⟨by rw [e303, ← hfin], by rw [← hfin]⟩
              · skip
                refine a_bipush C dX7_join_59 ?_
                refine a_iload_n C dX7_join_61 4 rfl rfl ?_
                refine a_imul C dX7_join_62 ?_
                refine a_iload C dX7_join_63 0 rfl ?_
                refine a_iadd C dX7_join_65 ?_
                refine a_istore C [(8, vI ((40 * i1) + w9)), (7, vI w9), (5, vJ d1), (3, vJ n1), (0, .ref (vq v b)), (1, vI i1), (2, vI i2)] dX7_join_66 (by decide) rfl ?_
                refine a_bipush C dX7_join_68 ?_
                refine a_iload_n C dX7_join_70 6 rfl rfl ?_
                refine a_imul C dX7_join_71 ?_
                refine a_iload C dX7_join_72 1 rfl ?_
                refine a_iadd C dX7_join_74 ?_
                refine a_istore C [(9, vI ((40 * i2) + w9)), (8, vI ((40 * i1) + w9)), (7, vI w9), (5, vJ d1), (3, vJ n1), (0, .ref (vq v b)), (1, vI i1), (2, vI i2)] dX7_join_75 (by decide) rfl ?_
                refine a_aload_n C dX7_join_77 5 rfl rfl ?_
                refine a_iload_n C dX7_join_78 6 rfl rfl ?_
                refine a_iload C dX7_join_79 2 rfl ?_
                refine a_cVI C (k0 := 2) (As := [vI i1, vI w9]) (rest := []) (c_X7_spanOf x.2.1 v σ b hM i1 w9 (by omega) (by omega) kE1) gX7_join_X7_spanOf rfl (by decide +kernel) (by decide) hM.f0 rfl hM.n0 rfl rfl (Nat.le_of_ble_eq_true rfl) dX7_join_81 (fun z81 u81 r81 p81 => ?_)
                obtain ⟨e81, p81⟩ := p81
                subst u81
                have s81 := (spOf_in (S := moE σ b i1) kE1 (v := w9) (by omega))
                rw [show spOf (moE σ b i1).2.1 (moE σ b i1).1 w9 = z81 from e81.symm] at s81
                have s82 : z81 < (σ (b + 11) i1) := s81.2.1
                refine a_istore C [(10, vI z81), (9, vI ((40 * i2) + w9)), (8, vI ((40 * i1) + w9)), (7, vI w9), (5, vJ d1), (3, vJ n1), (0, .ref (vq v b)), (1, vI i1), (2, vI i2)] dX7_join_84 (by decide) rfl ?_
                refine a_aload_n C dX7_join_86 6 rfl rfl ?_
                refine a_iload_n C dX7_join_87 8 rfl rfl ?_
                refine a_iload C dX7_join_88 3 rfl ?_
                refine a_cVI C (k0 := 2) (As := [vI i2, vI w9]) (rest := []) (c_X7_spanOf x.2.1 v σ b hM i2 w9 (by omega) (by omega) kE2) gX7_join_X7_spanOf rfl (by decide +kernel) (by decide) hM.f0 rfl hM.n0 rfl rfl (Nat.le_of_ble_eq_true rfl) dX7_join_90 (fun z90 u90 r90 p90 => ?_)
                obtain ⟨e90, p90⟩ := p90
                subst u90
                have s90 := (spOf_in (S := moE σ b i2) kE2 (v := w9) (by omega))
                rw [show spOf (moE σ b i2).2.1 (moE σ b i2).1 w9 = z90 from e90.symm] at s90
                have s91 : z90 < (σ (b + 11) i2) := s90.2.1
                refine a_istore C [(11, vI z90), (10, vI z81), (9, vI ((40 * i2) + w9)), (8, vI ((40 * i1) + w9)), (7, vI w9), (5, vJ d1), (3, vJ n1), (0, .ref (vq v b)), (1, vI i1), (2, vI i2)] dX7_join_93 (by decide) rfl ?_
                refine a_aload_n C dX7_join_95 7 rfl rfl ?_
                refine a_getf C hM.f0 hM.n0 (Cn := RX7) (T := TX7) (N := 30) rfl iX7 16 (by decide) k54 (w := .ref (vq v (b + 14))) rfl dX7_join_96 ?_
                refine a_iload C dX7_join_99 3 rfl ?_
                refine a_zald C hM.f14 hM.n14 2 hM.tB (by omega) (by omega) (by decide) dX7_join_101 (fun z101 e101 r101 => ?_)
                rw [shR_i (σ (b + 14)) (40 * i1) w9 _ rfl] at e101
                refine a_if_eq C 115 r101 dX7_join_102 (by decide) (fun c102 => ?_) (fun c102 => ?_)
                · skip
                  refine a_aload_n C dX7_join_115 7 rfl rfl ?_
                  refine a_getf C hM.f0 hM.n0 (Cn := RX7) (T := TX7) (N := 30) rfl iX7 18 (by decide) k61 (w := .ref (vq v (b + 16))) rfl dX7_join_116 ?_
                  refine a_bipush C dX7_join_119 ?_
                  refine a_iload_n C dX7_join_121 8 rfl rfl ?_
                  refine a_imul C dX7_join_122 ?_
                  refine a_iload C dX7_join_123 1 rfl ?_
                  refine a_iadd C dX7_join_125 ?_
                  refine a_iald C hM.f16 hM.n16 0 hM.tI (by omega) (by omega) (by decide) dX7_join_126 (fun z126 e126 r126 => ?_)
                  rw [shR_i (σ (b + 16)) (40 * i1) z81 _ rfl] at e126
                  refine a_i2l C r126 dX7_join_127 ?_
                  refine a_aload_n C dX7_join_128 7 rfl rfl ?_
                  refine a_getf C hM.f0 hM.n0 (Cn := RX7) (T := TX7) (N := 30) rfl iX7 16 (by decide) k54 (w := .ref (vq v (b + 14))) rfl dX7_join_129 ?_
                  refine a_iload C dX7_join_132 2 rfl ?_
                  refine a_zald C hM.f14 hM.n14 2 hM.tB (by omega) (by omega) (by decide) dX7_join_134 (fun z134 e134 r134 => ?_)
                  rw [shR_i (σ (b + 14)) (40 * i2) w9 _ rfl] at e134
                  refine a_if_eq C 148 r134 dX7_join_135 (by decide) (fun c135 => ?_) (fun c135 => ?_)
                  · skip
                    refine a_aload_n C dX7_join_148 7 rfl rfl ?_
                    refine a_getf C hM.f0 hM.n0 (Cn := RX7) (T := TX7) (N := 30) rfl iX7 18 (by decide) k61 (w := .ref (vq v (b + 16))) rfl dX7_join_149 ?_
                    refine a_bipush C dX7_join_152 ?_
                    refine a_iload_n C dX7_join_154 9 rfl rfl ?_
                    refine a_imul C dX7_join_155 ?_
                    refine a_iload C dX7_join_156 0 rfl ?_
                    refine a_iadd C dX7_join_158 ?_
                    refine a_iald C hM.f16 hM.n16 0 hM.tI (by omega) (by omega) (by decide) dX7_join_159 (fun z159 e159 r159 => ?_)
                    rw [shR_i (σ (b + 16)) (40 * i2) z90 _ rfl] at e159
                    refine a_i2l C r159 dX7_join_160 ?_
                    refine a_lmul C dX7_join_161 ?_
                    refine a_lstore C [(12, vJ (z126 * z159)), (11, vI z90), (10, vI z81), (9, vI ((40 * i2) + w9)), (8, vI ((40 * i1) + w9)), (7, vI w9), (5, vJ d1), (3, vJ n1), (0, .ref (vq v b)), (1, vI i1), (2, vI i2)] dX7_join_162 (by decide) rfl ?_
                    refine a_aload_n C dX7_join_164 8 rfl rfl ?_
                    refine a_getf C hM.f0 hM.n0 (Cn := RX7) (T := TX7) (N := 30) rfl iX7 16 (by decide) k54 (w := .ref (vq v (b + 14))) rfl dX7_join_165 ?_
                    refine a_iload C dX7_join_168 4 rfl ?_
                    refine a_zald C hM.f14 hM.n14 2 hM.tB (by omega) (by omega) (by decide) dX7_join_170 (fun z170 e170 r170 => ?_)
                    rw [shR_i (σ (b + 14)) (40 * i1) w9 _ rfl] at e170
                    refine a_if_eq C 178 r170 dX7_join_171 (by decide) (fun c171 => ?_) (fun c171 => ?_)
                    · skip
                      refine a_aload_n C dX7_join_178 8 rfl rfl ?_
                      refine a_iload_n C dX7_join_179 9 rfl rfl ?_
                      refine a_iload C dX7_join_180 2 rfl ?_
                      refine a_cVI C (k0 := 2) (As := [vI i1, vI z81]) (rest := []) (c_X7_longOf x.2.1 v σ b hM i1 z81 (by omega) (by omega) kE1) gX7_join_X7_longOf rfl (by decide +kernel) (by decide) hM.f0 rfl hM.n0 rfl rfl (Nat.le_of_ble_eq_true rfl) dX7_join_182 (fun z182 u182 r182 p182 => ?_)
                      obtain ⟨e182, p182⟩ := p182
                      subst u182
                      refine a_i2l C r182 dX7_join_185 ?_
                      refine a_aload_n C dX7_join_186 8 rfl rfl ?_
                      refine a_getf C hM.f0 hM.n0 (Cn := RX7) (T := TX7) (N := 30) rfl iX7 16 (by decide) k54 (w := .ref (vq v (b + 14))) rfl dX7_join_187 ?_
                      refine a_iload C dX7_join_190 3 rfl ?_
                      refine a_zald C hM.f14 hM.n14 2 hM.tB (by omega) (by omega) (by decide) dX7_join_192 (fun z192 e192 r192 => ?_)
                      rw [shR_i (σ (b + 14)) (40 * i2) w9 _ rfl] at e192
                      refine a_if_eq C 200 r192 dX7_join_193 (by decide) (fun c193 => ?_) (fun c193 => ?_)
                      · skip
                        refine a_aload_n C dX7_join_200 8 rfl rfl ?_
                        refine a_iload_n C dX7_join_201 10 rfl rfl ?_
                        refine a_iload C dX7_join_202 1 rfl ?_
                        refine a_cVI C (k0 := 2) (As := [vI i2, vI z90]) (rest := [vJ z182]) (c_X7_longOf x.2.1 v σ b hM i2 z90 (by omega) (by omega) kE2) gX7_join_X7_longOf rfl (by decide +kernel) (by decide) hM.f0 rfl hM.n0 rfl rfl (Nat.le_of_ble_eq_true rfl) dX7_join_204 (fun z204 u204 r204 p204 => ?_)
                        obtain ⟨e204, p204⟩ := p204
                        subst u204
                        refine a_i2l C r204 dX7_join_207 ?_
                        refine a_lmul C dX7_join_208 ?_
                        refine a_lstore C [(14, vJ (z182 * z204)), (12, vJ (z126 * z159)), (11, vI z90), (10, vI z81), (9, vI ((40 * i2) + w9)), (8, vI ((40 * i1) + w9)), (7, vI w9), (5, vJ d1), (3, vJ n1), (0, .ref (vq v b)), (1, vI i1), (2, vI i2)] dX7_join_209 (by decide) rfl ?_
                        obtain ⟨X9, hX9⟩ : ∃ z : Int, z = z126 * z159 := ⟨_, rfl⟩
                        obtain ⟨Y9, hY9⟩ : ∃ z : Int, z = z182 * z204 := ⟨_, rfl⟩
                        rw [← hX9, ← hY9]
                        have hX : X9 = mjT σ b i1 i2 w9 := by
                          have ta : (shT (shR (σ (b + 14)) (40 * i1)) (shR (σ (b + 13)) (40 * i1)) (shR (σ (b + 15)) (40 * i1)) (shR (σ (b + 16)) (40 * i1)) (σ (b + 11) i1) w9) = z126 := by unfold shT; (first | (rw [if_neg (by omega)]; assumption) | (rw [if_neg (by omega)]; omega) | (rw [if_pos (by omega), ← e81]; omega))
                          have tb : (shT (shR (σ (b + 14)) (40 * i2)) (shR (σ (b + 13)) (40 * i2)) (shR (σ (b + 15)) (40 * i2)) (shR (σ (b + 16)) (40 * i2)) (σ (b + 11) i2) w9) = z159 := by unfold shT; (first | (rw [if_neg (by omega)]; omega) | (rw [if_pos (by omega), ← e90]; omega))
                          rw [hX9]; unfold mjT; rw [ta, tb]
                        have hY : Y9 = mjB σ b i1 i2 w9 := by
                          have ta : (shB (shR (σ (b + 14)) (40 * i1)) (shR (σ (b + 15)) (40 * i1)) (σ (b + 11) i1) w9) = z182 := by unfold shB; (first | rw [if_neg (by omega)] | (rw [if_pos (by omega), ← e81]; omega))
                          have tb : (shB (shR (σ (b + 14)) (40 * i2)) (shR (σ (b + 15)) (40 * i2)) (σ (b + 11) i2) w9) = z204 := by unfold shB; (first | rw [if_neg (by omega)] | (rw [if_pos (by omega), ← e90]; omega))
                          rw [hY9]; unfold mjB; rw [ta, tb]
                        have hs := g4 w9 n1 d1 (by omega) (by omega) iP
                        rw [← hX, ← hY] at hs
                        have hYb : 1 ≤ Y9 ∧ Y9 ≤ 40 * 40 := by
                          have p1 := g1 w9 (by omega) (by omega); have p2 := g2 w9 (by omega) (by omega)
                          have p3 : Y9 = (shB (shR (σ (b + 14)) (40 * i1)) (shR (σ (b + 15)) (40 * i1)) (σ (b + 11) i1) w9) * (shB (shR (σ (b + 14)) (40 * i2)) (shR (σ (b + 15)) (40 * i2)) (σ (b + 11) i2) w9) := hY
                          have p4 := Int.mul_le_mul p1.2 p2.2 (by omega) (by omega)
                          have p5 := Int.mul_pos (show 0 < (shB (shR (σ (b + 14)) (40 * i1)) (shR (σ (b + 15)) (40 * i1)) (σ (b + 11) i1) w9) by omega) (show 0 < (shB (shR (σ (b + 14)) (40 * i2)) (shR (σ (b + 15)) (40 * i2)) (σ (b + 11) i2) w9) by omega)
                          omega
                        have hXb : -(20000000 * 20000000) ≤ X9 ∧ X9 ≤ 20000000 * 20000000 := by
                          have p3 : X9 = (shT (shR (σ (b + 14)) (40 * i1)) (shR (σ (b + 13)) (40 * i1)) (shR (σ (b + 15)) (40 * i1)) (shR (σ (b + 16)) (40 * i1)) (σ (b + 11) i1) w9) * (shT (shR (σ (b + 14)) (40 * i2)) (shR (σ (b + 13)) (40 * i2)) (shR (σ (b + 15)) (40 * i2)) (shR (σ (b + 16)) (40 * i2)) (σ (b + 11) i2) w9) := hX
                          rw [p3]; exact mul_bd2 (gT1 w9 (by omega) (by omega)).1 (gT1 w9 (by omega) (by omega)).2 (gT2 w9 (by omega) (by omega)).1 (gT2 w9 (by omega) (by omega)).2 (by decide)
                        refine a_lload C dX7_join_211 1 rfl ?_
                        refine a_lload C dX7_join_213 0 rfl ?_
                        refine a_cSL C (k0 := 2) (As := [vJ X9, vJ Y9]) (rest := []) (c_X7_common x.2.1 v σ X9 Y9 (by omega) (by omega)) gX7_join_X7_common rfl (by decide +kernel) (by decide) rfl rfl (Nat.le_of_ble_eq_true rfl) dX7_join_215 (fun z215 u215 r215 p215 => ?_)
                        obtain ⟨e215, p215⟩ := p215
                        subst u215
                        have y1 := gcI_pos (a := X9) (b := Y9) (by omega)
                        have y2 := gcI_le (a := X9) (b := Y9) (by omega)
                        have y3 : X9.tdiv z215 = frN X9 Y9 := by rw [e215]; exact tdiv_dvd (by omega) (gcI_dl X9 Y9)
                        have y4 : Y9.tdiv z215 = frD X9 Y9 := by rw [e215]; exact tdiv_dvd (by omega) (gcI_dr X9 Y9)
                        have y5 := frD_pos (a := X9) (b := Y9) (by omega)
                        have y6 := frD_le (a := X9) (b := Y9) (by omega)
                        refine a_lstore C [(16, vJ z215), (14, vJ Y9), (12, vJ X9), (11, vI z90), (10, vI z81), (9, vI ((40 * i2) + w9)), (8, vI ((40 * i1) + w9)), (7, vI w9), (5, vJ d1), (3, vJ n1), (0, .ref (vq v b)), (1, vI i1), (2, vI i2)] dX7_join_218 (by decide) rfl ?_
                        refine a_lload C dX7_join_220 2 rfl ?_
                        refine a_lload C dX7_join_222 0 rfl ?_
                        refine a_ldiv C (by omega) r215 (by omega) dX7_join_224 ?_
                        refine a_lstore C [(12, vJ (X9.tdiv z215)), (16, vJ z215), (14, vJ Y9), (11, vI z90), (10, vI z81), (9, vI ((40 * i2) + w9)), (8, vI ((40 * i1) + w9)), (7, vI w9), (5, vJ d1), (3, vJ n1), (0, .ref (vq v b)), (1, vI i1), (2, vI i2)] dX7_join_225 (by decide) rfl ?_
                        refine a_lload C dX7_join_227 2 rfl ?_
                        refine a_lload C dX7_join_229 1 rfl ?_
                        refine a_ldiv C (by omega) r215 (by omega) dX7_join_231 ?_
                        refine a_lstore C [(14, vJ (Y9.tdiv z215)), (12, vJ (X9.tdiv z215)), (16, vJ z215), (11, vI z90), (10, vI z81), (9, vI ((40 * i2) + w9)), (8, vI ((40 * i1) + w9)), (7, vI w9), (5, vJ d1), (3, vJ n1), (0, .ref (vq v b)), (1, vI i1), (2, vI i2)] dX7_join_232 (by decide) rfl ?_
                        rw [y3, y4]
                        refine a_lload C dX7_join_234 8 rfl ?_
                        refine a_lload C dX7_join_236 0 rfl ?_
                        refine a_cSL C (k0 := 2) (As := [vJ d1, vJ (frD X9 Y9)]) (rest := []) (c_X7_common x.2.1 v σ d1 (frD X9 Y9) (by omega) (by omega)) gX7_join_X7_common rfl (by decide +kernel) (by decide) rfl rfl (Nat.le_of_ble_eq_true rfl) dX7_join_238 (fun z238 u238 r238 p238 => ?_)
                        obtain ⟨e238, p238⟩ := p238
                        subst u238
                        have w1_ := gcI_pos (a := d1) (b := frD X9 Y9) (by omega)
                        have w2_ := gcI_le (a := d1) (b := frD X9 Y9) (by omega)
                        have w3_ : (frD X9 Y9).tdiv z238 = frD X9 Y9 / gcI d1 (frD X9 Y9) := by rw [e238]; exact tdiv_dvd (by omega) (gcI_dr _ _)
                        have w4_ : d1.tdiv z238 = d1 / gcI d1 (frD X9 Y9) := by rw [e238]; exact tdiv_dvd (by omega) (gcI_dl _ _)
                        refine a_lstore C [(18, vJ z238), (14, vJ (frD X9 Y9)), (12, vJ (frN X9 Y9)), (16, vJ z215), (11, vI z90), (10, vI z81), (9, vI ((40 * i2) + w9)), (8, vI ((40 * i1) + w9)), (7, vI w9), (5, vJ d1), (3, vJ n1), (0, .ref (vq v b)), (1, vI i1), (2, vI i2)] dX7_join_241 (by decide) rfl ?_
                        refine a_lload_n C dX7_join_243 10 rfl rfl ?_
                        refine a_lload C dX7_join_244 1 rfl ?_
                        refine a_lload C dX7_join_246 0 rfl ?_
                        refine a_ldiv C (by omega) r238 (by omega) dX7_join_248 ?_
                        refine a_lmul C dX7_join_249 ?_
                        refine a_lload C dX7_join_250 2 rfl ?_
                        refine a_lload C dX7_join_252 9 rfl ?_
                        refine a_lload C dX7_join_254 0 rfl ?_
                        refine a_ldiv C (by omega) r238 (by omega) dX7_join_256 ?_
                        refine a_lmul C dX7_join_257 ?_
                        refine a_ladd C dX7_join_258 ?_
                        refine a_lstore C [(20, vJ ((n1 * ((frD X9 Y9).tdiv z238)) + ((frN X9 Y9) * (d1.tdiv z238)))), (18, vJ z238), (14, vJ (frD X9 Y9)), (12, vJ (frN X9 Y9)), (16, vJ z215), (11, vI z90), (10, vI z81), (9, vI ((40 * i2) + w9)), (8, vI ((40 * i1) + w9)), (7, vI w9), (5, vJ d1), (3, vJ n1), (0, .ref (vq v b)), (1, vI i1), (2, vI i2)] dX7_join_259 (by decide) rfl ?_
                        refine a_lload C dX7_join_261 10 rfl ?_
                        refine a_lload C dX7_join_263 1 rfl ?_
                        refine a_ldiv C (by omega) r238 (by omega) dX7_join_265 ?_
                        refine a_lload C dX7_join_266 2 rfl ?_
                        refine a_lmul C dX7_join_268 ?_
                        refine a_lstore C [(22, vJ ((d1.tdiv z238) * (frD X9 Y9))), (20, vJ ((n1 * ((frD X9 Y9).tdiv z238)) + ((frN X9 Y9) * (d1.tdiv z238)))), (18, vJ z238), (14, vJ (frD X9 Y9)), (12, vJ (frN X9 Y9)), (16, vJ z215), (11, vI z90), (10, vI z81), (9, vI ((40 * i2) + w9)), (8, vI ((40 * i1) + w9)), (7, vI w9), (5, vJ d1), (3, vJ n1), (0, .ref (vq v b)), (1, vI i1), (2, vI i2)] dX7_join_269 (by decide) rfl ?_
                        have v1_ : n1 * ((frD X9 Y9).tdiv z238) + frN X9 Y9 * (d1.tdiv z238) = aiN n1 d1 X9 Y9 := by rw [w3_, w4_]; rfl
                        have v2_ : d1.tdiv z238 * frD X9 Y9 = aiD d1 X9 Y9 := by rw [w4_]; exact ai_comm hs.1.1 y5
                        rw [v1_, v2_]
                        have v3_ := aiD_pos (d := d1) (x := X9) (y := Y9) hs.1.1 (by omega)
                        refine a_lload C dX7_join_271 1 rfl ?_
                        refine a_lload C dX7_join_273 0 rfl ?_
                        refine a_cSL C (k0 := 2) (As := [vJ (aiN n1 d1 X9 Y9), vJ (aiD d1 X9 Y9)]) (rest := []) (c_X7_common x.2.1 v σ (aiN n1 d1 X9 Y9) (aiD d1 X9 Y9) (by omega) (by omega)) gX7_join_X7_common rfl (by decide +kernel) (by decide) rfl rfl (Nat.le_of_ble_eq_true rfl) dX7_join_275 (fun z275 u275 r275 p275 => ?_)
                        obtain ⟨e275, p275⟩ := p275
                        subst u275
                        have t1_ := gcI_pos (a := aiN n1 d1 X9 Y9) (b := aiD d1 X9 Y9) v3_
                        have t2_ := gcI_le (a := aiN n1 d1 X9 Y9) (b := aiD d1 X9 Y9) v3_
                        have gn : (frN (aiN n1 d1 X9 Y9) (aiD d1 X9 Y9)) = (aiN n1 d1 X9 Y9).tdiv z275 := by rw [e275]; exact (tdiv_dvd (by omega) (gcI_dl _ _)).symm
                        have gd : (frD (aiN n1 d1 X9 Y9) (aiD d1 X9 Y9)) = (aiD d1 X9 Y9).tdiv z275 := by rw [e275]; exact (tdiv_dvd (by omega) (gcI_dr _ _)).symm
                        refine a_lstore C [(24, vJ z275), (22, vJ (aiD d1 X9 Y9)), (20, vJ (aiN n1 d1 X9 Y9)), (18, vJ z238), (14, vJ (frD X9 Y9)), (12, vJ (frN X9 Y9)), (16, vJ z215), (11, vI z90), (10, vI z81), (9, vI ((40 * i2) + w9)), (8, vI ((40 * i1) + w9)), (7, vI w9), (5, vJ d1), (3, vJ n1), (0, .ref (vq v b)), (1, vI i1), (2, vI i2)] dX7_join_278 (by decide) rfl ?_
                        refine a_lload C dX7_join_280 2 rfl ?_
                        refine a_lload C dX7_join_282 0 rfl ?_
                        refine a_ldiv C (by omega) r275 (by omega) dX7_join_284 ?_
                        refine a_lstore_n C 3 [(3, vJ ((aiN n1 d1 X9 Y9).tdiv z275)), (24, vJ z275), (22, vJ (aiD d1 X9 Y9)), (20, vJ (aiN n1 d1 X9 Y9)), (18, vJ z238), (14, vJ (frD X9 Y9)), (12, vJ (frN X9 Y9)), (16, vJ z215), (11, vI z90), (10, vI z81), (9, vI ((40 * i2) + w9)), (8, vI ((40 * i1) + w9)), (7, vI w9), (5, vJ d1), (0, .ref (vq v b)), (1, vI i1), (2, vI i2)] dX7_join_285 rfl (by decide) rfl ?_
                        refine a_lload C dX7_join_286 2 rfl ?_
                        refine a_lload C dX7_join_288 1 rfl ?_
                        refine a_ldiv C (by omega) r275 (by omega) dX7_join_290 ?_
                        refine a_lstore C [(5, vJ ((aiD d1 X9 Y9).tdiv z275)), (3, vJ ((aiN n1 d1 X9 Y9).tdiv z275)), (24, vJ z275), (22, vJ (aiD d1 X9 Y9)), (20, vJ (aiN n1 d1 X9 Y9)), (18, vJ z238), (14, vJ (frD X9 Y9)), (12, vJ (frN X9 Y9)), (16, vJ z215), (11, vI z90), (10, vI z81), (9, vI ((40 * i2) + w9)), (8, vI ((40 * i1) + w9)), (7, vI w9), (0, .ref (vq v b)), (1, vI i1), (2, vI i2)] dX7_join_291 (by decide) rfl ?_
                        refine a_iinc C (w9 + 1) [(7, vI (w9 + 1)), (5, vJ ((aiD d1 X9 Y9).tdiv z275)), (3, vJ ((aiN n1 d1 X9 Y9).tdiv z275)), (24, vJ z275), (22, vJ (aiD d1 X9 Y9)), (20, vJ (aiN n1 d1 X9 Y9)), (18, vJ z238), (14, vJ (frD X9 Y9)), (12, vJ (frN X9 Y9)), (16, vJ z215), (11, vI z90), (10, vI z81), (9, vI ((40 * i2) + w9)), (8, vI ((40 * i1) + w9)), (0, .ref (vq v b)), (1, vI i1), (2, vI i2)] dX7_join_293 13 rfl (by omega) (by decide) rfl ?_
                        refine a_goto C 52 dX7_join_296 (by decide) ?_
                        refine a_sub [0, 1, 2, 14, 15, 16] [(7, vI (w9 + 1)), (5, vJ ((aiD d1 X9 Y9).tdiv z275)), (3, vJ ((aiN n1 d1 X9 Y9).tdiv z275)), (0, .ref (vq v b)), (1, vI i1), (2, vI i2)] rfl ?_
                        refine ih _ (by omega) (w9 + 1) _ _ rfl (by omega) ?_ ?_
                        · rw [← iR, itrR_step (a := w9) (by omega)]
                          congr 1
                          exact (show jnF (mjT σ b i1 i2) (mjB σ b i1 i2) w9 (n1, d1) = _ by unfold jnF; rw [← hX, ← hY]; dsimp only; rw [gn, gd]).symm
                        · have h9 := hs.2.2.2
                          skip
                          have h8 : jnF (mjT σ b i1 i2) (mjB σ b i1 i2) w9 (n1, d1) = (((aiN n1 d1 X9 Y9).tdiv z275), ((aiD d1 X9 Y9).tdiv z275)) := by unfold jnF; rw [← hX, ← hY]; dsimp only; rw [gn, gd]
                          rw [h8] at h9
                          exact h9
                      · skip
                        exfalso; omega
                    · skip
                      exfalso; omega
                  · skip
                    refine a_aload_n C dX7_join_138 7 rfl rfl ?_
                    refine a_getf C hM.f0 hM.n0 (Cn := RX7) (T := TX7) (N := 30) rfl iX7 15 (by decide) k51 (w := .ref (vq v (b + 13))) rfl dX7_join_139 ?_
                    refine a_iload C dX7_join_142 2 rfl ?_
                    refine a_iald C hM.f13 hM.n13 0 hM.tI (by omega) (by omega) (by decide) dX7_join_144 (fun z144 e144 r144 => ?_)
                    rw [shR_i (σ (b + 13)) (40 * i2) w9 _ rfl] at e144
                    refine a_goto C 160 dX7_join_145 (by decide) ?_
                    refine a_i2l C r144 dX7_join_160 ?_
                    refine a_lmul C dX7_join_161 ?_
                    refine a_lstore C [(12, vJ (z126 * z144)), (11, vI z90), (10, vI z81), (9, vI ((40 * i2) + w9)), (8, vI ((40 * i1) + w9)), (7, vI w9), (5, vJ d1), (3, vJ n1), (0, .ref (vq v b)), (1, vI i1), (2, vI i2)] dX7_join_162 (by decide) rfl ?_
                    refine a_aload_n C dX7_join_164 8 rfl rfl ?_
                    refine a_getf C hM.f0 hM.n0 (Cn := RX7) (T := TX7) (N := 30) rfl iX7 16 (by decide) k54 (w := .ref (vq v (b + 14))) rfl dX7_join_165 ?_
                    refine a_iload C dX7_join_168 4 rfl ?_
                    refine a_zald C hM.f14 hM.n14 2 hM.tB (by omega) (by omega) (by decide) dX7_join_170 (fun z170 e170 r170 => ?_)
                    rw [shR_i (σ (b + 14)) (40 * i1) w9 _ rfl] at e170
                    refine a_if_eq C 178 r170 dX7_join_171 (by decide) (fun c171 => ?_) (fun c171 => ?_)
                    · skip
                      refine a_aload_n C dX7_join_178 8 rfl rfl ?_
                      refine a_iload_n C dX7_join_179 9 rfl rfl ?_
                      refine a_iload C dX7_join_180 2 rfl ?_
                      refine a_cVI C (k0 := 2) (As := [vI i1, vI z81]) (rest := []) (c_X7_longOf x.2.1 v σ b hM i1 z81 (by omega) (by omega) kE1) gX7_join_X7_longOf rfl (by decide +kernel) (by decide) hM.f0 rfl hM.n0 rfl rfl (Nat.le_of_ble_eq_true rfl) dX7_join_182 (fun z182 u182 r182 p182 => ?_)
                      obtain ⟨e182, p182⟩ := p182
                      subst u182
                      refine a_i2l C r182 dX7_join_185 ?_
                      refine a_aload_n C dX7_join_186 8 rfl rfl ?_
                      refine a_getf C hM.f0 hM.n0 (Cn := RX7) (T := TX7) (N := 30) rfl iX7 16 (by decide) k54 (w := .ref (vq v (b + 14))) rfl dX7_join_187 ?_
                      refine a_iload C dX7_join_190 3 rfl ?_
                      refine a_zald C hM.f14 hM.n14 2 hM.tB (by omega) (by omega) (by decide) dX7_join_192 (fun z192 e192 r192 => ?_)
                      rw [shR_i (σ (b + 14)) (40 * i2) w9 _ rfl] at e192
                      refine a_if_eq C 200 r192 dX7_join_193 (by decide) (fun c193 => ?_) (fun c193 => ?_)
                      · skip
                        exfalso; omega
                      · skip
                        refine a_iconst C dX7_join_196 ?_
                        refine a_goto C 207 dX7_join_197 (by decide) ?_
                        refine a_i2l C (by decide) dX7_join_207 ?_
                        refine a_lmul C dX7_join_208 ?_
                        refine a_lstore C [(14, vJ (z182 * 1)), (12, vJ (z126 * z144)), (11, vI z90), (10, vI z81), (9, vI ((40 * i2) + w9)), (8, vI ((40 * i1) + w9)), (7, vI w9), (5, vJ d1), (3, vJ n1), (0, .ref (vq v b)), (1, vI i1), (2, vI i2)] dX7_join_209 (by decide) rfl ?_
                        obtain ⟨X9, hX9⟩ : ∃ z : Int, z = z126 * z144 := ⟨_, rfl⟩
                        obtain ⟨Y9, hY9⟩ : ∃ z : Int, z = z182 * 1 := ⟨_, rfl⟩
                        rw [← hX9, ← hY9]
                        have hX : X9 = mjT σ b i1 i2 w9 := by
                          have ta : (shT (shR (σ (b + 14)) (40 * i1)) (shR (σ (b + 13)) (40 * i1)) (shR (σ (b + 15)) (40 * i1)) (shR (σ (b + 16)) (40 * i1)) (σ (b + 11) i1) w9) = z126 := by unfold shT; (first | (rw [if_neg (by omega)]; assumption) | (rw [if_neg (by omega)]; omega) | (rw [if_pos (by omega), ← e81]; omega))
                          have tb : (shT (shR (σ (b + 14)) (40 * i2)) (shR (σ (b + 13)) (40 * i2)) (shR (σ (b + 15)) (40 * i2)) (shR (σ (b + 16)) (40 * i2)) (σ (b + 11) i2) w9) = z144 := by unfold shT; (first | (rw [if_neg (by omega)]; omega) | (rw [if_pos (by omega), ← e90]; omega))
                          rw [hX9]; unfold mjT; rw [ta, tb]
                        have hY : Y9 = mjB σ b i1 i2 w9 := by
                          have ta : (shB (shR (σ (b + 14)) (40 * i1)) (shR (σ (b + 15)) (40 * i1)) (σ (b + 11) i1) w9) = z182 := by unfold shB; (first | rw [if_neg (by omega)] | (rw [if_pos (by omega), ← e81]; omega))
                          have tb : (shB (shR (σ (b + 14)) (40 * i2)) (shR (σ (b + 15)) (40 * i2)) (σ (b + 11) i2) w9) = 1 := by unfold shB; (first | rw [if_neg (by omega)] | (rw [if_pos (by omega), ← e90]; omega))
                          rw [hY9]; unfold mjB; rw [ta, tb]
                        have hs := g4 w9 n1 d1 (by omega) (by omega) iP
                        rw [← hX, ← hY] at hs
                        have hYb : 1 ≤ Y9 ∧ Y9 ≤ 40 * 40 := by
                          have p1 := g1 w9 (by omega) (by omega); have p2 := g2 w9 (by omega) (by omega)
                          have p3 : Y9 = (shB (shR (σ (b + 14)) (40 * i1)) (shR (σ (b + 15)) (40 * i1)) (σ (b + 11) i1) w9) * (shB (shR (σ (b + 14)) (40 * i2)) (shR (σ (b + 15)) (40 * i2)) (σ (b + 11) i2) w9) := hY
                          have p4 := Int.mul_le_mul p1.2 p2.2 (by omega) (by omega)
                          have p5 := Int.mul_pos (show 0 < (shB (shR (σ (b + 14)) (40 * i1)) (shR (σ (b + 15)) (40 * i1)) (σ (b + 11) i1) w9) by omega) (show 0 < (shB (shR (σ (b + 14)) (40 * i2)) (shR (σ (b + 15)) (40 * i2)) (σ (b + 11) i2) w9) by omega)
                          omega
                        have hXb : -(20000000 * 20000000) ≤ X9 ∧ X9 ≤ 20000000 * 20000000 := by
                          have p3 : X9 = (shT (shR (σ (b + 14)) (40 * i1)) (shR (σ (b + 13)) (40 * i1)) (shR (σ (b + 15)) (40 * i1)) (shR (σ (b + 16)) (40 * i1)) (σ (b + 11) i1) w9) * (shT (shR (σ (b + 14)) (40 * i2)) (shR (σ (b + 13)) (40 * i2)) (shR (σ (b + 15)) (40 * i2)) (shR (σ (b + 16)) (40 * i2)) (σ (b + 11) i2) w9) := hX
                          rw [p3]; exact mul_bd2 (gT1 w9 (by omega) (by omega)).1 (gT1 w9 (by omega) (by omega)).2 (gT2 w9 (by omega) (by omega)).1 (gT2 w9 (by omega) (by omega)).2 (by decide)
                        refine a_lload C dX7_join_211 1 rfl ?_
                        refine a_lload C dX7_join_213 0 rfl ?_
                        refine a_cSL C (k0 := 2) (As := [vJ X9, vJ Y9]) (rest := []) (c_X7_common x.2.1 v σ X9 Y9 (by omega) (by omega)) gX7_join_X7_common rfl (by decide +kernel) (by decide) rfl rfl (Nat.le_of_ble_eq_true rfl) dX7_join_215 (fun z215 u215 r215 p215 => ?_)
                        obtain ⟨e215, p215⟩ := p215
                        subst u215
                        have y1 := gcI_pos (a := X9) (b := Y9) (by omega)
                        have y2 := gcI_le (a := X9) (b := Y9) (by omega)
                        have y3 : X9.tdiv z215 = frN X9 Y9 := by rw [e215]; exact tdiv_dvd (by omega) (gcI_dl X9 Y9)
                        have y4 : Y9.tdiv z215 = frD X9 Y9 := by rw [e215]; exact tdiv_dvd (by omega) (gcI_dr X9 Y9)
                        have y5 := frD_pos (a := X9) (b := Y9) (by omega)
                        have y6 := frD_le (a := X9) (b := Y9) (by omega)
                        refine a_lstore C [(16, vJ z215), (14, vJ Y9), (12, vJ X9), (11, vI z90), (10, vI z81), (9, vI ((40 * i2) + w9)), (8, vI ((40 * i1) + w9)), (7, vI w9), (5, vJ d1), (3, vJ n1), (0, .ref (vq v b)), (1, vI i1), (2, vI i2)] dX7_join_218 (by decide) rfl ?_
                        refine a_lload C dX7_join_220 2 rfl ?_
                        refine a_lload C dX7_join_222 0 rfl ?_
                        refine a_ldiv C (by omega) r215 (by omega) dX7_join_224 ?_
                        refine a_lstore C [(12, vJ (X9.tdiv z215)), (16, vJ z215), (14, vJ Y9), (11, vI z90), (10, vI z81), (9, vI ((40 * i2) + w9)), (8, vI ((40 * i1) + w9)), (7, vI w9), (5, vJ d1), (3, vJ n1), (0, .ref (vq v b)), (1, vI i1), (2, vI i2)] dX7_join_225 (by decide) rfl ?_
                        refine a_lload C dX7_join_227 2 rfl ?_
                        refine a_lload C dX7_join_229 1 rfl ?_
                        refine a_ldiv C (by omega) r215 (by omega) dX7_join_231 ?_
                        refine a_lstore C [(14, vJ (Y9.tdiv z215)), (12, vJ (X9.tdiv z215)), (16, vJ z215), (11, vI z90), (10, vI z81), (9, vI ((40 * i2) + w9)), (8, vI ((40 * i1) + w9)), (7, vI w9), (5, vJ d1), (3, vJ n1), (0, .ref (vq v b)), (1, vI i1), (2, vI i2)] dX7_join_232 (by decide) rfl ?_
                        rw [y3, y4]
                        refine a_lload C dX7_join_234 8 rfl ?_
                        refine a_lload C dX7_join_236 0 rfl ?_
                        refine a_cSL C (k0 := 2) (As := [vJ d1, vJ (frD X9 Y9)]) (rest := []) (c_X7_common x.2.1 v σ d1 (frD X9 Y9) (by omega) (by omega)) gX7_join_X7_common rfl (by decide +kernel) (by decide) rfl rfl (Nat.le_of_ble_eq_true rfl) dX7_join_238 (fun z238 u238 r238 p238 => ?_)
                        obtain ⟨e238, p238⟩ := p238
                        subst u238
                        have w1_ := gcI_pos (a := d1) (b := frD X9 Y9) (by omega)
                        have w2_ := gcI_le (a := d1) (b := frD X9 Y9) (by omega)
                        have w3_ : (frD X9 Y9).tdiv z238 = frD X9 Y9 / gcI d1 (frD X9 Y9) := by rw [e238]; exact tdiv_dvd (by omega) (gcI_dr _ _)
                        have w4_ : d1.tdiv z238 = d1 / gcI d1 (frD X9 Y9) := by rw [e238]; exact tdiv_dvd (by omega) (gcI_dl _ _)
                        refine a_lstore C [(18, vJ z238), (14, vJ (frD X9 Y9)), (12, vJ (frN X9 Y9)), (16, vJ z215), (11, vI z90), (10, vI z81), (9, vI ((40 * i2) + w9)), (8, vI ((40 * i1) + w9)), (7, vI w9), (5, vJ d1), (3, vJ n1), (0, .ref (vq v b)), (1, vI i1), (2, vI i2)] dX7_join_241 (by decide) rfl ?_
                        refine a_lload_n C dX7_join_243 10 rfl rfl ?_
                        refine a_lload C dX7_join_244 1 rfl ?_
                        refine a_lload C dX7_join_246 0 rfl ?_
                        refine a_ldiv C (by omega) r238 (by omega) dX7_join_248 ?_
                        refine a_lmul C dX7_join_249 ?_
                        refine a_lload C dX7_join_250 2 rfl ?_
                        refine a_lload C dX7_join_252 9 rfl ?_
                        refine a_lload C dX7_join_254 0 rfl ?_
                        refine a_ldiv C (by omega) r238 (by omega) dX7_join_256 ?_
                        refine a_lmul C dX7_join_257 ?_
                        refine a_ladd C dX7_join_258 ?_
                        refine a_lstore C [(20, vJ ((n1 * ((frD X9 Y9).tdiv z238)) + ((frN X9 Y9) * (d1.tdiv z238)))), (18, vJ z238), (14, vJ (frD X9 Y9)), (12, vJ (frN X9 Y9)), (16, vJ z215), (11, vI z90), (10, vI z81), (9, vI ((40 * i2) + w9)), (8, vI ((40 * i1) + w9)), (7, vI w9), (5, vJ d1), (3, vJ n1), (0, .ref (vq v b)), (1, vI i1), (2, vI i2)] dX7_join_259 (by decide) rfl ?_
                        refine a_lload C dX7_join_261 10 rfl ?_
                        refine a_lload C dX7_join_263 1 rfl ?_
                        refine a_ldiv C (by omega) r238 (by omega) dX7_join_265 ?_
                        refine a_lload C dX7_join_266 2 rfl ?_
                        refine a_lmul C dX7_join_268 ?_
                        refine a_lstore C [(22, vJ ((d1.tdiv z238) * (frD X9 Y9))), (20, vJ ((n1 * ((frD X9 Y9).tdiv z238)) + ((frN X9 Y9) * (d1.tdiv z238)))), (18, vJ z238), (14, vJ (frD X9 Y9)), (12, vJ (frN X9 Y9)), (16, vJ z215), (11, vI z90), (10, vI z81), (9, vI ((40 * i2) + w9)), (8, vI ((40 * i1) + w9)), (7, vI w9), (5, vJ d1), (3, vJ n1), (0, .ref (vq v b)), (1, vI i1), (2, vI i2)] dX7_join_269 (by decide) rfl ?_
                        have v1_ : n1 * ((frD X9 Y9).tdiv z238) + frN X9 Y9 * (d1.tdiv z238) = aiN n1 d1 X9 Y9 := by rw [w3_, w4_]; rfl
                        have v2_ : d1.tdiv z238 * frD X9 Y9 = aiD d1 X9 Y9 := by rw [w4_]; exact ai_comm hs.1.1 y5
                        rw [v1_, v2_]
                        have v3_ := aiD_pos (d := d1) (x := X9) (y := Y9) hs.1.1 (by omega)
                        refine a_lload C dX7_join_271 1 rfl ?_
                        refine a_lload C dX7_join_273 0 rfl ?_
                        refine a_cSL C (k0 := 2) (As := [vJ (aiN n1 d1 X9 Y9), vJ (aiD d1 X9 Y9)]) (rest := []) (c_X7_common x.2.1 v σ (aiN n1 d1 X9 Y9) (aiD d1 X9 Y9) (by omega) (by omega)) gX7_join_X7_common rfl (by decide +kernel) (by decide) rfl rfl (Nat.le_of_ble_eq_true rfl) dX7_join_275 (fun z275 u275 r275 p275 => ?_)
                        obtain ⟨e275, p275⟩ := p275
                        subst u275
                        have t1_ := gcI_pos (a := aiN n1 d1 X9 Y9) (b := aiD d1 X9 Y9) v3_
                        have t2_ := gcI_le (a := aiN n1 d1 X9 Y9) (b := aiD d1 X9 Y9) v3_
                        have gn : (frN (aiN n1 d1 X9 Y9) (aiD d1 X9 Y9)) = (aiN n1 d1 X9 Y9).tdiv z275 := by rw [e275]; exact (tdiv_dvd (by omega) (gcI_dl _ _)).symm
                        have gd : (frD (aiN n1 d1 X9 Y9) (aiD d1 X9 Y9)) = (aiD d1 X9 Y9).tdiv z275 := by rw [e275]; exact (tdiv_dvd (by omega) (gcI_dr _ _)).symm
                        refine a_lstore C [(24, vJ z275), (22, vJ (aiD d1 X9 Y9)), (20, vJ (aiN n1 d1 X9 Y9)), (18, vJ z238), (14, vJ (frD X9 Y9)), (12, vJ (frN X9 Y9)), (16, vJ z215), (11, vI z90), (10, vI z81), (9, vI ((40 * i2) + w9)), (8, vI ((40 * i1) + w9)), (7, vI w9), (5, vJ d1), (3, vJ n1), (0, .ref (vq v b)), (1, vI i1), (2, vI i2)] dX7_join_278 (by decide) rfl ?_
                        refine a_lload C dX7_join_280 2 rfl ?_
                        refine a_lload C dX7_join_282 0 rfl ?_
                        refine a_ldiv C (by omega) r275 (by omega) dX7_join_284 ?_
                        refine a_lstore_n C 3 [(3, vJ ((aiN n1 d1 X9 Y9).tdiv z275)), (24, vJ z275), (22, vJ (aiD d1 X9 Y9)), (20, vJ (aiN n1 d1 X9 Y9)), (18, vJ z238), (14, vJ (frD X9 Y9)), (12, vJ (frN X9 Y9)), (16, vJ z215), (11, vI z90), (10, vI z81), (9, vI ((40 * i2) + w9)), (8, vI ((40 * i1) + w9)), (7, vI w9), (5, vJ d1), (0, .ref (vq v b)), (1, vI i1), (2, vI i2)] dX7_join_285 rfl (by decide) rfl ?_
                        refine a_lload C dX7_join_286 2 rfl ?_
                        refine a_lload C dX7_join_288 1 rfl ?_
                        refine a_ldiv C (by omega) r275 (by omega) dX7_join_290 ?_
                        refine a_lstore C [(5, vJ ((aiD d1 X9 Y9).tdiv z275)), (3, vJ ((aiN n1 d1 X9 Y9).tdiv z275)), (24, vJ z275), (22, vJ (aiD d1 X9 Y9)), (20, vJ (aiN n1 d1 X9 Y9)), (18, vJ z238), (14, vJ (frD X9 Y9)), (12, vJ (frN X9 Y9)), (16, vJ z215), (11, vI z90), (10, vI z81), (9, vI ((40 * i2) + w9)), (8, vI ((40 * i1) + w9)), (7, vI w9), (0, .ref (vq v b)), (1, vI i1), (2, vI i2)] dX7_join_291 (by decide) rfl ?_
                        refine a_iinc C (w9 + 1) [(7, vI (w9 + 1)), (5, vJ ((aiD d1 X9 Y9).tdiv z275)), (3, vJ ((aiN n1 d1 X9 Y9).tdiv z275)), (24, vJ z275), (22, vJ (aiD d1 X9 Y9)), (20, vJ (aiN n1 d1 X9 Y9)), (18, vJ z238), (14, vJ (frD X9 Y9)), (12, vJ (frN X9 Y9)), (16, vJ z215), (11, vI z90), (10, vI z81), (9, vI ((40 * i2) + w9)), (8, vI ((40 * i1) + w9)), (0, .ref (vq v b)), (1, vI i1), (2, vI i2)] dX7_join_293 13 rfl (by omega) (by decide) rfl ?_
                        refine a_goto C 52 dX7_join_296 (by decide) ?_
                        refine a_sub [0, 1, 2, 14, 15, 16] [(7, vI (w9 + 1)), (5, vJ ((aiD d1 X9 Y9).tdiv z275)), (3, vJ ((aiN n1 d1 X9 Y9).tdiv z275)), (0, .ref (vq v b)), (1, vI i1), (2, vI i2)] rfl ?_
                        refine ih _ (by omega) (w9 + 1) _ _ rfl (by omega) ?_ ?_
                        · rw [← iR, itrR_step (a := w9) (by omega)]
                          congr 1
                          exact (show jnF (mjT σ b i1 i2) (mjB σ b i1 i2) w9 (n1, d1) = _ by unfold jnF; rw [← hX, ← hY]; dsimp only; rw [gn, gd]).symm
                        · have h9 := hs.2.2.2
                          skip
                          have h8 : jnF (mjT σ b i1 i2) (mjB σ b i1 i2) w9 (n1, d1) = (((aiN n1 d1 X9 Y9).tdiv z275), ((aiD d1 X9 Y9).tdiv z275)) := by unfold jnF; rw [← hX, ← hY]; dsimp only; rw [gn, gd]
                          rw [h8] at h9
                          exact h9
                    · skip
                      exfalso; omega
                · skip
                  refine a_aload_n C dX7_join_105 7 rfl rfl ?_
                  refine a_getf C hM.f0 hM.n0 (Cn := RX7) (T := TX7) (N := 30) rfl iX7 15 (by decide) k51 (w := .ref (vq v (b + 13))) rfl dX7_join_106 ?_
                  refine a_iload C dX7_join_109 3 rfl ?_
                  refine a_iald C hM.f13 hM.n13 0 hM.tI (by omega) (by omega) (by decide) dX7_join_111 (fun z111 e111 r111 => ?_)
                  rw [shR_i (σ (b + 13)) (40 * i1) w9 _ rfl] at e111
                  refine a_goto C 127 dX7_join_112 (by decide) ?_
                  refine a_i2l C r111 dX7_join_127 ?_
                  refine a_aload_n C dX7_join_128 7 rfl rfl ?_
                  refine a_getf C hM.f0 hM.n0 (Cn := RX7) (T := TX7) (N := 30) rfl iX7 16 (by decide) k54 (w := .ref (vq v (b + 14))) rfl dX7_join_129 ?_
                  refine a_iload C dX7_join_132 2 rfl ?_
                  refine a_zald C hM.f14 hM.n14 2 hM.tB (by omega) (by omega) (by decide) dX7_join_134 (fun z134 e134 r134 => ?_)
                  rw [shR_i (σ (b + 14)) (40 * i2) w9 _ rfl] at e134
                  refine a_if_eq C 148 r134 dX7_join_135 (by decide) (fun c135 => ?_) (fun c135 => ?_)
                  · skip
                    refine a_aload_n C dX7_join_148 7 rfl rfl ?_
                    refine a_getf C hM.f0 hM.n0 (Cn := RX7) (T := TX7) (N := 30) rfl iX7 18 (by decide) k61 (w := .ref (vq v (b + 16))) rfl dX7_join_149 ?_
                    refine a_bipush C dX7_join_152 ?_
                    refine a_iload_n C dX7_join_154 9 rfl rfl ?_
                    refine a_imul C dX7_join_155 ?_
                    refine a_iload C dX7_join_156 0 rfl ?_
                    refine a_iadd C dX7_join_158 ?_
                    refine a_iald C hM.f16 hM.n16 0 hM.tI (by omega) (by omega) (by decide) dX7_join_159 (fun z159 e159 r159 => ?_)
                    rw [shR_i (σ (b + 16)) (40 * i2) z90 _ rfl] at e159
                    refine a_i2l C r159 dX7_join_160 ?_
                    refine a_lmul C dX7_join_161 ?_
                    refine a_lstore C [(12, vJ (z111 * z159)), (11, vI z90), (10, vI z81), (9, vI ((40 * i2) + w9)), (8, vI ((40 * i1) + w9)), (7, vI w9), (5, vJ d1), (3, vJ n1), (0, .ref (vq v b)), (1, vI i1), (2, vI i2)] dX7_join_162 (by decide) rfl ?_
                    refine a_aload_n C dX7_join_164 8 rfl rfl ?_
                    refine a_getf C hM.f0 hM.n0 (Cn := RX7) (T := TX7) (N := 30) rfl iX7 16 (by decide) k54 (w := .ref (vq v (b + 14))) rfl dX7_join_165 ?_
                    refine a_iload C dX7_join_168 4 rfl ?_
                    refine a_zald C hM.f14 hM.n14 2 hM.tB (by omega) (by omega) (by decide) dX7_join_170 (fun z170 e170 r170 => ?_)
                    rw [shR_i (σ (b + 14)) (40 * i1) w9 _ rfl] at e170
                    refine a_if_eq C 178 r170 dX7_join_171 (by decide) (fun c171 => ?_) (fun c171 => ?_)
                    · skip
                      exfalso; omega
                    · skip
                      refine a_iconst C dX7_join_174 ?_
                      refine a_goto C 185 dX7_join_175 (by decide) ?_
                      refine a_i2l C (by decide) dX7_join_185 ?_
                      refine a_aload_n C dX7_join_186 8 rfl rfl ?_
                      refine a_getf C hM.f0 hM.n0 (Cn := RX7) (T := TX7) (N := 30) rfl iX7 16 (by decide) k54 (w := .ref (vq v (b + 14))) rfl dX7_join_187 ?_
                      refine a_iload C dX7_join_190 3 rfl ?_
                      refine a_zald C hM.f14 hM.n14 2 hM.tB (by omega) (by omega) (by decide) dX7_join_192 (fun z192 e192 r192 => ?_)
                      rw [shR_i (σ (b + 14)) (40 * i2) w9 _ rfl] at e192
                      refine a_if_eq C 200 r192 dX7_join_193 (by decide) (fun c193 => ?_) (fun c193 => ?_)
                      · skip
                        refine a_aload_n C dX7_join_200 8 rfl rfl ?_
                        refine a_iload_n C dX7_join_201 10 rfl rfl ?_
                        refine a_iload C dX7_join_202 1 rfl ?_
                        refine a_cVI C (k0 := 2) (As := [vI i2, vI z90]) (rest := [vJ 1]) (c_X7_longOf x.2.1 v σ b hM i2 z90 (by omega) (by omega) kE2) gX7_join_X7_longOf rfl (by decide +kernel) (by decide) hM.f0 rfl hM.n0 rfl rfl (Nat.le_of_ble_eq_true rfl) dX7_join_204 (fun z204 u204 r204 p204 => ?_)
                        obtain ⟨e204, p204⟩ := p204
                        subst u204
                        refine a_i2l C r204 dX7_join_207 ?_
                        refine a_lmul C dX7_join_208 ?_
                        refine a_lstore C [(14, vJ (1 * z204)), (12, vJ (z111 * z159)), (11, vI z90), (10, vI z81), (9, vI ((40 * i2) + w9)), (8, vI ((40 * i1) + w9)), (7, vI w9), (5, vJ d1), (3, vJ n1), (0, .ref (vq v b)), (1, vI i1), (2, vI i2)] dX7_join_209 (by decide) rfl ?_
                        obtain ⟨X9, hX9⟩ : ∃ z : Int, z = z111 * z159 := ⟨_, rfl⟩
                        obtain ⟨Y9, hY9⟩ : ∃ z : Int, z = 1 * z204 := ⟨_, rfl⟩
                        rw [← hX9, ← hY9]
                        have hX : X9 = mjT σ b i1 i2 w9 := by
                          have ta : (shT (shR (σ (b + 14)) (40 * i1)) (shR (σ (b + 13)) (40 * i1)) (shR (σ (b + 15)) (40 * i1)) (shR (σ (b + 16)) (40 * i1)) (σ (b + 11) i1) w9) = z111 := by unfold shT; (first | (rw [if_neg (by omega)]; assumption) | (rw [if_neg (by omega)]; omega) | (rw [if_pos (by omega), ← e81]; omega))
                          have tb : (shT (shR (σ (b + 14)) (40 * i2)) (shR (σ (b + 13)) (40 * i2)) (shR (σ (b + 15)) (40 * i2)) (shR (σ (b + 16)) (40 * i2)) (σ (b + 11) i2) w9) = z159 := by unfold shT; (first | (rw [if_neg (by omega)]; omega) | (rw [if_pos (by omega), ← e90]; omega))
                          rw [hX9]; unfold mjT; rw [ta, tb]
                        have hY : Y9 = mjB σ b i1 i2 w9 := by
                          have ta : (shB (shR (σ (b + 14)) (40 * i1)) (shR (σ (b + 15)) (40 * i1)) (σ (b + 11) i1) w9) = 1 := by unfold shB; (first | rw [if_neg (by omega)] | (rw [if_pos (by omega), ← e81]; omega))
                          have tb : (shB (shR (σ (b + 14)) (40 * i2)) (shR (σ (b + 15)) (40 * i2)) (σ (b + 11) i2) w9) = z204 := by unfold shB; (first | rw [if_neg (by omega)] | (rw [if_pos (by omega), ← e90]; omega))
                          rw [hY9]; unfold mjB; rw [ta, tb]
                        have hs := g4 w9 n1 d1 (by omega) (by omega) iP
                        rw [← hX, ← hY] at hs
                        have hYb : 1 ≤ Y9 ∧ Y9 ≤ 40 * 40 := by
                          have p1 := g1 w9 (by omega) (by omega); have p2 := g2 w9 (by omega) (by omega)
                          have p3 : Y9 = (shB (shR (σ (b + 14)) (40 * i1)) (shR (σ (b + 15)) (40 * i1)) (σ (b + 11) i1) w9) * (shB (shR (σ (b + 14)) (40 * i2)) (shR (σ (b + 15)) (40 * i2)) (σ (b + 11) i2) w9) := hY
                          have p4 := Int.mul_le_mul p1.2 p2.2 (by omega) (by omega)
                          have p5 := Int.mul_pos (show 0 < (shB (shR (σ (b + 14)) (40 * i1)) (shR (σ (b + 15)) (40 * i1)) (σ (b + 11) i1) w9) by omega) (show 0 < (shB (shR (σ (b + 14)) (40 * i2)) (shR (σ (b + 15)) (40 * i2)) (σ (b + 11) i2) w9) by omega)
                          omega
                        have hXb : -(20000000 * 20000000) ≤ X9 ∧ X9 ≤ 20000000 * 20000000 := by
                          have p3 : X9 = (shT (shR (σ (b + 14)) (40 * i1)) (shR (σ (b + 13)) (40 * i1)) (shR (σ (b + 15)) (40 * i1)) (shR (σ (b + 16)) (40 * i1)) (σ (b + 11) i1) w9) * (shT (shR (σ (b + 14)) (40 * i2)) (shR (σ (b + 13)) (40 * i2)) (shR (σ (b + 15)) (40 * i2)) (shR (σ (b + 16)) (40 * i2)) (σ (b + 11) i2) w9) := hX
                          rw [p3]; exact mul_bd2 (gT1 w9 (by omega) (by omega)).1 (gT1 w9 (by omega) (by omega)).2 (gT2 w9 (by omega) (by omega)).1 (gT2 w9 (by omega) (by omega)).2 (by decide)
                        refine a_lload C dX7_join_211 1 rfl ?_
                        refine a_lload C dX7_join_213 0 rfl ?_
                        refine a_cSL C (k0 := 2) (As := [vJ X9, vJ Y9]) (rest := []) (c_X7_common x.2.1 v σ X9 Y9 (by omega) (by omega)) gX7_join_X7_common rfl (by decide +kernel) (by decide) rfl rfl (Nat.le_of_ble_eq_true rfl) dX7_join_215 (fun z215 u215 r215 p215 => ?_)
                        obtain ⟨e215, p215⟩ := p215
                        subst u215
                        have y1 := gcI_pos (a := X9) (b := Y9) (by omega)
                        have y2 := gcI_le (a := X9) (b := Y9) (by omega)
                        have y3 : X9.tdiv z215 = frN X9 Y9 := by rw [e215]; exact tdiv_dvd (by omega) (gcI_dl X9 Y9)
                        have y4 : Y9.tdiv z215 = frD X9 Y9 := by rw [e215]; exact tdiv_dvd (by omega) (gcI_dr X9 Y9)
                        have y5 := frD_pos (a := X9) (b := Y9) (by omega)
                        have y6 := frD_le (a := X9) (b := Y9) (by omega)
                        refine a_lstore C [(16, vJ z215), (14, vJ Y9), (12, vJ X9), (11, vI z90), (10, vI z81), (9, vI ((40 * i2) + w9)), (8, vI ((40 * i1) + w9)), (7, vI w9), (5, vJ d1), (3, vJ n1), (0, .ref (vq v b)), (1, vI i1), (2, vI i2)] dX7_join_218 (by decide) rfl ?_
                        refine a_lload C dX7_join_220 2 rfl ?_
                        refine a_lload C dX7_join_222 0 rfl ?_
                        refine a_ldiv C (by omega) r215 (by omega) dX7_join_224 ?_
                        refine a_lstore C [(12, vJ (X9.tdiv z215)), (16, vJ z215), (14, vJ Y9), (11, vI z90), (10, vI z81), (9, vI ((40 * i2) + w9)), (8, vI ((40 * i1) + w9)), (7, vI w9), (5, vJ d1), (3, vJ n1), (0, .ref (vq v b)), (1, vI i1), (2, vI i2)] dX7_join_225 (by decide) rfl ?_
                        refine a_lload C dX7_join_227 2 rfl ?_
                        refine a_lload C dX7_join_229 1 rfl ?_
                        refine a_ldiv C (by omega) r215 (by omega) dX7_join_231 ?_
                        refine a_lstore C [(14, vJ (Y9.tdiv z215)), (12, vJ (X9.tdiv z215)), (16, vJ z215), (11, vI z90), (10, vI z81), (9, vI ((40 * i2) + w9)), (8, vI ((40 * i1) + w9)), (7, vI w9), (5, vJ d1), (3, vJ n1), (0, .ref (vq v b)), (1, vI i1), (2, vI i2)] dX7_join_232 (by decide) rfl ?_
                        rw [y3, y4]
                        refine a_lload C dX7_join_234 8 rfl ?_
                        refine a_lload C dX7_join_236 0 rfl ?_
                        refine a_cSL C (k0 := 2) (As := [vJ d1, vJ (frD X9 Y9)]) (rest := []) (c_X7_common x.2.1 v σ d1 (frD X9 Y9) (by omega) (by omega)) gX7_join_X7_common rfl (by decide +kernel) (by decide) rfl rfl (Nat.le_of_ble_eq_true rfl) dX7_join_238 (fun z238 u238 r238 p238 => ?_)
                        obtain ⟨e238, p238⟩ := p238
                        subst u238
                        have w1_ := gcI_pos (a := d1) (b := frD X9 Y9) (by omega)
                        have w2_ := gcI_le (a := d1) (b := frD X9 Y9) (by omega)
                        have w3_ : (frD X9 Y9).tdiv z238 = frD X9 Y9 / gcI d1 (frD X9 Y9) := by rw [e238]; exact tdiv_dvd (by omega) (gcI_dr _ _)
                        have w4_ : d1.tdiv z238 = d1 / gcI d1 (frD X9 Y9) := by rw [e238]; exact tdiv_dvd (by omega) (gcI_dl _ _)
                        refine a_lstore C [(18, vJ z238), (14, vJ (frD X9 Y9)), (12, vJ (frN X9 Y9)), (16, vJ z215), (11, vI z90), (10, vI z81), (9, vI ((40 * i2) + w9)), (8, vI ((40 * i1) + w9)), (7, vI w9), (5, vJ d1), (3, vJ n1), (0, .ref (vq v b)), (1, vI i1), (2, vI i2)] dX7_join_241 (by decide) rfl ?_
                        refine a_lload_n C dX7_join_243 10 rfl rfl ?_
                        refine a_lload C dX7_join_244 1 rfl ?_
                        refine a_lload C dX7_join_246 0 rfl ?_
                        refine a_ldiv C (by omega) r238 (by omega) dX7_join_248 ?_
                        refine a_lmul C dX7_join_249 ?_
                        refine a_lload C dX7_join_250 2 rfl ?_
                        refine a_lload C dX7_join_252 9 rfl ?_
                        refine a_lload C dX7_join_254 0 rfl ?_
                        refine a_ldiv C (by omega) r238 (by omega) dX7_join_256 ?_
                        refine a_lmul C dX7_join_257 ?_
                        refine a_ladd C dX7_join_258 ?_
                        refine a_lstore C [(20, vJ ((n1 * ((frD X9 Y9).tdiv z238)) + ((frN X9 Y9) * (d1.tdiv z238)))), (18, vJ z238), (14, vJ (frD X9 Y9)), (12, vJ (frN X9 Y9)), (16, vJ z215), (11, vI z90), (10, vI z81), (9, vI ((40 * i2) + w9)), (8, vI ((40 * i1) + w9)), (7, vI w9), (5, vJ d1), (3, vJ n1), (0, .ref (vq v b)), (1, vI i1), (2, vI i2)] dX7_join_259 (by decide) rfl ?_
                        refine a_lload C dX7_join_261 10 rfl ?_
                        refine a_lload C dX7_join_263 1 rfl ?_
                        refine a_ldiv C (by omega) r238 (by omega) dX7_join_265 ?_
                        refine a_lload C dX7_join_266 2 rfl ?_
                        refine a_lmul C dX7_join_268 ?_
                        refine a_lstore C [(22, vJ ((d1.tdiv z238) * (frD X9 Y9))), (20, vJ ((n1 * ((frD X9 Y9).tdiv z238)) + ((frN X9 Y9) * (d1.tdiv z238)))), (18, vJ z238), (14, vJ (frD X9 Y9)), (12, vJ (frN X9 Y9)), (16, vJ z215), (11, vI z90), (10, vI z81), (9, vI ((40 * i2) + w9)), (8, vI ((40 * i1) + w9)), (7, vI w9), (5, vJ d1), (3, vJ n1), (0, .ref (vq v b)), (1, vI i1), (2, vI i2)] dX7_join_269 (by decide) rfl ?_
                        have v1_ : n1 * ((frD X9 Y9).tdiv z238) + frN X9 Y9 * (d1.tdiv z238) = aiN n1 d1 X9 Y9 := by rw [w3_, w4_]; rfl
                        have v2_ : d1.tdiv z238 * frD X9 Y9 = aiD d1 X9 Y9 := by rw [w4_]; exact ai_comm hs.1.1 y5
                        rw [v1_, v2_]
                        have v3_ := aiD_pos (d := d1) (x := X9) (y := Y9) hs.1.1 (by omega)
                        refine a_lload C dX7_join_271 1 rfl ?_
                        refine a_lload C dX7_join_273 0 rfl ?_
                        refine a_cSL C (k0 := 2) (As := [vJ (aiN n1 d1 X9 Y9), vJ (aiD d1 X9 Y9)]) (rest := []) (c_X7_common x.2.1 v σ (aiN n1 d1 X9 Y9) (aiD d1 X9 Y9) (by omega) (by omega)) gX7_join_X7_common rfl (by decide +kernel) (by decide) rfl rfl (Nat.le_of_ble_eq_true rfl) dX7_join_275 (fun z275 u275 r275 p275 => ?_)
                        obtain ⟨e275, p275⟩ := p275
                        subst u275
                        have t1_ := gcI_pos (a := aiN n1 d1 X9 Y9) (b := aiD d1 X9 Y9) v3_
                        have t2_ := gcI_le (a := aiN n1 d1 X9 Y9) (b := aiD d1 X9 Y9) v3_
                        have gn : (frN (aiN n1 d1 X9 Y9) (aiD d1 X9 Y9)) = (aiN n1 d1 X9 Y9).tdiv z275 := by rw [e275]; exact (tdiv_dvd (by omega) (gcI_dl _ _)).symm
                        have gd : (frD (aiN n1 d1 X9 Y9) (aiD d1 X9 Y9)) = (aiD d1 X9 Y9).tdiv z275 := by rw [e275]; exact (tdiv_dvd (by omega) (gcI_dr _ _)).symm
                        refine a_lstore C [(24, vJ z275), (22, vJ (aiD d1 X9 Y9)), (20, vJ (aiN n1 d1 X9 Y9)), (18, vJ z238), (14, vJ (frD X9 Y9)), (12, vJ (frN X9 Y9)), (16, vJ z215), (11, vI z90), (10, vI z81), (9, vI ((40 * i2) + w9)), (8, vI ((40 * i1) + w9)), (7, vI w9), (5, vJ d1), (3, vJ n1), (0, .ref (vq v b)), (1, vI i1), (2, vI i2)] dX7_join_278 (by decide) rfl ?_
                        refine a_lload C dX7_join_280 2 rfl ?_
                        refine a_lload C dX7_join_282 0 rfl ?_
                        refine a_ldiv C (by omega) r275 (by omega) dX7_join_284 ?_
                        refine a_lstore_n C 3 [(3, vJ ((aiN n1 d1 X9 Y9).tdiv z275)), (24, vJ z275), (22, vJ (aiD d1 X9 Y9)), (20, vJ (aiN n1 d1 X9 Y9)), (18, vJ z238), (14, vJ (frD X9 Y9)), (12, vJ (frN X9 Y9)), (16, vJ z215), (11, vI z90), (10, vI z81), (9, vI ((40 * i2) + w9)), (8, vI ((40 * i1) + w9)), (7, vI w9), (5, vJ d1), (0, .ref (vq v b)), (1, vI i1), (2, vI i2)] dX7_join_285 rfl (by decide) rfl ?_
                        refine a_lload C dX7_join_286 2 rfl ?_
                        refine a_lload C dX7_join_288 1 rfl ?_
                        refine a_ldiv C (by omega) r275 (by omega) dX7_join_290 ?_
                        refine a_lstore C [(5, vJ ((aiD d1 X9 Y9).tdiv z275)), (3, vJ ((aiN n1 d1 X9 Y9).tdiv z275)), (24, vJ z275), (22, vJ (aiD d1 X9 Y9)), (20, vJ (aiN n1 d1 X9 Y9)), (18, vJ z238), (14, vJ (frD X9 Y9)), (12, vJ (frN X9 Y9)), (16, vJ z215), (11, vI z90), (10, vI z81), (9, vI ((40 * i2) + w9)), (8, vI ((40 * i1) + w9)), (7, vI w9), (0, .ref (vq v b)), (1, vI i1), (2, vI i2)] dX7_join_291 (by decide) rfl ?_
                        refine a_iinc C (w9 + 1) [(7, vI (w9 + 1)), (5, vJ ((aiD d1 X9 Y9).tdiv z275)), (3, vJ ((aiN n1 d1 X9 Y9).tdiv z275)), (24, vJ z275), (22, vJ (aiD d1 X9 Y9)), (20, vJ (aiN n1 d1 X9 Y9)), (18, vJ z238), (14, vJ (frD X9 Y9)), (12, vJ (frN X9 Y9)), (16, vJ z215), (11, vI z90), (10, vI z81), (9, vI ((40 * i2) + w9)), (8, vI ((40 * i1) + w9)), (0, .ref (vq v b)), (1, vI i1), (2, vI i2)] dX7_join_293 13 rfl (by omega) (by decide) rfl ?_
                        refine a_goto C 52 dX7_join_296 (by decide) ?_
                        refine a_sub [0, 1, 2, 14, 15, 16] [(7, vI (w9 + 1)), (5, vJ ((aiD d1 X9 Y9).tdiv z275)), (3, vJ ((aiN n1 d1 X9 Y9).tdiv z275)), (0, .ref (vq v b)), (1, vI i1), (2, vI i2)] rfl ?_
                        refine ih _ (by omega) (w9 + 1) _ _ rfl (by omega) ?_ ?_
                        · rw [← iR, itrR_step (a := w9) (by omega)]
                          congr 1
                          exact (show jnF (mjT σ b i1 i2) (mjB σ b i1 i2) w9 (n1, d1) = _ by unfold jnF; rw [← hX, ← hY]; dsimp only; rw [gn, gd]).symm
                        · have h9 := hs.2.2.2
                          skip
                          have h8 : jnF (mjT σ b i1 i2) (mjB σ b i1 i2) w9 (n1, d1) = (((aiN n1 d1 X9 Y9).tdiv z275), ((aiD d1 X9 Y9).tdiv z275)) := by unfold jnF; rw [← hX, ← hY]; dsimp only; rw [gn, gd]
                          rw [h8] at h9
                          exact h9
                      · skip
                        exfalso; omega
                  · skip
                    refine a_aload_n C dX7_join_138 7 rfl rfl ?_
                    refine a_getf C hM.f0 hM.n0 (Cn := RX7) (T := TX7) (N := 30) rfl iX7 15 (by decide) k51 (w := .ref (vq v (b + 13))) rfl dX7_join_139 ?_
                    refine a_iload C dX7_join_142 2 rfl ?_
                    refine a_iald C hM.f13 hM.n13 0 hM.tI (by omega) (by omega) (by decide) dX7_join_144 (fun z144 e144 r144 => ?_)
                    rw [shR_i (σ (b + 13)) (40 * i2) w9 _ rfl] at e144
                    refine a_goto C 160 dX7_join_145 (by decide) ?_
                    refine a_i2l C r144 dX7_join_160 ?_
                    refine a_lmul C dX7_join_161 ?_
                    refine a_lstore C [(12, vJ (z111 * z144)), (11, vI z90), (10, vI z81), (9, vI ((40 * i2) + w9)), (8, vI ((40 * i1) + w9)), (7, vI w9), (5, vJ d1), (3, vJ n1), (0, .ref (vq v b)), (1, vI i1), (2, vI i2)] dX7_join_162 (by decide) rfl ?_
                    refine a_aload_n C dX7_join_164 8 rfl rfl ?_
                    refine a_getf C hM.f0 hM.n0 (Cn := RX7) (T := TX7) (N := 30) rfl iX7 16 (by decide) k54 (w := .ref (vq v (b + 14))) rfl dX7_join_165 ?_
                    refine a_iload C dX7_join_168 4 rfl ?_
                    refine a_zald C hM.f14 hM.n14 2 hM.tB (by omega) (by omega) (by decide) dX7_join_170 (fun z170 e170 r170 => ?_)
                    rw [shR_i (σ (b + 14)) (40 * i1) w9 _ rfl] at e170
                    refine a_if_eq C 178 r170 dX7_join_171 (by decide) (fun c171 => ?_) (fun c171 => ?_)
                    · skip
                      exfalso; omega
                    · skip
                      refine a_iconst C dX7_join_174 ?_
                      refine a_goto C 185 dX7_join_175 (by decide) ?_
                      refine a_i2l C (by decide) dX7_join_185 ?_
                      refine a_aload_n C dX7_join_186 8 rfl rfl ?_
                      refine a_getf C hM.f0 hM.n0 (Cn := RX7) (T := TX7) (N := 30) rfl iX7 16 (by decide) k54 (w := .ref (vq v (b + 14))) rfl dX7_join_187 ?_
                      refine a_iload C dX7_join_190 3 rfl ?_
                      refine a_zald C hM.f14 hM.n14 2 hM.tB (by omega) (by omega) (by decide) dX7_join_192 (fun z192 e192 r192 => ?_)
                      rw [shR_i (σ (b + 14)) (40 * i2) w9 _ rfl] at e192
                      refine a_if_eq C 200 r192 dX7_join_193 (by decide) (fun c193 => ?_) (fun c193 => ?_)
                      · skip
                        exfalso; omega
                      · skip
                        refine a_iconst C dX7_join_196 ?_
                        refine a_goto C 207 dX7_join_197 (by decide) ?_
                        refine a_i2l C (by decide) dX7_join_207 ?_
                        refine a_lmul C dX7_join_208 ?_
                        refine a_lstore C [(14, vJ (1 * 1)), (12, vJ (z111 * z144)), (11, vI z90), (10, vI z81), (9, vI ((40 * i2) + w9)), (8, vI ((40 * i1) + w9)), (7, vI w9), (5, vJ d1), (3, vJ n1), (0, .ref (vq v b)), (1, vI i1), (2, vI i2)] dX7_join_209 (by decide) rfl ?_
                        obtain ⟨X9, hX9⟩ : ∃ z : Int, z = z111 * z144 := ⟨_, rfl⟩
                        obtain ⟨Y9, hY9⟩ : ∃ z : Int, z = 1 * 1 := ⟨_, rfl⟩
                        rw [← hX9, ← hY9]
                        have hX : X9 = mjT σ b i1 i2 w9 := by
                          have ta : (shT (shR (σ (b + 14)) (40 * i1)) (shR (σ (b + 13)) (40 * i1)) (shR (σ (b + 15)) (40 * i1)) (shR (σ (b + 16)) (40 * i1)) (σ (b + 11) i1) w9) = z111 := by unfold shT; (first | (rw [if_neg (by omega)]; assumption) | (rw [if_neg (by omega)]; omega) | (rw [if_pos (by omega), ← e81]; omega))
                          have tb : (shT (shR (σ (b + 14)) (40 * i2)) (shR (σ (b + 13)) (40 * i2)) (shR (σ (b + 15)) (40 * i2)) (shR (σ (b + 16)) (40 * i2)) (σ (b + 11) i2) w9) = z144 := by unfold shT; (first | (rw [if_neg (by omega)]; omega) | (rw [if_pos (by omega), ← e90]; omega))
                          rw [hX9]; unfold mjT; rw [ta, tb]
                        have hY : Y9 = mjB σ b i1 i2 w9 := by
                          have ta : (shB (shR (σ (b + 14)) (40 * i1)) (shR (σ (b + 15)) (40 * i1)) (σ (b + 11) i1) w9) = 1 := by unfold shB; (first | rw [if_neg (by omega)] | (rw [if_pos (by omega), ← e81]; omega))
                          have tb : (shB (shR (σ (b + 14)) (40 * i2)) (shR (σ (b + 15)) (40 * i2)) (σ (b + 11) i2) w9) = 1 := by unfold shB; (first | rw [if_neg (by omega)] | (rw [if_pos (by omega), ← e90]; omega))
                          rw [hY9]; unfold mjB; rw [ta, tb]
                        have hs := g4 w9 n1 d1 (by omega) (by omega) iP
                        rw [← hX, ← hY] at hs
                        have hYb : 1 ≤ Y9 ∧ Y9 ≤ 40 * 40 := by
                          have p1 := g1 w9 (by omega) (by omega); have p2 := g2 w9 (by omega) (by omega)
                          have p3 : Y9 = (shB (shR (σ (b + 14)) (40 * i1)) (shR (σ (b + 15)) (40 * i1)) (σ (b + 11) i1) w9) * (shB (shR (σ (b + 14)) (40 * i2)) (shR (σ (b + 15)) (40 * i2)) (σ (b + 11) i2) w9) := hY
                          have p4 := Int.mul_le_mul p1.2 p2.2 (by omega) (by omega)
                          have p5 := Int.mul_pos (show 0 < (shB (shR (σ (b + 14)) (40 * i1)) (shR (σ (b + 15)) (40 * i1)) (σ (b + 11) i1) w9) by omega) (show 0 < (shB (shR (σ (b + 14)) (40 * i2)) (shR (σ (b + 15)) (40 * i2)) (σ (b + 11) i2) w9) by omega)
                          omega
                        have hXb : -(20000000 * 20000000) ≤ X9 ∧ X9 ≤ 20000000 * 20000000 := by
                          have p3 : X9 = (shT (shR (σ (b + 14)) (40 * i1)) (shR (σ (b + 13)) (40 * i1)) (shR (σ (b + 15)) (40 * i1)) (shR (σ (b + 16)) (40 * i1)) (σ (b + 11) i1) w9) * (shT (shR (σ (b + 14)) (40 * i2)) (shR (σ (b + 13)) (40 * i2)) (shR (σ (b + 15)) (40 * i2)) (shR (σ (b + 16)) (40 * i2)) (σ (b + 11) i2) w9) := hX
                          rw [p3]; exact mul_bd2 (gT1 w9 (by omega) (by omega)).1 (gT1 w9 (by omega) (by omega)).2 (gT2 w9 (by omega) (by omega)).1 (gT2 w9 (by omega) (by omega)).2 (by decide)
                        refine a_lload C dX7_join_211 1 rfl ?_
                        refine a_lload C dX7_join_213 0 rfl ?_
                        refine a_cSL C (k0 := 2) (As := [vJ X9, vJ Y9]) (rest := []) (c_X7_common x.2.1 v σ X9 Y9 (by omega) (by omega)) gX7_join_X7_common rfl (by decide +kernel) (by decide) rfl rfl (Nat.le_of_ble_eq_true rfl) dX7_join_215 (fun z215 u215 r215 p215 => ?_)
                        obtain ⟨e215, p215⟩ := p215
                        subst u215
                        have y1 := gcI_pos (a := X9) (b := Y9) (by omega)
                        have y2 := gcI_le (a := X9) (b := Y9) (by omega)
                        have y3 : X9.tdiv z215 = frN X9 Y9 := by rw [e215]; exact tdiv_dvd (by omega) (gcI_dl X9 Y9)
                        have y4 : Y9.tdiv z215 = frD X9 Y9 := by rw [e215]; exact tdiv_dvd (by omega) (gcI_dr X9 Y9)
                        have y5 := frD_pos (a := X9) (b := Y9) (by omega)
                        have y6 := frD_le (a := X9) (b := Y9) (by omega)
                        refine a_lstore C [(16, vJ z215), (14, vJ Y9), (12, vJ X9), (11, vI z90), (10, vI z81), (9, vI ((40 * i2) + w9)), (8, vI ((40 * i1) + w9)), (7, vI w9), (5, vJ d1), (3, vJ n1), (0, .ref (vq v b)), (1, vI i1), (2, vI i2)] dX7_join_218 (by decide) rfl ?_
                        refine a_lload C dX7_join_220 2 rfl ?_
                        refine a_lload C dX7_join_222 0 rfl ?_
                        refine a_ldiv C (by omega) r215 (by omega) dX7_join_224 ?_
                        refine a_lstore C [(12, vJ (X9.tdiv z215)), (16, vJ z215), (14, vJ Y9), (11, vI z90), (10, vI z81), (9, vI ((40 * i2) + w9)), (8, vI ((40 * i1) + w9)), (7, vI w9), (5, vJ d1), (3, vJ n1), (0, .ref (vq v b)), (1, vI i1), (2, vI i2)] dX7_join_225 (by decide) rfl ?_
                        refine a_lload C dX7_join_227 2 rfl ?_
                        refine a_lload C dX7_join_229 1 rfl ?_
                        refine a_ldiv C (by omega) r215 (by omega) dX7_join_231 ?_
                        refine a_lstore C [(14, vJ (Y9.tdiv z215)), (12, vJ (X9.tdiv z215)), (16, vJ z215), (11, vI z90), (10, vI z81), (9, vI ((40 * i2) + w9)), (8, vI ((40 * i1) + w9)), (7, vI w9), (5, vJ d1), (3, vJ n1), (0, .ref (vq v b)), (1, vI i1), (2, vI i2)] dX7_join_232 (by decide) rfl ?_
                        rw [y3, y4]
                        refine a_lload C dX7_join_234 8 rfl ?_
                        refine a_lload C dX7_join_236 0 rfl ?_
                        refine a_cSL C (k0 := 2) (As := [vJ d1, vJ (frD X9 Y9)]) (rest := []) (c_X7_common x.2.1 v σ d1 (frD X9 Y9) (by omega) (by omega)) gX7_join_X7_common rfl (by decide +kernel) (by decide) rfl rfl (Nat.le_of_ble_eq_true rfl) dX7_join_238 (fun z238 u238 r238 p238 => ?_)
                        obtain ⟨e238, p238⟩ := p238
                        subst u238
                        have w1_ := gcI_pos (a := d1) (b := frD X9 Y9) (by omega)
                        have w2_ := gcI_le (a := d1) (b := frD X9 Y9) (by omega)
                        have w3_ : (frD X9 Y9).tdiv z238 = frD X9 Y9 / gcI d1 (frD X9 Y9) := by rw [e238]; exact tdiv_dvd (by omega) (gcI_dr _ _)
                        have w4_ : d1.tdiv z238 = d1 / gcI d1 (frD X9 Y9) := by rw [e238]; exact tdiv_dvd (by omega) (gcI_dl _ _)
                        refine a_lstore C [(18, vJ z238), (14, vJ (frD X9 Y9)), (12, vJ (frN X9 Y9)), (16, vJ z215), (11, vI z90), (10, vI z81), (9, vI ((40 * i2) + w9)), (8, vI ((40 * i1) + w9)), (7, vI w9), (5, vJ d1), (3, vJ n1), (0, .ref (vq v b)), (1, vI i1), (2, vI i2)] dX7_join_241 (by decide) rfl ?_
                        refine a_lload_n C dX7_join_243 10 rfl rfl ?_
                        refine a_lload C dX7_join_244 1 rfl ?_
                        refine a_lload C dX7_join_246 0 rfl ?_
                        refine a_ldiv C (by omega) r238 (by omega) dX7_join_248 ?_
                        refine a_lmul C dX7_join_249 ?_
                        refine a_lload C dX7_join_250 2 rfl ?_
                        refine a_lload C dX7_join_252 9 rfl ?_
                        refine a_lload C dX7_join_254 0 rfl ?_
                        refine a_ldiv C (by omega) r238 (by omega) dX7_join_256 ?_
                        refine a_lmul C dX7_join_257 ?_
                        refine a_ladd C dX7_join_258 ?_
                        refine a_lstore C [(20, vJ ((n1 * ((frD X9 Y9).tdiv z238)) + ((frN X9 Y9) * (d1.tdiv z238)))), (18, vJ z238), (14, vJ (frD X9 Y9)), (12, vJ (frN X9 Y9)), (16, vJ z215), (11, vI z90), (10, vI z81), (9, vI ((40 * i2) + w9)), (8, vI ((40 * i1) + w9)), (7, vI w9), (5, vJ d1), (3, vJ n1), (0, .ref (vq v b)), (1, vI i1), (2, vI i2)] dX7_join_259 (by decide) rfl ?_
                        refine a_lload C dX7_join_261 10 rfl ?_
                        refine a_lload C dX7_join_263 1 rfl ?_
                        refine a_ldiv C (by omega) r238 (by omega) dX7_join_265 ?_
                        refine a_lload C dX7_join_266 2 rfl ?_
                        refine a_lmul C dX7_join_268 ?_
                        refine a_lstore C [(22, vJ ((d1.tdiv z238) * (frD X9 Y9))), (20, vJ ((n1 * ((frD X9 Y9).tdiv z238)) + ((frN X9 Y9) * (d1.tdiv z238)))), (18, vJ z238), (14, vJ (frD X9 Y9)), (12, vJ (frN X9 Y9)), (16, vJ z215), (11, vI z90), (10, vI z81), (9, vI ((40 * i2) + w9)), (8, vI ((40 * i1) + w9)), (7, vI w9), (5, vJ d1), (3, vJ n1), (0, .ref (vq v b)), (1, vI i1), (2, vI i2)] dX7_join_269 (by decide) rfl ?_
                        have v1_ : n1 * ((frD X9 Y9).tdiv z238) + frN X9 Y9 * (d1.tdiv z238) = aiN n1 d1 X9 Y9 := by rw [w3_, w4_]; rfl
                        have v2_ : d1.tdiv z238 * frD X9 Y9 = aiD d1 X9 Y9 := by rw [w4_]; exact ai_comm hs.1.1 y5
                        rw [v1_, v2_]
                        have v3_ := aiD_pos (d := d1) (x := X9) (y := Y9) hs.1.1 (by omega)
                        refine a_lload C dX7_join_271 1 rfl ?_
                        refine a_lload C dX7_join_273 0 rfl ?_
                        refine a_cSL C (k0 := 2) (As := [vJ (aiN n1 d1 X9 Y9), vJ (aiD d1 X9 Y9)]) (rest := []) (c_X7_common x.2.1 v σ (aiN n1 d1 X9 Y9) (aiD d1 X9 Y9) (by omega) (by omega)) gX7_join_X7_common rfl (by decide +kernel) (by decide) rfl rfl (Nat.le_of_ble_eq_true rfl) dX7_join_275 (fun z275 u275 r275 p275 => ?_)
                        obtain ⟨e275, p275⟩ := p275
                        subst u275
                        have t1_ := gcI_pos (a := aiN n1 d1 X9 Y9) (b := aiD d1 X9 Y9) v3_
                        have t2_ := gcI_le (a := aiN n1 d1 X9 Y9) (b := aiD d1 X9 Y9) v3_
                        have gn : (frN (aiN n1 d1 X9 Y9) (aiD d1 X9 Y9)) = (aiN n1 d1 X9 Y9).tdiv z275 := by rw [e275]; exact (tdiv_dvd (by omega) (gcI_dl _ _)).symm
                        have gd : (frD (aiN n1 d1 X9 Y9) (aiD d1 X9 Y9)) = (aiD d1 X9 Y9).tdiv z275 := by rw [e275]; exact (tdiv_dvd (by omega) (gcI_dr _ _)).symm
                        refine a_lstore C [(24, vJ z275), (22, vJ (aiD d1 X9 Y9)), (20, vJ (aiN n1 d1 X9 Y9)), (18, vJ z238), (14, vJ (frD X9 Y9)), (12, vJ (frN X9 Y9)), (16, vJ z215), (11, vI z90), (10, vI z81), (9, vI ((40 * i2) + w9)), (8, vI ((40 * i1) + w9)), (7, vI w9), (5, vJ d1), (3, vJ n1), (0, .ref (vq v b)), (1, vI i1), (2, vI i2)] dX7_join_278 (by decide) rfl ?_
                        refine a_lload C dX7_join_280 2 rfl ?_
                        refine a_lload C dX7_join_282 0 rfl ?_
                        refine a_ldiv C (by omega) r275 (by omega) dX7_join_284 ?_
                        refine a_lstore_n C 3 [(3, vJ ((aiN n1 d1 X9 Y9).tdiv z275)), (24, vJ z275), (22, vJ (aiD d1 X9 Y9)), (20, vJ (aiN n1 d1 X9 Y9)), (18, vJ z238), (14, vJ (frD X9 Y9)), (12, vJ (frN X9 Y9)), (16, vJ z215), (11, vI z90), (10, vI z81), (9, vI ((40 * i2) + w9)), (8, vI ((40 * i1) + w9)), (7, vI w9), (5, vJ d1), (0, .ref (vq v b)), (1, vI i1), (2, vI i2)] dX7_join_285 rfl (by decide) rfl ?_
                        refine a_lload C dX7_join_286 2 rfl ?_
                        refine a_lload C dX7_join_288 1 rfl ?_
                        refine a_ldiv C (by omega) r275 (by omega) dX7_join_290 ?_
                        refine a_lstore C [(5, vJ ((aiD d1 X9 Y9).tdiv z275)), (3, vJ ((aiN n1 d1 X9 Y9).tdiv z275)), (24, vJ z275), (22, vJ (aiD d1 X9 Y9)), (20, vJ (aiN n1 d1 X9 Y9)), (18, vJ z238), (14, vJ (frD X9 Y9)), (12, vJ (frN X9 Y9)), (16, vJ z215), (11, vI z90), (10, vI z81), (9, vI ((40 * i2) + w9)), (8, vI ((40 * i1) + w9)), (7, vI w9), (0, .ref (vq v b)), (1, vI i1), (2, vI i2)] dX7_join_291 (by decide) rfl ?_
                        refine a_iinc C (w9 + 1) [(7, vI (w9 + 1)), (5, vJ ((aiD d1 X9 Y9).tdiv z275)), (3, vJ ((aiN n1 d1 X9 Y9).tdiv z275)), (24, vJ z275), (22, vJ (aiD d1 X9 Y9)), (20, vJ (aiN n1 d1 X9 Y9)), (18, vJ z238), (14, vJ (frD X9 Y9)), (12, vJ (frN X9 Y9)), (16, vJ z215), (11, vI z90), (10, vI z81), (9, vI ((40 * i2) + w9)), (8, vI ((40 * i1) + w9)), (0, .ref (vq v b)), (1, vI i1), (2, vI i2)] dX7_join_293 13 rfl (by omega) (by decide) rfl ?_
                        refine a_goto C 52 dX7_join_296 (by decide) ?_
                        refine a_sub [0, 1, 2, 14, 15, 16] [(7, vI (w9 + 1)), (5, vJ ((aiD d1 X9 Y9).tdiv z275)), (3, vJ ((aiN n1 d1 X9 Y9).tdiv z275)), (0, .ref (vq v b)), (1, vI i1), (2, vI i2)] rfl ?_
                        refine ih _ (by omega) (w9 + 1) _ _ rfl (by omega) ?_ ?_
                        · rw [← iR, itrR_step (a := w9) (by omega)]
                          congr 1
                          exact (show jnF (mjT σ b i1 i2) (mjB σ b i1 i2) w9 (n1, d1) = _ by unfold jnF; rw [← hX, ← hY]; dsimp only; rw [gn, gd]).symm
                        · have h9 := hs.2.2.2
                          skip
                          have h8 : jnF (mjT σ b i1 i2) (mjB σ b i1 i2) w9 (n1, d1) = (((aiN n1 d1 X9 Y9).tdiv z275), ((aiD d1 X9 Y9).tdiv z275)) := by unfold jnF; rw [← hX, ← hY]; dsimp only; rw [gn, gd]
                          rw [h8] at h9
                          exact h9
          exact lp _ 0 1 0 rfl (by omega) rfl g3
        · skip
          refine a_aload_n C dX7_join_38 0 rfl rfl ?_
          refine a_iconst C dX7_join_39 ?_
          refine a_cVI C (k0 := 1) (As := [vI 5]) (rest := []) (c_X7_refuse x.2.1 v σ b hM 5 (by omega)) gX7_join_X7_refuse rfl (by decide +kernel) (by decide) hM.f0 rfl hM.n0 rfl rfl (Nat.le_of_ble_eq_true rfl) dX7_join_40 (fun z40 u40 r40 p40 => ?_)
          obtain ⟨e40, p40⟩ := p40
          subst u40
          refine hret _ _ _ _ dX7_join_43 r40 ?_
          (repeat (first | rw [if_pos (by omega)] | rw [if_neg (by omega)]))
          exact ⟨by omega, rfl⟩
    · skip
      refine a_aload_n C dX7_join_14 0 rfl rfl ?_
      refine a_iconst C dX7_join_15 ?_
      refine a_cVI C (k0 := 1) (As := [vI 1]) (rest := []) (c_X7_refuse x.2.1 v σ b hM 1 (by omega)) gX7_join_X7_refuse rfl (by decide +kernel) (by decide) hM.f0 rfl hM.n0 rfl rfl (Nat.le_of_ble_eq_true rfl) dX7_join_16 (fun z16 u16 r16 p16 => ?_)
      obtain ⟨e16, p16⟩ := p16
      subst u16
      refine hret _ _ _ _ dX7_join_19 r16 ?_
      (repeat (first | rw [if_pos (by omega)] | rw [if_neg (by omega)]))
      exact ⟨by omega, rfl⟩
