/-! ===== the model's KEEPING ===== -/
theorem svE_fuse {S : SV} {k : Int} (h : svE S) (hk : 0 ≤ k) (hk2 : k + 1 < S.1) : svE (fuseV S k) := by
  obtain ⟨h1, h2, h3, h4, h5⟩ := h
  have key : ∀ j : Int, delR S.2.1 k (S.2.1 (k + 1)) j = if j < k then S.2.1 j else S.2.1 (j + 1) := by
    intro j
    unfold delR
    split
    · rfl
    · split
      · next q => rw [q]
      · rfl
  refine ⟨by simp only [fuseV]; omega, by simp only [fuseV]; omega, fun j q1 q2 => ?_, fun i j q1 q2 q3 => ?_, ?_⟩
  · simp only [fuseV] at q2 ⊢
    rw [key]
    split
    · exact h3 j q1 (by omega)
    · exact h3 (j + 1) (by omega) (by omega)
  · simp only [fuseV] at q3 ⊢
    rw [key, key]
    by_cases a : j < k
    · rw [if_pos (by omega), if_pos a]; exact h4 i j q1 q2 (by omega)
    · rw [if_neg a]
      split
      · exact h4 i (j + 1) q1 (by omega) (by omega)
      · exact h4 (i + 1) (j + 1) (by omega) (by omega) (by omega)
  · simp only [fuseV]
    rw [key, if_neg (by omega), show S.1 - 1 - 1 + 1 = S.1 - 1 by omega]
    exact h5
theorem svE_raw {n : Int} {E X Y X' Y' : Int → Int} : svE (n, mkR n E, X, Y) ↔ svE (n, E, X', Y') := by
  constructor
  · intro ⟨h1, h2, h3, h4, h5⟩
    dsimp only at h1 h2 h3 h4 h5
    refine ⟨h1, h2, fun j q1 q2 => ?_, fun i j q1 q2 q3 => ?_, ?_⟩
    · have := h3 j q1 q2; rw [mkR_in q1 q2] at this; exact this
    · dsimp only at q3; have := h4 i j q1 q2 q3; rw [mkR_in q1 (by omega), mkR_in (by omega) q3] at this; exact this
    · dsimp only; rw [mkR_in (by omega) (by omega)] at h5; exact h5
  · intro ⟨h1, h2, h3, h4, h5⟩
    dsimp only at h1 h2 h3 h4 h5
    refine ⟨h1, h2, fun j q1 q2 => ?_, fun i j q1 q2 q3 => ?_, ?_⟩
    · dsimp only at q2 ⊢; rw [mkR_in q1 q2]; exact h3 j q1 q2
    · dsimp only at q3 ⊢; rw [mkR_in q1 (by omega), mkR_in (by omega) q3]; exact h4 i j q1 q2 q3
    · dsimp only; rw [mkR_in (by omega) (by omega)]; exact h5
theorem svE_mo {σ : Mem} {b : Nat} {cl : Int} : svE (moV σ b cl) ↔ svE (moE σ b cl) := svE_raw
theorem kp_0 {h E C D : Int → Int} {n : Int} (hc : (itrR (glF h E C) 0 n (-1) = -1 ∨ itrR (lpF C (itrR (glF h E C) 0 n (-1))) 0 (n - 1) (-1) = -1) ∨ (0 ≤ itrR (glF h E C) 0 n (-1) ∧ 0 ≤ itrR (lpF C (itrR (glF h E C) 0 n (-1))) 0 (n - 1) (-1) ∧ 1 ≤ n ∧ C (itrR (glF h E C) 0 n (-1)) ≤ 2 * (C (itrR (lpF C (itrR (glF h E C) 0 n (-1))) 0 (n - 1) (-1)) + C (itrR (lpF C (itrR (glF h E C) 0 n (-1))) 0 (n - 1) (-1) + 1)))) : keepV h (n, mkR n E, mkR n C, mkR n D) = ((n, mkR n E, mkR n C, mkR n D), 0) := by
  unfold keepV
  simp only [gl_mk, lp_mk]
  rcases hc with hc | ⟨g0, p0, n1, hc⟩
  · rw [if_pos hc]
  · rw [if_neg (by omega), if_pos]
    have q1 := gl_bd (h := h) (e := E) (c := C) (n := n) (by omega)
    have q2 := lp_bd (w := itrR (glF h E C) 0 n (-1)) (c := C) n1
    rw [mkR_in g0 q1.2, mkR_in p0 (by omega), mkR_in (j := _ + 1) (by omega) (by omega)]
    exact hc
theorem kp_1 {h E C D : Int → Int} {n g p : Int} (hg : g = itrR (glF h E C) 0 n (-1)) (hp : p = itrR (lpF C g) 0 (n - 1) (-1)) (hc : 0 ≤ g ∧ 0 ≤ p ∧ 1 ≤ n ∧ ¬ C g ≤ 2 * (C p + C (p + 1))) : keepV h (n, mkR n E, mkR n C, mkR n D) = (cutV h (fuseV (n, mkR n E, mkR n C, mkR n D) p) (if p < g then g - 1 else g) (haF h (fuseV (n, mkR n E, mkR n C, mkR n D) p).2.1 (if p < g then g - 1 else g)), 1) := by
  subst hg
  subst hp
  obtain ⟨g0, p0, n1, hc⟩ := hc
  have q1 := gl_bd (h := h) (e := E) (c := C) (n := n) (by omega)
  have q2 := lp_bd (w := itrR (glF h E C) 0 n (-1)) (c := C) n1
  unfold keepV
  simp only [gl_mk, lp_mk]
  rw [if_neg (by omega), if_neg]
  rw [mkR_in g0 q1.2, mkR_in p0 (by omega), mkR_in (j := _ + 1) (by omega) (by omega)]
  exact hc
set_option maxHeartbeats 4000000 in
set_option maxRecDepth 100000 in
theorem c_X7_keep (l : Launch) (v : VC) (σ : Mem) (b : Nat) (hM : shMo v b) (i1 : Int) (h1 : rg i1) (hK : ∀ c : Int, 0 ≤ c → c < 3 → moK σ b c) : CtI l yX7_keep wsX7_keep 4 93 v [.ref (vq v b), vI i1] σ (fun z u => (if ¬ (0 ≤ i1 ∧ i1 < 3) then (z = -1 ∧ u = sput σ b 0 1) else (if (σ (b + 11) i1) = 0 then (z = -1 ∧ u = sput σ b 0 5) else (z = (keepV (shR (σ (b + 14)) (40 * i1)) (moV σ b i1)).2 ∧ moFr (sput σ b 0 0) u b i1 ∧ moV u b i1 = (keepV (shR (σ (b + 14)) (40 * i1)) (moV σ b i1)).1)))) := by
  refine mkI (cc := cX7_keep) (n := 8) (by decide +kernel) rfl (Nat.le_of_ble_eq_true rfl) (fun x A Q hx C hret => ?_)
  subst hx
  show At x v A Q _ 0 [(0, .ref (vq v b)), (1, vI i1)] [] σ
  have iX7 : ∀ w ∈ wsX70, w ∈ wsX7_keep := by decide +kernel
  have k85 : Cond.fieldLink RX7 85 (TX7 0).1 (TX7 0).2.1 (TX7 0).2.2.1 ∈ wsX7_keep := by decide +kernel
  have k61 : Cond.fieldLink RX7 61 (TX7 18).1 (TX7 18).2.1 (TX7 18).2.2.1 ∈ wsX7_keep := by decide +kernel
  have k45 : Cond.fieldLink RX7 45 (TX7 13).1 (TX7 13).2.1 (TX7 13).2.2.1 ∈ wsX7_keep := by decide +kernel
  refine a_aload_n C dX7_keep_0 0 rfl rfl ?_
  refine a_iload_n C dX7_keep_1 1 rfl rfl ?_
  refine a_cVI C (k0 := 1) (As := [vI i1]) (rest := []) (c_X7_wrongSketch x.2.1 v σ b hM i1 (by omega)) gX7_keep_X7_wrongSketch rfl (by decide +kernel) (by decide) hM.f0 rfl hM.n0 rfl rfl (Nat.le_of_ble_eq_true rfl) dX7_keep_2 (fun z2 u2 r2 p2 => ?_)
  obtain ⟨e2, p2⟩ := p2
  subst u2
  have q2 := zq3 e2
  rcases q2 with ⟨h2, k2⟩ | ⟨h2, k2⟩ | ⟨h2, k2⟩ <;> subst h2
  · skip
    show At x v A Q _ 5 [(0, .ref (vq v b)), (1, vI i1)] [vI 1] σ
    refine a_istore_n C 2 [(2, vI 1), (0, .ref (vq v b)), (1, vI i1)] dX7_keep_5 rfl (by decide) rfl ?_
    refine a_iload_n C dX7_keep_6 0 rfl rfl ?_
    refine a_if_le C 16 (by decide) dX7_keep_7 (by decide) (fun c7 => ?_) (fun c7 => ?_)
    · skip
      exfalso; omega
    · skip
      refine a_aload_n C dX7_keep_10 1 rfl rfl ?_
      refine a_iload_n C dX7_keep_11 0 rfl rfl ?_
      refine a_cVI C (k0 := 1) (As := [vI 1]) (rest := []) (c_X7_refuse x.2.1 v σ b hM 1 (by omega)) gX7_keep_X7_refuse rfl (by decide +kernel) (by decide) hM.f0 rfl hM.n0 rfl rfl (Nat.le_of_ble_eq_true rfl) dX7_keep_12 (fun z12 u12 r12 p12 => ?_)
      obtain ⟨e12, p12⟩ := p12
      subst u12
      refine hret _ _ _ _ dX7_keep_15 r12 ?_
      (repeat (first | rw [if_pos (by omega)] | rw [if_neg (by omega)]))
      exact ⟨by omega, rfl⟩
  · skip
    show At x v A Q _ 5 [(0, .ref (vq v b)), (1, vI i1)] [vI 5] σ
    refine a_istore_n C 2 [(2, vI 5), (0, .ref (vq v b)), (1, vI i1)] dX7_keep_5 rfl (by decide) rfl ?_
    refine a_iload_n C dX7_keep_6 0 rfl rfl ?_
    refine a_if_le C 16 (by decide) dX7_keep_7 (by decide) (fun c7 => ?_) (fun c7 => ?_)
    · skip
      exfalso; omega
    · skip
      refine a_aload_n C dX7_keep_10 1 rfl rfl ?_
      refine a_iload_n C dX7_keep_11 0 rfl rfl ?_
      refine a_cVI C (k0 := 1) (As := [vI 5]) (rest := []) (c_X7_refuse x.2.1 v σ b hM 5 (by omega)) gX7_keep_X7_refuse rfl (by decide +kernel) (by decide) hM.f0 rfl hM.n0 rfl rfl (Nat.le_of_ble_eq_true rfl) dX7_keep_12 (fun z12 u12 r12 p12 => ?_)
      obtain ⟨e12, p12⟩ := p12
      subst u12
      refine hret _ _ _ _ dX7_keep_15 r12 ?_
      (repeat (first | rw [if_pos (by omega)] | rw [if_neg (by omega)]))
      exact ⟨by omega, rfl⟩
  · skip
    show At x v A Q _ 5 [(0, .ref (vq v b)), (1, vI i1)] [vI 0] σ
    refine a_istore_n C 2 [(2, vI 0), (0, .ref (vq v b)), (1, vI i1)] dX7_keep_5 rfl (by decide) rfl ?_
    refine a_iload_n C dX7_keep_6 0 rfl rfl ?_
    refine a_if_le C 16 (by decide) dX7_keep_7 (by decide) (fun c7 => ?_) (fun c7 => ?_)
    · skip
      have k0 := hK i1 (by omega) (by omega)
      obtain ⟨kN, kE, kB, kH, kT, kV, kU⟩ := k0
      have kE := kE (by omega)
      refine a_aload_n C dX7_keep_16 1 rfl rfl ?_
      refine a_iconst C dX7_keep_17 ?_
      refine a_puti C hM.f0 hM.n0 (Cn := RX7) (T := TX7) (N := 30) rfl iX7 tyX7_ok nmX7 0 (by decide) k85 rfl rfl 0 (by decide) (fun _ => Nat.le_of_ble_eq_true rfl) (fun _ => rfl) dX7_keep_18 ?_
      refine a_iconst C dX7_keep_21 ?_
      refine a_istore_n C 3 [(3, vI (-1)), (2, vI 0), (0, .ref (vq v b)), (1, vI i1)] dX7_keep_22 rfl (by decide) rfl ?_
      refine a_iconst C dX7_keep_23 ?_
      refine a_istore C [(4, vI 0), (3, vI (-1)), (2, vI 0), (0, .ref (vq v b)), (1, vI i1)] dX7_keep_24 (by decide) rfl ?_
      let n9 : Int := (σ (b + 11) i1)
      let H : Int → Int := (shR (σ (b + 14)) (40 * i1))
      let E : Int → Int := (shR (σ (b + 15)) (40 * i1))
      let CC : Int → Int := (shR (σ (b + 16)) (40 * i1))
      let DD : Int → Int := (shR (σ (b + 17)) (40 * i1))
      have hn9 : n9 = (σ (b + 11) i1) := rfl
      have hG : itrR (glF (shR (σ (b + 14)) (40 * i1)) (shR (σ (b + 15)) (40 * i1)) (shR (σ (b + 16)) (40 * i1))) 0 (σ (b + 11) i1) (-1) = itrR (glF H E CC) 0 n9 (-1) := rfl
      have g1 : -1 ≤ itrR (glF (shR (σ (b + 14)) (40 * i1)) (shR (σ (b + 15)) (40 * i1)) (shR (σ (b + 16)) (40 * i1))) 0 (σ (b + 11) i1) (-1) ∧ itrR (glF (shR (σ (b + 14)) (40 * i1)) (shR (σ (b + 15)) (40 * i1)) (shR (σ (b + 16)) (40 * i1))) 0 (σ (b + 11) i1) (-1) < n9 := gl_bd (n := n9) (h := H) (e := E) (c := CC) (by omega)
      have g2 : itrR (glF (shR (σ (b + 14)) (40 * i1)) (shR (σ (b + 15)) (40 * i1)) (shR (σ (b + 16)) (40 * i1))) 0 (σ (b + 11) i1) (-1) = -1 ∨ 2 ≤ loN H E (itrR (glF (shR (σ (b + 14)) (40 * i1)) (shR (σ (b + 15)) (40 * i1)) (shR (σ (b + 16)) (40 * i1))) 0 (σ (b + 11) i1) (-1)) := gl_two (n := n9) (h := H) (e := E) (c := CC) (by omega)
      have l88 : At x v A Q 8 88 [(3, vI ((itrR (glF (shR (σ (b + 14)) (40 * i1)) (shR (σ (b + 15)) (40 * i1)) (shR (σ (b + 16)) (40 * i1))) 0 (σ (b + 11) i1) (-1)))), (0, .ref (vq v b)), (1, vI i1), (2, vI 0)] [] (sput σ b 0 0) := by
        refine a_iload_n C dX7_keep_88 0 rfl rfl ?_
        refine a_iconst C dX7_keep_89 ?_
        refine a_icmp_ne C 95 (by omega) (by decide) dX7_keep_90 (by decide) (fun c90 => ?_) (fun c90 => ?_)
        · skip
          refine a_aload_n C dX7_keep_95 1 rfl rfl ?_
          refine a_iload_n C dX7_keep_96 2 rfl rfl ?_
          refine a_iload_n C dX7_keep_97 0 rfl rfl ?_
          refine a_cVI C (k0 := 2) (As := [vI i1, vI ((itrR (glF (shR (σ (b + 14)) (40 * i1)) (shR (σ (b + 15)) (40 * i1)) (shR (σ (b + 16)) (40 * i1))) 0 (σ (b + 11) i1) (-1)))]) (rest := []) (c_X7_pair x.2.1 v ((sput σ b 0 0)) b hM i1 ((itrR (glF (shR (σ (b + 14)) (40 * i1)) (shR (σ (b + 15)) (40 * i1)) (shR (σ (b + 16)) (40 * i1))) 0 (σ (b + 11) i1) (-1))) (by omega) (by omega) (by rw [sput_r (by omega)]; omega) (by rw [sput_r (by omega), sput_r (by omega)]; exact fun j q1 q2 => by have := (kB j q1 q2).1; omega)) gX7_keep_X7_pair rfl (by decide +kernel) (by decide) hM.f0 rfl hM.n0 rfl rfl (Nat.le_of_ble_eq_true rfl) dX7_keep_98 (fun z98 u98 r98 p98 => ?_)
          obtain ⟨e98, p98⟩ := p98
          subst u98
          try simp [sput_r, mset_n, sput, mset] at e98
          have g3 := lp_bd (n := n9) (w := itrR (glF (shR (σ (b + 14)) (40 * i1)) (shR (σ (b + 15)) (40 * i1)) (shR (σ (b + 16)) (40 * i1))) 0 (σ (b + 11) i1) (-1)) (c := CC) (by omega)
          have g4 := lp_ne (n := n9) (w := itrR (glF (shR (σ (b + 14)) (40 * i1)) (shR (σ (b + 15)) (40 * i1)) (shR (σ (b + 16)) (40 * i1))) 0 (σ (b + 11) i1) (-1)) (c := CC) (by omega)
          have e98 : z98 = itrR (lpF CC (itrR (glF (shR (σ (b + 14)) (40 * i1)) (shR (σ (b + 15)) (40 * i1)) (shR (σ (b + 16)) (40 * i1))) 0 (σ (b + 11) i1) (-1))) 0 (n9 - 1) (-1) := e98
          rw [← e98] at g3 g4
          refine a_istore C [(4, vI z98), (3, vI ((itrR (glF (shR (σ (b + 14)) (40 * i1)) (shR (σ (b + 15)) (40 * i1)) (shR (σ (b + 16)) (40 * i1))) 0 (σ (b + 11) i1) (-1)))), (0, .ref (vq v b)), (1, vI i1), (2, vI 0)] dX7_keep_101 (by decide) rfl ?_
          refine a_iload C dX7_keep_103 0 rfl ?_
          refine a_iconst C dX7_keep_105 ?_
          refine a_icmp_eq C 132 r98 (by decide) dX7_keep_106 (by decide) (fun c106 => ?_) (fun c106 => ?_)
          · skip
            refine a_iconst C dX7_keep_132 ?_
            refine hret _ _ _ _ dX7_keep_133 (by decide) ?_
            rw [if_neg (by omega), if_neg (by omega)]
            have hk0 := kp_0 (h := H) (E := E) (C := CC) (D := DD) (n := n9) (by first | (left; left; omega) | (left; right; rw [← hG, ← e98]; omega) | (rw [← hG, ← e98]; have h7 : CC (itrR (glF (shR (σ (b + 14)) (40 * i1)) (shR (σ (b + 15)) (40 * i1)) (shR (σ (b + 16)) (40 * i1))) 0 (σ (b + 11) i1) (-1)) = z119 := e119.symm; have h8 : z125 = CC z98 + CC (z98 + 1) := e125; rw [h7]; omega))
            rw [show keepV (shR (σ (b + 14)) (40 * i1)) (moV σ b i1) = (moV σ b i1, 0) from hk0]
            exact ⟨rfl, moFr.rf, moV_st _ _ _ _⟩
          · skip
            refine a_aload_n C dX7_keep_109 2 rfl rfl ?_
            have b98 := (kB z98 (by omega) (by omega)).1
            simp only [shR_e] at b98
            have b99 := (kB (z98 + 1) (by omega) (by omega)).1
            simp only [shR_e] at b99
            refine a_getf C hM.f0 hM.n0 (Cn := RX7) (T := TX7) (N := 30) rfl iX7 18 (by decide) k61 (w := .ref (vq v (b + 16))) rfl dX7_keep_110 ?_
            refine a_bipush C dX7_keep_113 ?_
            refine a_iload_n C dX7_keep_115 3 rfl rfl ?_
            refine a_imul C dX7_keep_116 ?_
            refine a_iload_n C dX7_keep_117 1 rfl rfl ?_
            refine a_iadd C dX7_keep_118 ?_
            refine a_iald C hM.f16 hM.n16 0 hM.tI (by omega) (by omega) (by decide) dX7_keep_119 (fun z119 e119 r119 => ?_)
            try simp [sput_r, mset_n, sput, mset] at e119
            refine a_iconst C dX7_keep_120 ?_
            refine a_aload_n C dX7_keep_121 2 rfl rfl ?_
            refine a_iload_n C dX7_keep_122 3 rfl rfl ?_
            refine a_iload C dX7_keep_123 0 rfl ?_
            refine a_cVI C (k0 := 2) (As := [vI i1, vI z98]) (rest := [vI 2, vI z119]) (c_X7_both x.2.1 v ((sput σ b 0 0)) b hM i1 z98 (by omega) (by omega) (by rw [sput_r (by omega)]; have h7 := (kB z98 (by omega) (by omega)).1; simp only [shR_e] at h7; omega) (by rw [sput_r (by omega)]; have h7 := (kB (z98 + 1) (by omega) (by omega)).1; simp only [shR_e] at h7; omega)) gX7_keep_X7_both rfl (by decide +kernel) (by decide) hM.f0 rfl hM.n0 rfl rfl (Nat.le_of_ble_eq_true rfl) dX7_keep_125 (fun z125 u125 r125 p125 => ?_)
            obtain ⟨e125, p125⟩ := p125
            subst u125
            try simp [sput_r, mset_n, sput, mset] at e125
            refine a_imul C dX7_keep_128 ?_
            refine a_icmp_gt C 134 r119 (by omega) dX7_keep_129 (by decide) (fun c129 => ?_) (fun c129 => ?_)
            · skip
              refine a_aload_n C dX7_keep_134 2 rfl rfl ?_
              refine a_iload_n C dX7_keep_135 3 rfl rfl ?_
              refine a_iload C dX7_keep_136 0 rfl ?_
              refine a_cVV C (k0 := 2) (As := [vI i1, vI z98]) (rest := []) (c_X7_melts x.2.1 v ((sput σ b 0 0)) b hM i1 z98 (by omega) (by rw [sput_r (by omega)]; omega) (by rw [sput_r (by omega)]; omega) (by rw [sput_r (by omega), sput_r (by omega), sput_r (by omega)]; exact fun j q1 q2 => by have := kB j q1 q2; omega)) gX7_keep_X7_melts rfl (by decide +kernel) (by decide) hM.f0 rfl hM.n0 rfl rfl (Nat.le_of_ble_eq_true rfl) dX7_keep_138 (fun u138 p138 => ?_)
              have h14 : u138 (b + 14) = σ (b + 14) := by rw [p138.1.1 (b + 14) (by omega) (by omega) (by omega) (by omega) (by omega), sput_r (by omega)]
              have h5 : u138 (b + 11) i1 = σ (b + 11) i1 - 1 := by have := congrArg Prod.fst p138.2; rw [moV_st] at this; exact this
              have hE2 : svE (moE u138 b i1) := svE_mo.mp (by rw [p138.2, moV_st]; exact svE_fuse (svE_mo.mpr kE) (by omega) (by show z98 + 1 < σ (b + 11) i1; omega))
              have hB3 : svB (moV σ b i1) 10000000 := fun j q1 q2 => by have := kB j q1 q2; simp only [moV]; rw [mkR_in q1 (show j < σ (b + 11) i1 from q2), mkR_in q1 (show j < σ (b + 11) i1 from q2)]; exact kB j q1 q2
              have hB4 : svB (moV u138 b i1) 20000000 := by rw [p138.2, moV_st]; exact svB_fuse hB3 (by omega) (by show z98 + 1 < σ (b + 11) i1; omega) (by decide)
              have hB2 : ∀ j : Int, 0 ≤ j → j < u138 (b + 11) i1 → (-20000000 ≤ shR (u138 (b + 16)) (40 * i1) j ∧ shR (u138 (b + 16)) (40 * i1) j ≤ 20000000) ∧ 0 ≤ shR (u138 (b + 17)) (40 * i1) j ∧ shR (u138 (b + 17)) (40 * i1) j ≤ 1000000 := fun j q1 q2 => by have := hB4 j q1 q2; simp only [moV] at this; rw [mkR_in q1 q2, mkR_in q1 q2] at this; exact this
              refine a_iload C dX7_keep_141 0 rfl ?_
              refine a_iload_n C dX7_keep_143 1 rfl rfl ?_
              refine a_icmp_ge C 150 r98 (by omega) dX7_keep_144 (by decide) (fun c144 => ?_) (fun c144 => ?_)
              · skip
                have hkk : 0 ≤ ((itrR (glF (shR (σ (b + 14)) (40 * i1)) (shR (σ (b + 15)) (40 * i1)) (shR (σ (b + 16)) (40 * i1))) 0 (σ (b + 11) i1) (-1))) ∧ ((itrR (glF (shR (σ (b + 14)) (40 * i1)) (shR (σ (b + 15)) (40 * i1)) (shR (σ (b + 16)) (40 * i1))) 0 (σ (b + 11) i1) (-1))) < u138 (b + 11) i1 := by rw [h5]; omega
                have hEf := fuse_E (E := mkR n9 E) (p := z98) (g := itrR (glF (shR (σ (b + 14)) (40 * i1)) (shR (σ (b + 15)) (40 * i1)) (shR (σ (b + 16)) (40 * i1))) 0 (σ (b + 11) i1) (-1)) (by omega) (by omega) (by omega) (by omega)
                have hv1 : mkR (u138 (b + 11) i1) (shR (u138 (b + 15)) (40 * i1)) = delR (mkR n9 E) z98 (mkR n9 E (z98 + 1)) := by have := congrArg (fun S : SV => S.2.1) p138.2; rw [moV_st] at this; exact this
                rw [← hv1] at hEf
                (first | rw [if_neg (by omega)] at hEf | rw [if_pos (by omega)] at hEf)
                rw [mkR_in hkk.1 hkk.2, foF_mk (by omega), mkR_in (by omega) (by omega), foF_mk (by omega)] at hEf
                have hb2 := lo_pos (show 1 ≤ loN H E (itrR (glF (shR (σ (b + 14)) (40 * i1)) (shR (σ (b + 15)) (40 * i1)) (shR (σ (b + 16)) (40 * i1))) 0 (σ (b + 11) i1) (-1)) by omega)
                have hz1 := kE.2.2.1 (itrR (glF (shR (σ (b + 14)) (40 * i1)) (shR (σ (b + 15)) (40 * i1)) (shR (σ (b + 16)) (40 * i1))) 0 (σ (b + 11) i1) (-1)) (by omega) (by show itrR (glF (shR (σ (b + 14)) (40 * i1)) (shR (σ (b + 15)) (40 * i1)) (shR (σ (b + 16)) (40 * i1))) 0 (σ (b + 11) i1) (-1) < n9; omega)
                have hz2 : 0 ≤ E (itrR (glF (shR (σ (b + 14)) (40 * i1)) (shR (σ (b + 15)) (40 * i1)) (shR (σ (b + 16)) (40 * i1))) 0 (σ (b + 11) i1) (-1)) ∧ E (itrR (glF (shR (σ (b + 14)) (40 * i1)) (shR (σ (b + 15)) (40 * i1)) (shR (σ (b + 16)) (40 * i1))) 0 (σ (b + 11) i1) (-1)) ≤ 39 := hz1
                have hf1 : 0 ≤ foF E (itrR (glF (shR (σ (b + 14)) (40 * i1)) (shR (σ (b + 15)) (40 * i1)) (shR (σ (b + 16)) (40 * i1))) 0 (σ (b + 11) i1) (-1)) := by unfold foF; split; (have := kE.2.2.1 (itrR (glF (shR (σ (b + 14)) (40 * i1)) (shR (σ (b + 15)) (40 * i1)) (shR (σ (b + 16)) (40 * i1))) 0 (σ (b + 11) i1) (-1) - 1) (by omega) (by show itrR (glF (shR (σ (b + 14)) (40 * i1)) (shR (σ (b + 15)) (40 * i1)) (shR (σ (b + 16)) (40 * i1))) 0 (σ (b + 11) i1) (-1) - 1 < n9; omega); have t2 : 0 ≤ E (itrR (glF (shR (σ (b + 14)) (40 * i1)) (shR (σ (b + 15)) (40 * i1)) (shR (σ (b + 16)) (40 * i1))) 0 (σ (b + 11) i1) (-1) - 1) := this.1; omega); omega
                refine a_aload_n C dX7_keep_150 2 rfl rfl ?_
                refine a_iload_n C dX7_keep_151 3 rfl rfl ?_
                refine a_iload_n C dX7_keep_152 1 rfl rfl ?_
                refine a_cVI C (k0 := 2) (As := [vI i1, vI ((itrR (glF (shR (σ (b + 14)) (40 * i1)) (shR (σ (b + 15)) (40 * i1)) (shR (σ (b + 16)) (40 * i1))) 0 (σ (b + 11) i1) (-1)))]) (rest := []) (c_X7_begins x.2.1 v u138 b hM i1 ((itrR (glF (shR (σ (b + 14)) (40 * i1)) (shR (σ (b + 15)) (40 * i1)) (shR (σ (b + 16)) (40 * i1))) 0 (σ (b + 11) i1) (-1))) (by omega) (by omega) (fun q => hE2.2.2.1 _ (by omega) (by show _ < u138 (b + 11) i1; omega))) gX7_keep_X7_begins rfl (by decide +kernel) (by decide) hM.f0 rfl hM.n0 rfl rfl (Nat.le_of_ble_eq_true rfl) dX7_keep_153 (fun z153 u153 r153 p153 => ?_)
                obtain ⟨e153, p153⟩ := p153
                subst u153
                refine a_istore C [(5, vI z153), (4, vI z98), (3, vI ((itrR (glF (shR (σ (b + 14)) (40 * i1)) (shR (σ (b + 15)) (40 * i1)) (shR (σ (b + 16)) (40 * i1))) 0 (σ (b + 11) i1) (-1)))), (0, .ref (vq v b)), (1, vI i1), (2, vI 0)] dX7_keep_156 (by decide) rfl ?_
                refine a_aload_n C dX7_keep_158 3 rfl rfl ?_
                refine a_iload_n C dX7_keep_159 4 rfl rfl ?_
                refine a_iload_n C dX7_keep_160 2 rfl rfl ?_
                refine a_cVI C (k0 := 2) (As := [vI i1, vI ((itrR (glF (shR (σ (b + 14)) (40 * i1)) (shR (σ (b + 15)) (40 * i1)) (shR (σ (b + 16)) (40 * i1))) 0 (σ (b + 11) i1) (-1)))]) (rest := []) (c_X7_longOf x.2.1 v u138 b hM i1 ((itrR (glF (shR (σ (b + 14)) (40 * i1)) (shR (σ (b + 15)) (40 * i1)) (shR (σ (b + 16)) (40 * i1))) 0 (σ (b + 11) i1) (-1))) (by omega) hkk hE2) gX7_keep_X7_longOf rfl (by decide +kernel) (by decide) hM.f0 rfl hM.n0 rfl rfl (Nat.le_of_ble_eq_true rfl) dX7_keep_161 (fun z161 u161 r161 p161 => ?_)
                obtain ⟨e161, p161⟩ := p161
                subst u161
                have q161 := ltC_bd (shR (u138 (b + 14)) (40 * i1)) (foF (shR (u138 (b + 15)) (40 * i1)) ((itrR (glF (shR (σ (b + 14)) (40 * i1)) (shR (σ (b + 15)) (40 * i1)) (shR (σ (b + 16)) (40 * i1))) 0 (σ (b + 11) i1) (-1)))) ((shR (u138 (b + 15)) (40 * i1)) ((itrR (glF (shR (σ (b + 14)) (40 * i1)) (shR (σ (b + 15)) (40 * i1)) (shR (σ (b + 16)) (40 * i1))) 0 (σ (b + 11) i1) (-1))))
                have q162 : z161 = ltC (shR (u138 (b + 14)) (40 * i1)) (foF (shR (u138 (b + 15)) (40 * i1)) ((itrR (glF (shR (σ (b + 14)) (40 * i1)) (shR (σ (b + 15)) (40 * i1)) (shR (σ (b + 16)) (40 * i1))) 0 (σ (b + 11) i1) (-1)))) ((shR (u138 (b + 15)) (40 * i1)) ((itrR (glF (shR (σ (b + 14)) (40 * i1)) (shR (σ (b + 15)) (40 * i1)) (shR (σ (b + 16)) (40 * i1))) 0 (σ (b + 11) i1) (-1)))) := e161
                rw [← q162] at q161
                refine a_istore C [(6, vI z161), (5, vI z153), (4, vI z98), (3, vI ((itrR (glF (shR (σ (b + 14)) (40 * i1)) (shR (σ (b + 15)) (40 * i1)) (shR (σ (b + 16)) (40 * i1))) 0 (σ (b + 11) i1) (-1)))), (0, .ref (vq v b)), (1, vI i1), (2, vI 0)] dX7_keep_164 (by decide) rfl ?_
                refine a_iload C dX7_keep_166 1 rfl ?_
                refine a_istore C [(7, vI z153), (6, vI z161), (5, vI z153), (4, vI z98), (3, vI ((itrR (glF (shR (σ (b + 14)) (40 * i1)) (shR (σ (b + 15)) (40 * i1)) (shR (σ (b + 16)) (40 * i1))) 0 (σ (b + 11) i1) (-1)))), (0, .ref (vq v b)), (1, vI i1), (2, vI 0)] dX7_keep_168 (by decide) rfl ?_
                have lph : ∀ (n : Nat) (w9 : Int) , (40 - w9).toNat = n → z153 ≤ w9 → w9 ≤ (shR (u138 (b + 15)) (40 * i1)) ((itrR (glF (shR (σ (b + 14)) (40 * i1)) (shR (σ (b + 15)) (40 * i1)) (shR (σ (b + 16)) (40 * i1))) 0 (σ (b + 11) i1) (-1))) → (∀ j : Int, z153 ≤ j → j < w9 → ¬ z161 ≤ 2 * ltC (shR (u138 (b + 14)) (40 * i1)) (foF (shR (u138 (b + 15)) (40 * i1)) ((itrR (glF (shR (σ (b + 14)) (40 * i1)) (shR (σ (b + 15)) (40 * i1)) (shR (σ (b + 16)) (40 * i1))) 0 (σ (b + 11) i1) (-1)))) j) → At x v A Q 8 170 [(7, vI w9), (6, vI z161), (5, vI z153), (3, vI (((itrR (glF (shR (σ (b + 14)) (40 * i1)) (shR (σ (b + 15)) (40 * i1)) (shR (σ (b + 16)) (40 * i1))) 0 (σ (b + 11) i1) (-1))))), (4, vI z98), (0, .ref (vq v b)), (1, vI i1), (2, vI 0)] [] u138 := by
                  intro n
                  induction n using Nat.strongRecOn with
                  | _ n ih =>
                    intro w9 hn iv1 iv2 iv3
                    refine a_iconst C dX7_keep_170 ?_
                    refine a_aload_n C dX7_keep_171 5 rfl rfl ?_
                    refine a_iload_n C dX7_keep_172 6 rfl rfl ?_
                    refine a_iload C dX7_keep_173 2 rfl ?_
                    refine a_iload C dX7_keep_175 0 rfl ?_
                    refine a_cVI C (k0 := 3) (As := [vI i1, vI z153, vI w9]) (rest := [vI 2]) (c_X7_light x.2.1 v u138 b hM i1 z153 w9 (by omega) (by omega) (by omega)) gX7_keep_X7_light rfl (by decide +kernel) (by decide) hM.f0 rfl hM.n0 rfl rfl (Nat.le_of_ble_eq_true rfl) dX7_keep_177 (fun z177 u177 r177 p177 => ?_)
                    obtain ⟨e177, p177⟩ := p177
                    subst u177
                    have q177 := ltC_bd (shR (u138 (b + 14)) (40 * i1)) z153 w9
                    rw [← e177] at q177
                    refine a_imul C dX7_keep_180 ?_
                    refine a_iload C dX7_keep_181 1 rfl ?_
                    refine a_icmp_ge C 192 (by omega) r161 dX7_keep_183 (by decide) (fun c183 => ?_) (fun c183 => ?_)
                    · skip
                      refine a_aload_n C dX7_keep_192 5 rfl rfl ?_
                      refine a_iload_n C dX7_keep_193 6 rfl rfl ?_
                      refine a_iload_n C dX7_keep_194 3 rfl rfl ?_
                      refine a_iload C dX7_keep_195 0 rfl ?_
                      refine a_cVV C (k0 := 3) (As := [vI i1, vI (((itrR (glF (shR (σ (b + 14)) (40 * i1)) (shR (σ (b + 15)) (40 * i1)) (shR (σ (b + 16)) (40 * i1))) 0 (σ (b + 11) i1) (-1)))), vI w9]) (rest := []) (c_X7_splits x.2.1 v u138 b hM i1 (((itrR (glF (shR (σ (b + 14)) (40 * i1)) (shR (σ (b + 15)) (40 * i1)) (shR (σ (b + 16)) (40 * i1))) 0 (σ (b + 11) i1) (-1)))) w9 (by omega) hkk (by omega) (by omega) hE2 (by have := (hB2 ((itrR (glF (shR (σ (b + 14)) (40 * i1)) (shR (σ (b + 15)) (40 * i1)) (shR (σ (b + 16)) (40 * i1))) 0 (σ (b + 11) i1) (-1))) hkk.1 hkk.2).1; exact this) (hB2 ((itrR (glF (shR (σ (b + 14)) (40 * i1)) (shR (σ (b + 15)) (40 * i1)) (shR (σ (b + 16)) (40 * i1))) 0 (σ (b + 11) i1) (-1))) hkk.1 hkk.2).2) gX7_keep_X7_splits rfl (by decide +kernel) (by decide) hM.f0 rfl hM.n0 rfl rfl (Nat.le_of_ble_eq_true rfl) dX7_keep_197 (fun u197 p197 => ?_)
                      refine a_iconst C dX7_keep_200 ?_
                      refine hret _ _ _ _ dX7_keep_201 (by decide) ?_
                      rw [if_neg (by omega), if_neg (by omega)]
                      have hk1 := kp_1 (h := H) (E := E) (C := CC) (D := DD) (n := n9) (g := itrR (glF (shR (σ (b + 14)) (40 * i1)) (shR (σ (b + 15)) (40 * i1)) (shR (σ (b + 16)) (40 * i1))) 0 (σ (b + 11) i1) (-1)) (p := z98) rfl e98 (by refine ⟨by omega, by omega, by omega, ?_⟩; intro hh; have h7 : CC (itrR (glF (shR (σ (b + 14)) (40 * i1)) (shR (σ (b + 15)) (40 * i1)) (shR (σ (b + 16)) (40 * i1))) 0 (σ (b + 11) i1) (-1)) = z119 := e119.symm; rw [h7] at hh; have h8 : z125 = CC z98 + CC (z98 + 1) := e125; omega)
                      have ek : (if z98 < itrR (glF (shR (σ (b + 14)) (40 * i1)) (shR (σ (b + 15)) (40 * i1)) (shR (σ (b + 16)) (40 * i1))) 0 (σ (b + 11) i1) (-1) then itrR (glF (shR (σ (b + 14)) (40 * i1)) (shR (σ (b + 15)) (40 * i1)) (shR (σ (b + 16)) (40 * i1))) 0 (σ (b + 11) i1) (-1) - 1 else itrR (glF (shR (σ (b + 14)) (40 * i1)) (shR (σ (b + 15)) (40 * i1)) (shR (σ (b + 16)) (40 * i1))) 0 (σ (b + 11) i1) (-1)) = ((itrR (glF (shR (σ (b + 14)) (40 * i1)) (shR (σ (b + 15)) (40 * i1)) (shR (σ (b + 16)) (40 * i1))) 0 (σ (b + 11) i1) (-1))) := by (first | rw [if_pos (by omega)] | rw [if_neg (by omega)])
                      rw [ek] at hk1
                      rw [show keepV (shR (σ (b + 14)) (40 * i1)) (moV σ b i1) = _ from hk1]
                      have hm1 : moV u138 b i1 = fuseV (moV σ b i1) z98 := by rw [p138.2, moV_st]
                      have hw : w9 = haF (shR (σ (b + 14)) (40 * i1)) (moV u138 b i1).2.1 ((itrR (glF (shR (σ (b + 14)) (40 * i1)) (shR (σ (b + 15)) (40 * i1)) (shR (σ (b + 16)) (40 * i1))) 0 (σ (b + 11) i1) (-1))) := by
                        rw [show (moV u138 b i1).2.1 = mkR (u138 (b + 11) i1) (shR (u138 (b + 15)) (40 * i1)) from rfl, haF_mk hkk.1 hkk.2]
                        refine fnd_uniq _ _ _ _ (by omega) (by omega) (fun j q1 q2 => ?_) (fun q => ?_)
                        · simp only [decide_eq_false_iff_not]; have h7 := iv3 j (by omega) q2; rw [h14] at h7; rw [← h14]; rw [e161] at h7; rw [h14] at h7 ⊢; exact h7
                        · simp only [decide_eq_true_eq]; have h7 : z161 = loN (shR (u138 (b + 14)) (40 * i1)) (shR (u138 (b + 15)) (40 * i1)) ((itrR (glF (shR (σ (b + 14)) (40 * i1)) (shR (σ (b + 15)) (40 * i1)) (shR (σ (b + 16)) (40 * i1))) 0 (σ (b + 11) i1) (-1))) := e161; rw [h14] at h7; rw [← h7, ← e153]; rw [h14] at e177; rw [← e177]; omega
                      refine ⟨rfl, p138.1.tr p197.1, ?_⟩
                      rw [p197.2, h14, hm1]
                      show cutV _ _ _ w9 = cutV _ _ _ (haF _ (fuseV (moV σ b i1) z98).2.1 _)
                      rw [hw, hm1]
                      rfl
                    · skip
                      refine a_iinc C (w9 + 1) [(7, vI (w9 + 1)), (6, vI z161), (5, vI z153), (3, vI (((itrR (glF (shR (σ (b + 14)) (40 * i1)) (shR (σ (b + 15)) (40 * i1)) (shR (σ (b + 16)) (40 * i1))) 0 (σ (b + 11) i1) (-1))))), (4, vI z98), (0, .ref (vq v b)), (1, vI i1), (2, vI 0)] dX7_keep_186 0 rfl (by omega) (by decide) rfl ?_
                      refine a_goto C 170 dX7_keep_189 (by decide) ?_
                      exact ih _ (by omega) (w9 + 1) rfl (by omega) (by rcases Int.lt_or_le w9 ((shR (u138 (b + 15)) (40 * i1)) ((itrR (glF (shR (σ (b + 14)) (40 * i1)) (shR (σ (b + 15)) (40 * i1)) (shR (σ (b + 16)) (40 * i1))) 0 (σ (b + 11) i1) (-1)))) with z | z; omega; (have e9 : w9 = (shR (u138 (b + 15)) (40 * i1)) ((itrR (glF (shR (σ (b + 14)) (40 * i1)) (shR (σ (b + 15)) (40 * i1)) (shR (σ (b + 16)) (40 * i1))) 0 (σ (b + 11) i1) (-1))) := by omega); (have e8 : z177 = z161 := by rw [e177, e161, e153, e9]; rfl); omega) (fun j q1 q2 => by by_cases hj : j = w9; (subst hj; rw [← e153, ← e177]; omega); exact iv3 j q1 (by omega))
                refine a_sub [0, 1, 2, 4, 3, 5, 6, 7] [(7, vI z153), (6, vI z161), (5, vI z153), (3, vI ((itrR (glF (shR (σ (b + 14)) (40 * i1)) (shR (σ (b + 15)) (40 * i1)) (shR (σ (b + 16)) (40 * i1))) 0 (σ (b + 11) i1) (-1)))), (4, vI z98), (0, .ref (vq v b)), (1, vI i1), (2, vI 0)] rfl ?_
                exact lph _ _ rfl (by omega) (by omega) (fun j q1 q2 => by omega)
              · skip
                refine a_iinc C ((itrR (glF (shR (σ (b + 14)) (40 * i1)) (shR (σ (b + 15)) (40 * i1)) (shR (σ (b + 16)) (40 * i1))) 0 (σ (b + 11) i1) (-1)) - 1) [(3, vI ((itrR (glF (shR (σ (b + 14)) (40 * i1)) (shR (σ (b + 15)) (40 * i1)) (shR (σ (b + 16)) (40 * i1))) 0 (σ (b + 11) i1) (-1)) - 1)), (4, vI z98), (0, .ref (vq v b)), (1, vI i1), (2, vI 0)] dX7_keep_147 1 rfl (by omega) (by decide) rfl ?_
                have hkk : 0 ≤ ((itrR (glF (shR (σ (b + 14)) (40 * i1)) (shR (σ (b + 15)) (40 * i1)) (shR (σ (b + 16)) (40 * i1))) 0 (σ (b + 11) i1) (-1)) - 1) ∧ ((itrR (glF (shR (σ (b + 14)) (40 * i1)) (shR (σ (b + 15)) (40 * i1)) (shR (σ (b + 16)) (40 * i1))) 0 (σ (b + 11) i1) (-1)) - 1) < u138 (b + 11) i1 := by rw [h5]; omega
                have hEf := fuse_E (E := mkR n9 E) (p := z98) (g := itrR (glF (shR (σ (b + 14)) (40 * i1)) (shR (σ (b + 15)) (40 * i1)) (shR (σ (b + 16)) (40 * i1))) 0 (σ (b + 11) i1) (-1)) (by omega) (by omega) (by omega) (by omega)
                have hv1 : mkR (u138 (b + 11) i1) (shR (u138 (b + 15)) (40 * i1)) = delR (mkR n9 E) z98 (mkR n9 E (z98 + 1)) := by have := congrArg (fun S : SV => S.2.1) p138.2; rw [moV_st] at this; exact this
                rw [← hv1] at hEf
                (first | rw [if_neg (by omega)] at hEf | rw [if_pos (by omega)] at hEf)
                rw [mkR_in hkk.1 hkk.2, foF_mk (by omega), mkR_in (by omega) (by omega), foF_mk (by omega)] at hEf
                have hb2 := lo_pos (show 1 ≤ loN H E (itrR (glF (shR (σ (b + 14)) (40 * i1)) (shR (σ (b + 15)) (40 * i1)) (shR (σ (b + 16)) (40 * i1))) 0 (σ (b + 11) i1) (-1)) by omega)
                have hz1 := kE.2.2.1 (itrR (glF (shR (σ (b + 14)) (40 * i1)) (shR (σ (b + 15)) (40 * i1)) (shR (σ (b + 16)) (40 * i1))) 0 (σ (b + 11) i1) (-1)) (by omega) (by show itrR (glF (shR (σ (b + 14)) (40 * i1)) (shR (σ (b + 15)) (40 * i1)) (shR (σ (b + 16)) (40 * i1))) 0 (σ (b + 11) i1) (-1) < n9; omega)
                have hz2 : 0 ≤ E (itrR (glF (shR (σ (b + 14)) (40 * i1)) (shR (σ (b + 15)) (40 * i1)) (shR (σ (b + 16)) (40 * i1))) 0 (σ (b + 11) i1) (-1)) ∧ E (itrR (glF (shR (σ (b + 14)) (40 * i1)) (shR (σ (b + 15)) (40 * i1)) (shR (σ (b + 16)) (40 * i1))) 0 (σ (b + 11) i1) (-1)) ≤ 39 := hz1
                have hf1 : 0 ≤ foF E (itrR (glF (shR (σ (b + 14)) (40 * i1)) (shR (σ (b + 15)) (40 * i1)) (shR (σ (b + 16)) (40 * i1))) 0 (σ (b + 11) i1) (-1)) := by unfold foF; split; (have := kE.2.2.1 (itrR (glF (shR (σ (b + 14)) (40 * i1)) (shR (σ (b + 15)) (40 * i1)) (shR (σ (b + 16)) (40 * i1))) 0 (σ (b + 11) i1) (-1) - 1) (by omega) (by show itrR (glF (shR (σ (b + 14)) (40 * i1)) (shR (σ (b + 15)) (40 * i1)) (shR (σ (b + 16)) (40 * i1))) 0 (σ (b + 11) i1) (-1) - 1 < n9; omega); have t2 : 0 ≤ E (itrR (glF (shR (σ (b + 14)) (40 * i1)) (shR (σ (b + 15)) (40 * i1)) (shR (σ (b + 16)) (40 * i1))) 0 (σ (b + 11) i1) (-1) - 1) := this.1; omega); omega
                refine a_aload_n C dX7_keep_150 2 rfl rfl ?_
                refine a_iload_n C dX7_keep_151 3 rfl rfl ?_
                refine a_iload_n C dX7_keep_152 0 rfl rfl ?_
                refine a_cVI C (k0 := 2) (As := [vI i1, vI ((itrR (glF (shR (σ (b + 14)) (40 * i1)) (shR (σ (b + 15)) (40 * i1)) (shR (σ (b + 16)) (40 * i1))) 0 (σ (b + 11) i1) (-1)) - 1)]) (rest := []) (c_X7_begins x.2.1 v u138 b hM i1 ((itrR (glF (shR (σ (b + 14)) (40 * i1)) (shR (σ (b + 15)) (40 * i1)) (shR (σ (b + 16)) (40 * i1))) 0 (σ (b + 11) i1) (-1)) - 1) (by omega) (by omega) (fun q => hE2.2.2.1 _ (by omega) (by show _ < u138 (b + 11) i1; omega))) gX7_keep_X7_begins rfl (by decide +kernel) (by decide) hM.f0 rfl hM.n0 rfl rfl (Nat.le_of_ble_eq_true rfl) dX7_keep_153 (fun z153 u153 r153 p153 => ?_)
                obtain ⟨e153, p153⟩ := p153
                subst u153
                refine a_istore C [(5, vI z153), (3, vI ((itrR (glF (shR (σ (b + 14)) (40 * i1)) (shR (σ (b + 15)) (40 * i1)) (shR (σ (b + 16)) (40 * i1))) 0 (σ (b + 11) i1) (-1)) - 1)), (4, vI z98), (0, .ref (vq v b)), (1, vI i1), (2, vI 0)] dX7_keep_156 (by decide) rfl ?_
                refine a_aload_n C dX7_keep_158 3 rfl rfl ?_
                refine a_iload_n C dX7_keep_159 4 rfl rfl ?_
                refine a_iload_n C dX7_keep_160 1 rfl rfl ?_
                refine a_cVI C (k0 := 2) (As := [vI i1, vI ((itrR (glF (shR (σ (b + 14)) (40 * i1)) (shR (σ (b + 15)) (40 * i1)) (shR (σ (b + 16)) (40 * i1))) 0 (σ (b + 11) i1) (-1)) - 1)]) (rest := []) (c_X7_longOf x.2.1 v u138 b hM i1 ((itrR (glF (shR (σ (b + 14)) (40 * i1)) (shR (σ (b + 15)) (40 * i1)) (shR (σ (b + 16)) (40 * i1))) 0 (σ (b + 11) i1) (-1)) - 1) (by omega) hkk hE2) gX7_keep_X7_longOf rfl (by decide +kernel) (by decide) hM.f0 rfl hM.n0 rfl rfl (Nat.le_of_ble_eq_true rfl) dX7_keep_161 (fun z161 u161 r161 p161 => ?_)
                obtain ⟨e161, p161⟩ := p161
                subst u161
                have q161 := ltC_bd (shR (u138 (b + 14)) (40 * i1)) (foF (shR (u138 (b + 15)) (40 * i1)) ((itrR (glF (shR (σ (b + 14)) (40 * i1)) (shR (σ (b + 15)) (40 * i1)) (shR (σ (b + 16)) (40 * i1))) 0 (σ (b + 11) i1) (-1)) - 1)) ((shR (u138 (b + 15)) (40 * i1)) ((itrR (glF (shR (σ (b + 14)) (40 * i1)) (shR (σ (b + 15)) (40 * i1)) (shR (σ (b + 16)) (40 * i1))) 0 (σ (b + 11) i1) (-1)) - 1))
                have q162 : z161 = ltC (shR (u138 (b + 14)) (40 * i1)) (foF (shR (u138 (b + 15)) (40 * i1)) ((itrR (glF (shR (σ (b + 14)) (40 * i1)) (shR (σ (b + 15)) (40 * i1)) (shR (σ (b + 16)) (40 * i1))) 0 (σ (b + 11) i1) (-1)) - 1)) ((shR (u138 (b + 15)) (40 * i1)) ((itrR (glF (shR (σ (b + 14)) (40 * i1)) (shR (σ (b + 15)) (40 * i1)) (shR (σ (b + 16)) (40 * i1))) 0 (σ (b + 11) i1) (-1)) - 1)) := e161
                rw [← q162] at q161
                refine a_istore C [(6, vI z161), (5, vI z153), (3, vI ((itrR (glF (shR (σ (b + 14)) (40 * i1)) (shR (σ (b + 15)) (40 * i1)) (shR (σ (b + 16)) (40 * i1))) 0 (σ (b + 11) i1) (-1)) - 1)), (4, vI z98), (0, .ref (vq v b)), (1, vI i1), (2, vI 0)] dX7_keep_164 (by decide) rfl ?_
                refine a_iload C dX7_keep_166 1 rfl ?_
                refine a_istore C [(7, vI z153), (6, vI z161), (5, vI z153), (3, vI ((itrR (glF (shR (σ (b + 14)) (40 * i1)) (shR (σ (b + 15)) (40 * i1)) (shR (σ (b + 16)) (40 * i1))) 0 (σ (b + 11) i1) (-1)) - 1)), (4, vI z98), (0, .ref (vq v b)), (1, vI i1), (2, vI 0)] dX7_keep_168 (by decide) rfl ?_
                have lph : ∀ (n : Nat) (w9 : Int) , (40 - w9).toNat = n → z153 ≤ w9 → w9 ≤ (shR (u138 (b + 15)) (40 * i1)) ((itrR (glF (shR (σ (b + 14)) (40 * i1)) (shR (σ (b + 15)) (40 * i1)) (shR (σ (b + 16)) (40 * i1))) 0 (σ (b + 11) i1) (-1)) - 1) → (∀ j : Int, z153 ≤ j → j < w9 → ¬ z161 ≤ 2 * ltC (shR (u138 (b + 14)) (40 * i1)) (foF (shR (u138 (b + 15)) (40 * i1)) ((itrR (glF (shR (σ (b + 14)) (40 * i1)) (shR (σ (b + 15)) (40 * i1)) (shR (σ (b + 16)) (40 * i1))) 0 (σ (b + 11) i1) (-1)) - 1)) j) → At x v A Q 8 170 [(7, vI w9), (6, vI z161), (5, vI z153), (3, vI (((itrR (glF (shR (σ (b + 14)) (40 * i1)) (shR (σ (b + 15)) (40 * i1)) (shR (σ (b + 16)) (40 * i1))) 0 (σ (b + 11) i1) (-1)) - 1))), (4, vI z98), (0, .ref (vq v b)), (1, vI i1), (2, vI 0)] [] u138 := by
                  intro n
                  induction n using Nat.strongRecOn with
                  | _ n ih =>
                    intro w9 hn iv1 iv2 iv3
                    refine a_iconst C dX7_keep_170 ?_
                    refine a_aload_n C dX7_keep_171 5 rfl rfl ?_
                    refine a_iload_n C dX7_keep_172 6 rfl rfl ?_
                    refine a_iload C dX7_keep_173 2 rfl ?_
                    refine a_iload C dX7_keep_175 0 rfl ?_
                    refine a_cVI C (k0 := 3) (As := [vI i1, vI z153, vI w9]) (rest := [vI 2]) (c_X7_light x.2.1 v u138 b hM i1 z153 w9 (by omega) (by omega) (by omega)) gX7_keep_X7_light rfl (by decide +kernel) (by decide) hM.f0 rfl hM.n0 rfl rfl (Nat.le_of_ble_eq_true rfl) dX7_keep_177 (fun z177 u177 r177 p177 => ?_)
                    obtain ⟨e177, p177⟩ := p177
                    subst u177
                    have q177 := ltC_bd (shR (u138 (b + 14)) (40 * i1)) z153 w9
                    rw [← e177] at q177
                    refine a_imul C dX7_keep_180 ?_
                    refine a_iload C dX7_keep_181 1 rfl ?_
                    refine a_icmp_ge C 192 (by omega) r161 dX7_keep_183 (by decide) (fun c183 => ?_) (fun c183 => ?_)
                    · skip
                      refine a_aload_n C dX7_keep_192 5 rfl rfl ?_
                      refine a_iload_n C dX7_keep_193 6 rfl rfl ?_
                      refine a_iload_n C dX7_keep_194 3 rfl rfl ?_
                      refine a_iload C dX7_keep_195 0 rfl ?_
                      refine a_cVV C (k0 := 3) (As := [vI i1, vI (((itrR (glF (shR (σ (b + 14)) (40 * i1)) (shR (σ (b + 15)) (40 * i1)) (shR (σ (b + 16)) (40 * i1))) 0 (σ (b + 11) i1) (-1)) - 1)), vI w9]) (rest := []) (c_X7_splits x.2.1 v u138 b hM i1 (((itrR (glF (shR (σ (b + 14)) (40 * i1)) (shR (σ (b + 15)) (40 * i1)) (shR (σ (b + 16)) (40 * i1))) 0 (σ (b + 11) i1) (-1)) - 1)) w9 (by omega) hkk (by omega) (by omega) hE2 (by have := (hB2 ((itrR (glF (shR (σ (b + 14)) (40 * i1)) (shR (σ (b + 15)) (40 * i1)) (shR (σ (b + 16)) (40 * i1))) 0 (σ (b + 11) i1) (-1)) - 1) hkk.1 hkk.2).1; exact this) (hB2 ((itrR (glF (shR (σ (b + 14)) (40 * i1)) (shR (σ (b + 15)) (40 * i1)) (shR (σ (b + 16)) (40 * i1))) 0 (σ (b + 11) i1) (-1)) - 1) hkk.1 hkk.2).2) gX7_keep_X7_splits rfl (by decide +kernel) (by decide) hM.f0 rfl hM.n0 rfl rfl (Nat.le_of_ble_eq_true rfl) dX7_keep_197 (fun u197 p197 => ?_)
                      refine a_iconst C dX7_keep_200 ?_
                      refine hret _ _ _ _ dX7_keep_201 (by decide) ?_
                      rw [if_neg (by omega), if_neg (by omega)]
                      have hk1 := kp_1 (h := H) (E := E) (C := CC) (D := DD) (n := n9) (g := itrR (glF (shR (σ (b + 14)) (40 * i1)) (shR (σ (b + 15)) (40 * i1)) (shR (σ (b + 16)) (40 * i1))) 0 (σ (b + 11) i1) (-1)) (p := z98) rfl e98 (by refine ⟨by omega, by omega, by omega, ?_⟩; intro hh; have h7 : CC (itrR (glF (shR (σ (b + 14)) (40 * i1)) (shR (σ (b + 15)) (40 * i1)) (shR (σ (b + 16)) (40 * i1))) 0 (σ (b + 11) i1) (-1)) = z119 := e119.symm; rw [h7] at hh; have h8 : z125 = CC z98 + CC (z98 + 1) := e125; omega)
                      have ek : (if z98 < itrR (glF (shR (σ (b + 14)) (40 * i1)) (shR (σ (b + 15)) (40 * i1)) (shR (σ (b + 16)) (40 * i1))) 0 (σ (b + 11) i1) (-1) then itrR (glF (shR (σ (b + 14)) (40 * i1)) (shR (σ (b + 15)) (40 * i1)) (shR (σ (b + 16)) (40 * i1))) 0 (σ (b + 11) i1) (-1) - 1 else itrR (glF (shR (σ (b + 14)) (40 * i1)) (shR (σ (b + 15)) (40 * i1)) (shR (σ (b + 16)) (40 * i1))) 0 (σ (b + 11) i1) (-1)) = ((itrR (glF (shR (σ (b + 14)) (40 * i1)) (shR (σ (b + 15)) (40 * i1)) (shR (σ (b + 16)) (40 * i1))) 0 (σ (b + 11) i1) (-1)) - 1) := by (first | rw [if_pos (by omega)] | rw [if_neg (by omega)])
                      rw [ek] at hk1
                      rw [show keepV (shR (σ (b + 14)) (40 * i1)) (moV σ b i1) = _ from hk1]
                      have hm1 : moV u138 b i1 = fuseV (moV σ b i1) z98 := by rw [p138.2, moV_st]
                      have hw : w9 = haF (shR (σ (b + 14)) (40 * i1)) (moV u138 b i1).2.1 ((itrR (glF (shR (σ (b + 14)) (40 * i1)) (shR (σ (b + 15)) (40 * i1)) (shR (σ (b + 16)) (40 * i1))) 0 (σ (b + 11) i1) (-1)) - 1) := by
                        rw [show (moV u138 b i1).2.1 = mkR (u138 (b + 11) i1) (shR (u138 (b + 15)) (40 * i1)) from rfl, haF_mk hkk.1 hkk.2]
                        refine fnd_uniq _ _ _ _ (by omega) (by omega) (fun j q1 q2 => ?_) (fun q => ?_)
                        · simp only [decide_eq_false_iff_not]; have h7 := iv3 j (by omega) q2; rw [h14] at h7; rw [← h14]; rw [e161] at h7; rw [h14] at h7 ⊢; exact h7
                        · simp only [decide_eq_true_eq]; have h7 : z161 = loN (shR (u138 (b + 14)) (40 * i1)) (shR (u138 (b + 15)) (40 * i1)) ((itrR (glF (shR (σ (b + 14)) (40 * i1)) (shR (σ (b + 15)) (40 * i1)) (shR (σ (b + 16)) (40 * i1))) 0 (σ (b + 11) i1) (-1)) - 1) := e161; rw [h14] at h7; rw [← h7, ← e153]; rw [h14] at e177; rw [← e177]; omega
                      refine ⟨rfl, p138.1.tr p197.1, ?_⟩
                      rw [p197.2, h14, hm1]
                      show cutV _ _ _ w9 = cutV _ _ _ (haF _ (fuseV (moV σ b i1) z98).2.1 _)
                      rw [hw, hm1]
                      rfl
                    · skip
                      refine a_iinc C (w9 + 1) [(7, vI (w9 + 1)), (6, vI z161), (5, vI z153), (3, vI (((itrR (glF (shR (σ (b + 14)) (40 * i1)) (shR (σ (b + 15)) (40 * i1)) (shR (σ (b + 16)) (40 * i1))) 0 (σ (b + 11) i1) (-1)) - 1))), (4, vI z98), (0, .ref (vq v b)), (1, vI i1), (2, vI 0)] dX7_keep_186 0 rfl (by omega) (by decide) rfl ?_
                      refine a_goto C 170 dX7_keep_189 (by decide) ?_
                      exact ih _ (by omega) (w9 + 1) rfl (by omega) (by rcases Int.lt_or_le w9 ((shR (u138 (b + 15)) (40 * i1)) ((itrR (glF (shR (σ (b + 14)) (40 * i1)) (shR (σ (b + 15)) (40 * i1)) (shR (σ (b + 16)) (40 * i1))) 0 (σ (b + 11) i1) (-1)) - 1)) with z | z; omega; (have e9 : w9 = (shR (u138 (b + 15)) (40 * i1)) ((itrR (glF (shR (σ (b + 14)) (40 * i1)) (shR (σ (b + 15)) (40 * i1)) (shR (σ (b + 16)) (40 * i1))) 0 (σ (b + 11) i1) (-1)) - 1) := by omega); (have e8 : z177 = z161 := by rw [e177, e161, e153, e9]; rfl); omega) (fun j q1 q2 => by by_cases hj : j = w9; (subst hj; rw [← e153, ← e177]; omega); exact iv3 j q1 (by omega))
                exact lph _ _ rfl (by omega) (by omega) (fun j q1 q2 => by omega)
            · skip
              refine a_iconst C dX7_keep_132 ?_
              refine hret _ _ _ _ dX7_keep_133 (by decide) ?_
              rw [if_neg (by omega), if_neg (by omega)]
              have hk0 := kp_0 (h := H) (E := E) (C := CC) (D := DD) (n := n9) (by first | (left; left; omega) | (left; right; rw [← hG, ← e98]; omega) | (rw [← hG, ← e98]; have h7 : CC (itrR (glF (shR (σ (b + 14)) (40 * i1)) (shR (σ (b + 15)) (40 * i1)) (shR (σ (b + 16)) (40 * i1))) 0 (σ (b + 11) i1) (-1)) = z119 := e119.symm; have h8 : z125 = CC z98 + CC (z98 + 1) := e125; rw [h7]; omega))
              rw [show keepV (shR (σ (b + 14)) (40 * i1)) (moV σ b i1) = (moV σ b i1, 0) from hk0]
              exact ⟨rfl, moFr.rf, moV_st _ _ _ _⟩
        · skip
          refine a_iconst C dX7_keep_93 ?_
          refine hret _ _ _ _ dX7_keep_94 (by decide) ?_
          rw [if_neg (by omega), if_neg (by omega)]
          have hk0 := kp_0 (h := H) (E := E) (C := CC) (D := DD) (n := n9) (by first | (left; left; omega) | (left; right; rw [← hG, ← e98]; omega) | (rw [← hG, ← e98]; have h7 : CC (itrR (glF (shR (σ (b + 14)) (40 * i1)) (shR (σ (b + 15)) (40 * i1)) (shR (σ (b + 16)) (40 * i1))) 0 (σ (b + 11) i1) (-1)) = z119 := e119.symm; have h8 : z125 = CC z98 + CC (z98 + 1) := e125; rw [h7]; omega))
          rw [show keepV (shR (σ (b + 14)) (40 * i1)) (moV σ b i1) = (moV σ b i1, 0) from hk0]
          exact ⟨rfl, moFr.rf, moV_st _ _ _ _⟩
      have lp : ∀ (n : Nat) (k at1 : Int) , (24 - k).toNat = n → 0 ≤ k ∧ k ≤ (σ (b + 11) i1) → -1 ≤ at1 ∧ at1 < k → itrR (glF (shR (σ (b + 14)) (40 * i1)) (shR (σ (b + 15)) (40 * i1)) (shR (σ (b + 16)) (40 * i1))) k (σ (b + 11) i1) at1 = itrR (glF (shR (σ (b + 14)) (40 * i1)) (shR (σ (b + 15)) (40 * i1)) (shR (σ (b + 16)) (40 * i1))) 0 (σ (b + 11) i1) (-1) → At x v A Q 8 26 [(4, vI k), (3, vI at1), (0, .ref (vq v b)), (1, vI i1), (2, vI 0)] [] (sput σ b 0 0) := by
        intro n
        induction n using Nat.strongRecOn with
        | _ n ih =>
          intro k at1 hn iv1 iv3 iv4
          refine a_iload C dX7_keep_26 0 rfl ?_
          refine a_aload_n C dX7_keep_28 2 rfl rfl ?_
          refine a_getf C hM.f0 hM.n0 (Cn := RX7) (T := TX7) (N := 30) rfl iX7 13 (by decide) k45 (w := .ref (vq v (b + 11))) rfl dX7_keep_29 ?_
          refine a_iload_n C dX7_keep_32 3 rfl rfl ?_
          refine a_iald C hM.f11 hM.n11 0 hM.tI (by omega) (by omega) (by decide) dX7_keep_33 (fun z33 e33 r33 => ?_)
          try simp [sput_r, mset_n, sput, mset] at e33
          refine a_icmp_ge C 88 (by omega) r33 dX7_keep_34 (by decide) (fun c34 => ?_) (fun c34 => ?_)
          · skip
            refine a_sub [1, 2, 3, 4] [(3, vI at1), (0, .ref (vq v b)), (1, vI i1), (2, vI 0)] rfl ?_
            have hgr : at1 = itrR (glF (shR (σ (b + 14)) (40 * i1)) (shR (σ (b + 15)) (40 * i1)) (shR (σ (b + 16)) (40 * i1))) 0 (σ (b + 11) i1) (-1) := by rw [← iv4, itrR_nil (by omega)]
            rw [hgr]
            exact l88
          · skip
            refine a_aload_n C dX7_keep_37 2 rfl rfl ?_
            refine a_iload_n C dX7_keep_38 3 rfl rfl ?_
            refine a_iload C dX7_keep_39 0 rfl ?_
            refine a_cVI C (k0 := 2) (As := [vI i1, vI k]) (rest := []) (c_X7_longOf x.2.1 v ((sput σ b 0 0)) b hM i1 k (by omega) (by rw [sput_r (by omega)]; omega) (by rw [moE_st]; exact kE)) gX7_keep_X7_longOf rfl (by decide +kernel) (by decide) hM.f0 rfl hM.n0 rfl rfl (Nat.le_of_ble_eq_true rfl) dX7_keep_41 (fun z41 u41 r41 p41 => ?_)
            obtain ⟨e41, p41⟩ := p41
            subst u41
            try simp [sput_r, mset_n, sput, mset] at e41
            have q41 := ltC_bd (shR (σ (b + 14)) (40 * i1)) (foF (shR (σ (b + 15)) (40 * i1)) k) ((shR (σ (b + 15)) (40 * i1)) k)
            refine a_iconst C dX7_keep_44 ?_
            refine a_icmp_lt C 82 r41 (by decide) dX7_keep_45 (by decide) (fun c45 => ?_) (fun c45 => ?_)
            · skip
              refine a_iinc C (k + 1) [(4, vI (k + 1)), (3, vI at1), (0, .ref (vq v b)), (1, vI i1), (2, vI 0)] dX7_keep_82 0 rfl (by omega) (by decide) rfl ?_
              refine a_goto C 26 dX7_keep_85 (by decide) ?_
              exact ih _ (by omega) _ _ rfl (by omega) (by omega) (by rw [← iv4, itrR_step (a := k) (by omega)]; congr 1; unfold glF; (first | rw [if_pos (by simp only [shR_e]; omega)] | rw [if_neg (by simp only [shR_e]; omega)]))
            · skip
              refine a_iload_n C dX7_keep_48 1 rfl rfl ?_
              refine a_iconst C dX7_keep_49 ?_
              refine a_icmp_eq C 79 (by omega) (by decide) dX7_keep_50 (by decide) (fun c50 => ?_) (fun c50 => ?_)
              · skip
                refine a_iload C dX7_keep_79 0 rfl ?_
                refine a_istore_n C 3 [(3, vI k), (4, vI k), (0, .ref (vq v b)), (1, vI i1), (2, vI 0)] dX7_keep_81 rfl (by decide) rfl ?_
                refine a_iinc C (k + 1) [(4, vI (k + 1)), (3, vI k), (0, .ref (vq v b)), (1, vI i1), (2, vI 0)] dX7_keep_82 1 rfl (by omega) (by decide) rfl ?_
                refine a_goto C 26 dX7_keep_85 (by decide) ?_
                exact ih _ (by omega) _ _ rfl (by omega) (by omega) (by rw [← iv4, itrR_step (a := k) (by omega)]; congr 1; unfold glF; (first | rw [if_pos (by simp only [shR_e]; omega)] | rw [if_neg (by simp only [shR_e]; omega)]))
              · skip
                refine a_aload_n C dX7_keep_53 2 rfl rfl ?_
                refine a_getf C hM.f0 hM.n0 (Cn := RX7) (T := TX7) (N := 30) rfl iX7 18 (by decide) k61 (w := .ref (vq v (b + 16))) rfl dX7_keep_54 ?_
                refine a_bipush C dX7_keep_57 ?_
                refine a_iload_n C dX7_keep_59 3 rfl rfl ?_
                refine a_imul C dX7_keep_60 ?_
                refine a_iload C dX7_keep_61 0 rfl ?_
                refine a_iadd C dX7_keep_63 ?_
                refine a_iald C hM.f16 hM.n16 0 hM.tI (by omega) (by omega) (by decide) dX7_keep_64 (fun z64 e64 r64 => ?_)
                try simp [sput_r, mset_n, sput, mset] at e64
                refine a_aload_n C dX7_keep_65 2 rfl rfl ?_
                refine a_getf C hM.f0 hM.n0 (Cn := RX7) (T := TX7) (N := 30) rfl iX7 18 (by decide) k61 (w := .ref (vq v (b + 16))) rfl dX7_keep_66 ?_
                refine a_bipush C dX7_keep_69 ?_
                refine a_iload_n C dX7_keep_71 3 rfl rfl ?_
                refine a_imul C dX7_keep_72 ?_
                refine a_iload_n C dX7_keep_73 1 rfl rfl ?_
                refine a_iadd C dX7_keep_74 ?_
                refine a_iald C hM.f16 hM.n16 0 hM.tI (by omega) (by omega) (by decide) dX7_keep_75 (fun z75 e75 r75 => ?_)
                try simp [sput_r, mset_n, sput, mset] at e75
                refine a_icmp_le C 82 r64 r75 dX7_keep_76 (by decide) (fun c76 => ?_) (fun c76 => ?_)
                · skip
                  refine a_iinc C (k + 1) [(4, vI (k + 1)), (3, vI at1), (0, .ref (vq v b)), (1, vI i1), (2, vI 0)] dX7_keep_82 0 rfl (by omega) (by decide) rfl ?_
                  refine a_goto C 26 dX7_keep_85 (by decide) ?_
                  exact ih _ (by omega) _ _ rfl (by omega) (by omega) (by rw [← iv4, itrR_step (a := k) (by omega)]; congr 1; unfold glF; (first | rw [if_pos (by simp only [shR_e]; omega)] | rw [if_neg (by simp only [shR_e]; omega)]))
                · skip
                  refine a_iload C dX7_keep_79 0 rfl ?_
                  refine a_istore_n C 3 [(3, vI k), (4, vI k), (0, .ref (vq v b)), (1, vI i1), (2, vI 0)] dX7_keep_81 rfl (by decide) rfl ?_
                  refine a_iinc C (k + 1) [(4, vI (k + 1)), (3, vI k), (0, .ref (vq v b)), (1, vI i1), (2, vI 0)] dX7_keep_82 1 rfl (by omega) (by decide) rfl ?_
                  refine a_goto C 26 dX7_keep_85 (by decide) ?_
                  exact ih _ (by omega) _ _ rfl (by omega) (by omega) (by rw [← iv4, itrR_step (a := k) (by omega)]; congr 1; unfold glF; (first | rw [if_pos (by simp only [shR_e]; omega)] | rw [if_neg (by simp only [shR_e]; omega)]))
      refine a_sub [0, 1, 3, 4, 2] [(4, vI 0), (3, vI (-1)), (0, .ref (vq v b)), (1, vI i1), (2, vI 0)] rfl ?_
      exact lp _ 0 (-1) rfl (by omega) (by omega) rfl
    · skip
      exfalso; omega
