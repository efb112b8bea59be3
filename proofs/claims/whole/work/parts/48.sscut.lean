/-- the sums of a guess stay within a long -/
def guOK (σ : Mem) (b : Nat) (a1 a2 : Int) : Prop := ∃ P : Int → Int → Int → Prop, (P 0 (frN (hvS (σ (b + 4)) (σ (b + 5)) a1 a2) 1) (frD (hvS (σ (b + 4)) (σ (b + 5)) a1 a2) 1)) ∧ (∀ k t d : Int, 0 ≤ k → k < σ b 5 → P k t d → 0 < askF (σ (b + 4)) (σ (b + 1)) a1 a2 k → 0 < d ∧ (-9223372036854775807 ≤ aiN t d (σ (b + 2) k * askF (σ (b + 4)) (σ (b + 1)) a1 a2 k) (loN (σ (b + 4)) (σ (b + 1)) k) ∧ aiN t d (σ (b + 2) k * askF (σ (b + 4)) (σ (b + 1)) a1 a2 k) (loN (σ (b + 4)) (σ (b + 1)) k) ≤ 9223372036854775807) ∧ aiD d (σ (b + 2) k * askF (σ (b + 4)) (σ (b + 1)) a1 a2 k) (loN (σ (b + 4)) (σ (b + 1)) k) ≤ 9223372036854775807 ∧ P (k + 1) (frN (aiN t d (σ (b + 2) k * askF (σ (b + 4)) (σ (b + 1)) a1 a2 k) (loN (σ (b + 4)) (σ (b + 1)) k)) (aiD d (σ (b + 2) k * askF (σ (b + 4)) (σ (b + 1)) a1 a2 k) (loN (σ (b + 4)) (σ (b + 1)) k))) (frD (aiN t d (σ (b + 2) k * askF (σ (b + 4)) (σ (b + 1)) a1 a2 k) (loN (σ (b + 4)) (σ (b + 1)) k)) (aiD d (σ (b + 2) k * askF (σ (b + 4)) (σ (b + 1)) a1 a2 k) (loN (σ (b + 4)) (σ (b + 1)) k)))) ∧ (∀ k t d : Int, 0 ≤ k → k < σ b 5 → P k t d → ¬ 0 < askF (σ (b + 4)) (σ (b + 1)) a1 a2 k → P (k + 1) t d)
def guV (σ : Mem) (b : Nat) (a1 a2 : Int) : Int × Int := (itrR (gsF (σ (b + 4)) (σ (b + 1)) (σ (b + 2)) a1 a2) 0 (σ b 5) (frN (hvS (σ (b + 4)) (σ (b + 5)) a1 a2) 1, frD (hvS (σ (b + 4)) (σ (b + 5)) a1 a2) 1))
/-- the sums of a join stay within a long -/
def joOK (σ : Mem) (b o : Nat) : Prop := (∀ w : Int, 0 ≤ w → w < 40 → -20000000 ≤ (shT (σ (b + 4)) (σ (b + 5)) (σ (b + 1)) (σ (b + 2)) (σ b 5) w) ∧ (shT (σ (b + 4)) (σ (b + 5)) (σ (b + 1)) (σ (b + 2)) (σ b 5) w) ≤ 20000000) ∧ (∀ w : Int, 0 ≤ w → w < 40 → -20000000 ≤ (shT (σ (o + 4)) (σ (o + 5)) (σ (o + 1)) (σ (o + 2)) (σ o 5) w) ∧ (shT (σ (o + 4)) (σ (o + 5)) (σ (o + 1)) (σ (o + 2)) (σ o 5) w) ≤ 20000000) ∧ (∀ w : Int, 0 ≤ w → w < 40 → 1 ≤ (shB (σ (b + 4)) (σ (b + 1)) (σ b 5) w) ∧ (shB (σ (b + 4)) (σ (b + 1)) (σ b 5) w) ≤ 40) ∧ (∀ w : Int, 0 ≤ w → w < 40 → 1 ≤ (shB (σ (o + 4)) (σ (o + 1)) (σ o 5) w) ∧ (shB (σ (o + 4)) (σ (o + 1)) (σ o 5) w) ≤ 40) ∧ ∃ P : Int → Int → Int → Prop, (P 0 (frN 0 1) (frD 0 1)) ∧ (∀ w t d : Int, 0 ≤ w → w < 40 → P w t d → 0 < d ∧ (-9223372036854775807 ≤ aiN t d ((shT (σ (b + 4)) (σ (b + 5)) (σ (b + 1)) (σ (b + 2)) (σ b 5) w) * (shT (σ (o + 4)) (σ (o + 5)) (σ (o + 1)) (σ (o + 2)) (σ o 5) w)) ((shB (σ (b + 4)) (σ (b + 1)) (σ b 5) w) * (shB (σ (o + 4)) (σ (o + 1)) (σ o 5) w)) ∧ aiN t d ((shT (σ (b + 4)) (σ (b + 5)) (σ (b + 1)) (σ (b + 2)) (σ b 5) w) * (shT (σ (o + 4)) (σ (o + 5)) (σ (o + 1)) (σ (o + 2)) (σ o 5) w)) ((shB (σ (b + 4)) (σ (b + 1)) (σ b 5) w) * (shB (σ (o + 4)) (σ (o + 1)) (σ o 5) w)) ≤ 9223372036854775807) ∧ aiD d ((shT (σ (b + 4)) (σ (b + 5)) (σ (b + 1)) (σ (b + 2)) (σ b 5) w) * (shT (σ (o + 4)) (σ (o + 5)) (σ (o + 1)) (σ (o + 2)) (σ o 5) w)) ((shB (σ (b + 4)) (σ (b + 1)) (σ b 5) w) * (shB (σ (o + 4)) (σ (o + 1)) (σ o 5) w)) ≤ 9223372036854775807 ∧ P (w + 1) (frN (aiN t d ((shT (σ (b + 4)) (σ (b + 5)) (σ (b + 1)) (σ (b + 2)) (σ b 5) w) * (shT (σ (o + 4)) (σ (o + 5)) (σ (o + 1)) (σ (o + 2)) (σ o 5) w)) ((shB (σ (b + 4)) (σ (b + 1)) (σ b 5) w) * (shB (σ (o + 4)) (σ (o + 1)) (σ o 5) w))) (aiD d ((shT (σ (b + 4)) (σ (b + 5)) (σ (b + 1)) (σ (b + 2)) (σ b 5) w) * (shT (σ (o + 4)) (σ (o + 5)) (σ (o + 1)) (σ (o + 2)) (σ o 5) w)) ((shB (σ (b + 4)) (σ (b + 1)) (σ b 5) w) * (shB (σ (o + 4)) (σ (o + 1)) (σ o 5) w)))) (frD (aiN t d ((shT (σ (b + 4)) (σ (b + 5)) (σ (b + 1)) (σ (b + 2)) (σ b 5) w) * (shT (σ (o + 4)) (σ (o + 5)) (σ (o + 1)) (σ (o + 2)) (σ o 5) w)) ((shB (σ (b + 4)) (σ (b + 1)) (σ b 5) w) * (shB (σ (o + 4)) (σ (o + 1)) (σ o 5) w))) (aiD d ((shT (σ (b + 4)) (σ (b + 5)) (σ (b + 1)) (σ (b + 2)) (σ b 5) w) * (shT (σ (o + 4)) (σ (o + 5)) (σ (o + 1)) (σ (o + 2)) (σ o 5) w)) ((shB (σ (b + 4)) (σ (b + 1)) (σ b 5) w) * (shB (σ (o + 4)) (σ (o + 1)) (σ o 5) w)))))
def joV (σ : Mem) (b o : Nat) : Int × Int := (itrR (jnF (fun w => (shT (σ (b + 4)) (σ (b + 5)) (σ (b + 1)) (σ (b + 2)) (σ b 5) w) * (shT (σ (o + 4)) (σ (o + 5)) (σ (o + 1)) (σ (o + 2)) (σ o 5) w)) (fun w => (shB (σ (b + 4)) (σ (b + 1)) (σ b 5) w) * (shB (σ (o + 4)) (σ (o + 1)) (σ o 5) w))) 0 40 (frN 0 1, frD 0 1))
/-- the sign of a number -/
def sgI (x : Int) : Int := if 0 < x then 1 else if x < 0 then -1 else 0
def loV (σ : Mem) (b : Nat) (a1 a2 : Int) : Int := hvS (σ (b + 4)) (σ (b + 5)) a1 a2 + smR (lwF (σ (b + 4)) (σ (b + 1)) (σ (b + 2)) (σ (b + 3)) a1 a2) 0 (σ b 5)
def hiV (σ : Mem) (b : Nat) (a1 a2 : Int) : Int := hvS (σ (b + 4)) (σ (b + 5)) a1 a2 + smR (hiF (σ (b + 4)) (σ (b + 1)) (σ (b + 2)) (σ (b + 3)) a1 a2) 0 (σ b 5)
set_option maxHeartbeats 4000000 in
set_option maxRecDepth 100000 in
theorem c_X6_split (l : Launch) (v : VC) (σ : Mem) (hS : shSS v) (i1 x1 : Int) (h1 : rg i1) (h2 : rg x1) (hC : ∀ i : Int, 0 ≤ i → i < 3 → coW σ (11 + 10 * i.toNat)) : CtI l yX6_split wsX6_split 4 92 v [.ref (vq v 0), vI i1, vI x1] σ (fun z u => (if ¬ ((0 ≤ i1 ∧ i1 < 3) ∧ (0 ≤ x1 ∧ x1 ≤ 39)) then (z = -1 ∧ u = sput σ 0 5 1) else (if ¬ 0 < σ (11 + 10 * i1.toNat + 2) 5 then (z = -1 ∧ u = sput σ 0 5 5) else (if σ ((11 + 10 * i1.toNat + 2) + 1) (spOf (σ ((11 + 10 * i1.toNat + 2) + 1)) (σ (11 + 10 * i1.toNat + 2) 5) x1) = x1 ∨ 12 ≤ σ (11 + 10 * i1.toNat + 2) 5 then (z = -1 ∧ u = sput σ 0 5 6) else (z = spOf (σ ((11 + 10 * i1.toNat + 2) + 1)) (σ (11 + 10 * i1.toNat + 2) 5) x1 ∧ ∃ τ : Mem, skFr σ τ (11 + 10 * i1.toNat + 2) ∧ skV τ (11 + 10 * i1.toNat + 2) = cutV (σ ((11 + 10 * i1.toNat + 2) + 4)) (skV σ (11 + 10 * i1.toNat + 2)) (spOf (σ ((11 + 10 * i1.toNat + 2) + 1)) (σ (11 + 10 * i1.toNat + 2) 5) x1) x1 ∧ u = sput τ 0 5 0))))) := by
  refine mkI (cc := cX6_split) (n := 6) (by decide +kernel) rfl (Nat.le_of_ble_eq_true rfl) (fun x A Q hx C hret => ?_)
  subst hx
  show At x v A Q _ 0 [(0, .ref (vq v 0)), (1, vI i1), (2, vI x1)] [] σ
  have iX0 : ∀ w ∈ wsX00, w ∈ wsX6_split := by decide +kernel
  have iX4 : ∀ w ∈ wsX40, w ∈ wsX6_split := by decide +kernel
  have k151 : Cond.fieldLink RX6 151 (TX0 1).1 (TX0 1).2.1 (TX0 1).2.2.1 ∈ wsX6_split := by decide +kernel
  have k183 : Cond.fieldLink RX6 183 (TX4 5).1 (TX4 5).2.1 (TX4 5).2.2.1 ∈ wsX6_split := by decide +kernel
  refine a_aload_n C dX6_split_0 0 rfl rfl ?_
  refine a_iload_n C dX6_split_1 1 rfl rfl ?_
  refine a_cVQ C (k0 := 1) (As := [vI i1]) (rest := []) (c_X6_columnAt x.2.1 v σ hS i1 (by omega)) gX6_split_X6_columnAt rfl (by decide +kernel) (by decide) hS.f0 rfl hS.n0 rfl rfl (Nat.le_of_ble_eq_true rfl) dX6_split_2 (fun z2 u2 p2 => ?_)
  obtain ⟨e2, p2⟩ := p2
  subst u2
  rcases e2 with ⟨q2, h2⟩ | ⟨q2, h2⟩ <;> subst h2
  · skip
    show At x v A Q _ 5 [(0, .ref (vq v 0)), (1, vI i1), (2, vI x1)] [.ref (vq v (11 + 10 * i1.toNat))] σ
    refine a_astore_n C 3 [(3, .ref (vq v (11 + 10 * i1.toNat))), (0, .ref (vq v 0)), (1, vI i1), (2, vI x1)] dX6_split_5 rfl (by decide) rfl ?_
    refine a_aload_n C dX6_split_6 0 rfl rfl ?_
    refine a_ifnull C dX6_split_7 ?_
    refine a_iload_n C dX6_split_10 3 rfl rfl ?_
    refine a_cSI C (k0 := 1) (As := [vI x1]) (rest := []) (c_X6_isValue x.2.1 v σ x1 (by omega)) gX6_split_X6_isValue rfl (by decide +kernel) (by decide) rfl rfl (Nat.le_of_ble_eq_true rfl) dX6_split_11 (fun z11 u11 r11 p11 => ?_)
    obtain ⟨e11, p11⟩ := p11
    subst u11
    have q11 := zz e11
    refine a_if_ne C 23 r11 dX6_split_14 (by decide) (fun c14 => ?_) (fun c14 => ?_)
    · skip
      refine a_aload_n C dX6_split_23 0 rfl rfl ?_
      refine a_getf C (hS.co i1 (by omega) (by omega)).f0 (hS.co i1 (by omega) (by omega)).n0 (Cn := RX0) (T := TX0) (N := 5) rfl iX0 1 (by decide) k151 (w := .ref (vq v (11 + 10 * i1.toNat + 2))) rfl dX6_split_24 ?_
      refine a_astore C [(4, .ref (vq v (11 + 10 * i1.toNat + 2))), (3, .ref (vq v (11 + 10 * i1.toNat))), (0, .ref (vq v 0)), (1, vI i1), (2, vI x1)] dX6_split_27 (by decide) rfl ?_
      refine a_aload C dX6_split_29 0 rfl ?_
      have c0 := hC i1 (by omega) (by omega)
      obtain ⟨cT, c3, c4, cW, cB, cD, cS⟩ := c0
      have cW1 := cW.1
      have cW2 := cW.2.1
      refine a_cVI C (k0 := 0) (As := []) (rest := []) (c_X4_isThere x.2.1 v σ (11 + 10 * i1.toNat + 2) (hS.co i1 (by omega) (by omega)).o2 ) gX6_split_X4_isThere rfl (by decide +kernel) (by decide) (hS.co i1 (by omega) (by omega)).o2.f0 rfl (hS.co i1 (by omega) (by omega)).o2.n0 rfl rfl (Nat.le_of_ble_eq_true rfl) dX6_split_31 (fun z31 u31 r31 p31 => ?_)
      obtain ⟨e31, p31⟩ := p31
      subst u31
      have q31 := zz e31
      refine a_if_ne C 43 r31 dX6_split_34 (by decide) (fun c34 => ?_) (fun c34 => ?_)
      · skip
        refine a_aload C dX6_split_43 0 rfl ?_
        refine a_iload_n C dX6_split_45 4 rfl rfl ?_
        refine a_cVI C (k0 := 1) (As := [vI x1]) (rest := []) (c_X4_endsAt x.2.1 v σ (11 + 10 * i1.toNat + 2) (hS.co i1 (by omega) (by omega)).o2 x1 (by omega) ⟨cW, by omega⟩) gX6_split_X4_endsAt rfl (by decide +kernel) (by decide) (hS.co i1 (by omega) (by omega)).o2.f0 rfl (hS.co i1 (by omega) (by omega)).o2.n0 rfl rfl (Nat.le_of_ble_eq_true rfl) dX6_split_46 (fun z46 u46 r46 p46 => ?_)
        obtain ⟨e46, p46⟩ := p46
        subst u46
        have q46 := zz e46
        refine a_if_ne C 62 r46 dX6_split_49 (by decide) (fun c49 => ?_) (fun c49 => ?_)
        · skip
          refine a_aload_n C dX6_split_62 2 rfl rfl ?_
          refine a_bipush C dX6_split_63 ?_
          refine a_cVI C (k0 := 1) (As := [vI 6]) (rest := []) (c_X6_none x.2.1 v σ hS 6 (by omega)) gX6_split_X6_none rfl (by decide +kernel) (by decide) hS.f0 rfl hS.n0 rfl rfl (Nat.le_of_ble_eq_true rfl) dX6_split_65 (fun z65 u65 r65 p65 => ?_)
          obtain ⟨e65, p65⟩ := p65
          subst u65
          refine hret _ _ _ _ dX6_split_68 r65 ?_
          (repeat (first | rw [if_pos (by omega)] | rw [if_neg (by omega)]))
          (first | exact ⟨by omega, rfl⟩ | (refine ⟨by omega, _, p82.1, ?_, rfl⟩; rw [← e72]; exact p82.2))
        · skip
          refine a_aload C dX6_split_52 0 rfl ?_
          refine a_geti C (hS.co i1 (by omega) (by omega)).o2.f0 (hS.co i1 (by omega) (by omega)).o2.n0 (Cn := RX4) (T := TX4) (N := 7) rfl iX4 5 (by decide) k183 5 (by decide) rfl dX6_split_54 (fun z54 e54 r54 => ?_)
          refine a_bipush C dX6_split_57 ?_
          refine a_icmp_lt C 69 r54 (by decide) dX6_split_59 (by decide) (fun c59 => ?_) (fun c59 => ?_)
          · skip
            refine a_aload C dX6_split_69 0 rfl ?_
            refine a_iload_n C dX6_split_71 4 rfl rfl ?_
            refine a_cVI C (k0 := 1) (As := [vI x1]) (rest := []) (c_X4_spanOf x.2.1 v σ (11 + 10 * i1.toNat + 2) (hS.co i1 (by omega) (by omega)).o2 x1 (by omega) (by omega)) gX6_split_X4_spanOf rfl (by decide +kernel) (by decide) (hS.co i1 (by omega) (by omega)).o2.f0 rfl (hS.co i1 (by omega) (by omega)).o2.n0 rfl rfl (Nat.le_of_ble_eq_true rfl) dX6_split_72 (fun z72 u72 r72 p72 => ?_)
            obtain ⟨e72, p72⟩ := p72
            subst u72
            have b72 := spOf_bd (σ (11 + 10 * i1.toNat + 2 + 1)) (σ (11 + 10 * i1.toNat + 2) 5) x1
            have b73 := b72.2.1 (by omega)
            have b74 := b72.1
            refine a_istore C [(5, vI z72), (4, .ref (vq v (11 + 10 * i1.toNat + 2))), (3, .ref (vq v (11 + 10 * i1.toNat))), (0, .ref (vq v 0)), (1, vI i1), (2, vI x1)] dX6_split_75 (by decide) rfl ?_
            refine a_aload C dX6_split_77 1 rfl ?_
            refine a_iload C dX6_split_79 0 rfl ?_
            refine a_iload_n C dX6_split_81 5 rfl rfl ?_
            refine a_cVV C (k0 := 2) (As := [vI z72, vI x1]) (rest := []) (c_X4_cut x.2.1 v σ (11 + 10 * i1.toNat + 2) (hS.co i1 (by omega) (by omega)).o2 z72 x1 (by omega) (by omega) (by omega) cW cB) gX6_split_X4_cut rfl (by decide +kernel) (by decide) (hS.co i1 (by omega) (by omega)).o2.f0 rfl (hS.co i1 (by omega) (by omega)).o2.n0 rfl rfl (Nat.le_of_ble_eq_true rfl) dX6_split_82 (fun u82 p82 => ?_)
            refine a_aload_n C dX6_split_85 3 rfl rfl ?_
            refine a_iload C dX6_split_86 0 rfl ?_
            refine a_cVI C (k0 := 1) (As := [vI z72]) (rest := []) (c_X6_told x.2.1 v u82 hS z72 (by omega)) gX6_split_X6_told rfl (by decide +kernel) (by decide) hS.f0 rfl hS.n0 rfl rfl (Nat.le_of_ble_eq_true rfl) dX6_split_88 (fun z88 u88 r88 p88 => ?_)
            obtain ⟨e88, p88⟩ := p88
            subst u88
            refine hret _ _ _ _ dX6_split_91 r88 ?_
            (repeat (first | rw [if_pos (by omega)] | rw [if_neg (by omega)]))
            (first | exact ⟨by omega, rfl⟩ | (refine ⟨by omega, _, p82.1, ?_, rfl⟩; rw [← e72]; exact p82.2))
          · skip
            refine a_aload_n C dX6_split_62 2 rfl rfl ?_
            refine a_bipush C dX6_split_63 ?_
            refine a_cVI C (k0 := 1) (As := [vI 6]) (rest := []) (c_X6_none x.2.1 v σ hS 6 (by omega)) gX6_split_X6_none rfl (by decide +kernel) (by decide) hS.f0 rfl hS.n0 rfl rfl (Nat.le_of_ble_eq_true rfl) dX6_split_65 (fun z65 u65 r65 p65 => ?_)
            obtain ⟨e65, p65⟩ := p65
            subst u65
            refine hret _ _ _ _ dX6_split_68 r65 ?_
            (repeat (first | rw [if_pos (by omega)] | rw [if_neg (by omega)]))
            (first | exact ⟨by omega, rfl⟩ | (refine ⟨by omega, _, p82.1, ?_, rfl⟩; rw [← e72]; exact p82.2))
      · skip
        refine a_aload_n C dX6_split_37 2 rfl rfl ?_
        refine a_iconst C dX6_split_38 ?_
        refine a_cVI C (k0 := 1) (As := [vI 5]) (rest := []) (c_X6_none x.2.1 v σ hS 5 (by omega)) gX6_split_X6_none rfl (by decide +kernel) (by decide) hS.f0 rfl hS.n0 rfl rfl (Nat.le_of_ble_eq_true rfl) dX6_split_39 (fun z39 u39 r39 p39 => ?_)
        obtain ⟨e39, p39⟩ := p39
        subst u39
        refine hret _ _ _ _ dX6_split_42 r39 ?_
        (repeat (first | rw [if_pos (by omega)] | rw [if_neg (by omega)]))
        (first | exact ⟨by omega, rfl⟩ | (refine ⟨by omega, _, p82.1, ?_, rfl⟩; rw [← e72]; exact p82.2))
    · skip
      refine a_aload_n C dX6_split_17 1 rfl rfl ?_
      refine a_iconst C dX6_split_18 ?_
      refine a_cVI C (k0 := 1) (As := [vI 1]) (rest := []) (c_X6_none x.2.1 v σ hS 1 (by omega)) gX6_split_X6_none rfl (by decide +kernel) (by decide) hS.f0 rfl hS.n0 rfl rfl (Nat.le_of_ble_eq_true rfl) dX6_split_19 (fun z19 u19 r19 p19 => ?_)
      obtain ⟨e19, p19⟩ := p19
      subst u19
      refine hret _ _ _ _ dX6_split_22 r19 ?_
      (repeat (first | rw [if_pos (by omega)] | rw [if_neg (by omega)]))
      (first | exact ⟨by omega, rfl⟩ | (refine ⟨by omega, _, p82.1, ?_, rfl⟩; rw [← e72]; exact p82.2))
  · skip
    show At x v A Q _ 5 [(0, .ref (vq v 0)), (1, vI i1), (2, vI x1)] [.null] σ
    refine a_astore_nN C 3 [(3, .null), (0, .ref (vq v 0)), (1, vI i1), (2, vI x1)] dX6_split_5 rfl (by decide) rfl ?_
    refine a_aload_nN C dX6_split_6 0 rfl rfl ?_
    refine a_ifnullN C 17 dX6_split_7 (by decide) ?_
    refine a_aload_n C dX6_split_17 1 rfl rfl ?_
    refine a_iconst C dX6_split_18 ?_
    refine a_cVI C (k0 := 1) (As := [vI 1]) (rest := []) (c_X6_none x.2.1 v σ hS 1 (by omega)) gX6_split_X6_none rfl (by decide +kernel) (by decide) hS.f0 rfl hS.n0 rfl rfl (Nat.le_of_ble_eq_true rfl) dX6_split_19 (fun z19 u19 r19 p19 => ?_)
    obtain ⟨e19, p19⟩ := p19
    subst u19
    refine hret _ _ _ _ dX6_split_22 r19 ?_
    (repeat (first | rw [if_pos (by omega)] | rw [if_neg (by omega)]))
    (first | exact ⟨by omega, rfl⟩ | (refine ⟨by omega, _, p82.1, ?_, rfl⟩; rw [← e72]; exact p82.2))
set_option maxHeartbeats 4000000 in
set_option maxRecDepth 100000 in
theorem c_X6_melt (l : Launch) (v : VC) (σ : Mem) (hS : shSS v) (i1 k1 : Int) (h1 : rg i1) (h2 : rg k1) (hC : ∀ i : Int, 0 ≤ i → i < 3 → coW σ (11 + 10 * i.toNat)) : CtI l yX6_melt wsX6_melt 3 67 v [.ref (vq v 0), vI i1, vI k1] σ (fun z u => (if ¬ (0 ≤ i1 ∧ i1 < 3) then (z = 0 ∧ u = sput σ 0 5 1) else (if ¬ 0 < σ (11 + 10 * i1.toNat + 2) 5 then (z = 0 ∧ u = sput σ 0 5 5) else (if ¬ (0 ≤ k1 ∧ k1 ≤ σ (11 + 10 * i1.toNat + 2) 5 - 2) then (z = 0 ∧ u = sput σ 0 5 6) else (z = 1 ∧ ∃ τ : Mem, skFr σ τ (11 + 10 * i1.toNat + 2) ∧ skV τ (11 + 10 * i1.toNat + 2) = fuseV (skV σ (11 + 10 * i1.toNat + 2)) k1 ∧ u = sput τ 0 5 0))))) := by
  refine mkZ (cc := cX6_melt) (n := 4) (by decide +kernel) rfl (Nat.le_of_ble_eq_true rfl) (fun x A Q hx C hret => ?_)
  subst hx
  show At x v A Q _ 0 [(0, .ref (vq v 0)), (1, vI i1), (2, vI k1)] [] σ
  have iX0 : ∀ w ∈ wsX00, w ∈ wsX6_melt := by decide +kernel
  have iX4 : ∀ w ∈ wsX40, w ∈ wsX6_melt := by decide +kernel
  have k151 : Cond.fieldLink RX6 151 (TX0 1).1 (TX0 1).2.1 (TX0 1).2.2.1 ∈ wsX6_melt := by decide +kernel
  have k183 : Cond.fieldLink RX6 183 (TX4 5).1 (TX4 5).2.1 (TX4 5).2.2.1 ∈ wsX6_melt := by decide +kernel
  refine a_aload_n C dX6_melt_0 0 rfl rfl ?_
  refine a_iload_n C dX6_melt_1 1 rfl rfl ?_
  refine a_cVQ C (k0 := 1) (As := [vI i1]) (rest := []) (c_X6_columnAt x.2.1 v σ hS i1 (by omega)) gX6_melt_X6_columnAt rfl (by decide +kernel) (by decide) hS.f0 rfl hS.n0 rfl rfl (Nat.le_of_ble_eq_true rfl) dX6_melt_2 (fun z2 u2 p2 => ?_)
  obtain ⟨e2, p2⟩ := p2
  subst u2
  rcases e2 with ⟨q2, h2⟩ | ⟨q2, h2⟩ <;> subst h2
  · skip
    show At x v A Q _ 5 [(0, .ref (vq v 0)), (1, vI i1), (2, vI k1)] [.ref (vq v (11 + 10 * i1.toNat))] σ
    refine a_astore_n C 3 [(3, .ref (vq v (11 + 10 * i1.toNat))), (0, .ref (vq v 0)), (1, vI i1), (2, vI k1)] dX6_melt_5 rfl (by decide) rfl ?_
    refine a_aload_n C dX6_melt_6 0 rfl rfl ?_
    refine a_ifnonnull C 16 dX6_melt_7 (by decide) ?_
    refine a_aload_n C dX6_melt_16 0 rfl rfl ?_
    refine a_getf C (hS.co i1 (by omega) (by omega)).f0 (hS.co i1 (by omega) (by omega)).n0 (Cn := RX0) (T := TX0) (N := 5) rfl iX0 1 (by decide) k151 (w := .ref (vq v (11 + 10 * i1.toNat + 2))) rfl dX6_melt_17 ?_
    have c0 := hC i1 (by omega) (by omega)
    obtain ⟨cT, c3, c4, cW, cB, cD, cS⟩ := c0
    have cW1 := cW.1
    have cW2 := cW.2.1
    refine a_cVI C (k0 := 0) (As := []) (rest := []) (c_X4_isThere x.2.1 v σ (11 + 10 * i1.toNat + 2) (hS.co i1 (by omega) (by omega)).o2 ) gX6_melt_X4_isThere rfl (by decide +kernel) (by decide) (hS.co i1 (by omega) (by omega)).o2.f0 rfl (hS.co i1 (by omega) (by omega)).o2.n0 rfl rfl (Nat.le_of_ble_eq_true rfl) dX6_melt_20 (fun z20 u20 r20 p20 => ?_)
    obtain ⟨e20, p20⟩ := p20
    subst u20
    have q20 := zz e20
    refine a_if_ne C 32 r20 dX6_melt_23 (by decide) (fun c23 => ?_) (fun c23 => ?_)
    · skip
      refine a_iload_n C dX6_melt_32 3 rfl rfl ?_
      refine a_i2l C (by omega) dX6_melt_33 ?_
      refine a_lconst C 0 dX6_melt_34 rfl ?_
      refine a_aload_n C dX6_melt_35 0 rfl rfl ?_
      refine a_getf C (hS.co i1 (by omega) (by omega)).f0 (hS.co i1 (by omega) (by omega)).n0 (Cn := RX0) (T := TX0) (N := 5) rfl iX0 1 (by decide) k151 (w := .ref (vq v (11 + 10 * i1.toNat + 2))) rfl dX6_melt_36 ?_
      refine a_geti C (hS.co i1 (by omega) (by omega)).o2.f0 (hS.co i1 (by omega) (by omega)).o2.n0 (Cn := RX4) (T := TX4) (N := 7) rfl iX4 5 (by decide) k183 5 (by decide) rfl dX6_melt_39 (fun z39 e39 r39 => ?_)
      refine a_iconst C dX6_melt_42 ?_
      refine a_isub C dX6_melt_43 ?_
      refine a_i2l C (by omega) dX6_melt_44 ?_
      refine a_cSI C (k0 := 3) (As := [vJ k1, vJ 0, vJ (z39 - 2)]) (rest := []) (c_X6_within x.2.1 v σ k1 0 (z39 - 2) (by omega) (by omega) (by omega)) gX6_melt_X6_within rfl (by decide +kernel) (by decide) rfl rfl (Nat.le_of_ble_eq_true rfl) dX6_melt_45 (fun z45 u45 r45 p45 => ?_)
      obtain ⟨e45, p45⟩ := p45
      subst u45
      have q45 := zz e45
      refine a_if_ne C 58 r45 dX6_melt_48 (by decide) (fun c48 => ?_) (fun c48 => ?_)
      · skip
        refine a_aload_n C dX6_melt_58 0 rfl rfl ?_
        refine a_getf C (hS.co i1 (by omega) (by omega)).f0 (hS.co i1 (by omega) (by omega)).n0 (Cn := RX0) (T := TX0) (N := 5) rfl iX0 1 (by decide) k151 (w := .ref (vq v (11 + 10 * i1.toNat + 2))) rfl dX6_melt_59 ?_
        refine a_iload_n C dX6_melt_62 3 rfl rfl ?_
        refine a_cVV C (k0 := 1) (As := [vI k1]) (rest := []) (c_X4_fuse x.2.1 v σ (11 + 10 * i1.toNat + 2) (hS.co i1 (by omega) (by omega)).o2 k1 (by omega) cW cB.C) gX6_melt_X4_fuse rfl (by decide +kernel) (by decide) (hS.co i1 (by omega) (by omega)).o2.f0 rfl (hS.co i1 (by omega) (by omega)).o2.n0 rfl rfl (Nat.le_of_ble_eq_true rfl) dX6_melt_63 (fun u63 p63 => ?_)
        refine a_aload_n C dX6_melt_66 1 rfl rfl ?_
        refine a_cVI C (k0 := 0) (As := []) (rest := []) (c_X6_yes x.2.1 v u63 hS ) gX6_melt_X6_yes rfl (by decide +kernel) (by decide) hS.f0 rfl hS.n0 rfl rfl (Nat.le_of_ble_eq_true rfl) dX6_melt_67 (fun z67 u67 r67 p67 => ?_)
        obtain ⟨e67, p67⟩ := p67
        subst u67
        refine hret _ _ _ _ dX6_melt_70 (by omega) ?_
        (repeat (first | rw [if_pos (by omega)] | rw [if_neg (by omega)]))
        (first | exact ⟨by omega, rfl⟩ | exact ⟨by omega, _, p63.1, p63.2, rfl⟩)
      · skip
        refine a_aload_n C dX6_melt_51 1 rfl rfl ?_
        refine a_bipush C dX6_melt_52 ?_
        refine a_cVI C (k0 := 1) (As := [vI 6]) (rest := []) (c_X6_no x.2.1 v σ hS 6 (by omega)) gX6_melt_X6_no rfl (by decide +kernel) (by decide) hS.f0 rfl hS.n0 rfl rfl (Nat.le_of_ble_eq_true rfl) dX6_melt_54 (fun z54 u54 r54 p54 => ?_)
        obtain ⟨e54, p54⟩ := p54
        subst u54
        refine hret _ _ _ _ dX6_melt_57 (by omega) ?_
        (repeat (first | rw [if_pos (by omega)] | rw [if_neg (by omega)]))
        (first | exact ⟨by omega, rfl⟩ | exact ⟨by omega, _, p63.1, p63.2, rfl⟩)
    · skip
      refine a_aload_n C dX6_melt_26 1 rfl rfl ?_
      refine a_iconst C dX6_melt_27 ?_
      refine a_cVI C (k0 := 1) (As := [vI 5]) (rest := []) (c_X6_no x.2.1 v σ hS 5 (by omega)) gX6_melt_X6_no rfl (by decide +kernel) (by decide) hS.f0 rfl hS.n0 rfl rfl (Nat.le_of_ble_eq_true rfl) dX6_melt_28 (fun z28 u28 r28 p28 => ?_)
      obtain ⟨e28, p28⟩ := p28
      subst u28
      refine hret _ _ _ _ dX6_melt_31 (by omega) ?_
      (repeat (first | rw [if_pos (by omega)] | rw [if_neg (by omega)]))
      (first | exact ⟨by omega, rfl⟩ | exact ⟨by omega, _, p63.1, p63.2, rfl⟩)
  · skip
    show At x v A Q _ 5 [(0, .ref (vq v 0)), (1, vI i1), (2, vI k1)] [.null] σ
    refine a_astore_nN C 3 [(3, .null), (0, .ref (vq v 0)), (1, vI i1), (2, vI k1)] dX6_melt_5 rfl (by decide) rfl ?_
    refine a_aload_nN C dX6_melt_6 0 rfl rfl ?_
    refine a_ifnonnullN C dX6_melt_7 ?_
    refine a_aload_n C dX6_melt_10 1 rfl rfl ?_
    refine a_iconst C dX6_melt_11 ?_
    refine a_cVI C (k0 := 1) (As := [vI 1]) (rest := []) (c_X6_no x.2.1 v σ hS 1 (by omega)) gX6_melt_X6_no rfl (by decide +kernel) (by decide) hS.f0 rfl hS.n0 rfl rfl (Nat.le_of_ble_eq_true rfl) dX6_melt_12 (fun z12 u12 r12 p12 => ?_)
    obtain ⟨e12, p12⟩ := p12
    subst u12
    refine hret _ _ _ _ dX6_melt_15 (by omega) ?_
    (repeat (first | rw [if_pos (by omega)] | rw [if_neg (by omega)]))
    (first | exact ⟨by omega, rfl⟩ | exact ⟨by omega, _, p63.1, p63.2, rfl⟩)
set_option maxHeartbeats 4000000 in
set_option maxRecDepth 100000 in
theorem c_X6_keep (l : Launch) (v : VC) (σ : Mem) (hS : shSS v) (i1 : Int) (h1 : rg i1) (hC : ∀ i : Int, 0 ≤ i → i < 3 → coW σ (11 + 10 * i.toNat)) (hV : ∀ i : Int, 0 ≤ i → i < 3 → svB (skV σ (11 + 10 * i.toNat + 2)) 10000000) : CtI l yX6_keep wsX6_keep 5 115 v [.ref (vq v 0), vI i1] σ (fun z u => (if ¬ (0 ≤ i1 ∧ i1 < 3) then (z = -1 ∧ u = sput σ 0 5 1) else (if ¬ 0 < σ (11 + 10 * i1.toNat + 2) 5 then (z = -1 ∧ u = sput σ 0 5 5) else (z = (if (keepV (σ ((11 + 10 * i1.toNat + 2) + 4)) (skV σ (11 + 10 * i1.toNat + 2))).2 = 0 then 0 else 1) ∧ ∃ τ : Mem, skFr σ τ (11 + 10 * i1.toNat + 2) ∧ skV τ (11 + 10 * i1.toNat + 2) = (keepV (σ ((11 + 10 * i1.toNat + 2) + 4)) (skV σ (11 + 10 * i1.toNat + 2))).1 ∧ u = sput τ 0 5 0)))) := by
  refine mkI (cc := cX6_keep) (n := 3) (by decide +kernel) rfl (Nat.le_of_ble_eq_true rfl) (fun x A Q hx C hret => ?_)
  subst hx
  show At x v A Q _ 0 [(0, .ref (vq v 0)), (1, vI i1)] [] σ
  have iX0 : ∀ w ∈ wsX00, w ∈ wsX6_keep := by decide +kernel
  have k151 : Cond.fieldLink RX6 151 (TX0 1).1 (TX0 1).2.1 (TX0 1).2.2.1 ∈ wsX6_keep := by decide +kernel
  refine a_aload_n C dX6_keep_0 0 rfl rfl ?_
  refine a_iload_n C dX6_keep_1 1 rfl rfl ?_
  refine a_cVQ C (k0 := 1) (As := [vI i1]) (rest := []) (c_X6_columnAt x.2.1 v σ hS i1 (by omega)) gX6_keep_X6_columnAt rfl (by decide +kernel) (by decide) hS.f0 rfl hS.n0 rfl rfl (Nat.le_of_ble_eq_true rfl) dX6_keep_2 (fun z2 u2 p2 => ?_)
  obtain ⟨e2, p2⟩ := p2
  subst u2
  rcases e2 with ⟨q2, h2⟩ | ⟨q2, h2⟩ <;> subst h2
  · skip
    show At x v A Q _ 5 [(0, .ref (vq v 0)), (1, vI i1)] [.ref (vq v (11 + 10 * i1.toNat))] σ
    refine a_astore_n C 2 [(2, .ref (vq v (11 + 10 * i1.toNat))), (0, .ref (vq v 0)), (1, vI i1)] dX6_keep_5 rfl (by decide) rfl ?_
    refine a_aload_n C dX6_keep_6 0 rfl rfl ?_
    refine a_ifnonnull C 16 dX6_keep_7 (by decide) ?_
    refine a_aload_n C dX6_keep_16 0 rfl rfl ?_
    refine a_getf C (hS.co i1 (by omega) (by omega)).f0 (hS.co i1 (by omega) (by omega)).n0 (Cn := RX0) (T := TX0) (N := 5) rfl iX0 1 (by decide) k151 (w := .ref (vq v (11 + 10 * i1.toNat + 2))) rfl dX6_keep_17 ?_
    have c0 := hC i1 (by omega) (by omega)
    obtain ⟨cT, c3, c4, cW, cB, cD, cS⟩ := c0
    refine a_cVI C (k0 := 0) (As := []) (rest := []) (c_X4_isThere x.2.1 v σ (11 + 10 * i1.toNat + 2) (hS.co i1 (by omega) (by omega)).o2 ) gX6_keep_X4_isThere rfl (by decide +kernel) (by decide) (hS.co i1 (by omega) (by omega)).o2.f0 rfl (hS.co i1 (by omega) (by omega)).o2.n0 rfl rfl (Nat.le_of_ble_eq_true rfl) dX6_keep_20 (fun z20 u20 r20 p20 => ?_)
    obtain ⟨e20, p20⟩ := p20
    subst u20
    have q20 := zz e20
    refine a_if_ne C 32 r20 dX6_keep_23 (by decide) (fun c23 => ?_) (fun c23 => ?_)
    · skip
      refine a_aload_n C dX6_keep_32 1 rfl rfl ?_
      refine a_aload_n C dX6_keep_33 0 rfl rfl ?_
      refine a_getf C (hS.co i1 (by omega) (by omega)).f0 (hS.co i1 (by omega) (by omega)).n0 (Cn := RX0) (T := TX0) (N := 5) rfl iX0 1 (by decide) k151 (w := .ref (vq v (11 + 10 * i1.toNat + 2))) rfl dX6_keep_34 ?_
      refine a_cVI C (k0 := 0) (As := []) (rest := [.ref (vq v 0)]) (c_X4_rebalance x.2.1 v σ (11 + 10 * i1.toNat + 2) (hS.co i1 (by omega) (by omega)).o2 cW (by omega) (hV i1 (by omega) (by omega)) cB.2.2) gX6_keep_X4_rebalance rfl (by decide +kernel) (by decide) (hS.co i1 (by omega) (by omega)).o2.f0 rfl (hS.co i1 (by omega) (by omega)).o2.n0 rfl rfl (Nat.le_of_ble_eq_true rfl) dX6_keep_37 (fun z37 u37 r37 p37 => ?_)
      obtain ⟨e37, f37, g37⟩ := p37
      refine a_if_eq C 47 r37 dX6_keep_40 (by decide) (fun c40 => ?_) (fun c40 => ?_)
      · skip
        refine a_iconst C dX6_keep_47 ?_
        refine a_cVI C (k0 := 1) (As := [vI 0]) (rest := []) (c_X6_told x.2.1 v u37 hS 0 (by omega)) gX6_keep_X6_told rfl (by decide +kernel) (by decide) hS.f0 rfl hS.n0 rfl rfl (Nat.le_of_ble_eq_true rfl) dX6_keep_48 (fun z48 u48 r48 p48 => ?_)
        obtain ⟨e48, p48⟩ := p48
        subst u48
        refine hret _ _ _ _ dX6_keep_51 r48 ?_
        (repeat (first | rw [if_pos (by omega)] | rw [if_neg (by omega)]))
        (first | exact ⟨by omega, rfl⟩ | exact ⟨by omega, _, f37, g37, rfl⟩)
      · skip
        refine a_iconst C dX6_keep_43 ?_
        refine a_goto C 48 dX6_keep_44 (by decide) ?_
        refine a_cVI C (k0 := 1) (As := [vI 1]) (rest := []) (c_X6_told x.2.1 v u37 hS 1 (by omega)) gX6_keep_X6_told rfl (by decide +kernel) (by decide) hS.f0 rfl hS.n0 rfl rfl (Nat.le_of_ble_eq_true rfl) dX6_keep_48 (fun z48 u48 r48 p48 => ?_)
        obtain ⟨e48, p48⟩ := p48
        subst u48
        refine hret _ _ _ _ dX6_keep_51 r48 ?_
        (repeat (first | rw [if_pos (by omega)] | rw [if_neg (by omega)]))
        (first | exact ⟨by omega, rfl⟩ | exact ⟨by omega, _, f37, g37, rfl⟩)
    · skip
      refine a_aload_n C dX6_keep_26 1 rfl rfl ?_
      refine a_iconst C dX6_keep_27 ?_
      refine a_cVI C (k0 := 1) (As := [vI 5]) (rest := []) (c_X6_none x.2.1 v σ hS 5 (by omega)) gX6_keep_X6_none rfl (by decide +kernel) (by decide) hS.f0 rfl hS.n0 rfl rfl (Nat.le_of_ble_eq_true rfl) dX6_keep_28 (fun z28 u28 r28 p28 => ?_)
      obtain ⟨e28, p28⟩ := p28
      subst u28
      refine hret _ _ _ _ dX6_keep_31 r28 ?_
      (repeat (first | rw [if_pos (by omega)] | rw [if_neg (by omega)]))
      (first | exact ⟨by omega, rfl⟩ | exact ⟨by omega, _, f37, g37, rfl⟩)
  · skip
    show At x v A Q _ 5 [(0, .ref (vq v 0)), (1, vI i1)] [.null] σ
    refine a_astore_nN C 2 [(2, .null), (0, .ref (vq v 0)), (1, vI i1)] dX6_keep_5 rfl (by decide) rfl ?_
    refine a_aload_nN C dX6_keep_6 0 rfl rfl ?_
    refine a_ifnonnullN C dX6_keep_7 ?_
    refine a_aload_n C dX6_keep_10 1 rfl rfl ?_
    refine a_iconst C dX6_keep_11 ?_
    refine a_cVI C (k0 := 1) (As := [vI 1]) (rest := []) (c_X6_none x.2.1 v σ hS 1 (by omega)) gX6_keep_X6_none rfl (by decide +kernel) (by decide) hS.f0 rfl hS.n0 rfl rfl (Nat.le_of_ble_eq_true rfl) dX6_keep_12 (fun z12 u12 r12 p12 => ?_)
    obtain ⟨e12, p12⟩ := p12
    subst u12
    refine hret _ _ _ _ dX6_keep_15 r12 ?_
    (repeat (first | rw [if_pos (by omega)] | rw [if_neg (by omega)]))
    (first | exact ⟨by omega, rfl⟩ | exact ⟨by omega, _, f37, g37, rfl⟩)
set_option maxHeartbeats 4000000 in
set_option maxRecDepth 100000 in
theorem c_X6_bound (l : Launch) (v : VC) (σ : Mem) (hS : shSS v) (i1 a1 a2 w1 : Int) (h1 : rg i1) (h2 : rg a1) (h3 : rg a2) (h4 : rg w1) (hC : ∀ i : Int, 0 ≤ i → i < 3 → coW σ (11 + 10 * i.toNat)) : CtI l yX6_bound wsX6_bound 4 95 v [.ref (vq v 0), vI i1, vI a1, vI a2, vI w1] σ (fun z u => (if ¬ ((0 ≤ i1 ∧ i1 < 3) ∧ (0 ≤ a1 ∧ a1 ≤ a2 ∧ a2 ≤ 39)) then (z = -1 ∧ u = sput σ 0 5 1) else (if ¬ 0 < σ (11 + 10 * i1.toNat + 2) 5 then (z = -1 ∧ u = sput σ 0 5 5) else (if w1 = 0 then (z = loV σ (11 + 10 * i1.toNat + 2) a1 a2 ∧ u = sput σ 0 5 0) else (z = hiV σ (11 + 10 * i1.toNat + 2) a1 a2 ∧ u = sput σ 0 5 0))))) := by
  refine mkI (cc := cX6_bound) (n := 6) (by decide +kernel) rfl (Nat.le_of_ble_eq_true rfl) (fun x A Q hx C hret => ?_)
  subst hx
  show At x v A Q _ 0 [(0, .ref (vq v 0)), (1, vI i1), (2, vI a1), (3, vI a2), (4, vI w1)] [] σ
  have iX0 : ∀ w ∈ wsX00, w ∈ wsX6_bound := by decide +kernel
  have k151 : Cond.fieldLink RX6 151 (TX0 1).1 (TX0 1).2.1 (TX0 1).2.2.1 ∈ wsX6_bound := by decide +kernel
  refine a_aload_n C dX6_bound_0 0 rfl rfl ?_
  refine a_iload_n C dX6_bound_1 1 rfl rfl ?_
  refine a_cVQ C (k0 := 1) (As := [vI i1]) (rest := []) (c_X6_columnAt x.2.1 v σ hS i1 (by omega)) gX6_bound_X6_columnAt rfl (by decide +kernel) (by decide) hS.f0 rfl hS.n0 rfl rfl (Nat.le_of_ble_eq_true rfl) dX6_bound_2 (fun z2 u2 p2 => ?_)
  obtain ⟨e2, p2⟩ := p2
  subst u2
  rcases e2 with ⟨q2, h2⟩ | ⟨q2, h2⟩ <;> subst h2
  · skip
    show At x v A Q _ 5 [(0, .ref (vq v 0)), (1, vI i1), (2, vI a1), (3, vI a2), (4, vI w1)] [.ref (vq v (11 + 10 * i1.toNat))] σ
    refine a_astore C [(5, .ref (vq v (11 + 10 * i1.toNat))), (0, .ref (vq v 0)), (1, vI i1), (2, vI a1), (3, vI a2), (4, vI w1)] dX6_bound_5 (by decide) rfl ?_
    refine a_aload C dX6_bound_7 0 rfl ?_
    refine a_ifnull C dX6_bound_9 ?_
    refine a_iload_n C dX6_bound_12 3 rfl rfl ?_
    refine a_iload_n C dX6_bound_13 4 rfl rfl ?_
    refine a_cSI C (k0 := 2) (As := [vI a1, vI a2]) (rest := []) (c_X6_isQuestion x.2.1 v σ a1 a2 (by omega) (by omega)) gX6_bound_X6_isQuestion rfl (by decide +kernel) (by decide) rfl rfl (Nat.le_of_ble_eq_true rfl) dX6_bound_14 (fun z14 u14 r14 p14 => ?_)
    obtain ⟨e14, p14⟩ := p14
    subst u14
    have q14 := zz e14
    refine a_if_ne C 26 r14 dX6_bound_17 (by decide) (fun c17 => ?_) (fun c17 => ?_)
    · skip
      refine a_aload C dX6_bound_26 0 rfl ?_
      refine a_getf C (hS.co i1 (by omega) (by omega)).f0 (hS.co i1 (by omega) (by omega)).n0 (Cn := RX0) (T := TX0) (N := 5) rfl iX0 1 (by decide) k151 (w := .ref (vq v (11 + 10 * i1.toNat + 2))) rfl dX6_bound_28 ?_
      have c0 := hC i1 (by omega) (by omega)
      obtain ⟨cT, c3, c4, cW, cB, cD, cS⟩ := c0
      refine a_cVI C (k0 := 0) (As := []) (rest := []) (c_X4_isThere x.2.1 v σ (11 + 10 * i1.toNat + 2) (hS.co i1 (by omega) (by omega)).o2 ) gX6_bound_X4_isThere rfl (by decide +kernel) (by decide) (hS.co i1 (by omega) (by omega)).o2.f0 rfl (hS.co i1 (by omega) (by omega)).o2.n0 rfl rfl (Nat.le_of_ble_eq_true rfl) dX6_bound_31 (fun z31 u31 r31 p31 => ?_)
      obtain ⟨e31, p31⟩ := p31
      subst u31
      have q31 := zz e31
      refine a_if_ne C 43 r31 dX6_bound_34 (by decide) (fun c34 => ?_) (fun c34 => ?_)
      · skip
        refine a_aload_n C dX6_bound_43 1 rfl rfl ?_
        refine a_iload C dX6_bound_44 5 rfl ?_
        refine a_if_eq C 62 (by omega) dX6_bound_46 (by decide) (fun c46 => ?_) (fun c46 => ?_)
        · skip
          refine a_aload C dX6_bound_62 0 rfl ?_
          refine a_getf C (hS.co i1 (by omega) (by omega)).f0 (hS.co i1 (by omega) (by omega)).n0 (Cn := RX0) (T := TX0) (N := 5) rfl iX0 1 (by decide) k151 (w := .ref (vq v (11 + 10 * i1.toNat + 2))) rfl dX6_bound_64 ?_
          refine a_iload_n C dX6_bound_67 3 rfl rfl ?_
          refine a_iload_n C dX6_bound_68 4 rfl rfl ?_
          refine a_cVI C (k0 := 2) (As := [vI a1, vI a2]) (rest := [.ref (vq v 0)]) (c_X4_lowOf x.2.1 v σ (11 + 10 * i1.toNat + 2) (hS.co i1 (by omega) (by omega)).o2 a1 a2 (by omega) (by omega) cW cB) gX6_bound_X4_lowOf rfl (by decide +kernel) (by decide) (hS.co i1 (by omega) (by omega)).o2.f0 rfl (hS.co i1 (by omega) (by omega)).o2.n0 rfl rfl (Nat.le_of_ble_eq_true rfl) dX6_bound_69 (fun z69 u69 r69 p69 => ?_)
          obtain ⟨e69, p69⟩ := p69
          subst u69
          refine a_cVI C (k0 := 1) (As := [vI z69]) (rest := []) (c_X6_told x.2.1 v σ hS z69 (by omega)) gX6_bound_X6_told rfl (by decide +kernel) (by decide) hS.f0 rfl hS.n0 rfl rfl (Nat.le_of_ble_eq_true rfl) dX6_bound_72 (fun z72 u72 r72 p72 => ?_)
          obtain ⟨e72, p72⟩ := p72
          subst u72
          refine hret _ _ _ _ dX6_bound_75 r72 ?_
          (repeat (first | rw [if_pos (by omega)] | rw [if_neg (by omega)]))
          (first | exact ⟨by omega, rfl⟩ | exact ⟨e56, rfl⟩ | exact ⟨e69, rfl⟩ | exact ⟨by rw [‹z72 = z56›]; exact e56, rfl⟩ | exact ⟨by rw [‹z72 = z69›]; exact e69, rfl⟩)
        · skip
          refine a_aload C dX6_bound_49 0 rfl ?_
          refine a_getf C (hS.co i1 (by omega) (by omega)).f0 (hS.co i1 (by omega) (by omega)).n0 (Cn := RX0) (T := TX0) (N := 5) rfl iX0 1 (by decide) k151 (w := .ref (vq v (11 + 10 * i1.toNat + 2))) rfl dX6_bound_51 ?_
          refine a_iload_n C dX6_bound_54 3 rfl rfl ?_
          refine a_iload_n C dX6_bound_55 4 rfl rfl ?_
          refine a_cVI C (k0 := 2) (As := [vI a1, vI a2]) (rest := [.ref (vq v 0)]) (c_X4_highOf x.2.1 v σ (11 + 10 * i1.toNat + 2) (hS.co i1 (by omega) (by omega)).o2 a1 a2 (by omega) (by omega) cW cB) gX6_bound_X4_highOf rfl (by decide +kernel) (by decide) (hS.co i1 (by omega) (by omega)).o2.f0 rfl (hS.co i1 (by omega) (by omega)).o2.n0 rfl rfl (Nat.le_of_ble_eq_true rfl) dX6_bound_56 (fun z56 u56 r56 p56 => ?_)
          obtain ⟨e56, p56⟩ := p56
          subst u56
          refine a_goto C 72 dX6_bound_59 (by decide) ?_
          refine a_cVI C (k0 := 1) (As := [vI z56]) (rest := []) (c_X6_told x.2.1 v σ hS z56 (by omega)) gX6_bound_X6_told rfl (by decide +kernel) (by decide) hS.f0 rfl hS.n0 rfl rfl (Nat.le_of_ble_eq_true rfl) dX6_bound_72 (fun z72 u72 r72 p72 => ?_)
          obtain ⟨e72, p72⟩ := p72
          subst u72
          refine hret _ _ _ _ dX6_bound_75 r72 ?_
          (repeat (first | rw [if_pos (by omega)] | rw [if_neg (by omega)]))
          (first | exact ⟨by omega, rfl⟩ | exact ⟨e56, rfl⟩ | exact ⟨e69, rfl⟩ | exact ⟨by rw [‹z72 = z56›]; exact e56, rfl⟩ | exact ⟨by rw [‹z72 = z69›]; exact e69, rfl⟩)
      · skip
        refine a_aload_n C dX6_bound_37 1 rfl rfl ?_
        refine a_iconst C dX6_bound_38 ?_
        refine a_cVI C (k0 := 1) (As := [vI 5]) (rest := []) (c_X6_none x.2.1 v σ hS 5 (by omega)) gX6_bound_X6_none rfl (by decide +kernel) (by decide) hS.f0 rfl hS.n0 rfl rfl (Nat.le_of_ble_eq_true rfl) dX6_bound_39 (fun z39 u39 r39 p39 => ?_)
        obtain ⟨e39, p39⟩ := p39
        subst u39
        refine hret _ _ _ _ dX6_bound_42 r39 ?_
        (repeat (first | rw [if_pos (by omega)] | rw [if_neg (by omega)]))
        (first | exact ⟨by omega, rfl⟩ | exact ⟨e56, rfl⟩ | exact ⟨e69, rfl⟩ | exact ⟨by rw [‹z72 = z56›]; exact e56, rfl⟩ | exact ⟨by rw [‹z72 = z69›]; exact e69, rfl⟩)
    · skip
      refine a_aload_n C dX6_bound_20 1 rfl rfl ?_
      refine a_iconst C dX6_bound_21 ?_
      refine a_cVI C (k0 := 1) (As := [vI 1]) (rest := []) (c_X6_none x.2.1 v σ hS 1 (by omega)) gX6_bound_X6_none rfl (by decide +kernel) (by decide) hS.f0 rfl hS.n0 rfl rfl (Nat.le_of_ble_eq_true rfl) dX6_bound_22 (fun z22 u22 r22 p22 => ?_)
      obtain ⟨e22, p22⟩ := p22
      subst u22
      refine hret _ _ _ _ dX6_bound_25 r22 ?_
      (repeat (first | rw [if_pos (by omega)] | rw [if_neg (by omega)]))
      (first | exact ⟨by omega, rfl⟩ | exact ⟨e56, rfl⟩ | exact ⟨e69, rfl⟩ | exact ⟨by rw [‹z72 = z56›]; exact e56, rfl⟩ | exact ⟨by rw [‹z72 = z69›]; exact e69, rfl⟩)
  · skip
    show At x v A Q _ 5 [(0, .ref (vq v 0)), (1, vI i1), (2, vI a1), (3, vI a2), (4, vI w1)] [.null] σ
    refine a_astoreN C [(5, .null), (0, .ref (vq v 0)), (1, vI i1), (2, vI a1), (3, vI a2), (4, vI w1)] dX6_bound_5 (by decide) rfl ?_
    refine a_aloadN C dX6_bound_7 0 rfl ?_
    refine a_ifnullN C 20 dX6_bound_9 (by decide) ?_
    refine a_aload_n C dX6_bound_20 1 rfl rfl ?_
    refine a_iconst C dX6_bound_21 ?_
    refine a_cVI C (k0 := 1) (As := [vI 1]) (rest := []) (c_X6_none x.2.1 v σ hS 1 (by omega)) gX6_bound_X6_none rfl (by decide +kernel) (by decide) hS.f0 rfl hS.n0 rfl rfl (Nat.le_of_ble_eq_true rfl) dX6_bound_22 (fun z22 u22 r22 p22 => ?_)
    obtain ⟨e22, p22⟩ := p22
    subst u22
    refine hret _ _ _ _ dX6_bound_25 r22 ?_
    (repeat (first | rw [if_pos (by omega)] | rw [if_neg (by omega)]))
    (first | exact ⟨by omega, rfl⟩ | exact ⟨e56, rfl⟩ | exact ⟨e69, rfl⟩ | exact ⟨by rw [‹z72 = z56›]; exact e56, rfl⟩ | exact ⟨by rw [‹z72 = z69›]; exact e69, rfl⟩)
set_option maxHeartbeats 4000000 in
set_option maxRecDepth 100000 in
theorem c_X6_sample (l : Launch) (v : VC) (σ : Mem) (hS : shSS v) (i1 k1 s1 : Int) (h1 : rg i1) (h2 : rg k1) (h3 : rg s1) : CtI l yX6_sample wsX6_sample 2 46 v [.ref (vq v 0), vI i1, vI k1, vI s1] σ (fun z u => (if ¬ ((0 ≤ i1 ∧ i1 < 3) ∧ (1 ≤ k1 ∧ k1 ≤ 16) ∧ 0 ≤ s1) then (z = 0 ∧ u = sput σ 0 5 1) else (z = 1 ∧ u = sput (sput (sput (sput σ (11 + 10 * i1.toNat + 8) 1 k1) (11 + 10 * i1.toNat + 8) 2 s1) (11 + 10 * i1.toNat + 8) 3 0) 0 5 0))) := by
  refine mkZ (cc := cX6_sample) (n := 5) (by decide +kernel) rfl (Nat.le_of_ble_eq_true rfl) (fun x A Q hx C hret => ?_)
  subst hx
  show At x v A Q _ 0 [(0, .ref (vq v 0)), (1, vI i1), (2, vI k1), (3, vI s1)] [] σ
  have iX0 : ∀ w ∈ wsX00, w ∈ wsX6_sample := by decide +kernel
  have k272 : Cond.fieldLink RX6 272 (TX0 2).1 (TX0 2).2.1 (TX0 2).2.2.1 ∈ wsX6_sample := by decide +kernel
  refine a_aload_n C dX6_sample_0 0 rfl rfl ?_
  refine a_iload_n C dX6_sample_1 1 rfl rfl ?_
  refine a_cVQ C (k0 := 1) (As := [vI i1]) (rest := []) (c_X6_columnAt x.2.1 v σ hS i1 (by omega)) gX6_sample_X6_columnAt rfl (by decide +kernel) (by decide) hS.f0 rfl hS.n0 rfl rfl (Nat.le_of_ble_eq_true rfl) dX6_sample_2 (fun z2 u2 p2 => ?_)
  obtain ⟨e2, p2⟩ := p2
  subst u2
  rcases e2 with ⟨q2, h2⟩ | ⟨q2, h2⟩ <;> subst h2
  · skip
    show At x v A Q _ 5 [(0, .ref (vq v 0)), (1, vI i1), (2, vI k1), (3, vI s1)] [.ref (vq v (11 + 10 * i1.toNat))] σ
    refine a_astore C [(4, .ref (vq v (11 + 10 * i1.toNat))), (0, .ref (vq v 0)), (1, vI i1), (2, vI k1), (3, vI s1)] dX6_sample_5 (by decide) rfl ?_
    refine a_aload C dX6_sample_7 0 rfl ?_
    refine a_ifnull C dX6_sample_9 ?_
    refine a_iload_n C dX6_sample_12 3 rfl rfl ?_
    refine a_i2l C (by omega) dX6_sample_13 ?_
    refine a_lconst C 1 dX6_sample_14 rfl ?_
    refine a_ldc2 C 16 (w := 16) (by decide +kernel) rfl dX6_sample_15 ?_
    refine a_cSI C (k0 := 3) (As := [vJ k1, vJ 1, vJ 16]) (rest := []) (c_X6_within x.2.1 v σ k1 1 16 (by omega) (by omega) (by omega)) gX6_sample_X6_within rfl (by decide +kernel) (by decide) rfl rfl (Nat.le_of_ble_eq_true rfl) dX6_sample_18 (fun z18 u18 r18 p18 => ?_)
    obtain ⟨e18, p18⟩ := p18
    subst u18
    have q18 := zz e18
    refine a_if_eq C 28 r18 dX6_sample_21 (by decide) (fun c21 => ?_) (fun c21 => ?_)
    · skip
      refine a_aload_n C dX6_sample_28 1 rfl rfl ?_
      refine a_iconst C dX6_sample_29 ?_
      refine a_cVI C (k0 := 1) (As := [vI 1]) (rest := []) (c_X6_no x.2.1 v σ hS 1 (by omega)) gX6_sample_X6_no rfl (by decide +kernel) (by decide) hS.f0 rfl hS.n0 rfl rfl (Nat.le_of_ble_eq_true rfl) dX6_sample_30 (fun z30 u30 r30 p30 => ?_)
      obtain ⟨e30, p30⟩ := p30
      subst u30
      refine hret _ _ _ _ dX6_sample_33 (by omega) ?_
      (repeat (first | rw [if_pos (by omega)] | rw [if_neg (by omega)]))
      exact ⟨by omega, rfl⟩
    · skip
      refine a_iload_n C dX6_sample_24 4 rfl rfl ?_
      refine a_if_ge C 34 (by omega) dX6_sample_25 (by decide) (fun c25 => ?_) (fun c25 => ?_)
      · skip
        refine a_aload C dX6_sample_34 0 rfl ?_
        refine a_getf C (hS.co i1 (by omega) (by omega)).f0 (hS.co i1 (by omega) (by omega)).n0 (Cn := RX0) (T := TX0) (N := 5) rfl iX0 2 (by decide) k272 (w := .ref (vq v (11 + 10 * i1.toNat + 8))) rfl dX6_sample_36 ?_
        refine a_iload_n C dX6_sample_39 3 rfl rfl ?_
        refine a_iload_n C dX6_sample_40 4 rfl rfl ?_
        refine a_cVV C (k0 := 2) (As := [vI k1, vI s1]) (rest := []) (c_X3_begin x.2.1 v σ (11 + 10 * i1.toNat + 8) (hS.co i1 (by omega) (by omega)).o8 k1 s1 (by omega) (by omega)) gX6_sample_X3_begin rfl (by decide +kernel) (by decide) (hS.co i1 (by omega) (by omega)).o8.f0 rfl (hS.co i1 (by omega) (by omega)).o8.n0 rfl rfl (Nat.le_of_ble_eq_true rfl) dX6_sample_41 (fun u41 p41 => ?_)
        subst u41
        refine a_aload_n C dX6_sample_44 1 rfl rfl ?_
        refine a_cVI C (k0 := 0) (As := []) (rest := []) (c_X6_yes x.2.1 v (sput (sput (sput σ (11 + 10 * i1.toNat + 8) 1 k1) (11 + 10 * i1.toNat + 8) 2 s1) (11 + 10 * i1.toNat + 8) 3 0) hS ) gX6_sample_X6_yes rfl (by decide +kernel) (by decide) hS.f0 rfl hS.n0 rfl rfl (Nat.le_of_ble_eq_true rfl) dX6_sample_45 (fun z45 u45 r45 p45 => ?_)
        obtain ⟨e45, p45⟩ := p45
        subst u45
        refine hret _ _ _ _ dX6_sample_48 (by omega) ?_
        (repeat (first | rw [if_pos (by omega)] | rw [if_neg (by omega)]))
        exact ⟨by omega, rfl⟩
      · skip
        refine a_aload_n C dX6_sample_28 1 rfl rfl ?_
        refine a_iconst C dX6_sample_29 ?_
        refine a_cVI C (k0 := 1) (As := [vI 1]) (rest := []) (c_X6_no x.2.1 v σ hS 1 (by omega)) gX6_sample_X6_no rfl (by decide +kernel) (by decide) hS.f0 rfl hS.n0 rfl rfl (Nat.le_of_ble_eq_true rfl) dX6_sample_30 (fun z30 u30 r30 p30 => ?_)
        obtain ⟨e30, p30⟩ := p30
        subst u30
        refine hret _ _ _ _ dX6_sample_33 (by omega) ?_
        (repeat (first | rw [if_pos (by omega)] | rw [if_neg (by omega)]))
        exact ⟨by omega, rfl⟩
  · skip
    show At x v A Q _ 5 [(0, .ref (vq v 0)), (1, vI i1), (2, vI k1), (3, vI s1)] [.null] σ
    refine a_astoreN C [(4, .null), (0, .ref (vq v 0)), (1, vI i1), (2, vI k1), (3, vI s1)] dX6_sample_5 (by decide) rfl ?_
    refine a_aloadN C dX6_sample_7 0 rfl ?_
    refine a_ifnullN C 28 dX6_sample_9 (by decide) ?_
    refine a_aload_n C dX6_sample_28 1 rfl rfl ?_
    refine a_iconst C dX6_sample_29 ?_
    refine a_cVI C (k0 := 1) (As := [vI 1]) (rest := []) (c_X6_no x.2.1 v σ hS 1 (by omega)) gX6_sample_X6_no rfl (by decide +kernel) (by decide) hS.f0 rfl hS.n0 rfl rfl (Nat.le_of_ble_eq_true rfl) dX6_sample_30 (fun z30 u30 r30 p30 => ?_)
    obtain ⟨e30, p30⟩ := p30
    subst u30
    refine hret _ _ _ _ dX6_sample_33 (by omega) ?_
    (repeat (first | rw [if_pos (by omega)] | rw [if_neg (by omega)]))
    exact ⟨by omega, rfl⟩
set_option maxHeartbeats 4000000 in
set_option maxRecDepth 100000 in
theorem c_X6_drawn (l : Launch) (v : VC) (σ : Mem) (hS : shSS v) (i1 k1 : Int) (h1 : rg i1) (h2 : rg k1) : CtI l yX6_drawn wsX6_drawn 2 46 v [.ref (vq v 0), vI i1, vI k1] σ (fun z u => (if ¬ ((0 ≤ i1 ∧ i1 < 3) ∧ (0 ≤ k1 ∧ k1 ≤ 15)) then (z = -1 ∧ u = sput σ 0 5 1) else (if min (σ (11 + 10 * i1.toNat + 8) 3) (σ (11 + 10 * i1.toNat + 8) 1) ≤ k1 then (z = -1 ∧ u = sput σ 0 5 6) else (z = (if σ ((11 + 10 * i1.toNat + 8) + 1) k1 = -1 then -2 else σ ((11 + 10 * i1.toNat + 8) + 1) k1) ∧ u = sput σ 0 5 0)))) := by
  refine mkI (cc := cX6_drawn) (n := 5) (by decide +kernel) rfl (Nat.le_of_ble_eq_true rfl) (fun x A Q hx C hret => ?_)
  subst hx
  show At x v A Q _ 0 [(0, .ref (vq v 0)), (1, vI i1), (2, vI k1)] [] σ
  have iX0 : ∀ w ∈ wsX00, w ∈ wsX6_drawn := by decide +kernel
  have iX3 : ∀ w ∈ wsX30, w ∈ wsX6_drawn := by decide +kernel
  have k272 : Cond.fieldLink RX6 272 (TX0 2).1 (TX0 2).2.1 (TX0 2).2.2.1 ∈ wsX6_drawn := by decide +kernel
  have k285 : Cond.fieldLink RX6 285 (TX3 0).1 (TX3 0).2.1 (TX3 0).2.2.1 ∈ wsX6_drawn := by decide +kernel
  refine a_aload_n C dX6_drawn_0 0 rfl rfl ?_
  refine a_iload_n C dX6_drawn_1 1 rfl rfl ?_
  refine a_cVQ C (k0 := 1) (As := [vI i1]) (rest := []) (c_X6_columnAt x.2.1 v σ hS i1 (by omega)) gX6_drawn_X6_columnAt rfl (by decide +kernel) (by decide) hS.f0 rfl hS.n0 rfl rfl (Nat.le_of_ble_eq_true rfl) dX6_drawn_2 (fun z2 u2 p2 => ?_)
  obtain ⟨e2, p2⟩ := p2
  subst u2
  rcases e2 with ⟨q2, h2⟩ | ⟨q2, h2⟩ <;> subst h2
  · skip
    show At x v A Q _ 5 [(0, .ref (vq v 0)), (1, vI i1), (2, vI k1)] [.ref (vq v (11 + 10 * i1.toNat))] σ
    refine a_astore_n C 3 [(3, .ref (vq v (11 + 10 * i1.toNat))), (0, .ref (vq v 0)), (1, vI i1), (2, vI k1)] dX6_drawn_5 rfl (by decide) rfl ?_
    refine a_aload_n C dX6_drawn_6 0 rfl rfl ?_
    refine a_ifnull C dX6_drawn_7 ?_
    refine a_iload_n C dX6_drawn_10 3 rfl rfl ?_
    refine a_i2l C (by omega) dX6_drawn_11 ?_
    refine a_lconst C 0 dX6_drawn_12 rfl ?_
    refine a_ldc2 C 15 (w := 15) (by decide +kernel) rfl dX6_drawn_13 ?_
    refine a_cSI C (k0 := 3) (As := [vJ k1, vJ 0, vJ 15]) (rest := []) (c_X6_within x.2.1 v σ k1 0 15 (by omega) (by omega) (by omega)) gX6_drawn_X6_within rfl (by decide +kernel) (by decide) rfl rfl (Nat.le_of_ble_eq_true rfl) dX6_drawn_16 (fun z16 u16 r16 p16 => ?_)
    obtain ⟨e16, p16⟩ := p16
    subst u16
    have q16 := zz e16
    refine a_if_ne C 28 r16 dX6_drawn_19 (by decide) (fun c19 => ?_) (fun c19 => ?_)
    · skip
      refine a_iload_n C dX6_drawn_28 3 rfl rfl ?_
      refine a_aload_n C dX6_drawn_29 0 rfl rfl ?_
      refine a_getf C (hS.co i1 (by omega) (by omega)).f0 (hS.co i1 (by omega) (by omega)).n0 (Cn := RX0) (T := TX0) (N := 5) rfl iX0 2 (by decide) k272 (w := .ref (vq v (11 + 10 * i1.toNat + 8))) rfl dX6_drawn_30 ?_
      refine a_cVI C (k0 := 0) (As := []) (rest := [vI k1]) (c_X3_held x.2.1 v σ (11 + 10 * i1.toNat + 8) (hS.co i1 (by omega) (by omega)).o8 ) gX6_drawn_X3_held rfl (by decide +kernel) (by decide) (hS.co i1 (by omega) (by omega)).o8.f0 rfl (hS.co i1 (by omega) (by omega)).o8.n0 rfl rfl (Nat.le_of_ble_eq_true rfl) dX6_drawn_33 (fun z33 u33 r33 p33 => ?_)
      obtain ⟨e33, p33⟩ := p33
      subst u33
      refine a_icmp_lt C 46 (by omega) r33 dX6_drawn_36 (by decide) (fun c36 => ?_) (fun c36 => ?_)
      · skip
        refine a_aload_n C dX6_drawn_46 0 rfl rfl ?_
        refine a_getf C (hS.co i1 (by omega) (by omega)).f0 (hS.co i1 (by omega) (by omega)).n0 (Cn := RX0) (T := TX0) (N := 5) rfl iX0 2 (by decide) k272 (w := .ref (vq v (11 + 10 * i1.toNat + 8))) rfl dX6_drawn_47 ?_
        refine a_getf C (hS.co i1 (by omega) (by omega)).o8.f0 (hS.co i1 (by omega) (by omega)).o8.n0 (Cn := RX3) (T := TX3) (N := 4) rfl iX3 0 (by decide) k285 (w := .ref (vq v (11 + 10 * i1.toNat + 8 + 1))) rfl dX6_drawn_50 ?_
        refine a_iload_n C dX6_drawn_53 3 rfl rfl ?_
        refine a_iald C (hS.co i1 (by omega) (by omega)).o8.f1 (hS.co i1 (by omega) (by omega)).o8.n1 0 (hS.co i1 (by omega) (by omega)).o8.tI (by omega) (by omega) (by decide) dX6_drawn_54 (fun z54 e54 r54 => ?_)
        refine a_istore C [(4, vI z54), (3, .ref (vq v (11 + 10 * i1.toNat))), (0, .ref (vq v 0)), (1, vI i1), (2, vI k1)] dX6_drawn_55 (by decide) rfl ?_
        refine a_aload_n C dX6_drawn_57 2 rfl rfl ?_
        refine a_iload C dX6_drawn_58 0 rfl ?_
        refine a_iconst C dX6_drawn_60 ?_
        refine a_icmp_ne C 69 r54 (by decide) dX6_drawn_61 (by decide) (fun c61 => ?_) (fun c61 => ?_)
        · skip
          refine a_iload C dX6_drawn_69 0 rfl ?_
          refine a_cVI C (k0 := 1) (As := [vI z54]) (rest := []) (c_X6_told x.2.1 v σ hS z54 (by omega)) gX6_drawn_X6_told rfl (by decide +kernel) (by decide) hS.f0 rfl hS.n0 rfl rfl (Nat.le_of_ble_eq_true rfl) dX6_drawn_71 (fun z71 u71 r71 p71 => ?_)
          obtain ⟨e71, p71⟩ := p71
          subst u71
          refine hret _ _ _ _ dX6_drawn_74 r71 ?_
          (repeat (first | rw [if_pos (by omega)] | rw [if_neg (by omega)]))
          exact ⟨by omega, rfl⟩
        · skip
          refine a_bipush C dX6_drawn_64 ?_
          refine a_goto C 71 dX6_drawn_66 (by decide) ?_
          refine a_cVI C (k0 := 1) (As := [vI (-2)]) (rest := []) (c_X6_told x.2.1 v σ hS (-2) (by omega)) gX6_drawn_X6_told rfl (by decide +kernel) (by decide) hS.f0 rfl hS.n0 rfl rfl (Nat.le_of_ble_eq_true rfl) dX6_drawn_71 (fun z71 u71 r71 p71 => ?_)
          obtain ⟨e71, p71⟩ := p71
          subst u71
          refine hret _ _ _ _ dX6_drawn_74 r71 ?_
          (repeat (first | rw [if_pos (by omega)] | rw [if_neg (by omega)]))
          exact ⟨by omega, rfl⟩
      · skip
        refine a_aload_n C dX6_drawn_39 1 rfl rfl ?_
        refine a_bipush C dX6_drawn_40 ?_
        refine a_cVI C (k0 := 1) (As := [vI 6]) (rest := []) (c_X6_none x.2.1 v σ hS 6 (by omega)) gX6_drawn_X6_none rfl (by decide +kernel) (by decide) hS.f0 rfl hS.n0 rfl rfl (Nat.le_of_ble_eq_true rfl) dX6_drawn_42 (fun z42 u42 r42 p42 => ?_)
        obtain ⟨e42, p42⟩ := p42
        subst u42
        refine hret _ _ _ _ dX6_drawn_45 r42 ?_
        (repeat (first | rw [if_pos (by omega)] | rw [if_neg (by omega)]))
        exact ⟨by omega, rfl⟩
    · skip
      refine a_aload_n C dX6_drawn_22 1 rfl rfl ?_
      refine a_iconst C dX6_drawn_23 ?_
      refine a_cVI C (k0 := 1) (As := [vI 1]) (rest := []) (c_X6_none x.2.1 v σ hS 1 (by omega)) gX6_drawn_X6_none rfl (by decide +kernel) (by decide) hS.f0 rfl hS.n0 rfl rfl (Nat.le_of_ble_eq_true rfl) dX6_drawn_24 (fun z24 u24 r24 p24 => ?_)
      obtain ⟨e24, p24⟩ := p24
      subst u24
      refine hret _ _ _ _ dX6_drawn_27 r24 ?_
      (repeat (first | rw [if_pos (by omega)] | rw [if_neg (by omega)]))
      exact ⟨by omega, rfl⟩
  · skip
    show At x v A Q _ 5 [(0, .ref (vq v 0)), (1, vI i1), (2, vI k1)] [.null] σ
    refine a_astore_nN C 3 [(3, .null), (0, .ref (vq v 0)), (1, vI i1), (2, vI k1)] dX6_drawn_5 rfl (by decide) rfl ?_
    refine a_aload_nN C dX6_drawn_6 0 rfl rfl ?_
    refine a_ifnullN C 22 dX6_drawn_7 (by decide) ?_
    refine a_aload_n C dX6_drawn_22 1 rfl rfl ?_
    refine a_iconst C dX6_drawn_23 ?_
    refine a_cVI C (k0 := 1) (As := [vI 1]) (rest := []) (c_X6_none x.2.1 v σ hS 1 (by omega)) gX6_drawn_X6_none rfl (by decide +kernel) (by decide) hS.f0 rfl hS.n0 rfl rfl (Nat.le_of_ble_eq_true rfl) dX6_drawn_24 (fun z24 u24 r24 p24 => ?_)
    obtain ⟨e24, p24⟩ := p24
    subst u24
    refine hret _ _ _ _ dX6_drawn_27 r24 ?_
    (repeat (first | rw [if_pos (by omega)] | rw [if_neg (by omega)]))
    exact ⟨by omega, rfl⟩
