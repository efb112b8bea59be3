theorem plB_S (lv : Int → Int) (L : Int) (many : Nat) (i : Nat) : 0 ≤ plB lv L many (i + 1) - 1 ∧ plB lv L many (i + 1) - 1 ≤ 39 := by
  have h := plB_W lv L many i
  unfold plB
  split
  · next q => have := feI_W (lv := lv) (L := L) (n := many - i - 1) q; omega
  · omega
set_option maxHeartbeats 4000000 in
set_option maxRecDepth 100000 in
theorem c_X6_make (l : Launch) (v : VC) (σ : Mem) (hS : shSS v) (i1 b1 n1 d1 : Int) (h1 : rg i1) (h2 : rg b1) (h3 : rg n1) (h4 : rg d1) (hC : ∀ i : Int, 0 ≤ i → i < 3 → coW σ (11 + 10 * i.toNat)) : CtI l yX6_make wsX6_make 5 117 v [.ref (vq v 0), vI i1, vI b1, vI n1, vI d1] σ (fun z u => (if ¬ ((0 ≤ i1 ∧ i1 < 3) ∧ (1 ≤ b1 ∧ b1 ≤ 12) ∧ (1 ≤ d1 ∧ d1 ≤ 1000) ∧ (0 ≤ n1 ∧ n1 ≤ d1)) then (z = -1 ∧ u = sput σ 0 5 1) else (∃ lv e : Int → Int, (∀ j : Int, 0 ≤ j → j < 40 → lv j = (if (chV (σ ((11 + 10 * i1.toNat) + 1)) (σ (11 + 10 * i1.toNat) 3) n1 d1 8 (fun _ => 0, fun _ => 0)).1 j = 0 then σ ((11 + 10 * i1.toNat) + 1) j else -1)) ∧ ((0 ≤ z ∧ z ≤ 10000) ∧ (z = 10000 ∨ fwI lv z ≤ b1) ∧ (z = 0 ∨ b1 < fwI lv (z - 1))) ∧ (∀ i : Nat, (i : Int) < b1 → e i = plB lv z (b1).toNat (i + 1) - 1) ∧ (∀ j : Int, 0 ≤ j → j < 40 → u ((11 + 10 * i1.toNat + 2) + 4) j = (chV (σ ((11 + 10 * i1.toNat) + 1)) (σ (11 + 10 * i1.toNat) 3) n1 d1 8 (fun _ => 0, fun _ => 0)).1 j ∧ u ((11 + 10 * i1.toNat + 2) + 5) j = (chV (σ ((11 + 10 * i1.toNat) + 1)) (σ (11 + 10 * i1.toNat) 3) n1 d1 8 (fun _ => 0, fun _ => 0)).2 j) ∧ u (11 + 10 * i1.toNat + 2) 5 = b1 ∧ u (11 + 10 * i1.toNat + 2) 6 = 0 ∧ (∀ j : Int, 0 ≤ j → j < b1 → u ((11 + 10 * i1.toNat + 2) + 1) j = e j ∧ u ((11 + 10 * i1.toNat + 2) + 2) j = smR (fun w => if u ((11 + 10 * i1.toNat + 2) + 4) w = 0 then σ ((11 + 10 * i1.toNat) + 1) w else 0) (foF e j) (e j + 1) ∧ u ((11 + 10 * i1.toNat + 2) + 3) j = 0) ∧ u 0 = sput σ 0 5 0 0 ∧ (∀ a : Nat, a ≠ 0 → a ≠ (11 + 10 * i1.toNat + 2) → a ≠ (11 + 10 * i1.toNat + 2) + 1 → a ≠ (11 + 10 * i1.toNat + 2) + 2 → a ≠ (11 + 10 * i1.toNat + 2) + 3 → a ≠ (11 + 10 * i1.toNat + 2) + 4 → a ≠ (11 + 10 * i1.toNat + 2) + 5 → a ≠ 41 → a ≠ 42 → a ≠ 43 → a ≠ 44 → u a = σ a)))) := by
  refine mkI (cc := cX6_make) (n := 7) (by decide +kernel) rfl (Nat.le_of_ble_eq_true rfl) (fun x A Q hx C hret => ?_)
  subst hx
  show At x v A Q _ 0 [(0, .ref (vq v 0)), (1, vI i1), (2, vI b1), (3, vI n1), (4, vI d1)] [] σ
  have iX0 : ∀ w ∈ wsX00, w ∈ wsX6_make := by decide +kernel
  have iX6 : ∀ w ∈ wsX60, w ∈ wsX6_make := by decide +kernel
  have iX4 : ∀ w ∈ wsX40, w ∈ wsX6_make := by decide +kernel
  have iX2 : ∀ w ∈ wsX20, w ∈ wsX6_make := by decide +kernel
  have k151 : Cond.fieldLink RX6 151 (TX0 1).1 (TX0 1).2.1 (TX0 1).2.2.1 ∈ wsX6_make := by decide +kernel
  have k154 : Cond.fieldLink RX6 154 (TX0 0).1 (TX0 0).2.1 (TX0 0).2.2.1 ∈ wsX6_make := by decide +kernel
  have k139 : Cond.fieldLink RX6 139 (TX0 3).1 (TX0 3).2.1 (TX0 3).2.2.1 ∈ wsX6_make := by decide +kernel
  have k24 : Cond.fieldLink RX6 24 (TX6 2).1 (TX6 2).2.1 (TX6 2).2.2.1 ∈ wsX6_make := by decide +kernel
  have k162 : Cond.fieldLink RX6 162 (TX4 3).1 (TX4 3).2.1 (TX4 3).2.2.1 ∈ wsX6_make := by decide +kernel
  have k173 : Cond.fieldLink RX6 173 (TX2 0).1 (TX2 0).2.1 (TX2 0).2.2.1 ∈ wsX6_make := by decide +kernel
  refine a_aload_n C dX6_make_0 0 rfl rfl ?_
  refine a_iload_n C dX6_make_1 1 rfl rfl ?_
  refine a_cVQ C (k0 := 1) (As := [vI i1]) (rest := []) (c_X6_columnAt x.2.1 v σ hS i1 (by omega)) gX6_make_X6_columnAt rfl (by decide +kernel) (by decide) hS.f0 rfl hS.n0 rfl rfl (Nat.le_of_ble_eq_true rfl) dX6_make_2 (fun z2 u2 p2 => ?_)
  obtain ⟨e2, p2⟩ := p2
  subst u2
  rcases e2 with ⟨q2, h2⟩ | ⟨q2, h2⟩ <;> subst h2
  · skip
    show At x v A Q _ 5 [(0, .ref (vq v 0)), (1, vI i1), (2, vI b1), (3, vI n1), (4, vI d1)] [.ref (vq v (11 + 10 * i1.toNat))] σ
    refine a_astore C [(5, .ref (vq v (11 + 10 * i1.toNat))), (0, .ref (vq v 0)), (1, vI i1), (2, vI b1), (3, vI n1), (4, vI d1)] dX6_make_5 (by decide) rfl ?_
    refine a_aload C dX6_make_7 0 rfl ?_
    refine a_ifnull C dX6_make_9 ?_
    refine a_iload_n C dX6_make_12 3 rfl rfl ?_
    refine a_i2l C (by omega) dX6_make_13 ?_
    refine a_lconst C 1 dX6_make_14 rfl ?_
    refine a_ldc2 C 12 (w := 12) (by decide +kernel) rfl dX6_make_15 ?_
    refine a_cSI C (k0 := 3) (As := [vJ b1, vJ 1, vJ 12]) (rest := []) (c_X6_within x.2.1 v σ b1 1 12 (by omega) (by omega) (by omega)) gX6_make_X6_within rfl (by decide +kernel) (by decide) rfl rfl (Nat.le_of_ble_eq_true rfl) dX6_make_18 (fun z18 u18 r18 p18 => ?_)
    obtain ⟨e18, p18⟩ := p18
    subst u18
    have q18 := zz e18
    refine a_if_eq C 49 r18 dX6_make_21 (by decide) (fun c21 => ?_) (fun c21 => ?_)
    · skip
      refine a_aload_n C dX6_make_49 1 rfl rfl ?_
      refine a_iconst C dX6_make_50 ?_
      refine a_cVI C (k0 := 1) (As := [vI 1]) (rest := []) (c_X6_none x.2.1 v σ hS 1 (by omega)) gX6_make_X6_none rfl (by decide +kernel) (by decide) hS.f0 rfl hS.n0 rfl rfl (Nat.le_of_ble_eq_true rfl) dX6_make_51 (fun z51 u51 r51 p51 => ?_)
      obtain ⟨e51, p51⟩ := p51
      subst u51
      refine hret _ _ _ _ dX6_make_54 (by omega) ?_
      (repeat (first | rw [if_pos (by omega)] | rw [if_neg (by omega)]))
      exact ⟨by omega, rfl⟩
    · skip
      refine a_iload C dX6_make_24 5 rfl ?_
      refine a_i2l C (by omega) dX6_make_26 ?_
      refine a_lconst C 1 dX6_make_27 rfl ?_
      refine a_ldc2 C 1000 (w := 1000) (by decide +kernel) rfl dX6_make_28 ?_
      refine a_cSI C (k0 := 3) (As := [vJ d1, vJ 1, vJ 1000]) (rest := []) (c_X6_within x.2.1 v σ d1 1 1000 (by omega) (by omega) (by omega)) gX6_make_X6_within rfl (by decide +kernel) (by decide) rfl rfl (Nat.le_of_ble_eq_true rfl) dX6_make_31 (fun z31 u31 r31 p31 => ?_)
      obtain ⟨e31, p31⟩ := p31
      subst u31
      have q31 := zz e31
      refine a_if_eq C 49 r31 dX6_make_34 (by decide) (fun c34 => ?_) (fun c34 => ?_)
      · skip
        refine a_aload_n C dX6_make_49 1 rfl rfl ?_
        refine a_iconst C dX6_make_50 ?_
        refine a_cVI C (k0 := 1) (As := [vI 1]) (rest := []) (c_X6_none x.2.1 v σ hS 1 (by omega)) gX6_make_X6_none rfl (by decide +kernel) (by decide) hS.f0 rfl hS.n0 rfl rfl (Nat.le_of_ble_eq_true rfl) dX6_make_51 (fun z51 u51 r51 p51 => ?_)
        obtain ⟨e51, p51⟩ := p51
        subst u51
        refine hret _ _ _ _ dX6_make_54 (by omega) ?_
        (repeat (first | rw [if_pos (by omega)] | rw [if_neg (by omega)]))
        exact ⟨by omega, rfl⟩
      · skip
        refine a_iload_n C dX6_make_37 4 rfl rfl ?_
        refine a_i2l C (by omega) dX6_make_38 ?_
        refine a_lconst C 0 dX6_make_39 rfl ?_
        refine a_iload C dX6_make_40 5 rfl ?_
        refine a_i2l C (by omega) dX6_make_42 ?_
        refine a_cSI C (k0 := 3) (As := [vJ n1, vJ 0, vJ d1]) (rest := []) (c_X6_within x.2.1 v σ n1 0 d1 (by omega) (by omega) (by omega)) gX6_make_X6_within rfl (by decide +kernel) (by decide) rfl rfl (Nat.le_of_ble_eq_true rfl) dX6_make_43 (fun z43 u43 r43 p43 => ?_)
        obtain ⟨e43, p43⟩ := p43
        subst u43
        have q43 := zz e43
        refine a_if_ne C 55 r43 dX6_make_46 (by decide) (fun c46 => ?_) (fun c46 => ?_)
        · skip
          have c0 := hC i1 (by omega) (by omega)
          obtain ⟨cT, c3, c4, cW, cB, cD, cS⟩ := c0
          have hb1 : 1 ≤ b1 ∧ b1 ≤ 12 := by omega
          obtain ⟨bn, hbn⟩ : ∃ bn : Nat, b1 = bn := ⟨b1.toNat, by omega⟩
          subst hbn
          refine a_aload C dX6_make_55 0 rfl ?_
          refine a_getf C (hS.co i1 (by omega) (by omega)).f0 (hS.co i1 (by omega) (by omega)).n0 (Cn := RX0) (T := TX0) (N := 5) rfl iX0 1 (by decide) k151 (w := .ref (vq v (11 + 10 * i1.toNat + 2))) rfl dX6_make_57 ?_
          refine a_aload C dX6_make_60 0 rfl ?_
          refine a_getf C (hS.co i1 (by omega) (by omega)).f0 (hS.co i1 (by omega) (by omega)).n0 (Cn := RX0) (T := TX0) (N := 5) rfl iX0 0 (by decide) k154 (w := .ref (vq v (11 + 10 * i1.toNat + 1))) rfl dX6_make_62 ?_
          refine a_aload C dX6_make_65 0 rfl ?_
          refine a_geti C (hS.co i1 (by omega) (by omega)).f0 (hS.co i1 (by omega) (by omega)).n0 (Cn := RX0) (T := TX0) (N := 5) rfl iX0 3 (by decide) k139 3 (by decide) rfl dX6_make_67 (fun z67 e67 r67 => ?_)
          refine a_iload_n C dX6_make_70 4 rfl rfl ?_
          refine a_iload C dX6_make_71 5 rfl ?_
          refine a_cVV C (k0 := 4) (As := [.ref (vq v (11 + 10 * i1.toNat + 1)), vI z67, vI n1, vI d1]) (rest := []) (c_X4_chooseHeavy x.2.1 v σ (11 + 10 * i1.toNat + 2) (hS.co i1 (by omega) (by omega)).o2 (11 + 10 * i1.toNat + 1) (hS.co i1 (by omega) (by omega)).f1 (hS.co i1 (by omega) (by omega)).n1 (by omega) z67 n1 d1 (by omega) (by omega) (by omega) cT) gX6_make_X4_chooseHeavy rfl (by decide +kernel) (by decide) (hS.co i1 (by omega) (by omega)).o2.f0 rfl (hS.co i1 (by omega) (by omega)).o2.n0 rfl rfl (Nat.le_of_ble_eq_true rfl) dX6_make_73 (fun u73 p73 => ?_)
          rw [e67] at p73
          refine a_aload_n C dX6_make_76 1 rfl rfl ?_
          refine a_getf C hS.f0 hS.n0 (Cn := RX6) (T := TX6) (N := 6) rfl iX6 2 (by decide) k24 (w := .ref (vq v 41)) rfl dX6_make_77 ?_
          refine a_aload C dX6_make_80 0 rfl ?_
          refine a_getf C (hS.co i1 (by omega) (by omega)).f0 (hS.co i1 (by omega) (by omega)).n0 (Cn := RX0) (T := TX0) (N := 5) rfl iX0 0 (by decide) k154 (w := .ref (vq v (11 + 10 * i1.toNat + 1))) rfl dX6_make_82 ?_
          refine a_aload C dX6_make_85 0 rfl ?_
          refine a_getf C (hS.co i1 (by omega) (by omega)).f0 (hS.co i1 (by omega) (by omega)).n0 (Cn := RX0) (T := TX0) (N := 5) rfl iX0 1 (by decide) k151 (w := .ref (vq v (11 + 10 * i1.toNat + 2))) rfl dX6_make_87 ?_
          refine a_getf C (hS.co i1 (by omega) (by omega)).o2.f0 (hS.co i1 (by omega) (by omega)).o2.n0 (Cn := RX4) (T := TX4) (N := 7) rfl iX4 3 (by decide) k162 (w := .ref (vq v (11 + 10 * i1.toNat + 2 + 4))) rfl dX6_make_90 ?_
          refine a_cVV C (k0 := 2) (As := [.ref (vq v (11 + 10 * i1.toNat + 1)), .ref (vq v (11 + 10 * i1.toNat + 2 + 4))]) (rest := []) (c_X2_lookAt x.2.1 v u73 41 hS.o41 (11 + 10 * i1.toNat + 1) (hS.co i1 (by omega) (by omega)).f1 (hS.co i1 (by omega) (by omega)).n1 (by omega) (11 + 10 * i1.toNat + 2 + 4) (hS.co i1 (by omega) (by omega)).o2.f4 (hS.co i1 (by omega) (by omega)).o2.n4 (by omega)) gX6_make_X2_lookAt rfl (by decide +kernel) (by decide) hS.o41.f0 rfl hS.o41.n0 rfl rfl (Nat.le_of_ble_eq_true rfl) dX6_make_93 (fun u93 p93 => ?_)
          refine a_aload_n C dX6_make_96 1 rfl rfl ?_
          refine a_getf C hS.f0 hS.n0 (Cn := RX6) (T := TX6) (N := 6) rfl iX6 2 (by decide) k24 (w := .ref (vq v 41)) rfl dX6_make_97 ?_
          refine a_iload_n C dX6_make_100 3 rfl rfl ?_
          refine a_cVI C (k0 := 1) (As := [vI ((bn : Int))]) (rest := []) (c_X2_plan x.2.1 v u93 41 hS.o41 bn (fun j j0 j1 => by rw [p93.1 j j0 j1, p73.2 (11 + 10 * i1.toNat + 1) (by omega) (by omega)]; have := cT j j0 j1; split <;> omega) (by omega)) gX6_make_X2_plan rfl (by decide +kernel) (by decide) hS.o41.f0 rfl hS.o41.n0 rfl rfl (Nat.le_of_ble_eq_true rfl) dX6_make_101 (fun z101 u101 r101 p101 => ?_)
          refine a_istore C [(6, vI z101), (5, .ref (vq v (11 + 10 * i1.toNat))), (0, .ref (vq v 0)), (1, vI i1), (2, vI ((bn : Int))), (3, vI n1), (4, vI d1)] dX6_make_104 (by decide) rfl ?_
          refine a_aload C dX6_make_106 1 rfl ?_
          refine a_getf C (hS.co i1 (by omega) (by omega)).f0 (hS.co i1 (by omega) (by omega)).n0 (Cn := RX0) (T := TX0) (N := 5) rfl iX0 1 (by decide) k151 (w := .ref (vq v (11 + 10 * i1.toNat + 2))) rfl dX6_make_108 ?_
          refine a_aload_n C dX6_make_111 2 rfl rfl ?_
          refine a_getf C hS.f0 hS.n0 (Cn := RX6) (T := TX6) (N := 6) rfl iX6 2 (by decide) k24 (w := .ref (vq v 41)) rfl dX6_make_112 ?_
          refine a_getf C hS.o41.f0 hS.o41.n0 (Cn := RX2) (T := TX2) (N := 5) rfl iX2 0 (by decide) k173 (w := .ref (vq v 42)) rfl dX6_make_115 ?_
          refine a_iload_n C dX6_make_118 4 rfl rfl ?_
          refine a_aload C dX6_make_119 1 rfl ?_
          refine a_getf C (hS.co i1 (by omega) (by omega)).f0 (hS.co i1 (by omega) (by omega)).n0 (Cn := RX0) (T := TX0) (N := 5) rfl iX0 0 (by decide) k154 (w := .ref (vq v (11 + 10 * i1.toNat + 1))) rfl dX6_make_121 ?_
          refine a_cVV C (k0 := 3) (As := [.ref (vq v 42), vI ((bn : Int)), .ref (vq v (11 + 10 * i1.toNat + 1))]) (rest := []) (c_X4_begin x.2.1 v u101 (11 + 10 * i1.toNat + 2) (hS.co i1 (by omega) (by omega)).o2 42 hS.o41.f1 hS.o41.n1 (by omega) ((bn : Int)) (11 + 10 * i1.toNat + 1) (hS.co i1 (by omega) (by omega)).f1 (hS.co i1 (by omega) (by omega)).n1 (by omega) (by omega) (fun j j0 j1 => by have q1 := p101.2.1 j.toNat (by omega); rw [show ((j.toNat : Nat) : Int) = j by omega] at q1; have q2 := plB_S (u93 (41 + 2)) z101 bn j.toNat; rw [← q1] at q2; exact q2) (fun j j0 j1 => by rw [p101.2.2 (11 + 10 * i1.toNat + 1) (by omega) (by omega) (by omega), p93.2 (11 + 10 * i1.toNat + 1) (by omega), p73.2 (11 + 10 * i1.toNat + 1) (by omega) (by omega)]; exact cT j j0 j1)) gX6_make_X4_begin rfl (by decide +kernel) (by decide) (hS.co i1 (by omega) (by omega)).o2.f0 rfl (hS.co i1 (by omega) (by omega)).o2.n0 rfl rfl (Nat.le_of_ble_eq_true rfl) dX6_make_124 (fun u124 p124 => ?_)
          refine a_aload_n C dX6_make_127 2 rfl rfl ?_
          refine a_iload C dX6_make_128 0 rfl ?_
          refine a_cVI C (k0 := 1) (As := [vI z101]) (rest := []) (c_X6_told x.2.1 v u124 hS z101 (by omega)) gX6_make_X6_told rfl (by decide +kernel) (by decide) hS.f0 rfl hS.n0 rfl rfl (Nat.le_of_ble_eq_true rfl) dX6_make_130 (fun z130 u130 r130 p130 => ?_)
          obtain ⟨e130, p130⟩ := p130
          subst u130
          rw [← e130] at p101
          refine hret _ _ _ _ dX6_make_133 (by omega) ?_
          (repeat (first | rw [if_pos (by omega)] | rw [if_neg (by omega)]))
          obtain ⟨k1, k2, k3⟩ := p101
          obtain ⟨b1_, b2_, b3_, b4_⟩ := p124
          have f0 : ∀ a : Nat, a ≠ (11 + 10 * i1.toNat + 2) + 4 → a ≠ (11 + 10 * i1.toNat + 2) + 5 → a ≠ 41 → a ≠ 42 → a ≠ 43 → a ≠ 44 → u101 a = σ a := fun a q4 q5 q41 q42 q43 q44 => by rw [k3 a q41 q42 q44, p93.2 a q43, p73.2 a q4 q5]
          have f4 : ∀ a : Nat, a ≠ 0 → a ≠ (11 + 10 * i1.toNat + 2) → a ≠ (11 + 10 * i1.toNat + 2) + 1 → a ≠ (11 + 10 * i1.toNat + 2) + 2 → a ≠ (11 + 10 * i1.toNat + 2) + 3 → sput u124 0 5 0 a = u101 a := fun a q0 q1 q2 q3 q4 => by rw [sput_r q0, b4_ a q1 q2 q3 q4]
          have f5 : ∀ a : Nat, a ≠ 0 → sput u124 0 5 0 a = u124 a := fun a q0 => by rw [sput_r q0]
          refine ⟨u93 (41 + 2), u101 (41 + 1), fun j j0 j1 => ?_, k1, fun i hi => k2 i (by omega), fun j j0 j1 => ?_, ?_, ?_, fun j j0 j1 => ?_, ?_, fun a q0 q1 q2 q3 q4 q5 q6 q7 q8 q9 q10 => ?_⟩
          · rw [p93.1 j j0 j1, (p73.1 j j0 j1).1, p73.2 ((11 + 10 * i1.toNat) + 1) (by omega) (by omega)]
          · rw [f4 ((11 + 10 * i1.toNat + 2) + 4) (by omega) (by omega) (by omega) (by omega) (by omega), f4 ((11 + 10 * i1.toNat + 2) + 5) (by omega) (by omega) (by omega) (by omega) (by omega), k3 ((11 + 10 * i1.toNat + 2) + 4) (by omega) (by omega) (by omega), k3 ((11 + 10 * i1.toNat + 2) + 5) (by omega) (by omega) (by omega), p93.2 ((11 + 10 * i1.toNat + 2) + 4) (by omega), p93.2 ((11 + 10 * i1.toNat + 2) + 5) (by omega)]; exact p73.1 j j0 j1
          · rw [f5 (11 + 10 * i1.toNat + 2) (by omega)]; exact b1_
          · rw [f5 (11 + 10 * i1.toNat + 2) (by omega)]; exact b2_
          · rw [f5 ((11 + 10 * i1.toNat + 2) + 1) (by omega), f5 ((11 + 10 * i1.toNat + 2) + 2) (by omega), f5 ((11 + 10 * i1.toNat + 2) + 3) (by omega), f4 ((11 + 10 * i1.toNat + 2) + 4) (by omega) (by omega) (by omega) (by omega) (by omega), ← f0 ((11 + 10 * i1.toNat) + 1) (by omega) (by omega) (by omega) (by omega) (by omega) (by omega)]; exact b3_ j j0 j1
          · exact sput_cg (by rw [b4_ 0 (by omega) (by omega) (by omega) (by omega), f0 0 (by omega) (by omega) (by omega) (by omega) (by omega) (by omega)])
          · rw [f4 a q0 q1 q2 q3 q4, f0 a q5 q6 q7 q8 q9 q10]
        · skip
          refine a_aload_n C dX6_make_49 1 rfl rfl ?_
          refine a_iconst C dX6_make_50 ?_
          refine a_cVI C (k0 := 1) (As := [vI 1]) (rest := []) (c_X6_none x.2.1 v σ hS 1 (by omega)) gX6_make_X6_none rfl (by decide +kernel) (by decide) hS.f0 rfl hS.n0 rfl rfl (Nat.le_of_ble_eq_true rfl) dX6_make_51 (fun z51 u51 r51 p51 => ?_)
          obtain ⟨e51, p51⟩ := p51
          subst u51
          refine hret _ _ _ _ dX6_make_54 (by omega) ?_
          (repeat (first | rw [if_pos (by omega)] | rw [if_neg (by omega)]))
          exact ⟨by omega, rfl⟩
  · skip
    show At x v A Q _ 5 [(0, .ref (vq v 0)), (1, vI i1), (2, vI b1), (3, vI n1), (4, vI d1)] [.null] σ
    refine a_astoreN C [(5, .null), (0, .ref (vq v 0)), (1, vI i1), (2, vI b1), (3, vI n1), (4, vI d1)] dX6_make_5 (by decide) rfl ?_
    refine a_aloadN C dX6_make_7 0 rfl ?_
    refine a_ifnullN C 49 dX6_make_9 (by decide) ?_
    refine a_aload_n C dX6_make_49 1 rfl rfl ?_
    refine a_iconst C dX6_make_50 ?_
    refine a_cVI C (k0 := 1) (As := [vI 1]) (rest := []) (c_X6_none x.2.1 v σ hS 1 (by omega)) gX6_make_X6_none rfl (by decide +kernel) (by decide) hS.f0 rfl hS.n0 rfl rfl (Nat.le_of_ble_eq_true rfl) dX6_make_51 (fun z51 u51 r51 p51 => ?_)
    obtain ⟨e51, p51⟩ := p51
    subst u51
    refine hret _ _ _ _ dX6_make_54 (by omega) ?_
    (repeat (first | rw [if_pos (by omega)] | rw [if_neg (by omega)]))
    exact ⟨by omega, rfl⟩
