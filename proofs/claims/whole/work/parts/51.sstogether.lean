/-- what a sketch weighs -/
def wtV (σ : Mem) (b : Nat) : Int := smR (σ (b + 2)) 0 (σ b 5) + smR (σ (b + 3)) 0 (σ b 5) + hvS (σ (b + 4)) (σ (b + 5)) 0 39
theorem wtV_bd {σ : Mem} {b : Nat} (hW : skW σ b) (hB : skB σ b) : -704000000 ≤ wtV σ b ∧ wtV σ b ≤ 704000000 := by
  have hw1 := hW.1
  have hw2 := hW.2.1
  have h1 := smR_bd (f := σ (b + 2)) (a := 0) (b := σ b 5) (fun j q1 q2 => hB.1 j q1 q2) hw1
  have h2 := smR_bd (f := σ (b + 3)) (a := 0) (b := σ b 5) (fun j q1 q2 => hB.2.1 j q1 q2) hw1
  have h3 := hvS_bd (h := σ (b + 4)) (M := 5000000) (by decide) hB.2.2 0 39
  unfold wtV
  omega
theorem skV_cp {σ u : Mem} {b o : Nat} (h5 : u b 5 = σ o 5) (hn : σ o 5 ≤ 24) (h1 : ∀ j : Int, 0 ≤ j → j < 24 → u (b + 1) j = σ (o + 1) j) (h2 : ∀ j : Int, 0 ≤ j → j < 24 → u (b + 2) j = σ (o + 2) j) (h3 : ∀ j : Int, 0 ≤ j → j < 24 → u (b + 3) j = σ (o + 3) j) : skV u b = skV σ o := by
  unfold skV
  rw [h5, mkR_congr (fun j q1 q2 => h1 j q1 (by omega)), mkR_congr (fun j q1 q2 => h2 j q1 (by omega)), mkR_congr (fun j q1 q2 => h3 j q1 (by omega))]
/-- what TOGETHER needs of both sketches -/
def tgOK (σ : Mem) (b o : Nat) : Prop := svE (skV σ b) ∧ svE (skV σ o) ∧ σ b 5 ≤ 12 ∧ σ o 5 ≤ 12 ∧ tkP σ b ∧ tkP σ o ∧ (∀ j : Int, 0 ≤ j → j < 40 → -4000000 ≤ σ (b + 5) j ∧ σ (b + 5) j ≤ 4000000) ∧ (∀ j : Int, 0 ≤ j → j < 40 → -200000 ≤ σ (o + 5) j ∧ σ (o + 5) j ≤ 200000) ∧ hvB σ o
set_option maxHeartbeats 4000000 in
set_option maxRecDepth 100000 in
theorem c_X6_together (l : Launch) (v : VC) (σ : Mem) (hS : shSS v) (i1 i2 : Int) (h1 : rg i1) (h2 : rg i2) (hC : ∀ i : Int, 0 ≤ i → i < 3 → coW σ (11 + 10 * i.toNat)) (hK : (0 ≤ i1 ∧ i1 < 3) → (0 ≤ i2 ∧ i2 < 3) → i1 ≠ i2 → 0 < σ (11 + 10 * i1.toNat + 2) 5 → 0 < σ (11 + 10 * i2.toNat + 2) 5 → wtV σ (11 + 10 * i1.toNat + 2) + wtV σ (11 + 10 * i2.toNat + 2) ≤ 100000 → tgOK σ (11 + 10 * i1.toNat + 2) (11 + 10 * i2.toNat + 2)) : CtI l yX6_together wsX6_together 5 116 v [.ref (vq v 0), vI i1, vI i2] σ (fun z u => (if (¬ ((0 ≤ i1 ∧ i1 < 3) ∧ (0 ≤ i2 ∧ i2 < 3) ∧ i1 ≠ i2)) then (z = -1 ∧ u = sput σ 0 5 1) else (if ¬ (0 < σ (11 + 10 * i1.toNat + 2) 5 ∧ 0 < σ (11 + 10 * i2.toNat + 2) 5) then (z = -1 ∧ u = sput σ 0 5 5) else (if 100000 < wtV σ (11 + 10 * i1.toNat + 2) + wtV σ (11 + 10 * i2.toNat + 2) then (z = -1 ∧ u = sput σ 0 5 4) else (∃ (τ : Mem) (ho hc : Int → Int), z = τ (11 + 10 * i1.toNat + 2) 5 ∧ (∀ j : Int, 0 ≤ j → j < 40 → ho j = σ ((11 + 10 * i2.toNat + 2) + 4) j ∧ hc j = σ ((11 + 10 * i2.toNat + 2) + 5) j) ∧ skV τ (11 + 10 * i1.toNat + 2) = tkV (σ ((11 + 10 * i1.toNat + 2) + 4)) ho hc (skV σ (11 + 10 * i1.toNat + 2)) (skV σ (11 + 10 * i2.toNat + 2)) ∧ τ (11 + 10 * i1.toNat + 2) 6 = 0 ∧ (∀ j : Int, 0 ≤ j → j < 40 → τ ((11 + 10 * i1.toNat + 2) + 5) j = (if σ ((11 + 10 * i1.toNat + 2) + 4) j ≠ 0 ∧ ho j ≠ 0 then σ ((11 + 10 * i1.toNat + 2) + 5) j + hc j else σ ((11 + 10 * i1.toNat + 2) + 5) j)) ∧ (∀ a : Nat, a ≠ (11 + 10 * i1.toNat + 2) → a ≠ (11 + 10 * i1.toNat + 2) + 1 → a ≠ (11 + 10 * i1.toNat + 2) + 2 → a ≠ (11 + 10 * i1.toNat + 2) + 3 → a ≠ (11 + 10 * i1.toNat + 2) + 5 → (a < 45 ∨ 50 < a) → τ a = σ a) ∧ u = sput τ 0 5 0))))) := by
  refine mkI (cc := cX6_together) (n := 5) (by decide +kernel) rfl (Nat.le_of_ble_eq_true rfl) (fun x A Q hx C hret => ?_)
  subst hx
  show At x v A Q _ 0 [(0, .ref (vq v 0)), (1, vI i1), (2, vI i2)] [] σ
  have iX0 : ∀ w ∈ wsX00, w ∈ wsX6_together := by decide +kernel
  have iX6 : ∀ w ∈ wsX60, w ∈ wsX6_together := by decide +kernel
  have iX4 : ∀ w ∈ wsX40, w ∈ wsX6_together := by decide +kernel
  have k151 : Cond.fieldLink RX6 151 (TX0 1).1 (TX0 1).2.1 (TX0 1).2.2.1 ∈ wsX6_together := by decide +kernel
  have k31 : Cond.fieldLink RX6 31 (TX6 3).1 (TX6 3).2.1 (TX6 3).2.2.1 ∈ wsX6_together := by decide +kernel
  have k183 : Cond.fieldLink RX6 183 (TX4 5).1 (TX4 5).2.1 (TX4 5).2.2.1 ∈ wsX6_together := by decide +kernel
  refine a_aload_n C dX6_together_0 0 rfl rfl ?_
  refine a_iload_n C dX6_together_1 1 rfl rfl ?_
  refine a_cVQ C (k0 := 1) (As := [vI i1]) (rest := []) (c_X6_columnAt x.2.1 v σ hS i1 (by omega)) gX6_together_X6_columnAt rfl (by decide +kernel) (by decide) hS.f0 rfl hS.n0 rfl rfl (Nat.le_of_ble_eq_true rfl) dX6_together_2 (fun z2 u2 p2 => ?_)
  obtain ⟨e2, p2⟩ := p2
  subst u2
  rcases e2 with ⟨q2, h2⟩ | ⟨q2, h2⟩ <;> subst h2
  · skip
    show At x v A Q _ 5 [(0, .ref (vq v 0)), (1, vI i1), (2, vI i2)] [.ref (vq v (11 + 10 * i1.toNat))] σ
    refine a_astore_n C 3 [(3, .ref (vq v (11 + 10 * i1.toNat))), (0, .ref (vq v 0)), (1, vI i1), (2, vI i2)] dX6_together_5 rfl (by decide) rfl ?_
    refine a_aload_n C dX6_together_6 1 rfl rfl ?_
    refine a_iload_n C dX6_together_7 3 rfl rfl ?_
    refine a_cVQ C (k0 := 1) (As := [vI i2]) (rest := []) (c_X6_columnAt x.2.1 v σ hS i2 (by omega)) gX6_together_X6_columnAt rfl (by decide +kernel) (by decide) hS.f0 rfl hS.n0 rfl rfl (Nat.le_of_ble_eq_true rfl) dX6_together_8 (fun z8 u8 p8 => ?_)
    obtain ⟨e8, p8⟩ := p8
    subst u8
    rcases e8 with ⟨q8, h8⟩ | ⟨q8, h8⟩ <;> subst h8
    · skip
      show At x v A Q _ 11 [(3, .ref (vq v (11 + 10 * i1.toNat))), (0, .ref (vq v 0)), (1, vI i1), (2, vI i2)] [.ref (vq v (11 + 10 * i2.toNat))] σ
      refine a_astore C [(4, .ref (vq v (11 + 10 * i2.toNat))), (3, .ref (vq v (11 + 10 * i1.toNat))), (0, .ref (vq v 0)), (1, vI i1), (2, vI i2)] dX6_together_11 (by decide) rfl ?_
      refine a_aload_n C dX6_together_13 1 rfl rfl ?_
      refine a_ifnull C dX6_together_14 ?_
      refine a_aload C dX6_together_17 0 rfl ?_
      refine a_ifnull C dX6_together_19 ?_
      refine a_aload_n C dX6_together_22 1 rfl rfl ?_
      refine a_aload C dX6_together_23 0 rfl ?_
      refine a_acmp_ne C 34 (hS.co i1 (by omega) (by omega)).n0 (hS.co i2 (by omega) (by omega)).n0 dX6_together_25 (by decide) (fun c25 => ?_) (fun c25 => ?_)
      · skip
        refine a_aload_n C dX6_together_34 1 rfl rfl ?_
        refine a_getf C (hS.co i1 (by omega) (by omega)).f0 (hS.co i1 (by omega) (by omega)).n0 (Cn := RX0) (T := TX0) (N := 5) rfl iX0 1 (by decide) k151 (w := .ref (vq v (11 + 10 * i1.toNat + 2))) rfl dX6_together_35 ?_
        have c0 := hC i1 (by omega) (by omega)
        obtain ⟨cT, c3, c4, cW, cB, cD, cS⟩ := c0
        have d0 := hC i2 (by omega) (by omega)
        obtain ⟨dT, d3, d4, dW, dB, dD, dS⟩ := d0
        refine a_cVI C (k0 := 0) (As := []) (rest := []) (c_X4_isThere x.2.1 v σ (11 + 10 * i1.toNat + 2) (hS.co i1 (by omega) (by omega)).o2 ) gX6_together_X4_isThere rfl (by decide +kernel) (by decide) (hS.co i1 (by omega) (by omega)).o2.f0 rfl (hS.co i1 (by omega) (by omega)).o2.n0 rfl rfl (Nat.le_of_ble_eq_true rfl) dX6_together_38 (fun z38 u38 r38 p38 => ?_)
        obtain ⟨e38, p38⟩ := p38
        subst u38
        have q38 := zz e38
        refine a_if_eq C 55 r38 dX6_together_41 (by decide) (fun c41 => ?_) (fun c41 => ?_)
        · skip
          refine a_aload_n C dX6_together_55 2 rfl rfl ?_
          refine a_iconst C dX6_together_56 ?_
          refine a_cVI C (k0 := 1) (As := [vI 5]) (rest := []) (c_X6_none x.2.1 v σ hS 5 (by omega)) gX6_together_X6_none rfl (by decide +kernel) (by decide) hS.f0 rfl hS.n0 rfl rfl (Nat.le_of_ble_eq_true rfl) dX6_together_57 (fun z57 u57 r57 p57 => ?_)
          obtain ⟨e57, p57⟩ := p57
          subst u57
          refine hret _ _ _ _ dX6_together_60 (by omega) ?_
          (repeat (first | rw [if_pos (by omega)] | rw [if_neg (by omega)]))
          exact ⟨by omega, rfl⟩
        · skip
          refine a_aload C dX6_together_44 0 rfl ?_
          refine a_getf C (hS.co i2 (by omega) (by omega)).f0 (hS.co i2 (by omega) (by omega)).n0 (Cn := RX0) (T := TX0) (N := 5) rfl iX0 1 (by decide) k151 (w := .ref (vq v (11 + 10 * i2.toNat + 2))) rfl dX6_together_46 ?_
          refine a_cVI C (k0 := 0) (As := []) (rest := []) (c_X4_isThere x.2.1 v σ (11 + 10 * i2.toNat + 2) (hS.co i2 (by omega) (by omega)).o2 ) gX6_together_X4_isThere rfl (by decide +kernel) (by decide) (hS.co i2 (by omega) (by omega)).o2.f0 rfl (hS.co i2 (by omega) (by omega)).o2.n0 rfl rfl (Nat.le_of_ble_eq_true rfl) dX6_together_49 (fun z49 u49 r49 p49 => ?_)
          obtain ⟨e49, p49⟩ := p49
          subst u49
          have q49 := zz e49
          refine a_if_ne C 61 r49 dX6_together_52 (by decide) (fun c52 => ?_) (fun c52 => ?_)
          · skip
            refine a_aload_n C dX6_together_61 1 rfl rfl ?_
            refine a_getf C (hS.co i1 (by omega) (by omega)).f0 (hS.co i1 (by omega) (by omega)).n0 (Cn := RX0) (T := TX0) (N := 5) rfl iX0 1 (by decide) k151 (w := .ref (vq v (11 + 10 * i1.toNat + 2))) rfl dX6_together_62 ?_
            refine a_cVI C (k0 := 0) (As := []) (rest := []) (c_X4_weight x.2.1 v σ (11 + 10 * i1.toNat + 2) (hS.co i1 (by omega) (by omega)).o2 cW cB) gX6_together_X4_weight rfl (by decide +kernel) (by decide) (hS.co i1 (by omega) (by omega)).o2.f0 rfl (hS.co i1 (by omega) (by omega)).o2.n0 rfl rfl (Nat.le_of_ble_eq_true rfl) dX6_together_65 (fun z65 u65 r65 p65 => ?_)
            obtain ⟨e65, p65⟩ := p65
            subst u65
            have k65 : z65 = wtV σ (11 + 10 * i1.toNat + 2) := e65
            have b65 := wtV_bd cW cB
            refine a_aload C dX6_together_68 0 rfl ?_
            refine a_getf C (hS.co i2 (by omega) (by omega)).f0 (hS.co i2 (by omega) (by omega)).n0 (Cn := RX0) (T := TX0) (N := 5) rfl iX0 1 (by decide) k151 (w := .ref (vq v (11 + 10 * i2.toNat + 2))) rfl dX6_together_70 ?_
            refine a_cVI C (k0 := 0) (As := []) (rest := [vI z65]) (c_X4_weight x.2.1 v σ (11 + 10 * i2.toNat + 2) (hS.co i2 (by omega) (by omega)).o2 dW dB) gX6_together_X4_weight rfl (by decide +kernel) (by decide) (hS.co i2 (by omega) (by omega)).o2.f0 rfl (hS.co i2 (by omega) (by omega)).o2.n0 rfl rfl (Nat.le_of_ble_eq_true rfl) dX6_together_73 (fun z73 u73 r73 p73 => ?_)
            obtain ⟨e73, p73⟩ := p73
            subst u73
            have k73 : z73 = wtV σ (11 + 10 * i2.toNat + 2) := e73
            have b73 := wtV_bd dW dB
            refine a_iadd C dX6_together_76 ?_
            refine a_ldc C 100000 (w := 100000) (by decide +kernel) rfl dX6_together_77 ?_
            refine a_icmp_le C 88 (by omega) (by decide) dX6_together_79 (by decide) (fun c79 => ?_) (fun c79 => ?_)
            · skip
              obtain ⟨g1, g2, g3, g4, g5, g6, g7, g8, g9⟩ := hK (by omega) (by omega) (by omega) (by omega) (by omega) (by omega)
              refine a_aload_n C dX6_together_88 2 rfl rfl ?_
              refine a_getf C hS.f0 hS.n0 (Cn := RX6) (T := TX6) (N := 6) rfl iX6 3 (by decide) k31 (w := .ref (vq v 45)) rfl dX6_together_89 ?_
              refine a_aload C dX6_together_92 0 rfl ?_
              refine a_getf C (hS.co i2 (by omega) (by omega)).f0 (hS.co i2 (by omega) (by omega)).n0 (Cn := RX0) (T := TX0) (N := 5) rfl iX0 1 (by decide) k151 (w := .ref (vq v (11 + 10 * i2.toNat + 2))) rfl dX6_together_94 ?_
              refine a_cVV C (k0 := 1) (As := [.ref (vq v (11 + 10 * i2.toNat + 2))]) (rest := []) (c_X4_copyOf x.2.1 v σ 45 hS.o45 (11 + 10 * i2.toNat + 2) (hS.co i2 (by omega) (by omega)).o2 (by omega) g9) gX6_together_X4_copyOf rfl (by decide +kernel) (by decide) hS.o45.f0 rfl hS.o45.n0 rfl rfl (Nat.le_of_ble_eq_true rfl) dX6_together_97 (fun u97 p97 => ?_)
              obtain ⟨c1, c2, c3_, c5, c6, c7, c8, c9⟩ := p97
              have skd : skV u97 45 = skV σ (11 + 10 * i2.toNat + 2) := skV_cp c1 (by omega) c3_ c5 c6
              have skc : skV u97 (11 + 10 * i1.toNat + 2) = skV σ (11 + 10 * i1.toNat + 2) := skV_cp (by rw [c9 (11 + 10 * i1.toNat + 2) (by omega) (by omega) (by omega) (by omega) (by omega) (by omega)]) (by omega) (fun j _ _ => by rw [c9 ((11 + 10 * i1.toNat + 2) + 1) (by omega) (by omega) (by omega) (by omega) (by omega) (by omega)]) (fun j _ _ => by rw [c9 ((11 + 10 * i1.toNat + 2) + 2) (by omega) (by omega) (by omega) (by omega) (by omega) (by omega)]) (fun j _ _ => by rw [c9 ((11 + 10 * i1.toNat + 2) + 3) (by omega) (by omega) (by omega) (by omega) (by omega) (by omega)])
              refine a_aload_n C dX6_together_100 1 rfl rfl ?_
              refine a_getf C (hS.co i1 (by omega) (by omega)).f0 (hS.co i1 (by omega) (by omega)).n0 (Cn := RX0) (T := TX0) (N := 5) rfl iX0 1 (by decide) k151 (w := .ref (vq v (11 + 10 * i1.toNat + 2))) rfl dX6_together_101 ?_
              refine a_aload_n C dX6_together_104 2 rfl rfl ?_
              refine a_getf C hS.f0 hS.n0 (Cn := RX6) (T := TX6) (N := 6) rfl iX6 3 (by decide) k31 (w := .ref (vq v 45)) rfl dX6_together_105 ?_
              refine a_cVV C (k0 := 1) (As := [.ref (vq v 45)]) (rest := []) (c_X4_takeIn x.2.1 v u97 (11 + 10 * i1.toNat + 2) (hS.co i1 (by omega) (by omega)).o2 45 hS.o45 (by omega) (by rw [skc]; exact g1) (by rw [skd]; exact g2) (by rw [c9 (11 + 10 * i1.toNat + 2) (by omega) (by omega) (by omega) (by omega) (by omega) (by omega)]; exact g3) (by rw [c1]; exact g4) (by unfold tkP; rw [skc]; exact g5) (by unfold tkP; rw [skd]; exact g6) (by rw [c9 ((11 + 10 * i1.toNat + 2) + 5) (by omega) (by omega) (by omega) (by omega) (by omega) (by omega)]; exact g7) (fun j j0 j1 => by rw [c8 j j0 j1]; exact g8 j j0 j1)) gX6_together_X4_takeIn rfl (by decide +kernel) (by decide) (hS.co i1 (by omega) (by omega)).o2.f0 rfl (hS.co i1 (by omega) (by omega)).o2.n0 rfl rfl (Nat.le_of_ble_eq_true rfl) dX6_together_108 (fun u108 p108 => ?_)
              refine a_aload_n C dX6_together_111 2 rfl rfl ?_
              refine a_aload_n C dX6_together_112 1 rfl rfl ?_
              refine a_getf C (hS.co i1 (by omega) (by omega)).f0 (hS.co i1 (by omega) (by omega)).n0 (Cn := RX0) (T := TX0) (N := 5) rfl iX0 1 (by decide) k151 (w := .ref (vq v (11 + 10 * i1.toNat + 2))) rfl dX6_together_113 ?_
              refine a_geti C (hS.co i1 (by omega) (by omega)).o2.f0 (hS.co i1 (by omega) (by omega)).o2.n0 (Cn := RX4) (T := TX4) (N := 7) rfl iX4 5 (by decide) k183 5 (by decide) rfl dX6_together_116 (fun z116 e116 r116 => ?_)
              refine a_cVI C (k0 := 1) (As := [vI z116]) (rest := []) (c_X6_told x.2.1 v u108 hS z116 (by omega)) gX6_together_X6_told rfl (by decide +kernel) (by decide) hS.f0 rfl hS.n0 rfl rfl (Nat.le_of_ble_eq_true rfl) dX6_together_119 (fun z119 u119 r119 p119 => ?_)
              obtain ⟨e119, p119⟩ := p119
              subst u119
              refine hret _ _ _ _ dX6_together_122 (by omega) ?_
              (repeat (first | rw [if_pos (by omega)] | rw [if_neg (by omega)]))
              obtain ⟨t1, t2, t3, t4⟩ := p108
              have f0 : ∀ a : Nat, (a < 45 ∨ 50 < a) → u97 a = σ a := fun a q => c9 a (by omega) (by omega) (by omega) (by omega) (by omega) (by omega)
              rw [f0 ((11 + 10 * i1.toNat + 2) + 4) (by omega), skc, skd] at t1
              refine ⟨u108, u97 (45 + 4), u97 (45 + 5), by omega, fun j j0 j1 => ⟨c7 j j0 j1, c8 j j0 j1⟩, t1, t2, fun j j0 j1 => ?_, fun a q1 q2 q3 q4 q5 q6 => ?_, rfl⟩
              · rw [t3 j j0 j1, f0 ((11 + 10 * i1.toNat + 2) + 4) (by omega), f0 ((11 + 10 * i1.toNat + 2) + 5) (by omega)]
              · rw [t4 a q1 q2 q3 q4 q5 (by omega) (by omega) (by omega) (by omega), f0 a q6]
            · skip
              refine a_aload_n C dX6_together_82 2 rfl rfl ?_
              refine a_iconst C dX6_together_83 ?_
              refine a_cVI C (k0 := 1) (As := [vI 4]) (rest := []) (c_X6_none x.2.1 v σ hS 4 (by omega)) gX6_together_X6_none rfl (by decide +kernel) (by decide) hS.f0 rfl hS.n0 rfl rfl (Nat.le_of_ble_eq_true rfl) dX6_together_84 (fun z84 u84 r84 p84 => ?_)
              obtain ⟨e84, p84⟩ := p84
              subst u84
              refine hret _ _ _ _ dX6_together_87 (by omega) ?_
              (repeat (first | rw [if_pos (by omega)] | rw [if_neg (by omega)]))
              exact ⟨by omega, rfl⟩
          · skip
            refine a_aload_n C dX6_together_55 2 rfl rfl ?_
            refine a_iconst C dX6_together_56 ?_
            refine a_cVI C (k0 := 1) (As := [vI 5]) (rest := []) (c_X6_none x.2.1 v σ hS 5 (by omega)) gX6_together_X6_none rfl (by decide +kernel) (by decide) hS.f0 rfl hS.n0 rfl rfl (Nat.le_of_ble_eq_true rfl) dX6_together_57 (fun z57 u57 r57 p57 => ?_)
            obtain ⟨e57, p57⟩ := p57
            subst u57
            refine hret _ _ _ _ dX6_together_60 (by omega) ?_
            (repeat (first | rw [if_pos (by omega)] | rw [if_neg (by omega)]))
            exact ⟨by omega, rfl⟩
      · skip
        refine a_aload_n C dX6_together_28 2 rfl rfl ?_
        refine a_iconst C dX6_together_29 ?_
        refine a_cVI C (k0 := 1) (As := [vI 1]) (rest := []) (c_X6_none x.2.1 v σ hS 1 (by omega)) gX6_together_X6_none rfl (by decide +kernel) (by decide) hS.f0 rfl hS.n0 rfl rfl (Nat.le_of_ble_eq_true rfl) dX6_together_30 (fun z30 u30 r30 p30 => ?_)
        obtain ⟨e30, p30⟩ := p30
        subst u30
        refine hret _ _ _ _ dX6_together_33 (by omega) ?_
        (repeat (first | rw [if_pos (by omega)] | rw [if_neg (by omega)]))
        exact ⟨by omega, rfl⟩
    · skip
      show At x v A Q _ 11 [(3, .ref (vq v (11 + 10 * i1.toNat))), (0, .ref (vq v 0)), (1, vI i1), (2, vI i2)] [.null] σ
      refine a_astoreN C [(4, .null), (3, .ref (vq v (11 + 10 * i1.toNat))), (0, .ref (vq v 0)), (1, vI i1), (2, vI i2)] dX6_together_11 (by decide) rfl ?_
      refine a_aload_n C dX6_together_13 1 rfl rfl ?_
      refine a_ifnull C dX6_together_14 ?_
      refine a_aloadN C dX6_together_17 0 rfl ?_
      refine a_ifnullN C 28 dX6_together_19 (by decide) ?_
      refine a_aload_n C dX6_together_28 2 rfl rfl ?_
      refine a_iconst C dX6_together_29 ?_
      refine a_cVI C (k0 := 1) (As := [vI 1]) (rest := []) (c_X6_none x.2.1 v σ hS 1 (by omega)) gX6_together_X6_none rfl (by decide +kernel) (by decide) hS.f0 rfl hS.n0 rfl rfl (Nat.le_of_ble_eq_true rfl) dX6_together_30 (fun z30 u30 r30 p30 => ?_)
      obtain ⟨e30, p30⟩ := p30
      subst u30
      refine hret _ _ _ _ dX6_together_33 (by omega) ?_
      (repeat (first | rw [if_pos (by omega)] | rw [if_neg (by omega)]))
      exact ⟨by omega, rfl⟩
  · skip
    show At x v A Q _ 5 [(0, .ref (vq v 0)), (1, vI i1), (2, vI i2)] [.null] σ
    refine a_astore_nN C 3 [(3, .null), (0, .ref (vq v 0)), (1, vI i1), (2, vI i2)] dX6_together_5 rfl (by decide) rfl ?_
    refine a_aload_n C dX6_together_6 1 rfl rfl ?_
    refine a_iload_n C dX6_together_7 3 rfl rfl ?_
    refine a_cVQ C (k0 := 1) (As := [vI i2]) (rest := []) (c_X6_columnAt x.2.1 v σ hS i2 (by omega)) gX6_together_X6_columnAt rfl (by decide +kernel) (by decide) hS.f0 rfl hS.n0 rfl rfl (Nat.le_of_ble_eq_true rfl) dX6_together_8 (fun z8 u8 p8 => ?_)
    obtain ⟨e8, p8⟩ := p8
    subst u8
    rcases e8 with ⟨q8, h8⟩ | ⟨q8, h8⟩ <;> subst h8
    · skip
      show At x v A Q _ 11 [(3, .null), (0, .ref (vq v 0)), (1, vI i1), (2, vI i2)] [.ref (vq v (11 + 10 * i2.toNat))] σ
      refine a_astore C [(4, .ref (vq v (11 + 10 * i2.toNat))), (3, .null), (0, .ref (vq v 0)), (1, vI i1), (2, vI i2)] dX6_together_11 (by decide) rfl ?_
      refine a_aload_nN C dX6_together_13 1 rfl rfl ?_
      refine a_ifnullN C 28 dX6_together_14 (by decide) ?_
      refine a_aload_n C dX6_together_28 2 rfl rfl ?_
      refine a_iconst C dX6_together_29 ?_
      refine a_cVI C (k0 := 1) (As := [vI 1]) (rest := []) (c_X6_none x.2.1 v σ hS 1 (by omega)) gX6_together_X6_none rfl (by decide +kernel) (by decide) hS.f0 rfl hS.n0 rfl rfl (Nat.le_of_ble_eq_true rfl) dX6_together_30 (fun z30 u30 r30 p30 => ?_)
      obtain ⟨e30, p30⟩ := p30
      subst u30
      refine hret _ _ _ _ dX6_together_33 (by omega) ?_
      (repeat (first | rw [if_pos (by omega)] | rw [if_neg (by omega)]))
      exact ⟨by omega, rfl⟩
    · skip
      show At x v A Q _ 11 [(3, .null), (0, .ref (vq v 0)), (1, vI i1), (2, vI i2)] [.null] σ
      refine a_astoreN C [(4, .null), (3, .null), (0, .ref (vq v 0)), (1, vI i1), (2, vI i2)] dX6_together_11 (by decide) rfl ?_
      refine a_aload_nN C dX6_together_13 1 rfl rfl ?_
      refine a_ifnullN C 28 dX6_together_14 (by decide) ?_
      refine a_aload_n C dX6_together_28 2 rfl rfl ?_
      refine a_iconst C dX6_together_29 ?_
      refine a_cVI C (k0 := 1) (As := [vI 1]) (rest := []) (c_X6_none x.2.1 v σ hS 1 (by omega)) gX6_together_X6_none rfl (by decide +kernel) (by decide) hS.f0 rfl hS.n0 rfl rfl (Nat.le_of_ble_eq_true rfl) dX6_together_30 (fun z30 u30 r30 p30 => ?_)
      obtain ⟨e30, p30⟩ := p30
      subst u30
      refine hret _ _ _ _ dX6_together_33 (by omega) ?_
      (repeat (first | rw [if_pos (by omega)] | rw [if_neg (by omega)]))
      exact ⟨by omega, rfl⟩
