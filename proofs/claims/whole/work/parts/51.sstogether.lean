/-- what a sketch weighs -/
def wtV (σ : Mem) (b : Nat) : Int := smR (σ (b + 2)) 0 (σ b 5) + smR (σ (b + 3)) 0 (σ b 5) + hvS (σ (b + 4)) (σ (b + 5)) 0 39
theorem wtV_bd {σ : Mem} {b : Nat} (hW : skW σ b) (hB : skB σ b) : -704000000 ≤ wtV σ b ∧ wtV σ b ≤ 704000000 := by
  have hw1 := hW.1
  have hw2 := hW.2.1
  have h1 := smR_bd (f := σ (b + 2)) (a := 0) (b := σ b 5) (fun j q1 q2 => hB.1 j q1 q2) hw1
  have h2 := smR_bd (f := σ (b + 3)) (a := 0) (b := σ b 5) (fun j q1 q2 => hB.2.1 j q1 q2) hw1
  have h3 := hvS_bd (h := σ (b + 4)) (M := 5000000) (by decide) hB.2.2 0 39
  unfold wtV
  omega
theorem skV_cp {σ u : Mem} {b o : Nat} (h5 : u b 5 = σ o 5) (hn : σ o 5 ≤ 24) (h1 : ∀ j : Int, 0 ≤ j → j < 24 → u (b + 1) j = σ (o + 1) j) (h2 : ∀ j : Int, 0 ≤ j → j < 24 → u (b + 2) j = σ (o + 2) j) (h3 : ∀ j : Int, 0 ≤ j → j < 24 → u (b + 3) j = σ (o + 3) j) : skV u b = skV σ o := by
  unfold skV
  rw [h5, mkR_congr (fun j q1 q2 => h1 j q1 (by omega)), mkR_congr (fun j q1 q2 => h2 j q1 (by omega)), mkR_congr (fun j q1 q2 => h3 j q1 (by omega))]
/-- what TOGETHER needs of both sketches -/
def tgOK (σ : Mem) (b o : Nat) : Prop := svE (skV σ b) ∧ svE (skV σ o) ∧ σ b 5 ≤ 12 ∧ σ o 5 ≤ 12 ∧ tkP σ b ∧ tkP σ o ∧ (∀ j : Int, 0 ≤ j → j < 40 → -4000000 ≤ σ (b + 5) j ∧ σ (b + 5) j ≤ 4000000) ∧ (∀ j : Int, 0 ≤ j → j < 40 → -200000 ≤ σ (o + 5) j ∧ σ (o + 5) j ≤ 200000) ∧ hvB σ o
set_option maxHeartbeats 4000000 in
set_option maxRecDepth 100000 in
theorem c_X6_together (l : Launch) (v : VC) (σ : Mem) (hS : shSS v) (i1 i2 : Int) (h1 : rg i1) (h2 : rg i2) (hC : ∀ i : Int, 0 ≤ i → i < 3 → coW σ (11 + 10 * i.toNat)) (hK : (0 ≤ i1 ∧ i1 < 3) → (0 ≤ i2 ∧ i2 < 3) → i1 ≠ i2 → 0 < σ (11 + 10 * i1.toNat + 2) 5 → 0 < σ (11 + 10 * i2.toNat + 2) 5 → wtV σ (11 + 10 * i1.toNat + 2) + wtV σ (11 + 10 * i2.toNat + 2) ≤ 100000 → tgOK σ (11 + 10 * i1.toNat + 2) (11 + 10 * i2.toNat + 2)) : CtI l yX6_together wsX6_together 5 116 v [.ref (vq v 0), vI i1, vI i2] σ (fun z u => (if (¬ ((0 ≤ i1 ∧ i1 < 3) ∧ (0 ≤ i2 ∧ i2 < 3) ∧ i1 ≠ i2)) then (z = -1 ∧ u = sput σ 0 5 1) else (if ¬ (0 < σ (11 + 10 * i1.toNat + 2) 5 ∧ 0 < σ (11 + 10 * i2.toNat + 2) 5) then (z = -1 ∧ u = sput σ 0 5 5) else (if 100000 < wtV σ (11 + 10 * i1.toNat + 2) + wtV σ (11 + 10 * i2.toNat + 2) then (z = -1 ∧ u = sput σ 0 5 4) else (∃ (τ : Mem) (ho hc : Int → Int), z = τ (11 + 10 * i1.toNat + 2) 5 ∧ (∀ j : Int, 0 ≤ j → j < 40 → ho j = σ ((11 + 10 * i2.toNat + 2) + 4) j ∧ hc j = σ ((11 + 10 * i2.toNat + 2) + 5) j) ∧ skV τ (11 + 10 * i1.toNat + 2) = tkV (σ ((11 + 10 * i1.toNat + 2) + 4)) ho hc (skV σ (11 + 10 * i1.toNat + 2)) (skV σ (11 + 10 * i2.toNat + 2)) ∧ τ (11 + 10 * i1.toNat + 2) 6 = 0 ∧ (∀ j : Int, 0 ≤ j → j < 40 → τ ((11 + 10 * i1.toNat + 2) + 5) j = (if σ ((11 + 10 * i1.toNat + 2) + 4) j ≠ 0 ∧ ho j ≠ 0 then σ ((11 + 10 * i1.toNat + 2) + 5) j + hc j else σ ((11 + 10 * i1.toNat + 2) + 5) j)) ∧ (∀ a : Nat, a ≠ (11 + 10 * i1.toNat + 2) → a ≠ (11 + 10 * i1.toNat + 2) + 1 → a ≠ (11 + 10 * i1.toNat + 2) + 2 → a ≠ (11 + 10 * i1.toNat + 2) + 3 → a ≠ (11 + 10 * i1.toNat + 2) + 5 → (a < 45 ∨ 50 < a) → τ a = σ a) ∧ u = sput τ 0 5 0))))) := by
  refine mkI (cc := cX6_together) (n := 5) (by decide +kernel) rfl (Nat.le_of_ble_eq_true rfl) (fun x A Q hx C hret => ?_)
  subst hx
  show At x v A Q _ 0 [(0, .ref (vq v 0)), (1, vI i1), (2, vI i2)] [] σ
  have iX0 : ∀ w ∈ wsX00, w ∈ wsX6_together := by decide +kernel
  have iX6 : ∀ w ∈ wsX60, w ∈ wsX6_together := by decide +kernel
  have iX4 : ∀ w ∈ wsX40, w ∈ wsX6_together := by decide +kernel
  have k151 : Cond.fieldLink RX6 151 (TX0 1).1 (TX0 1).2.1 (TX0 1).2.2.1 ∈ wsX6_together := by decide +kernel
  have k31 : Cond.fieldLink RX6 31 (TX6 3).1 (TX6 3).2.1 (TX6 3).2.2.1 ∈ wsX6_together := by decide +kernel
  have k183 : Cond.fieldLink RX6 183 (TX4 5).1 (TX4 5).2.1 (TX4 5).2.2.1 ∈ wsX6_together := by decide +kernel
  refine a_aload_n C dX6_together_0 0 rfl rfl ?_
  refine a_iload_n C dX6_together_1 1 rfl rfl ?_
  refine a_cVQ C (k0 := 1) (As := [vI i1]) (rest := []) (c_X6_columnAt x.2.1 v σ hS i1 (by omega)) gX6_together_X6_columnAt rfl (by decide +kernel) (by decide) hS.f0 rfl hS.n0 rfl rfl (Nat.le_of_ble_eq_true rfl) dX6_together_2 (fun z2 u2 p2 => ?_)
  obtain ⟨e2, p2⟩ := p2
  subst u2
  rcases e2 with ⟨q2, h2⟩ | ⟨q2, h2⟩ <;> subst h2
  · skip
    show At x v A Q _ 5 [(0, .ref (vq v 0)), (1, vI i1), (2, vI i2)] [.ref (vq v (11 + 10 * i1.toNat))] σ
    refine a_astore_n C 3 [(3, .ref (vq v (11 + 10 * i1.toNat))), (0, .ref (vq v 0)), (1, vI i1), (2, vI i2)] dX6_together_5 rfl (by decide) rfl ?_
    refine a_aload_n C dX6_together_6 1 rfl rfl ?_
    refine a_iload_n C dX6_together_7 3 rfl rfl ?_
    refine a_cVQ C (k0 := 1) (As := [vI i2]) (rest := []) (c_X6_columnAt x.2.1 v σ hS i2 (by omega)) gX6_together_X6_columnAt rfl (by decide +kernel) (by decide) hS.f0 rfl hS.n0 rfl rfl (Nat.le_of_ble_eq_true rfl) dX6_together_8 (fun z8 u8 p8 => ?_)
    obtain ⟨e8, p8⟩ := p8
    subst u8
    rcases e8 with ⟨q8, h8⟩ | ⟨q8, h8⟩ <;> subst h8
    · skip
      show At x v A Q _ 11 [(3, .ref (vq v (11 + 10 * i1.toNat))), (0, .ref (vq v 0)), (1, vI i1), (2, vI i2)] [.ref (vq v (11 + 10 * i2.toNat))] σ
      refine a_astore C [(4, .ref (vq v (11 + 10 * i2.toNat))), (3, .ref (vq v (11 + 10 * i1.toNat))), (0, .ref (vq v 0)), (1, vI i1), (2, vI i2)] dX6_together_11 (by decide) rfl ?_
      refine a_aload_n C dX6_together_13 1 rfl rfl ?_
      refine a_ifnull C dX6_together_14 ?_
      refine a_aload C dX6_together_17 0 rfl ?_
      refine a_ifnull C dX6_together_19 ?_
      refine a_iload_n C dX6_together_22 3 rfl rfl ?_
      refine a_iload_n C dX6_together_23 4 rfl rfl ?_
      refine a_icmp_ne C 33 (by omega) (by omega) dX6_together_24 (by decide) (fun c24 => ?_) (fun c24 => ?_)
      · skip
        refine a_aload_n C dX6_together_33 1 rfl rfl ?_
        refine a_getf C (hS.co i1 (by omega) (by omega)).f0 (hS.co i1 (by omega) (by omega)).n0 (Cn := RX0) (T := TX0) (N := 5) rfl iX0 1 (by decide) k151 (w := .ref (vq v (11 + 10 * i1.toNat + 2))) rfl dX6_together_34 ?_
        have c0 := hC i1 (by omega) (by omega)
        obtain ⟨cT, c3, c4, cW, cB, cD, cS⟩ := c0
        have d0 := hC i2 (by omega) (by omega)
        obtain ⟨dT, d3, d4, dW, dB, dD, dS⟩ := d0
        refine a_cVI C (k0 := 0) (As := []) (rest := []) (c_X4_isThere x.2.1 v σ (11 + 10 * i1.toNat + 2) (hS.co i1 (by omega) (by omega)).o2 ) gX6_together_X4_isThere rfl (by decide +kernel) (by decide) (hS.co i1 (by omega) (by omega)).o2.f0 rfl (hS.co i1 (by omega) (by omega)).o2.n0 rfl rfl (Nat.le_of_ble_eq_true rfl) dX6_together_37 (fun z37 u37 r37 p37 => ?_)
        obtain ⟨e37, p37⟩ := p37
        subst u37
        have q37 := zz e37
        refine a_if_eq C 54 r37 dX6_together_40 (by decide) (fun c40 => ?_) (fun c40 => ?_)
        · skip
          refine a_aload_n C dX6_together_54 2 rfl rfl ?_
          refine a_iconst C dX6_together_55 ?_
          refine a_cVI C (k0 := 1) (As := [vI 5]) (rest := []) (c_X6_none x.2.1 v σ hS 5 (by omega)) gX6_together_X6_none rfl (by decide +kernel) (by decide) hS.f0 rfl hS.n0 rfl rfl (Nat.le_of_ble_eq_true rfl) dX6_together_56 (fun z56 u56 r56 p56 => ?_)
          obtain ⟨e56, p56⟩ := p56
          subst u56
          refine hret _ _ _ _ dX6_together_59 (by omega) ?_
          (repeat (first | rw [if_pos (by omega)] | rw [if_neg (by omega)]))
          exact ⟨by omega, rfl⟩
        · skip
          refine a_aload C dX6_together_43 0 rfl ?_
          refine a_getf C (hS.co i2 (by omega) (by omega)).f0 (hS.co i2 (by omega) (by omega)).n0 (Cn := RX0) (T := TX0) (N := 5) rfl iX0 1 (by decide) k151 (w := .ref (vq v (11 + 10 * i2.toNat + 2))) rfl dX6_together_45 ?_
          refine a_cVI C (k0 := 0) (As := []) (rest := []) (c_X4_isThere x.2.1 v σ (11 + 10 * i2.toNat + 2) (hS.co i2 (by omega) (by omega)).o2 ) gX6_together_X4_isThere rfl (by decide +kernel) (by decide) (hS.co i2 (by omega) (by omega)).o2.f0 rfl (hS.co i2 (by omega) (by omega)).o2.n0 rfl rfl (Nat.le_of_ble_eq_true rfl) dX6_together_48 (fun z48 u48 r48 p48 => ?_)
          obtain ⟨e48, p48⟩ := p48
          subst u48
          have q48 := zz e48
          refine a_if_ne C 60 r48 dX6_together_51 (by decide) (fun c51 => ?_) (fun c51 => ?_)
          · skip
            refine a_aload_n C dX6_together_60 1 rfl rfl ?_
            refine a_getf C (hS.co i1 (by omega) (by omega)).f0 (hS.co i1 (by omega) (by omega)).n0 (Cn := RX0) (T := TX0) (N := 5) rfl iX0 1 (by decide) k151 (w := .ref (vq v (11 + 10 * i1.toNat + 2))) rfl dX6_together_61 ?_
            refine a_cVI C (k0 := 0) (As := []) (rest := []) (c_X4_weight x.2.1 v σ (11 + 10 * i1.toNat + 2) (hS.co i1 (by omega) (by omega)).o2 cW cB) gX6_together_X4_weight rfl (by decide +kernel) (by decide) (hS.co i1 (by omega) (by omega)).o2.f0 rfl (hS.co i1 (by omega) (by omega)).o2.n0 rfl rfl (Nat.le_of_ble_eq_true rfl) dX6_together_64 (fun z64 u64 r64 p64 => ?_)
            obtain ⟨e64, p64⟩ := p64
            subst u64
            have k64 : z64 = wtV σ (11 + 10 * i1.toNat + 2) := e64
            have b64 := wtV_bd cW cB
            refine a_aload C dX6_together_67 0 rfl ?_
            refine a_getf C (hS.co i2 (by omega) (by omega)).f0 (hS.co i2 (by omega) (by omega)).n0 (Cn := RX0) (T := TX0) (N := 5) rfl iX0 1 (by decide) k151 (w := .ref (vq v (11 + 10 * i2.toNat + 2))) rfl dX6_together_69 ?_
            refine a_cVI C (k0 := 0) (As := []) (rest := [vI z64]) (c_X4_weight x.2.1 v σ (11 + 10 * i2.toNat + 2) (hS.co i2 (by omega) (by omega)).o2 dW dB) gX6_together_X4_weight rfl (by decide +kernel) (by decide) (hS.co i2 (by omega) (by omega)).o2.f0 rfl (hS.co i2 (by omega) (by omega)).o2.n0 rfl rfl (Nat.le_of_ble_eq_true rfl) dX6_together_72 (fun z72 u72 r72 p72 => ?_)
            obtain ⟨e72, p72⟩ := p72
            subst u72
            have k72 : z72 = wtV σ (11 + 10 * i2.toNat + 2) := e72
            have b72 := wtV_bd dW dB
            refine a_iadd C dX6_together_75 ?_
            refine a_ldc C 100000 (w := 100000) (by decide +kernel) rfl dX6_together_76 ?_
            refine a_icmp_le C 87 (by omega) (by decide) dX6_together_78 (by decide) (fun c78 => ?_) (fun c78 => ?_)
            · skip
              obtain ⟨g1, g2, g3, g4, g5, g6, g7, g8, g9⟩ := hK (by omega) (by omega) (by omega) (by omega) (by omega) (by omega)
              refine a_aload_n C dX6_together_87 2 rfl rfl ?_
              refine a_getf C hS.f0 hS.n0 (Cn := RX6) (T := TX6) (N := 6) rfl iX6 3 (by decide) k31 (w := .ref (vq v 45)) rfl dX6_together_88 ?_
              refine a_aload C dX6_together_91 0 rfl ?_
              refine a_getf C (hS.co i2 (by omega) (by omega)).f0 (hS.co i2 (by omega) (by omega)).n0 (Cn := RX0) (T := TX0) (N := 5) rfl iX0 1 (by decide) k151 (w := .ref (vq v (11 + 10 * i2.toNat + 2))) rfl dX6_together_93 ?_
              refine a_cVV C (k0 := 1) (As := [.ref (vq v (11 + 10 * i2.toNat + 2))]) (rest := []) (c_X4_copyOf x.2.1 v σ 45 hS.o45 (11 + 10 * i2.toNat + 2) (hS.co i2 (by omega) (by omega)).o2 (by omega) g9) gX6_together_X4_copyOf rfl (by decide +kernel) (by decide) hS.o45.f0 rfl hS.o45.n0 rfl rfl (Nat.le_of_ble_eq_true rfl) dX6_together_96 (fun u96 p96 => ?_)
              obtain ⟨c1, c2, c3_, c5, c6, c7, c8, c9⟩ := p96
              have skd : skV u96 45 = skV σ (11 + 10 * i2.toNat + 2) := skV_cp c1 (by omega) c3_ c5 c6
              have skc : skV u96 (11 + 10 * i1.toNat + 2) = skV σ (11 + 10 * i1.toNat + 2) := skV_cp (by rw [c9 (11 + 10 * i1.toNat + 2) (by omega) (by omega) (by omega) (by omega) (by omega) (by omega)]) (by omega) (fun j _ _ => by rw [c9 ((11 + 10 * i1.toNat + 2) + 1) (by omega) (by omega) (by omega) (by omega) (by omega) (by omega)]) (fun j _ _ => by rw [c9 ((11 + 10 * i1.toNat + 2) + 2) (by omega) (by omega) (by omega) (by omega) (by omega) (by omega)]) (fun j _ _ => by rw [c9 ((11 + 10 * i1.toNat + 2) + 3) (by omega) (by omega) (by omega) (by omega) (by omega) (by omega)])
              refine a_aload_n C dX6_together_99 1 rfl rfl ?_
              refine a_getf C (hS.co i1 (by omega) (by omega)).f0 (hS.co i1 (by omega) (by omega)).n0 (Cn := RX0) (T := TX0) (N := 5) rfl iX0 1 (by decide) k151 (w := .ref (vq v (11 + 10 * i1.toNat + 2))) rfl dX6_together_100 ?_
              refine a_aload_n C dX6_together_103 2 rfl rfl ?_
              refine a_getf C hS.f0 hS.n0 (Cn := RX6) (T := TX6) (N := 6) rfl iX6 3 (by decide) k31 (w := .ref (vq v 45)) rfl dX6_together_104 ?_
              refine a_cVV C (k0 := 1) (As := [.ref (vq v 45)]) (rest := []) (c_X4_takeIn x.2.1 v u96 (11 + 10 * i1.toNat + 2) (hS.co i1 (by omega) (by omega)).o2 45 hS.o45 (by omega) (by rw [skc]; exact g1) (by rw [skd]; exact g2) (by rw [c9 (11 + 10 * i1.toNat + 2) (by omega) (by omega) (by omega) (by omega) (by omega) (by omega)]; exact g3) (by rw [c1]; exact g4) (by unfold tkP; rw [skc]; exact g5) (by unfold tkP; rw [skd]; exact g6) (by rw [c9 ((11 + 10 * i1.toNat + 2) + 5) (by omega) (by omega) (by omega) (by omega) (by omega) (by omega)]; exact g7) (fun j j0 j1 => by rw [c8 j j0 j1]; exact g8 j j0 j1)) gX6_together_X4_takeIn rfl (by decide +kernel) (by decide) (hS.co i1 (by omega) (by omega)).o2.f0 rfl (hS.co i1 (by omega) (by omega)).o2.n0 rfl rfl (Nat.le_of_ble_eq_true rfl) dX6_together_107 (fun u107 p107 => ?_)
              refine a_aload_n C dX6_together_110 2 rfl rfl ?_
              refine a_aload_n C dX6_together_111 1 rfl rfl ?_
              refine a_getf C (hS.co i1 (by omega) (by omega)).f0 (hS.co i1 (by omega) (by omega)).n0 (Cn := RX0) (T := TX0) (N := 5) rfl iX0 1 (by decide) k151 (w := .ref (vq v (11 + 10 * i1.toNat + 2))) rfl dX6_together_112 ?_
              refine a_geti C (hS.co i1 (by omega) (by omega)).o2.f0 (hS.co i1 (by omega) (by omega)).o2.n0 (Cn := RX4) (T := TX4) (N := 7) rfl iX4 5 (by decide) k183 5 (by decide) rfl dX6_together_115 (fun z115 e115 r115 => ?_)
              refine a_cVI C (k0 := 1) (As := [vI z115]) (rest := []) (c_X6_told x.2.1 v u107 hS z115 (by omega)) gX6_together_X6_told rfl (by decide +kernel) (by decide) hS.f0 rfl hS.n0 rfl rfl (Nat.le_of_ble_eq_true rfl) dX6_together_118 (fun z118 u118 r118 p118 => ?_)
              obtain ⟨e118, p118⟩ := p118
              subst u118
              refine hret _ _ _ _ dX6_together_121 (by omega) ?_
              (repeat (first | rw [if_pos (by omega)] | rw [if_neg (by omega)]))
              obtain ⟨t1, t2, t3, t4⟩ := p107
              have f0 : ∀ a : Nat, (a < 45 ∨ 50 < a) → u96 a = σ a := fun a q => c9 a (by omega) (by omega) (by omega) (by omega) (by omega) (by omega)
              rw [f0 ((11 + 10 * i1.toNat + 2) + 4) (by omega), skc, skd] at t1
              refine ⟨u107, u96 (45 + 4), u96 (45 + 5), by omega, fun j j0 j1 => ⟨c7 j j0 j1, c8 j j0 j1⟩, t1, t2, fun j j0 j1 => ?_, fun a q1 q2 q3 q4 q5 q6 => ?_, rfl⟩
              · rw [t3 j j0 j1, f0 ((11 + 10 * i1.toNat + 2) + 4) (by omega), f0 ((11 + 10 * i1.toNat + 2) + 5) (by omega)]
              · rw [t4 a q1 q2 q3 q4 q5 (by omega) (by omega) (by omega) (by omega), f0 a q6]
            · skip
              refine a_aload_n C dX6_together_81 2 rfl rfl ?_
              refine a_iconst C dX6_together_82 ?_
              refine a_cVI C (k0 := 1) (As := [vI 4]) (rest := []) (c_X6_none x.2.1 v σ hS 4 (by omega)) gX6_together_X6_none rfl (by decide +kernel) (by decide) hS.f0 rfl hS.n0 rfl rfl (Nat.le_of_ble_eq_true rfl) dX6_together_83 (fun z83 u83 r83 p83 => ?_)
              obtain ⟨e83, p83⟩ := p83
              subst u83
              refine hret _ _ _ _ dX6_together_86 (by omega) ?_
              (repeat (first | rw [if_pos (by omega)] | rw [if_neg (by omega)]))
              exact ⟨by omega, rfl⟩
          · skip
            refine a_aload_n C dX6_together_54 2 rfl rfl ?_
            refine a_iconst C dX6_together_55 ?_
            refine a_cVI C (k0 := 1) (As := [vI 5]) (rest := []) (c_X6_none x.2.1 v σ hS 5 (by omega)) gX6_together_X6_none rfl (by decide +kernel) (by decide) hS.f0 rfl hS.n0 rfl rfl (Nat.le_of_ble_eq_true rfl) dX6_together_56 (fun z56 u56 r56 p56 => ?_)
            obtain ⟨e56, p56⟩ := p56
            subst u56
            refine hret _ _ _ _ dX6_together_59 (by omega) ?_
            (repeat (first | rw [if_pos (by omega)] | rw [if_neg (by omega)]))
            exact ⟨by omega, rfl⟩
      · skip
        refine a_aload_n C dX6_together_27 2 rfl rfl ?_
        refine a_iconst C dX6_together_28 ?_
        refine a_cVI C (k0 := 1) (As := [vI 1]) (rest := []) (c_X6_none x.2.1 v σ hS 1 (by omega)) gX6_together_X6_none rfl (by decide +kernel) (by decide) hS.f0 rfl hS.n0 rfl rfl (Nat.le_of_ble_eq_true rfl) dX6_together_29 (fun z29 u29 r29 p29 => ?_)
        obtain ⟨e29, p29⟩ := p29
        subst u29
        refine hret _ _ _ _ dX6_together_32 (by omega) ?_
        (repeat (first | rw [if_pos (by omega)] | rw [if_neg (by omega)]))
        exact ⟨by omega, rfl⟩
    · skip
      show At x v A Q _ 11 [(3, .ref (vq v (11 + 10 * i1.toNat))), (0, .ref (vq v 0)), (1, vI i1), (2, vI i2)] [.null] σ
      refine a_astoreN C [(4, .null), (3, .ref (vq v (11 + 10 * i1.toNat))), (0, .ref (vq v 0)), (1, vI i1), (2, vI i2)] dX6_together_11 (by decide) rfl ?_
      refine a_aload_n C dX6_together_13 1 rfl rfl ?_
      refine a_ifnull C dX6_together_14 ?_
      refine a_aloadN C dX6_together_17 0 rfl ?_
      refine a_ifnullN C 27 dX6_together_19 (by decide) ?_
      refine a_aload_n C dX6_together_27 2 rfl rfl ?_
      refine a_iconst C dX6_together_28 ?_
      refine a_cVI C (k0 := 1) (As := [vI 1]) (rest := []) (c_X6_none x.2.1 v σ hS 1 (by omega)) gX6_together_X6_none rfl (by decide +kernel) (by decide) hS.f0 rfl hS.n0 rfl rfl (Nat.le_of_ble_eq_true rfl) dX6_together_29 (fun z29 u29 r29 p29 => ?_)
      obtain ⟨e29, p29⟩ := p29
      subst u29
      refine hret _ _ _ _ dX6_together_32 (by omega) ?_
      (repeat (first | rw [if_pos (by omega)] | rw [if_neg (by omega)]))
      exact ⟨by omega, rfl⟩
  · skip
    show At x v A Q _ 5 [(0, .ref (vq v 0)), (1, vI i1), (2, vI i2)] [.null] σ
    refine a_astore_nN C 3 [(3, .null), (0, .ref (vq v 0)), (1, vI i1), (2, vI i2)] dX6_together_5 rfl (by decide) rfl ?_
    refine a_aload_n C dX6_together_6 1 rfl rfl ?_
    refine a_iload_n C dX6_together_7 3 rfl rfl ?_
    refine a_cVQ C (k0 := 1) (As := [vI i2]) (rest := []) (c_X6_columnAt x.2.1 v σ hS i2 (by omega)) gX6_together_X6_columnAt rfl (by decide +kernel) (by decide) hS.f0 rfl hS.n0 rfl rfl (Nat.le_of_ble_eq_true rfl) dX6_together_8 (fun z8 u8 p8 => ?_)
    obtain ⟨e8, p8⟩ := p8
    subst u8
    rcases e8 with ⟨q8, h8⟩ | ⟨q8, h8⟩ <;> subst h8
    · skip
      show At x v A Q _ 11 [(3, .null), (0, .ref (vq v 0)), (1, vI i1), (2, vI i2)] [.ref (vq v (11 + 10 * i2.toNat))] σ
      refine a_astore C [(4, .ref (vq v (11 + 10 * i2.toNat))), (3, .null), (0, .ref (vq v 0)), (1, vI i1), (2, vI i2)] dX6_together_11 (by decide) rfl ?_
      refine a_aload_nN C dX6_together_13 1 rfl rfl ?_
      refine a_ifnullN C 27 dX6_together_14 (by decide) ?_
      refine a_aload_n C dX6_together_27 2 rfl rfl ?_
      refine a_iconst C dX6_together_28 ?_
      refine a_cVI C (k0 := 1) (As := [vI 1]) (rest := []) (c_X6_none x.2.1 v σ hS 1 (by omega)) gX6_together_X6_none rfl (by decide +kernel) (by decide) hS.f0 rfl hS.n0 rfl rfl (Nat.le_of_ble_eq_true rfl) dX6_together_29 (fun z29 u29 r29 p29 => ?_)
      obtain ⟨e29, p29⟩ := p29
      subst u29
      refine hret _ _ _ _ dX6_together_32 (by omega) ?_
      (repeat (first | rw [if_pos (by omega)] | rw [if_neg (by omega)]))
      exact ⟨by omega, rfl⟩
    · skip
      show At x v A Q _ 11 [(3, .null), (0, .ref (vq v 0)), (1, vI i1), (2, vI i2)] [.null] σ
      refine a_astoreN C [(4, .null), (3, .null), (0, .ref (vq v 0)), (1, vI i1), (2, vI i2)] dX6_together_11 (by decide) rfl ?_
      refine a_aload_nN C dX6_together_13 1 rfl rfl ?_
      refine a_ifnullN C 27 dX6_together_14 (by decide) ?_
      refine a_aload_n C dX6_together_27 2 rfl rfl ?_
      refine a_iconst C dX6_together_28 ?_
      refine a_cVI C (k0 := 1) (As := [vI 1]) (rest := []) (c_X6_none x.2.1 v σ hS 1 (by omega)) gX6_together_X6_none rfl (by decide +kernel) (by decide) hS.f0 rfl hS.n0 rfl rfl (Nat.le_of_ble_eq_true rfl) dX6_together_29 (fun z29 u29 r29 p29 => ?_)
      obtain ⟨e29, p29⟩ := p29
      subst u29
      refine hret _ _ _ _ dX6_together_32 (by omega) ?_
      (repeat (first | rw [if_pos (by omega)] | rw [if_neg (by omega)]))
      exact ⟨by omega, rfl⟩
