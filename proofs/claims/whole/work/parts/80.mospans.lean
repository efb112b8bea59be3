/-! ===== the model's make: its spans ===== -/
set_option maxHeartbeats 4000000 in
set_option maxRecDepth 100000 in
theorem mk_s7 {x : XC} {v : VC} {A : Nat → Prop} {Q : State → Prop} (C : Cx x v A cX7_make RX7 10 wsX7_make 2 48) (σ : Mem) (b : Nat) (hM : shMo v b) (i1 b1 n1 d1 : Int) (L1 : Int) (lv : Int → Int) (hl : ∀ j : Int, 0 ≤ j → j < 40 → -1 ≤ lv j ∧ lv j ≤ 10000) (hc : 0 ≤ i1 ∧ i1 < 3) (hb : 1 ≤ b1 ∧ b1 ≤ 12) (hL : 0 ≤ L1 ∧ L1 ≤ 10000) (hE : ∀ a9 b9 : Int, 0 ≤ a9 → a9 ≤ b9 → b9 < 40 → σ (b + 18) (40 * a9 + b9) = erI lv a9 b9) (hDS : ∀ (n9 : Nat) (j : Int), (n9 : Int) < b1 + 1 → 0 ≤ j → j ≤ 40 → σ (b + 20) (101 * n9 + j) = dpS lv L1 n9 j) (hfin : dpS lv L1 b1.toNat 0 < 1000000000) (hT : ∀ j : Int, 0 ≤ j → j < 40 → 0 ≤ (shR (σ (b + 4)) (40 * i1)) j ∧ (shR (σ (b + 4)) (40 * i1)) j ≤ 10000) (k : ∀ τ : Mem, (∀ j : Int, 0 ≤ j → j < b1 → τ (b + 15) (40 * i1 + j) = plB lv L1 b1.toNat (j.toNat + 1) - 1 ∧ τ (b + 16) (40 * i1 + j) = smR (fun w => if (shR (σ (b + 14)) (40 * i1)) w = 0 then (shR (σ (b + 4)) (40 * i1)) w else 0) (plB lv L1 b1.toNat j.toNat) (plB lv L1 b1.toNat (j.toNat + 1)) ∧ τ (b + 17) (40 * i1 + j) = 0) → (∀ j : Int, j < 40 * i1 ∨ 40 * i1 + 40 ≤ j → τ (b + 15) j = σ (b + 15) j ∧ τ (b + 16) j = σ (b + 16) j ∧ τ (b + 17) j = σ (b + 17) j) → (∀ a : Nat, a ≠ b + 15 → a ≠ b + 16 → a ≠ b + 17 → τ a = σ a) → At x v A Q 10 798 [(5, vI L1), (0, .ref (vq v b)), (1, vI i1), (2, vI b1), (3, vI n1), (4, vI d1)] [] τ) : At x v A Q 10 571 [(5, vI L1), (0, .ref (vq v b)), (1, vI i1), (2, vI b1), (3, vI n1), (4, vI d1)] [] σ := by
  have iX7 : ∀ w ∈ wsX70, w ∈ wsX7_make := by decide +kernel
  have k67 : Cond.fieldLink RX7 67 (TX7 20).1 (TX7 20).2.1 (TX7 20).2.2.1 ∈ wsX7_make := by decide +kernel
  have k73 : Cond.fieldLink RX7 73 (TX7 22).1 (TX7 22).2.1 (TX7 22).2.2.1 ∈ wsX7_make := by decide +kernel
  have k58 : Cond.fieldLink RX7 58 (TX7 17).1 (TX7 17).2.1 (TX7 17).2.2.1 ∈ wsX7_make := by decide +kernel
  have k61 : Cond.fieldLink RX7 61 (TX7 18).1 (TX7 18).2.1 (TX7 18).2.2.1 ∈ wsX7_make := by decide +kernel
  have k64 : Cond.fieldLink RX7 64 (TX7 19).1 (TX7 19).2.1 (TX7 19).2.2.1 ∈ wsX7_make := by decide +kernel
  have k54 : Cond.fieldLink RX7 54 (TX7 16).1 (TX7 16).2.1 (TX7 16).2.2.1 ∈ wsX7_make := by decide +kernel
  have k24 : Cond.fieldLink RX7 24 (TX7 6).1 (TX7 6).2.1 (TX7 6).2.2.1 ∈ wsX7_make := by decide +kernel
  have lpK : ∀ (n : Nat) (k1 f1 : Int) (τ : Mem) , (13 - k1).toNat = n → (0 ≤ k1 ∧ k1 ≤ b1) → f1 = plB lv L1 b1.toNat k1.toNat → (∀ j : Int, 0 ≤ j → j < k1 → τ (b + 15) (40 * i1 + j) = plB lv L1 b1.toNat (j.toNat + 1) - 1 ∧ τ (b + 16) (40 * i1 + j) = smR (fun w => if (shR (σ (b + 14)) (40 * i1)) w = 0 then (shR (σ (b + 4)) (40 * i1)) w else 0) (plB lv L1 b1.toNat j.toNat) (plB lv L1 b1.toNat (j.toNat + 1)) ∧ τ (b + 17) (40 * i1 + j) = 0) → (∀ j : Int, j < 40 * i1 ∨ 40 * i1 + 40 ≤ j → τ (b + 15) j = σ (b + 15) j ∧ τ (b + 16) j = σ (b + 16) j ∧ τ (b + 17) j = σ (b + 17) j) → (∀ a : Nat, a ≠ b + 15 → a ≠ b + 16 → a ≠ b + 17 → τ a = σ a) → At x v A Q 10 577 [(7, vI k1), (6, vI f1), (5, vI L1), (0, .ref (vq v b)), (1, vI i1), (2, vI b1), (3, vI n1), (4, vI d1)] [] τ := by
    intro n
    induction n using Nat.strongRecOn with
    | _ n ih =>
      intro k1 f1 τ hn ik jf jD jO iF
      refine a_iload C dX7_make_577 0 rfl ?_
      refine a_iload_n C dX7_make_579 5 rfl rfl ?_
      refine a_icmp_ge C 798 (by omega) (by omega) dX7_make_580 (by decide) (fun c580 => ?_) (fun c580 => ?_)
      · skip
        refine a_sub [2, 3, 4, 5, 6, 7] [(5, vI L1), (0, .ref (vq v b)), (1, vI i1), (2, vI b1), (3, vI n1), (4, vI d1)] rfl ?_
        have hk9 : k1 = b1 := by omega
        subst hk9
        exact k τ jD jO iF
      · skip
        refine a_iload C dX7_make_583 1 rfl ?_
        refine a_istore C [(8, vI f1), (7, vI k1), (6, vI f1), (5, vI L1), (0, .ref (vq v b)), (1, vI i1), (2, vI b1), (3, vI n1), (4, vI d1)] dX7_make_585 (by decide) rfl ?_
        have ihK := ih
        obtain ⟨⟨p0, p0b⟩, p2, p3⟩ := plB_ok hfin k1.toNat (by omega)
        have p3 := p3 (by omega)
        rw [← jf] at p0 p0b p2 p3
        have hs9 : dpS lv L1 ((b1.toNat - k1.toNat - 1) + 1) f1 = dpS lv L1 (b1.toNat - k1.toNat) f1 := by rw [show (b1.toNat - k1.toNat - 1) + 1 = b1.toNat - k1.toNat by omega]
        obtain ⟨FE, hFE⟩ : ∃ w : Int, w = feI lv L1 (b1.toNat - k1.toNat - 1) f1 := ⟨_, rfl⟩
        obtain ⟨g1, g2, g3⟩ := feI_spec p0 p3 (by rw [hs9]; exact p2)
        rw [← hFE] at g1 g2 g3
        have hpb : plB lv L1 b1.toNat (k1.toNat + 1) = FE + 1 := by rw [hFE]; conv => (lhs; unfold plB); rw [← jf, if_pos p3]
        have g4 : dpS lv L1 (b1.toNat - k1.toNat - 1) (FE + 1) < 1000000000 := by have := erI_0 lv f1 FE; rw [hs9] at g2; omega
        rw [hs9] at g2
        have lpE : ∀ (n : Nat) (e1 : Int) , (40 - e1).toNat = n → (f1 ≤ e1 ∧ e1 ≤ FE) → At x v A Q 10 587 [(8, vI e1), (7, vI k1), (6, vI f1), (5, vI L1), (0, .ref (vq v b)), (1, vI i1), (2, vI b1), (3, vI n1), (4, vI d1)] [] τ := by
          intro n
          induction n using Nat.strongRecOn with
          | _ n ih =>
            intro e1 hn je
            refine a_aload_n C dX7_make_587 4 rfl rfl ?_
            refine a_getf C hM.f0 hM.n0 (Cn := RX7) (T := TX7) (N := 30) rfl iX7 20 (by decide) k67 (w := .ref (vq v (b + 18))) rfl dX7_make_588 ?_
            refine a_bipush C dX7_make_591 ?_
            refine a_iload C dX7_make_593 2 rfl ?_
            refine a_imul C dX7_make_595 ?_
            refine a_iload C dX7_make_596 0 rfl ?_
            refine a_iadd C dX7_make_598 ?_
            refine a_iald C hM.f18 hM.n18 0 hM.tI (by omega) (by omega) (by decide) dX7_make_599 (fun z599 e599 r599 => ?_)
            rw [iF (b + 18) (by omega) (by omega) (by omega), hE f1 e1 (by omega) (by omega) (by omega)] at e599
            refine a_iload C dX7_make_600 3 rfl ?_
            refine a_icmp_gt C 677 r599 (by omega) dX7_make_602 (by decide) (fun c602 => ?_) (fun c602 => ?_)
            · skip
              refine a_iinc C (e1 + 1) [(8, vI (e1 + 1)), (7, vI k1), (6, vI f1), (5, vI L1), (0, .ref (vq v b)), (1, vI i1), (2, vI b1), (3, vI n1), (4, vI d1)] dX7_make_677 0 rfl (by omega) (by decide) rfl ?_
              refine a_goto C 587 dX7_make_680 (by decide) ?_
              have ne9 : e1 ≠ FE := by
                intro q
                rw [← q] at g2 g4
                rw [← e599] at g2
                first | (omega) | (rw [← e622] at g4; omega) | (rw [← e622, ← e673] at g2; omega)
              exact ih _ (by omega) (e1 + 1) rfl (by omega)
            · skip
              refine a_aload_n C dX7_make_605 4 rfl rfl ?_
              refine a_getf C hM.f0 hM.n0 (Cn := RX7) (T := TX7) (N := 30) rfl iX7 22 (by decide) k73 (w := .ref (vq v (b + 20))) rfl dX7_make_606 ?_
              refine a_iload_n C dX7_make_609 6 rfl rfl ?_
              refine a_iload C dX7_make_610 1 rfl ?_
              refine a_isub C dX7_make_612 ?_
              refine a_iconst C dX7_make_613 ?_
              refine a_isub C dX7_make_614 ?_
              refine a_iload C dX7_make_615 0 rfl ?_
              refine a_iconst C dX7_make_617 ?_
              refine a_iadd C dX7_make_618 ?_
              refine a_cSI C (k0 := 2) (As := [vI ((b1 - k1) - 1), vI (e1 + 1)]) (rest := [.ref (vq v (b + 20))]) (c_X7_at x.2.1 v τ ((b1 - k1) - 1) (e1 + 1) (by omega) (by omega)) gX7_make_X7_at rfl (by decide +kernel) (by decide) rfl rfl (Nat.le_of_ble_eq_true rfl) dX7_make_619 (fun z619 u619 r619 p619 => ?_)
              obtain ⟨e619, p619⟩ := p619
              subst u619
              refine a_iald C hM.f20 hM.n20 0 hM.tI (by omega) (by omega) (by decide) dX7_make_622 (fun z622 e622 r622 => ?_)
              rw [iF (b + 20) (by omega) (by omega) (by omega), show z619 = 101 * (((b1.toNat - k1.toNat - 1) : Nat) : Int) + (e1 + 1) by omega, hDS (b1.toNat - k1.toNat - 1) (e1 + 1) (by omega) (by omega) (by omega)] at e622
              refine a_ldc C 1000000000 (w := 1000000000) (by decide +kernel) rfl dX7_make_623 ?_
              refine a_icmp_eq C 677 r622 (by decide) dX7_make_625 (by decide) (fun c625 => ?_) (fun c625 => ?_)
              · skip
                refine a_iinc C (e1 + 1) [(8, vI (e1 + 1)), (7, vI k1), (6, vI f1), (5, vI L1), (0, .ref (vq v b)), (1, vI i1), (2, vI b1), (3, vI n1), (4, vI d1)] dX7_make_677 0 rfl (by omega) (by decide) rfl ?_
                refine a_goto C 587 dX7_make_680 (by decide) ?_
                have ne9 : e1 ≠ FE := by
                  intro q
                  rw [← q] at g2 g4
                  rw [← e599] at g2
                  first | (omega) | (rw [← e622] at g4; omega) | (rw [← e622, ← e673] at g2; omega)
                exact ih _ (by omega) (e1 + 1) rfl (by omega)
              · skip
                refine a_aload_n C dX7_make_628 4 rfl rfl ?_
                refine a_getf C hM.f0 hM.n0 (Cn := RX7) (T := TX7) (N := 30) rfl iX7 20 (by decide) k67 (w := .ref (vq v (b + 18))) rfl dX7_make_629 ?_
                refine a_bipush C dX7_make_632 ?_
                refine a_iload C dX7_make_634 2 rfl ?_
                refine a_imul C dX7_make_636 ?_
                refine a_iload C dX7_make_637 0 rfl ?_
                refine a_iadd C dX7_make_639 ?_
                refine a_iald C hM.f18 hM.n18 0 hM.tI (by omega) (by omega) (by decide) dX7_make_640 (fun z640 e640 r640 => ?_)
                rw [iF (b + 18) (by omega) (by omega) (by omega), hE f1 e1 (by omega) (by omega) (by omega), ← e599] at e640
                have b640 := erI_W hl (a := f1) (b := e1) (by omega) (by omega) (by omega)
                rw [← e599] at b640
                refine a_aload_n C dX7_make_641 4 rfl rfl ?_
                refine a_getf C hM.f0 hM.n0 (Cn := RX7) (T := TX7) (N := 30) rfl iX7 22 (by decide) k73 (w := .ref (vq v (b + 20))) rfl dX7_make_642 ?_
                refine a_iload_n C dX7_make_645 6 rfl rfl ?_
                refine a_iload C dX7_make_646 1 rfl ?_
                refine a_isub C dX7_make_648 ?_
                refine a_iconst C dX7_make_649 ?_
                refine a_isub C dX7_make_650 ?_
                refine a_iload C dX7_make_651 0 rfl ?_
                refine a_iconst C dX7_make_653 ?_
                refine a_iadd C dX7_make_654 ?_
                refine a_cSI C (k0 := 2) (As := [vI ((b1 - k1) - 1), vI (e1 + 1)]) (rest := [.ref (vq v (b + 20)), vI z640]) (c_X7_at x.2.1 v τ ((b1 - k1) - 1) (e1 + 1) (by omega) (by omega)) gX7_make_X7_at rfl (by decide +kernel) (by decide) rfl rfl (Nat.le_of_ble_eq_true rfl) dX7_make_655 (fun z655 u655 r655 p655 => ?_)
                obtain ⟨e655, p655⟩ := p655
                subst u655
                refine a_iald C hM.f20 hM.n20 0 hM.tI (by omega) (by omega) (by decide) dX7_make_658 (fun z658 e658 r658 => ?_)
                rw [iF (b + 20) (by omega) (by omega) (by omega), show z655 = z619 by omega] at e658
                have e658b : z658 = z622 := by rw [e658, e622, show z619 = 101 * (((b1.toNat - k1.toNat - 1) : Nat) : Int) + (e1 + 1) by omega, hDS (b1.toNat - k1.toNat - 1) (e1 + 1) (by omega) (by omega) (by omega)]
                have b658 := dpS_W lv L1 (b1.toNat - k1.toNat - 1) (e1 + 1)
                rw [← e622] at b658
                refine a_iadd C dX7_make_659 ?_
                refine a_aload_n C dX7_make_660 4 rfl rfl ?_
                refine a_getf C hM.f0 hM.n0 (Cn := RX7) (T := TX7) (N := 30) rfl iX7 22 (by decide) k73 (w := .ref (vq v (b + 20))) rfl dX7_make_661 ?_
                refine a_iload_n C dX7_make_664 6 rfl rfl ?_
                refine a_iload C dX7_make_665 1 rfl ?_
                refine a_isub C dX7_make_667 ?_
                refine a_iload C dX7_make_668 2 rfl ?_
                refine a_cSI C (k0 := 2) (As := [vI (b1 - k1), vI f1]) (rest := [.ref (vq v (b + 20)), vI (z640 + z658)]) (c_X7_at x.2.1 v τ (b1 - k1) f1 (by omega) (by omega)) gX7_make_X7_at rfl (by decide +kernel) (by decide) rfl rfl (Nat.le_of_ble_eq_true rfl) dX7_make_670 (fun z670 u670 r670 p670 => ?_)
                obtain ⟨e670, p670⟩ := p670
                subst u670
                refine a_iald C hM.f20 hM.n20 0 hM.tI (by omega) (by omega) (by decide) dX7_make_673 (fun z673 e673 r673 => ?_)
                rw [iF (b + 20) (by omega) (by omega) (by omega), show z670 = 101 * ((b1.toNat - k1.toNat : Nat) : Int) + f1 by omega, hDS (b1.toNat - k1.toNat) f1 (by omega) (by omega) (by omega)] at e673
                refine a_icmp_eq C 683 (by omega) r673 dX7_make_674 (by decide) (fun c674 => ?_) (fun c674 => ?_)
                · skip
                  have hx : e1 = FE := by
                    rcases Int.lt_or_le e1 FE with z | z
                    · exact absurd ⟨by rw [← e599]; omega, by rw [← e599, ← e622, hs9, ← e673]; omega⟩ (g3 e1 (by omega) z)
                    · omega
                  subst hx
                  refine a_aload_n C dX7_make_683 4 rfl rfl ?_
                  refine a_getf C hM.f0 hM.n0 (Cn := RX7) (T := TX7) (N := 30) rfl iX7 17 (by decide) k58 (w := .ref (vq v (b + 15))) rfl dX7_make_684 ?_
                  refine a_bipush C dX7_make_687 ?_
                  refine a_iload_n C dX7_make_689 5 rfl rfl ?_
                  refine a_imul C dX7_make_690 ?_
                  refine a_iload C dX7_make_691 1 rfl ?_
                  refine a_iadd C dX7_make_693 ?_
                  refine a_iload C dX7_make_694 0 rfl ?_
                  refine a_iast C hM.f15 hM.n15 0 hM.tI (by omega) (by omega) (by decide) (by omega) dX7_make_696 ?_
                  refine a_aload_n C dX7_make_697 4 rfl rfl ?_
                  refine a_getf C hM.f0 hM.n0 (Cn := RX7) (T := TX7) (N := 30) rfl iX7 18 (by decide) k61 (w := .ref (vq v (b + 16))) rfl dX7_make_698 ?_
                  refine a_bipush C dX7_make_701 ?_
                  refine a_iload_n C dX7_make_703 5 rfl rfl ?_
                  refine a_imul C dX7_make_704 ?_
                  refine a_iload C dX7_make_705 1 rfl ?_
                  refine a_iadd C dX7_make_707 ?_
                  refine a_iconst C dX7_make_708 ?_
                  refine a_iast C hM.f16 hM.n16 0 hM.tI (by omega) (by omega) (by decide) (by decide) dX7_make_709 ?_
                  refine a_aload_n C dX7_make_710 4 rfl rfl ?_
                  refine a_getf C hM.f0 hM.n0 (Cn := RX7) (T := TX7) (N := 30) rfl iX7 19 (by decide) k64 (w := .ref (vq v (b + 17))) rfl dX7_make_711 ?_
                  refine a_bipush C dX7_make_714 ?_
                  refine a_iload_n C dX7_make_716 5 rfl rfl ?_
                  refine a_imul C dX7_make_717 ?_
                  refine a_iload C dX7_make_718 1 rfl ?_
                  refine a_iadd C dX7_make_720 ?_
                  refine a_iconst C dX7_make_721 ?_
                  refine a_iast C hM.f17 hM.n17 0 hM.tI (by omega) (by omega) (by decide) (by decide) dX7_make_722 ?_
                  refine a_iload C dX7_make_723 2 rfl ?_
                  refine a_istore C [(9, vI f1), (8, vI e1), (7, vI k1), (6, vI f1), (5, vI L1), (0, .ref (vq v b)), (1, vI i1), (2, vI b1), (3, vI n1), (4, vI d1)] dX7_make_725 (by decide) rfl ?_
                  have lpV : ∀ (n : Nat) (v1 : Int) (ρ : Mem) , (40 - v1).toNat = n → (f1 ≤ v1 ∧ v1 ≤ e1 + 1) → ρ (b + 16) (40 * i1 + k1) + smR (fun w => if (shR (σ (b + 14)) (40 * i1)) w = 0 then (shR (σ (b + 4)) (40 * i1)) w else 0) v1 (e1 + 1) = smR (fun w => if (shR (σ (b + 14)) (40 * i1)) w = 0 then (shR (σ (b + 4)) (40 * i1)) w else 0) f1 (e1 + 1) → (0 ≤ ρ (b + 16) (40 * i1 + k1) ∧ ρ (b + 16) (40 * i1 + k1) ≤ 10000 * v1) → ρ (b + 15) (40 * i1 + k1) = e1 → ρ (b + 17) (40 * i1 + k1) = 0 → (∀ j : Int, j ≠ (40 * i1 + k1) → ρ (b + 15) j = τ (b + 15) j ∧ ρ (b + 16) j = τ (b + 16) j ∧ ρ (b + 17) j = τ (b + 17) j) → (∀ a : Nat, a ≠ b + 15 → a ≠ b + 16 → a ≠ b + 17 → ρ a = τ a) → At x v A Q 10 727 [(9, vI v1), (8, vI e1), (7, vI k1), (6, vI f1), (5, vI L1), (0, .ref (vq v b)), (1, vI i1), (2, vI b1), (3, vI n1), (4, vI d1)] [] ρ := by
                    intro n
                    induction n using Nat.strongRecOn with
                    | _ n ih =>
                      intro v1 ρ hn jv jS jb j15 j17 jX jF
                      refine a_iload C dX7_make_727 0 rfl ?_
                      refine a_iload C dX7_make_729 1 rfl ?_
                      refine a_icmp_gt C 786 (by omega) (by omega) dX7_make_731 (by decide) (fun c731 => ?_) (fun c731 => ?_)
                      · skip
                        refine a_sub [1, 2, 3, 4, 5, 6, 7, 8, 9] [(8, vI e1), (7, vI k1), (6, vI f1), (5, vI L1), (0, .ref (vq v b)), (1, vI i1), (2, vI b1), (3, vI n1), (4, vI d1)] rfl ?_
                        have hv1 : v1 = e1 + 1 := by omega
                        refine a_iload C dX7_make_786 0 rfl ?_
                        refine a_iconst C dX7_make_788 ?_
                        refine a_iadd C dX7_make_789 ?_
                        refine a_istore C [(6, vI (e1 + 1)), (8, vI e1), (7, vI k1), (5, vI L1), (0, .ref (vq v b)), (1, vI i1), (2, vI b1), (3, vI n1), (4, vI d1)] dX7_make_790 (by decide) rfl ?_
                        refine a_iinc C (k1 + 1) [(7, vI (k1 + 1)), (6, vI (e1 + 1)), (8, vI e1), (5, vI L1), (0, .ref (vq v b)), (1, vI i1), (2, vI b1), (3, vI n1), (4, vI d1)] dX7_make_792 2 rfl (by omega) (by decide) rfl ?_
                        refine a_goto C 577 dX7_make_795 (by decide) ?_
                        refine a_sub [0, 1, 3, 4, 5, 6, 7, 8] [(7, vI (k1 + 1)), (6, vI (e1 + 1)), (5, vI L1), (0, .ref (vq v b)), (1, vI i1), (2, vI b1), (3, vI n1), (4, vI d1)] rfl ?_
                        have pb9 : plB lv L1 b1.toNat ((k1 + 1).toNat) = e1 + 1 := by rw [show (k1 + 1).toNat = k1.toNat + 1 by omega, hpb]
                        refine ihK _ (by omega) (k1 + 1) (e1 + 1) ρ rfl (by omega) pb9.symm (fun j q1 q2 => ?_) (fun j q => ?_) (fun a q1 q2 q3 => by rw [jF a q1 q2 q3]; exact iF a q1 q2 q3)
                        · by_cases z : j = k1
                          · subst z
                            rw [j15, j17, show j.toNat + 1 = (j + 1).toNat by omega, pb9, ← jf]
                            refine ⟨by omega, ?_, rfl⟩
                            have h9 := jS
                            rw [smR_nil (show e1 + 1 ≤ v1 by omega)] at h9
                            omega
                          · have h9 := jX (40 * i1 + j) (by omega)
                            rw [h9.1, h9.2.1, h9.2.2]
                            exact jD j q1 (by omega)
                        · have h9 := jX j (by omega)
                          rw [h9.1, h9.2.1, h9.2.2]
                          exact jO j q
                      · skip
                        refine a_aload_n C dX7_make_734 5 rfl rfl ?_
                        refine a_getf C hM.f0 hM.n0 (Cn := RX7) (T := TX7) (N := 30) rfl iX7 18 (by decide) k61 (w := .ref (vq v (b + 16))) rfl dX7_make_735 ?_
                        refine a_bipush C dX7_make_738 ?_
                        refine a_iload_n C dX7_make_740 6 rfl rfl ?_
                        refine a_imul C dX7_make_741 ?_
                        refine a_iload C dX7_make_742 2 rfl ?_
                        refine a_iadd C dX7_make_744 ?_
                        refine a_dup2 C dX7_make_745 rfl rfl ?_
                        refine a_iald C hM.f16 hM.n16 0 hM.tI (by omega) (by omega) (by decide) dX7_make_746 (fun z746 e746 r746 => ?_)
                        have b746 := jb
                        rw [← e746] at b746
                        refine a_aload_n C dX7_make_747 5 rfl rfl ?_
                        refine a_getf C hM.f0 hM.n0 (Cn := RX7) (T := TX7) (N := 30) rfl iX7 16 (by decide) k54 (w := .ref (vq v (b + 14))) rfl dX7_make_748 ?_
                        refine a_bipush C dX7_make_751 ?_
                        refine a_iload_n C dX7_make_753 6 rfl rfl ?_
                        refine a_imul C dX7_make_754 ?_
                        refine a_iload C dX7_make_755 0 rfl ?_
                        refine a_iadd C dX7_make_757 ?_
                        refine a_zald C hM.f14 hM.n14 2 hM.tB (by omega) (by omega) (by decide) dX7_make_758 (fun z758 e758 r758 => ?_)
                        rw [jF (b + 14) (by omega) (by omega) (by omega), iF (b + 14) (by omega) (by omega) (by omega), shR_i (σ (b + 14)) (40 * i1) v1 _ rfl] at e758
                        refine a_if_eq C 766 r758 dX7_make_759 (by decide) (fun c759 => ?_) (fun c759 => ?_)
                        · skip
                          refine a_aload_n C dX7_make_766 5 rfl rfl ?_
                          refine a_getf C hM.f0 hM.n0 (Cn := RX7) (T := TX7) (N := 30) rfl iX7 6 (by decide) k24 (w := .ref (vq v (b + 4))) rfl dX7_make_767 ?_
                          refine a_bipush C dX7_make_770 ?_
                          refine a_iload_n C dX7_make_772 6 rfl rfl ?_
                          refine a_imul C dX7_make_773 ?_
                          refine a_iload C dX7_make_774 0 rfl ?_
                          refine a_iadd C dX7_make_776 ?_
                          refine a_iald C hM.f4 hM.n4 0 hM.tI (by omega) (by omega) (by decide) dX7_make_777 (fun z777 e777 r777 => ?_)
                          rw [jF (b + 4) (by omega) (by omega) (by omega), iF (b + 4) (by omega) (by omega) (by omega), shR_i (σ (b + 4)) (40 * i1) v1 _ rfl] at e777
                          have b777 := hT v1 (by omega) (by omega)
                          rw [← e777] at b777
                          refine a_iadd C dX7_make_778 ?_
                          refine a_iast C hM.f16 hM.n16 0 hM.tI (by omega) (by omega) (by decide) (by omega) dX7_make_779 ?_
                          refine a_iinc C (v1 + 1) [(9, vI (v1 + 1)), (8, vI e1), (7, vI k1), (6, vI f1), (5, vI L1), (0, .ref (vq v b)), (1, vI i1), (2, vI b1), (3, vI n1), (4, vI d1)] dX7_make_780 0 rfl (by omega) (by decide) rfl ?_
                          refine a_goto C 727 dX7_make_783 (by decide) ?_
                          refine ih _ (by omega) (v1 + 1) _ rfl (by omega) ?_ ?_ (by rw [sput_r (show b + 15 ≠ b + 16 by omega)]; exact j15) (by rw [sput_r (show b + 17 ≠ b + 16 by omega)]; exact j17) (fun j q => ?_) (fun a q1 q2 q3 => by rw [sput_r q2]; exact jF a q1 q2 q3)
                          · rw [sput_s, ← jS, smR_step (f := (fun w => if (shR (σ (b + 14)) (40 * i1)) w = 0 then (shR (σ (b + 4)) (40 * i1)) w else 0)) (a := v1) (by omega)]
                            try dsimp only
                            first | (rw [if_pos (by omega)]; omega) | (rw [if_neg (by omega)]; omega)
                          · rw [sput_s]; omega
                          · rw [sput_r (show b + 15 ≠ b + 16 by omega), sput_r (show b + 17 ≠ b + 16 by omega), sput_j _ _ _ _ _ q]; exact jX j q
                        · skip
                          refine a_iconst C dX7_make_762 ?_
                          refine a_goto C 778 dX7_make_763 (by decide) ?_
                          refine a_iadd C dX7_make_778 ?_
                          refine a_iast C hM.f16 hM.n16 0 hM.tI (by omega) (by omega) (by decide) (by omega) dX7_make_779 ?_
                          refine a_iinc C (v1 + 1) [(9, vI (v1 + 1)), (8, vI e1), (7, vI k1), (6, vI f1), (5, vI L1), (0, .ref (vq v b)), (1, vI i1), (2, vI b1), (3, vI n1), (4, vI d1)] dX7_make_780 0 rfl (by omega) (by decide) rfl ?_
                          refine a_goto C 727 dX7_make_783 (by decide) ?_
                          refine ih _ (by omega) (v1 + 1) _ rfl (by omega) ?_ ?_ (by rw [sput_r (show b + 15 ≠ b + 16 by omega)]; exact j15) (by rw [sput_r (show b + 17 ≠ b + 16 by omega)]; exact j17) (fun j q => ?_) (fun a q1 q2 q3 => by rw [sput_r q2]; exact jF a q1 q2 q3)
                          · rw [sput_s, ← jS, smR_step (f := (fun w => if (shR (σ (b + 14)) (40 * i1)) w = 0 then (shR (σ (b + 4)) (40 * i1)) w else 0)) (a := v1) (by omega)]
                            try dsimp only
                            first | (rw [if_pos (by omega)]; omega) | (rw [if_neg (by omega)]; omega)
                          · rw [sput_s]; omega
                          · rw [sput_r (show b + 15 ≠ b + 16 by omega), sput_r (show b + 17 ≠ b + 16 by omega), sput_j _ _ _ _ _ q]; exact jX j q
                  refine lpV _ f1 _ rfl (by omega) ?_ ?_ ?_ ?_ (fun j q => ?_) (fun a q1 q2 q3 => by rw [sput_r q3, sput_r q2, sput_r q1])
                  · rw [sput_r (show b + 16 ≠ b + 17 by omega), sput_s]; omega
                  · rw [sput_r (show b + 16 ≠ b + 17 by omega), sput_s]; omega
                  · rw [sput_r (show b + 15 ≠ b + 17 by omega), sput_r (show b + 15 ≠ b + 16 by omega), sput_s]
                  · rw [sput_s]
                  · rw [sput_r (show b + 15 ≠ b + 17 by omega), sput_r (show b + 15 ≠ b + 16 by omega), sput_j _ _ _ _ _ q, sput_r (show b + 16 ≠ b + 17 by omega), sput_j _ _ _ _ _ q, sput_r (show b + 16 ≠ b + 15 by omega), sput_j _ _ _ _ _ q, sput_r (show b + 17 ≠ b + 16 by omega), sput_r (show b + 17 ≠ b + 15 by omega)]; exact ⟨rfl, rfl, rfl⟩
                · skip
                  refine a_iinc C (e1 + 1) [(8, vI (e1 + 1)), (7, vI k1), (6, vI f1), (5, vI L1), (0, .ref (vq v b)), (1, vI i1), (2, vI b1), (3, vI n1), (4, vI d1)] dX7_make_677 0 rfl (by omega) (by decide) rfl ?_
                  refine a_goto C 587 dX7_make_680 (by decide) ?_
                  have ne9 : e1 ≠ FE := by
                    intro q
                    rw [← q] at g2 g4
                    rw [← e599] at g2
                    first | (omega) | (rw [← e622] at g4; omega) | (rw [← e622, ← e673] at g2; omega)
                  exact ih _ (by omega) (e1 + 1) rfl (by omega)
        exact lpE _ f1 rfl (by omega)
  refine a_iconst C dX7_make_571 ?_
  refine a_istore C [(6, vI 0), (5, vI L1), (0, .ref (vq v b)), (1, vI i1), (2, vI b1), (3, vI n1), (4, vI d1)] dX7_make_572 (by decide) rfl ?_
  refine a_iconst C dX7_make_574 ?_
  refine a_istore C [(7, vI 0), (6, vI 0), (5, vI L1), (0, .ref (vq v b)), (1, vI i1), (2, vI b1), (3, vI n1), (4, vI d1)] dX7_make_575 (by decide) rfl ?_
  exact lpK _ 0 0 σ rfl (by omega) rfl (fun j q1 q2 => by omega) (fun _ _ => ⟨rfl, rfl, rfl⟩) (fun _ _ _ _ => rfl)
