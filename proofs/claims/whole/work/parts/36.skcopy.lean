set_option maxHeartbeats 4000000 in
set_option maxRecDepth 100000 in
theorem c_X4_takeHeavy (l : Launch) (v : VC) (σ : Mem) (b : Nat) (hS : shSk v b) (o : Nat) (hO : shSk v o) (hbo : o + 5 < b ∨ b + 5 < o) (hn : 1 ≤ σ b 5 ∧ σ b 5 ≤ 24) (hC : ∀ k : Int, 0 ≤ k → k < σ b 5 → -4000000 ≤ σ (b + 2) k ∧ σ (b + 2) k ≤ 4000000) (hH : hcB σ b) (hHo : ∀ j : Int, 0 ≤ j → j < 40 → -200000 ≤ σ (o + 5) j ∧ σ (o + 5) j ≤ 200000) : CtV l yX4_takeHeavy wsX4_takeHeavy 1 22 v [.ref (vq v b), .ref (vq v o)] σ (fun u => (∀ k : Int, 0 ≤ k → k < σ b 5 → u (b + 2) k = σ (b + 2) k + smR (thF (σ (b + 4)) (σ (o + 4)) (σ (o + 5)) (σ (b + 1)) (σ b 5) k) 0 40) ∧ (∀ j : Int, 0 ≤ j → j < 40 → u (b + 5) j = (if  σ (b + 4) j ≠ 0 ∧ σ (o + 4) j ≠ 0 then σ (b + 5) j + σ (o + 5) j else σ (b + 5) j)) ∧ (∀ a : Nat, a ≠ b + 2 → a ≠ b + 5 → u a = σ a)) := by
  refine mkV (cc := cX4_takeHeavy) (n := 3) (by decide +kernel) rfl (Nat.le_of_ble_eq_true rfl) (fun x A Q hx C hret => ?_)
  subst hx
  show At x v A Q _ 0 [(0, .ref (vq v b)), (1, .ref (vq v o))] [] σ
  have iX4 : ∀ w ∈ wsX40, w ∈ wsX4_takeHeavy := by decide +kernel
  have k21 : Cond.fieldLink RX4 21 (TX4 3).1 (TX4 3).2.1 (TX4 3).2.2.1 ∈ wsX4_takeHeavy := by decide +kernel
  have k15 : Cond.fieldLink RX4 15 (TX4 1).1 (TX4 1).2.1 (TX4 1).2.2.1 ∈ wsX4_takeHeavy := by decide +kernel
  have k25 : Cond.fieldLink RX4 25 (TX4 4).1 (TX4 4).2.1 (TX4 4).2.2.1 ∈ wsX4_takeHeavy := by decide +kernel
  have hth : ∀ k w : Int, 0 ≤ w → w ≤ 40 → -8000000 ≤ smR (thF (σ (b + 4)) (σ (o + 4)) (σ (o + 5)) (σ (b + 1)) (σ b 5) k) 0 w ∧ smR (thF (σ (b + 4)) (σ (o + 4)) (σ (o + 5)) (σ (b + 1)) (σ b 5) k) 0 w ≤ 8000000 := by
    intro k w h0 h1
    have q := smR_bd (f := (thF (σ (b + 4)) (σ (o + 4)) (σ (o + 5)) (σ (b + 1)) (σ b 5) k)) (a := 0) (b := w) (lo := -200000) (hi := 200000) (fun j q1 q2 => by have := hHo j q1 (by omega); unfold thF; split <;> omega) h0
    omega
  have lp : ∀ (n : Nat) (w : Int) (τ : Mem) , (40 - w).toNat = n → 0 ≤ w → (w ≤ 40) → (∀ k : Int, 0 ≤ k → k < σ b 5 → τ (b + 2) k = σ (b + 2) k + smR (thF (σ (b + 4)) (σ (o + 4)) (σ (o + 5)) (σ (b + 1)) (σ b 5) k) 0 w) → (∀ j : Int, 0 ≤ j → j < 40 → τ (b + 5) j = (if j < w ∧ σ (b + 4) j ≠ 0 ∧ σ (o + 4) j ≠ 0 then σ (b + 5) j + σ (o + 5) j else σ (b + 5) j)) → (∀ a : Nat, a ≠ b + 2 → a ≠ b + 5 → τ a = σ a) → At x v A Q 3 2 [(2, vI w), (0, .ref (vq v b)), (1, .ref (vq v o))] [] τ := by
    intro n
    induction n using Nat.strongRecOn with
    | _ n ih =>
      intro w τ hn i1 i2 ic iH iF
      refine a_iload_n C dX4_takeHeavy_2 0 rfl rfl ?_
      refine a_bipush C dX4_takeHeavy_3 ?_
      refine a_icmp_ge C 78 (by omega) (by decide) dX4_takeHeavy_5 (by decide) (fun c5 => ?_) (fun c5 => ?_)
      · skip
        have hw40 : w = 40 := by omega
        subst hw40
        exact hret _ _ _ dX4_takeHeavy_78 ⟨fun k k0 k1 => ic k k0 k1, fun j j0 j1 => by rw [iH j j0 j1]; (by_cases q : σ (b + 4) j ≠ 0 ∧ σ (o + 4) j ≠ 0); (rw [if_pos ⟨j1, q⟩, if_pos q]); (rw [if_neg (fun z => q z.2), if_neg q]), iF⟩
      · skip
        refine a_aload_n C dX4_takeHeavy_8 2 rfl rfl ?_
        refine a_getf C hO.f0 hO.n0 (Cn := RX4) (T := TX4) (N := 7) rfl iX4 3 (by decide) k21 (w := .ref (vq v (o + 4))) rfl dX4_takeHeavy_9 ?_
        refine a_iload_n C dX4_takeHeavy_12 0 rfl rfl ?_
        refine a_zald C hO.f4 hO.n4 2 hO.tB (by omega) (by omega) (by decide) dX4_takeHeavy_13 (fun z13 e13 r13 => ?_)
        rw [iF (o + 4) (by omega) (by omega)] at e13
        refine a_if_eq C 44 r13 dX4_takeHeavy_14 (by decide) (fun c14 => ?_) (fun c14 => ?_)
        · skip
          refine a_aload_n C dX4_takeHeavy_44 2 rfl rfl ?_
          refine a_getf C hO.f0 hO.n0 (Cn := RX4) (T := TX4) (N := 7) rfl iX4 3 (by decide) k21 (w := .ref (vq v (o + 4))) rfl dX4_takeHeavy_45 ?_
          refine a_iload_n C dX4_takeHeavy_48 0 rfl rfl ?_
          refine a_zald C hO.f4 hO.n4 2 hO.tB (by omega) (by omega) (by decide) dX4_takeHeavy_49 (fun z49 e49 r49 => ?_)
          rw [iF (o + 4) (by omega) (by omega)] at e49
          refine a_if_eq C 72 r49 dX4_takeHeavy_50 (by decide) (fun c50 => ?_) (fun c50 => ?_)
          · skip
            refine a_iinc C (w + 1) [(2, vI (w + 1)), (0, .ref (vq v b)), (1, .ref (vq v o))] dX4_takeHeavy_72 0 rfl (by omega) (by decide) rfl ?_
            refine a_goto C 2 dX4_takeHeavy_75 (by decide) ?_
            refine ih _ (by omega) (w + 1) _ rfl (by omega) (by omega) ?_ ?_ ?_
            · intro k k0 k1
              rw [smR_last (by omega), ic k k0 k1, show thF (σ (b + 4)) (σ (o + 4)) (σ (o + 5)) (σ (b + 1)) (σ b 5) k w = 0 by unfold thF; rw [if_neg (by omega)]]
              omega
            · intro j j0 j1
              rw [iH j j0 j1]
              by_cases q : j < w ∧ σ (b + 4) j ≠ 0 ∧ σ (o + 4) j ≠ 0
              · rw [if_pos q, if_pos (by omega)]
              · rw [if_neg q, if_neg (by (by_cases hj : j = w); (subst hj; omega); omega)]
            · exact iF
          · skip
            refine a_aload_n C dX4_takeHeavy_53 1 rfl rfl ?_
            refine a_getf C hS.f0 hS.n0 (Cn := RX4) (T := TX4) (N := 7) rfl iX4 1 (by decide) k15 (w := .ref (vq v (b + 2))) rfl dX4_takeHeavy_54 ?_
            refine a_aload_n C dX4_takeHeavy_57 1 rfl rfl ?_
            refine a_iload_n C dX4_takeHeavy_58 0 rfl rfl ?_
            refine a_cVI C (k0 := 1) (As := [vI w]) (rest := [.ref (vq v (b + 2))]) (c_X4_spanOf x.2.1 v τ b hS w (by omega) (by rw [iF b (by omega) (by omega)]; omega)) gX4_takeHeavy_X4_spanOf rfl (by decide +kernel) (by decide) hS.f0 rfl hS.n0 rfl rfl (Nat.le_of_ble_eq_true rfl) dX4_takeHeavy_59 (fun z59 u59 r59 p59 => ?_)
            obtain ⟨e59, p59⟩ := p59
            subst u59
            rw [iF (b + 1) (by omega) (by omega), iF b (by omega) (by omega)] at e59
            have hb9 := spOf_bd (σ (b + 1)) (σ b 5) w
            refine a_dup2 C dX4_takeHeavy_62 rfl rfl ?_
            refine a_iald C hS.f2 hS.n2 0 hS.tI (by omega) (by omega) (by decide) dX4_takeHeavy_63 (fun z63 e63 r63 => ?_)
            have q63 := hC z59 (by omega) (by omega)
            have g63 := ic z59 (by omega) (by omega)
            have t63 := hth z59 w i1 (by omega)
            refine a_aload_n C dX4_takeHeavy_64 2 rfl rfl ?_
            refine a_getf C hO.f0 hO.n0 (Cn := RX4) (T := TX4) (N := 7) rfl iX4 4 (by decide) k25 (w := .ref (vq v (o + 5))) rfl dX4_takeHeavy_65 ?_
            refine a_iload_n C dX4_takeHeavy_68 0 rfl rfl ?_
            refine a_iald C hO.f5 hO.n5 0 hO.tI (by omega) (by omega) (by decide) dX4_takeHeavy_69 (fun z69 e69 r69 => ?_)
            rw [iF (o + 5) (by omega) (by omega)] at e69
            have q69 := hHo w i1 (by omega)
            refine a_iadd C dX4_takeHeavy_70 ?_
            refine a_iast C hS.f2 hS.n2 0 hS.tI (by omega) (by omega) (by decide) (by omega) dX4_takeHeavy_71 ?_
            refine a_iinc C (w + 1) [(2, vI (w + 1)), (0, .ref (vq v b)), (1, .ref (vq v o))] dX4_takeHeavy_72 0 rfl (by omega) (by decide) rfl ?_
            refine a_goto C 2 dX4_takeHeavy_75 (by decide) ?_
            refine ih _ (by omega) (w + 1) _ rfl (by omega) (by omega) ?_ ?_ ?_
            · intro k k0 k1
              rw [smR_last (by omega)]
              by_cases hj : k = z59
              · rw [hj, sput_s, e63, e69, ic z59 (by omega) (by omega), show thF (σ (b + 4)) (σ (o + 4)) (σ (o + 5)) (σ (b + 1)) (σ b 5) z59 w = σ (o + 5) w by unfold thF; rw [if_pos (by omega)]]
                omega
              · rw [sput_j _ _ _ _ _ hj, ic k k0 k1, show thF (σ (b + 4)) (σ (o + 4)) (σ (o + 5)) (σ (b + 1)) (σ b 5) k w = 0 by unfold thF; rw [if_neg (by omega)]]
                omega
            · intro j j0 j1
              rw [sput_r (by omega), iH j j0 j1]
              by_cases q : j < w ∧ σ (b + 4) j ≠ 0 ∧ σ (o + 4) j ≠ 0
              · rw [if_pos q, if_pos (by omega)]
              · rw [if_neg q, if_neg (by (by_cases hj : j = w); (subst hj; omega); omega)]
            · intro a q1 q2; rw [sput_r q1]; exact iF a q1 q2
        · skip
          refine a_aload_n C dX4_takeHeavy_17 1 rfl rfl ?_
          refine a_getf C hS.f0 hS.n0 (Cn := RX4) (T := TX4) (N := 7) rfl iX4 3 (by decide) k21 (w := .ref (vq v (b + 4))) rfl dX4_takeHeavy_18 ?_
          refine a_iload_n C dX4_takeHeavy_21 0 rfl rfl ?_
          refine a_zald C hS.f4 hS.n4 2 hS.tB (by omega) (by omega) (by decide) dX4_takeHeavy_22 (fun z22 e22 r22 => ?_)
          rw [iF (b + 4) (by omega) (by omega)] at e22
          refine a_if_eq C 44 r22 dX4_takeHeavy_23 (by decide) (fun c23 => ?_) (fun c23 => ?_)
          · skip
            refine a_aload_n C dX4_takeHeavy_44 2 rfl rfl ?_
            refine a_getf C hO.f0 hO.n0 (Cn := RX4) (T := TX4) (N := 7) rfl iX4 3 (by decide) k21 (w := .ref (vq v (o + 4))) rfl dX4_takeHeavy_45 ?_
            refine a_iload_n C dX4_takeHeavy_48 0 rfl rfl ?_
            refine a_zald C hO.f4 hO.n4 2 hO.tB (by omega) (by omega) (by decide) dX4_takeHeavy_49 (fun z49 e49 r49 => ?_)
            rw [iF (o + 4) (by omega) (by omega)] at e49
            refine a_if_eq C 72 r49 dX4_takeHeavy_50 (by decide) (fun c50 => ?_) (fun c50 => ?_)
            · skip
              refine a_iinc C (w + 1) [(2, vI (w + 1)), (0, .ref (vq v b)), (1, .ref (vq v o))] dX4_takeHeavy_72 0 rfl (by omega) (by decide) rfl ?_
              refine a_goto C 2 dX4_takeHeavy_75 (by decide) ?_
              refine ih _ (by omega) (w + 1) _ rfl (by omega) (by omega) ?_ ?_ ?_
              · intro k k0 k1
                rw [smR_last (by omega), ic k k0 k1, show thF (σ (b + 4)) (σ (o + 4)) (σ (o + 5)) (σ (b + 1)) (σ b 5) k w = 0 by unfold thF; rw [if_neg (by omega)]]
                omega
              · intro j j0 j1
                rw [iH j j0 j1]
                by_cases q : j < w ∧ σ (b + 4) j ≠ 0 ∧ σ (o + 4) j ≠ 0
                · rw [if_pos q, if_pos (by omega)]
                · rw [if_neg q, if_neg (by (by_cases hj : j = w); (subst hj; omega); omega)]
              · exact iF
            · skip
              refine a_aload_n C dX4_takeHeavy_53 1 rfl rfl ?_
              refine a_getf C hS.f0 hS.n0 (Cn := RX4) (T := TX4) (N := 7) rfl iX4 1 (by decide) k15 (w := .ref (vq v (b + 2))) rfl dX4_takeHeavy_54 ?_
              refine a_aload_n C dX4_takeHeavy_57 1 rfl rfl ?_
              refine a_iload_n C dX4_takeHeavy_58 0 rfl rfl ?_
              refine a_cVI C (k0 := 1) (As := [vI w]) (rest := [.ref (vq v (b + 2))]) (c_X4_spanOf x.2.1 v τ b hS w (by omega) (by rw [iF b (by omega) (by omega)]; omega)) gX4_takeHeavy_X4_spanOf rfl (by decide +kernel) (by decide) hS.f0 rfl hS.n0 rfl rfl (Nat.le_of_ble_eq_true rfl) dX4_takeHeavy_59 (fun z59 u59 r59 p59 => ?_)
              obtain ⟨e59, p59⟩ := p59
              subst u59
              rw [iF (b + 1) (by omega) (by omega), iF b (by omega) (by omega)] at e59
              have hb9 := spOf_bd (σ (b + 1)) (σ b 5) w
              refine a_dup2 C dX4_takeHeavy_62 rfl rfl ?_
              refine a_iald C hS.f2 hS.n2 0 hS.tI (by omega) (by omega) (by decide) dX4_takeHeavy_63 (fun z63 e63 r63 => ?_)
              have q63 := hC z59 (by omega) (by omega)
              have g63 := ic z59 (by omega) (by omega)
              have t63 := hth z59 w i1 (by omega)
              refine a_aload_n C dX4_takeHeavy_64 2 rfl rfl ?_
              refine a_getf C hO.f0 hO.n0 (Cn := RX4) (T := TX4) (N := 7) rfl iX4 4 (by decide) k25 (w := .ref (vq v (o + 5))) rfl dX4_takeHeavy_65 ?_
              refine a_iload_n C dX4_takeHeavy_68 0 rfl rfl ?_
              refine a_iald C hO.f5 hO.n5 0 hO.tI (by omega) (by omega) (by decide) dX4_takeHeavy_69 (fun z69 e69 r69 => ?_)
              rw [iF (o + 5) (by omega) (by omega)] at e69
              have q69 := hHo w i1 (by omega)
              refine a_iadd C dX4_takeHeavy_70 ?_
              refine a_iast C hS.f2 hS.n2 0 hS.tI (by omega) (by omega) (by decide) (by omega) dX4_takeHeavy_71 ?_
              refine a_iinc C (w + 1) [(2, vI (w + 1)), (0, .ref (vq v b)), (1, .ref (vq v o))] dX4_takeHeavy_72 0 rfl (by omega) (by decide) rfl ?_
              refine a_goto C 2 dX4_takeHeavy_75 (by decide) ?_
              refine ih _ (by omega) (w + 1) _ rfl (by omega) (by omega) ?_ ?_ ?_
              · intro k k0 k1
                rw [smR_last (by omega)]
                by_cases hj : k = z59
                · rw [hj, sput_s, e63, e69, ic z59 (by omega) (by omega), show thF (σ (b + 4)) (σ (o + 4)) (σ (o + 5)) (σ (b + 1)) (σ b 5) z59 w = σ (o + 5) w by unfold thF; rw [if_pos (by omega)]]
                  omega
                · rw [sput_j _ _ _ _ _ hj, ic k k0 k1, show thF (σ (b + 4)) (σ (o + 4)) (σ (o + 5)) (σ (b + 1)) (σ b 5) k w = 0 by unfold thF; rw [if_neg (by omega)]]
                  omega
              · intro j j0 j1
                rw [sput_r (by omega), iH j j0 j1]
                by_cases q : j < w ∧ σ (b + 4) j ≠ 0 ∧ σ (o + 4) j ≠ 0
                · rw [if_pos q, if_pos (by omega)]
                · rw [if_neg q, if_neg (by (by_cases hj : j = w); (subst hj; omega); omega)]
              · intro a q1 q2; rw [sput_r q1]; exact iF a q1 q2
          · skip
            refine a_aload_n C dX4_takeHeavy_26 1 rfl rfl ?_
            refine a_getf C hS.f0 hS.n0 (Cn := RX4) (T := TX4) (N := 7) rfl iX4 4 (by decide) k25 (w := .ref (vq v (b + 5))) rfl dX4_takeHeavy_27 ?_
            refine a_iload_n C dX4_takeHeavy_30 0 rfl rfl ?_
            refine a_dup2 C dX4_takeHeavy_31 rfl rfl ?_
            refine a_iald C hS.f5 hS.n5 0 hS.tI (by omega) (by omega) (by decide) dX4_takeHeavy_32 (fun z32 e32 r32 => ?_)
            have q32 := hH w i1 (by omega)
            have g32 := iH w i1 (by omega)
            rw [if_neg (by omega)] at g32
            refine a_aload_n C dX4_takeHeavy_33 2 rfl rfl ?_
            refine a_getf C hO.f0 hO.n0 (Cn := RX4) (T := TX4) (N := 7) rfl iX4 4 (by decide) k25 (w := .ref (vq v (o + 5))) rfl dX4_takeHeavy_34 ?_
            refine a_iload_n C dX4_takeHeavy_37 0 rfl rfl ?_
            refine a_iald C hO.f5 hO.n5 0 hO.tI (by omega) (by omega) (by decide) dX4_takeHeavy_38 (fun z38 e38 r38 => ?_)
            rw [iF (o + 5) (by omega) (by omega)] at e38
            have q38 := hHo w i1 (by omega)
            refine a_iadd C dX4_takeHeavy_39 ?_
            refine a_iast C hS.f5 hS.n5 0 hS.tI (by omega) (by omega) (by decide) (by omega) dX4_takeHeavy_40 ?_
            refine a_goto C 72 dX4_takeHeavy_41 (by decide) ?_
            refine a_iinc C (w + 1) [(2, vI (w + 1)), (0, .ref (vq v b)), (1, .ref (vq v o))] dX4_takeHeavy_72 0 rfl (by omega) (by decide) rfl ?_
            refine a_goto C 2 dX4_takeHeavy_75 (by decide) ?_
            refine ih _ (by omega) (w + 1) _ rfl (by omega) (by omega) ?_ ?_ ?_
            · intro k k0 k1
              rw [sput_r (by omega), smR_last (by omega), ic k k0 k1, show thF (σ (b + 4)) (σ (o + 4)) (σ (o + 5)) (σ (b + 1)) (σ b 5) k w = 0 by unfold thF; rw [if_neg (by omega)]]
              omega
            · intro j j0 j1
              by_cases hj : j = w
              · subst hj
                rw [sput_s, if_pos (by omega), e32, e38, iH j j0 j1, if_neg (by omega)]
              · rw [sput_j _ _ _ _ _ hj, iH j j0 j1]
                by_cases q : j < w ∧ σ (b + 4) j ≠ 0 ∧ σ (o + 4) j ≠ 0
                · rw [if_pos q, if_pos (by omega)]
                · rw [if_neg q, if_neg (by omega)]
            · intro a q1 q2; rw [sput_r q2]; exact iF a q1 q2
  refine a_iconst C dX4_takeHeavy_0 ?_
  refine a_istore_n C 2 [(2, vI 0), (0, .ref (vq v b)), (1, .ref (vq v o))] dX4_takeHeavy_1 rfl (by decide) rfl ?_
  exact lp _ 0 σ rfl (by omega) (by omega) (fun k _ _ => by rw [smR_nil (by omega)]; omega) (fun j q1 _ => by rw [if_neg (by omega)]) (fun _ _ _ => rfl)
set_option maxHeartbeats 4000000 in
set_option maxRecDepth 100000 in
theorem c_X4_copyOf (l : Launch) (v : VC) (σ : Mem) (b : Nat) (hS : shSk v b) (o : Nat) (hO : shSk v o) (hbo : o + 5 < b ∨ b + 5 < o) (hb4 : hvB σ o) : CtV l yX4_copyOf wsX4_copyOf 1 26 v [.ref (vq v b), .ref (vq v o)] σ (fun u => u b 5 = σ o 5 ∧ u b 6 = σ o 6 ∧ (∀ j : Int, 0 ≤ j → j < 24 → u (b + 1) j = σ (o + 1) j) ∧ (∀ j : Int, 0 ≤ j → j < 24 → u (b + 2) j = σ (o + 2) j) ∧ (∀ j : Int, 0 ≤ j → j < 24 → u (b + 3) j = σ (o + 3) j) ∧ (∀ j : Int, 0 ≤ j → j < 40 → u (b + 4) j = σ (o + 4) j) ∧ (∀ j : Int, 0 ≤ j → j < 40 → u (b + 5) j = σ (o + 5) j) ∧ (∀ a : Nat, a ≠ b → a ≠ b + 1 → a ≠ b + 2 → a ≠ b + 3 → a ≠ b + 4 → a ≠ b + 5 → u a = σ a)) := by
  refine mkV (cc := cX4_copyOf) (n := 3) (by decide +kernel) rfl (Nat.le_of_ble_eq_true rfl) (fun x A Q hx C hret => ?_)
  subst hx
  show At x v A Q _ 0 [(0, .ref (vq v b)), (1, .ref (vq v o))] [] σ
  have iX4 : ∀ w ∈ wsX40, w ∈ wsX4_copyOf := by decide +kernel
  have k21 : Cond.fieldLink RX4 21 (TX4 3).1 (TX4 3).2.1 (TX4 3).2.2.1 ∈ wsX4_copyOf := by decide +kernel
  have k28 : Cond.fieldLink RX4 28 (TX4 5).1 (TX4 5).2.1 (TX4 5).2.2.1 ∈ wsX4_copyOf := by decide +kernel
  have k36 : Cond.fieldLink RX4 36 (TX4 6).1 (TX4 6).2.1 (TX4 6).2.2.1 ∈ wsX4_copyOf := by decide +kernel
  have k9 : Cond.fieldLink RX4 9 (TX4 0).1 (TX4 0).2.1 (TX4 0).2.2.1 ∈ wsX4_copyOf := by decide +kernel
  have k15 : Cond.fieldLink RX4 15 (TX4 1).1 (TX4 1).2.1 (TX4 1).2.2.1 ∈ wsX4_copyOf := by decide +kernel
  have k18 : Cond.fieldLink RX4 18 (TX4 2).1 (TX4 2).2.1 (TX4 2).2.2.1 ∈ wsX4_copyOf := by decide +kernel
  have k25 : Cond.fieldLink RX4 25 (TX4 4).1 (TX4 4).2.1 (TX4 4).2.2.1 ∈ wsX4_copyOf := by decide +kernel
  have lp : ∀ μ : Mem, μ = mset (mset (mset (mset (sput (sput σ b 5 (σ o 5)) b 6 (σ o 6)) (b + 1) (mcpy (σ (o + 1)) (σ (b + 1)) 0 0 24)) (b + 2) (mcpy (σ (o + 2)) (σ (b + 2)) 0 0 24)) (b + 3) (mcpy (σ (o + 3)) (σ (b + 3)) 0 0 24)) (b + 5) (mcpy (σ (o + 5)) (σ (b + 5)) 0 0 40) → (∀ j : Int, 0 ≤ j → j < 40 → μ (o + 4) j = 0 ∨ μ (o + 4) j = 1) → At x v A Q 3 78 [(2, vI 0), (0, .ref (vq v b)), (1, .ref (vq v o))] [] μ := by
    intro μ hμ hz
    have lp0 : ∀ (n : Nat) (w : Int) (τ : Mem) , (40 - w).toNat = n → 0 ≤ w → (w ≤ 40) → (∀ j : Int, 0 ≤ j → j < w → τ (b + 4) j = μ (o + 4) j) → (∀ a : Nat, a ≠ b + 4 → τ a = μ a) → At x v A Q 3 78 [(2, vI w), (0, .ref (vq v b)), (1, .ref (vq v o))] [] τ := by
      intro n
      induction n using Nat.strongRecOn with
      | _ n ih =>
        intro w τ hn i1 i2 ic iF
        refine a_iload_n C dX4_copyOf_78 0 rfl rfl ?_
        refine a_bipush C dX4_copyOf_79 ?_
        refine a_icmp_ge C 102 (by omega) (by decide) dX4_copyOf_81 (by decide) (fun c81 => ?_) (fun c81 => ?_)
        · skip
          have hw40 : w = 40 := by omega
          subst hw40
          refine hret _ _ _ dX4_copyOf_102 ⟨?_, ?_, ?_, ?_, ?_, ?_, ?_, ?_⟩
          · rw [iF b (by omega), hμ]; rw [mset_n _ _ _ _ (show b ≠ b + 5 by omega), mset_n _ _ _ _ (show b ≠ b + 3 by omega), mset_n _ _ _ _ (show b ≠ b + 2 by omega), mset_n _ _ _ _ (show b ≠ b + 1 by omega)]; simp [sput]
          · rw [iF b (by omega), hμ]; rw [mset_n _ _ _ _ (show b ≠ b + 5 by omega), mset_n _ _ _ _ (show b ≠ b + 3 by omega), mset_n _ _ _ _ (show b ≠ b + 2 by omega), mset_n _ _ _ _ (show b ≠ b + 1 by omega)]; simp [sput]
          · intro j j0 j1
            rw [iF (b + 1) (by omega), hμ]; rw [mset_n _ _ _ _ (show b + 1 ≠ b + 5 by omega), mset_n _ _ _ _ (show b + 1 ≠ b + 3 by omega), mset_n _ _ _ _ (show b + 1 ≠ b + 2 by omega)]
            rw [mset_s, mcpy_app, if_pos (by omega)]
            congr 1; omega
          · intro j j0 j1
            rw [iF (b + 2) (by omega), hμ]; rw [mset_n _ _ _ _ (show b + 2 ≠ b + 5 by omega), mset_n _ _ _ _ (show b + 2 ≠ b + 3 by omega)]
            rw [mset_s, mcpy_app, if_pos (by omega)]
            congr 1; omega
          · intro j j0 j1
            rw [iF (b + 3) (by omega), hμ]; rw [mset_n _ _ _ _ (show b + 3 ≠ b + 5 by omega)]
            rw [mset_s, mcpy_app, if_pos (by omega)]
            congr 1; omega
          · intro j j0 j1; rw [ic j j0 j1, hμ]; rw [mset_n _ _ _ _ (show o + 4 ≠ b + 5 by omega), mset_n _ _ _ _ (show o + 4 ≠ b + 3 by omega), mset_n _ _ _ _ (show o + 4 ≠ b + 2 by omega), mset_n _ _ _ _ (show o + 4 ≠ b + 1 by omega), sput_r (show o + 4 ≠ b by omega), sput_r (show o + 4 ≠ b by omega)]
          · intro j j0 j1
            rw [iF (b + 5) (by omega), hμ]
            rw [mset_s, mcpy_app, if_pos (by omega)]
            congr 1; omega
          · intro a q0 q1 q2 q3 q4 q5
            rw [iF a q4, hμ, mset_n _ _ _ _ q5, mset_n _ _ _ _ q3, mset_n _ _ _ _ q2, mset_n _ _ _ _ q1, sput_r q0, sput_r q0]
        · skip
          refine a_aload_n C dX4_copyOf_84 1 rfl rfl ?_
          refine a_getf C hS.f0 hS.n0 (Cn := RX4) (T := TX4) (N := 7) rfl iX4 3 (by decide) k21 (w := .ref (vq v (b + 4))) rfl dX4_copyOf_85 ?_
          refine a_iload_n C dX4_copyOf_88 0 rfl rfl ?_
          refine a_aload_n C dX4_copyOf_89 2 rfl rfl ?_
          refine a_getf C hO.f0 hO.n0 (Cn := RX4) (T := TX4) (N := 7) rfl iX4 3 (by decide) k21 (w := .ref (vq v (o + 4))) rfl dX4_copyOf_90 ?_
          refine a_iload_n C dX4_copyOf_93 0 rfl rfl ?_
          refine a_zald C hO.f4 hO.n4 2 hO.tB (by omega) (by omega) (by decide) dX4_copyOf_94 (fun z94 e94 r94 => ?_)
          have q94 := hz w i1 (by omega)
          rw [← iF (o + 4) (by omega)] at q94
          refine a_zast C hS.f4 hS.n4 2 hS.tB (by omega) (by omega) (by decide) (by omega) dX4_copyOf_95 ?_
          refine a_iinc C (w + 1) [(2, vI (w + 1)), (0, .ref (vq v b)), (1, .ref (vq v o))] dX4_copyOf_96 0 rfl (by omega) (by decide) rfl ?_
          refine a_goto C 78 dX4_copyOf_99 (by decide) ?_
          refine ih _ (by omega) (w + 1) _ rfl (by omega) (by omega) ?_ ?_
          · intro j j0 j1
            by_cases hj : j = w
            · subst hj; rw [sput_s, e94, iF (o + 4) (by omega)]
            · rw [sput_j _ _ _ _ _ hj]; exact ic j j0 (by omega)
          · intro a q1; rw [sput_r q1]; exact iF a q1
    exact lp0 _ 0 μ rfl (by omega) (by omega) (fun j q1 q2 => by omega) (fun _ _ => rfl)
  refine a_aload_n C dX4_copyOf_0 0 rfl rfl ?_
  refine a_aload_n C dX4_copyOf_1 1 rfl rfl ?_
  refine a_geti C hO.f0 hO.n0 (Cn := RX4) (T := TX4) (N := 7) rfl iX4 5 (by decide) k28 5 (by decide) rfl dX4_copyOf_2 (fun z2 e2 r2 => ?_)
  refine a_puti C hS.f0 hS.n0 (Cn := RX4) (T := TX4) (N := 7) rfl iX4 tyX4_ok nmX4 5 (by decide) k28 rfl rfl 5 r2 (fun _ => Nat.le_of_ble_eq_true rfl) (fun _ => rfl) dX4_copyOf_5 ?_
  refine a_aload_n C dX4_copyOf_8 0 rfl rfl ?_
  refine a_aload_n C dX4_copyOf_9 1 rfl rfl ?_
  refine a_geti C hO.f0 hO.n0 (Cn := RX4) (T := TX4) (N := 7) rfl iX4 6 (by decide) k36 6 (by decide) rfl dX4_copyOf_10 (fun z10 e10 r10 => ?_)
  try simp [sput_r, mset_n, sput, mset] at e10
  refine a_puti C hS.f0 hS.n0 (Cn := RX4) (T := TX4) (N := 7) rfl iX4 tyX4_ok nmX4 6 (by decide) k36 rfl rfl 6 r10 (fun _ => Nat.le_of_ble_eq_true rfl) (fun _ => rfl) dX4_copyOf_13 ?_
  refine a_aload_n C dX4_copyOf_16 1 rfl rfl ?_
  refine a_getf C hO.f0 hO.n0 (Cn := RX4) (T := TX4) (N := 7) rfl iX4 0 (by decide) k9 (w := .ref (vq v (o + 1))) rfl dX4_copyOf_17 ?_
  refine a_iconst C dX4_copyOf_20 ?_
  refine a_aload_n C dX4_copyOf_21 0 rfl rfl ?_
  refine a_getf C hS.f0 hS.n0 (Cn := RX4) (T := TX4) (N := 7) rfl iX4 0 (by decide) k9 (w := .ref (vq v (b + 1))) rfl dX4_copyOf_22 ?_
  refine a_iconst C dX4_copyOf_25 ?_
  refine a_bipush C dX4_copyOf_26 ?_
  refine a_copyi C hO.f1 hS.f1 hO.n1 hS.n1 0 hO.tI hS.tI (by omega) (by omega) (by omega) (by omega) (by omega) (by decide) (by decide) (by decide +kernel) ⟨by decide, Nat.le_of_ble_eq_true rfl⟩ dX4_copyOf_28 ?_
  rw [sput_r (show o + 1 ≠ b by omega), sput_r (show o + 1 ≠ b by omega), sput_r (show b + 1 ≠ b by omega), sput_r (show b + 1 ≠ b by omega)]
  refine a_aload_n C dX4_copyOf_31 1 rfl rfl ?_
  refine a_getf C hO.f0 hO.n0 (Cn := RX4) (T := TX4) (N := 7) rfl iX4 1 (by decide) k15 (w := .ref (vq v (o + 2))) rfl dX4_copyOf_32 ?_
  refine a_iconst C dX4_copyOf_35 ?_
  refine a_aload_n C dX4_copyOf_36 0 rfl rfl ?_
  refine a_getf C hS.f0 hS.n0 (Cn := RX4) (T := TX4) (N := 7) rfl iX4 1 (by decide) k15 (w := .ref (vq v (b + 2))) rfl dX4_copyOf_37 ?_
  refine a_iconst C dX4_copyOf_40 ?_
  refine a_bipush C dX4_copyOf_41 ?_
  refine a_copyi C hO.f2 hS.f2 hO.n2 hS.n2 0 hO.tI hS.tI (by omega) (by omega) (by omega) (by omega) (by omega) (by decide) (by decide) (by decide +kernel) ⟨by decide, Nat.le_of_ble_eq_true rfl⟩ dX4_copyOf_43 ?_
  rw [mset_n _ _ _ _ (show o + 2 ≠ b + 1 by omega), sput_r (show o + 2 ≠ b by omega), sput_r (show o + 2 ≠ b by omega), mset_n _ _ _ _ (show b + 2 ≠ b + 1 by omega), sput_r (show b + 2 ≠ b by omega), sput_r (show b + 2 ≠ b by omega)]
  refine a_aload_n C dX4_copyOf_46 1 rfl rfl ?_
  refine a_getf C hO.f0 hO.n0 (Cn := RX4) (T := TX4) (N := 7) rfl iX4 2 (by decide) k18 (w := .ref (vq v (o + 3))) rfl dX4_copyOf_47 ?_
  refine a_iconst C dX4_copyOf_50 ?_
  refine a_aload_n C dX4_copyOf_51 0 rfl rfl ?_
  refine a_getf C hS.f0 hS.n0 (Cn := RX4) (T := TX4) (N := 7) rfl iX4 2 (by decide) k18 (w := .ref (vq v (b + 3))) rfl dX4_copyOf_52 ?_
  refine a_iconst C dX4_copyOf_55 ?_
  refine a_bipush C dX4_copyOf_56 ?_
  refine a_copyi C hO.f3 hS.f3 hO.n3 hS.n3 0 hO.tI hS.tI (by omega) (by omega) (by omega) (by omega) (by omega) (by decide) (by decide) (by decide +kernel) ⟨by decide, Nat.le_of_ble_eq_true rfl⟩ dX4_copyOf_58 ?_
  rw [mset_n _ _ _ _ (show o + 3 ≠ b + 2 by omega), mset_n _ _ _ _ (show o + 3 ≠ b + 1 by omega), sput_r (show o + 3 ≠ b by omega), sput_r (show o + 3 ≠ b by omega), mset_n _ _ _ _ (show b + 3 ≠ b + 2 by omega), mset_n _ _ _ _ (show b + 3 ≠ b + 1 by omega), sput_r (show b + 3 ≠ b by omega), sput_r (show b + 3 ≠ b by omega)]
  refine a_aload_n C dX4_copyOf_61 1 rfl rfl ?_
  refine a_getf C hO.f0 hO.n0 (Cn := RX4) (T := TX4) (N := 7) rfl iX4 4 (by decide) k25 (w := .ref (vq v (o + 5))) rfl dX4_copyOf_62 ?_
  refine a_iconst C dX4_copyOf_65 ?_
  refine a_aload_n C dX4_copyOf_66 0 rfl rfl ?_
  refine a_getf C hS.f0 hS.n0 (Cn := RX4) (T := TX4) (N := 7) rfl iX4 4 (by decide) k25 (w := .ref (vq v (b + 5))) rfl dX4_copyOf_67 ?_
  refine a_iconst C dX4_copyOf_70 ?_
  refine a_bipush C dX4_copyOf_71 ?_
  refine a_copyi C hO.f5 hS.f5 hO.n5 hS.n5 0 hO.tI hS.tI (by omega) (by omega) (by omega) (by omega) (by omega) (by decide) (by decide) (by decide +kernel) ⟨by decide, Nat.le_of_ble_eq_true rfl⟩ dX4_copyOf_73 ?_
  rw [mset_n _ _ _ _ (show o + 5 ≠ b + 3 by omega), mset_n _ _ _ _ (show o + 5 ≠ b + 2 by omega), mset_n _ _ _ _ (show o + 5 ≠ b + 1 by omega), sput_r (show o + 5 ≠ b by omega), sput_r (show o + 5 ≠ b by omega), mset_n _ _ _ _ (show b + 5 ≠ b + 3 by omega), mset_n _ _ _ _ (show b + 5 ≠ b + 2 by omega), mset_n _ _ _ _ (show b + 5 ≠ b + 1 by omega), sput_r (show b + 5 ≠ b by omega), sput_r (show b + 5 ≠ b by omega)]
  refine a_iconst C dX4_copyOf_76 ?_
  refine a_istore_n C 2 [(2, vI 0), (0, .ref (vq v b)), (1, .ref (vq v o))] dX4_copyOf_77 rfl (by decide) rfl ?_
  exact lp _ (by rw [e2, e10]) (fun j q1 q2 => by rw [mset_n _ _ _ _ (show o + 4 ≠ b + 5 by omega), mset_n _ _ _ _ (show o + 4 ≠ b + 3 by omega), mset_n _ _ _ _ (show o + 4 ≠ b + 2 by omega), mset_n _ _ _ _ (show o + 4 ≠ b + 1 by omega), sput_r (show o + 4 ≠ b by omega), sput_r (show o + 4 ≠ b by omega)]; exact hb4 j q1 q2)
