set_option maxHeartbeats 4000000 in
set_option maxRecDepth 100000 in
theorem c_X4_isThere (l : Launch) (v : VC) (σ : Mem) (b : Nat) (hS : shSk v b)  : CtI l yX4_isThere wsX4_isThere 0 0 v [.ref (vq v b)] σ (fun z u => z = (if 0 < σ b 5 then 1 else 0) ∧ u = σ) := by
  refine mkZ (cc := cX4_isThere) (n := 1) (by decide +kernel) rfl (Nat.le_of_ble_eq_true rfl) (fun x A Q hx C hret => ?_)
  subst hx
  show At x v A Q _ 0 [(0, .ref (vq v b))] [] σ
  have iX4 : ∀ w ∈ wsX40, w ∈ wsX4_isThere := by decide +kernel
  have k28 : Cond.fieldLink RX4 28 (TX4 5).1 (TX4 5).2.1 (TX4 5).2.2.1 ∈ wsX4_isThere := by decide +kernel
  refine a_aload_n C dX4_isThere_0 0 rfl rfl ?_
  refine a_geti C hS.f0 hS.n0 (Cn := RX4) (T := TX4) (N := 7) rfl iX4 5 (by decide) k28 5 (by decide) rfl dX4_isThere_1 (fun z1 e1 r1 => ?_)
  refine a_if_le C 11 r1 dX4_isThere_4 (by decide) (fun c4 => ?_) (fun c4 => ?_)
  · skip
    refine a_iconst C dX4_isThere_11 ?_
    exact hret _ _ _ _ dX4_isThere_12 (by decide) ⟨by simp only [e1] at c4; split <;> omega, rfl⟩
  · skip
    refine a_iconst C dX4_isThere_7 ?_
    refine a_goto C 12 dX4_isThere_8 (by decide) ?_
    exact hret _ _ _ _ dX4_isThere_12 (by decide) ⟨by simp only [e1] at c4; split <;> omega, rfl⟩
set_option maxHeartbeats 4000000 in
set_option maxRecDepth 100000 in
theorem c_X4_spanOf (l : Launch) (v : VC) (σ : Mem) (b : Nat) (hS : shSk v b) (val : Int) (hv : rg val) (hn : 0 ≤ σ b 5 ∧ σ b 5 ≤ 24) : CtI l yX4_spanOf wsX4_spanOf 0 0 v [.ref (vq v b), vI val] σ (fun z u => z = spOf (σ (b + 1)) (σ b 5) val ∧ u = σ) := by
  refine mkI (cc := cX4_spanOf) (n := 3) (by decide +kernel) rfl (Nat.le_of_ble_eq_true rfl) (fun x A Q hx C hret => ?_)
  subst hx
  show At x v A Q _ 0 [(0, .ref (vq v b)), (1, vI val)] [] σ
  have iX4 : ∀ w ∈ wsX40, w ∈ wsX4_spanOf := by decide +kernel
  have k28 : Cond.fieldLink RX4 28 (TX4 5).1 (TX4 5).2.1 (TX4 5).2.2.1 ∈ wsX4_spanOf := by decide +kernel
  have k9 : Cond.fieldLink RX4 9 (TX4 0).1 (TX4 0).2.1 (TX4 0).2.2.1 ∈ wsX4_spanOf := by decide +kernel
  have lp : ∀ (n : Nat) (k : Int) , (24 - k).toNat = n → 0 ≤ k → k ≤ max (σ b 5 - 1) 0 → (∀ j : Int, 0 ≤ j → j < k → σ (b + 1) j < val) → At x v A Q 3 2 [(2, vI k), (0, .ref (vq v b)), (1, vI val)] [] σ := by
    intro n
    induction n using Nat.strongRecOn with
    | _ n ih =>
      intro k hn i1 i2 i3
      refine a_iload_n C dX4_spanOf_2 0 rfl rfl ?_
      refine a_aload_n C dX4_spanOf_3 1 rfl rfl ?_
      refine a_geti C hS.f0 hS.n0 (Cn := RX4) (T := TX4) (N := 7) rfl iX4 5 (by decide) k28 5 (by decide) rfl dX4_spanOf_4 (fun z4 e4 r4 => ?_)
      refine a_iconst C dX4_spanOf_7 ?_
      refine a_isub C dX4_spanOf_8 ?_
      refine a_icmp_ge C 28 (by omega) (by omega) dX4_spanOf_9 (by decide) (fun c9 => ?_) (fun c9 => ?_)
      · skip
        refine a_iload_n C dX4_spanOf_28 0 rfl rfl ?_
        exact hret _ _ _ _ dX4_spanOf_29 (by omega) ⟨fnd_uniq _ _ _ _ (by omega) (by omega) (fun j q1 q2 => by simp only [decide_eq_false_iff_not]; have := i3 j q1 q2; omega) (fun q => by simp only [decide_eq_true_eq]; omega), rfl⟩
      · skip
        refine a_aload_n C dX4_spanOf_12 1 rfl rfl ?_
        refine a_getf C hS.f0 hS.n0 (Cn := RX4) (T := TX4) (N := 7) rfl iX4 0 (by decide) k9 (w := .ref (vq v (b + 1))) rfl dX4_spanOf_13 ?_
        refine a_iload_n C dX4_spanOf_16 0 rfl rfl ?_
        refine a_iald C hS.f1 hS.n1 0 hS.tI (by omega) (by omega) (by decide) dX4_spanOf_17 (fun z17 e17 r17 => ?_)
        refine a_iload_n C dX4_spanOf_18 2 rfl rfl ?_
        refine a_icmp_ge C 28 r17 (by omega) dX4_spanOf_19 (by decide) (fun c19 => ?_) (fun c19 => ?_)
        · skip
          refine a_iload_n C dX4_spanOf_28 0 rfl rfl ?_
          exact hret _ _ _ _ dX4_spanOf_29 (by omega) ⟨fnd_uniq _ _ _ _ (by omega) (by omega) (fun j q1 q2 => by simp only [decide_eq_false_iff_not]; have := i3 j q1 q2; omega) (fun q => by simp only [decide_eq_true_eq]; omega), rfl⟩
        · skip
          refine a_iinc C (k + 1) [(2, vI (k + 1)), (0, .ref (vq v b)), (1, vI val)] dX4_spanOf_22 0 rfl (by omega) (by decide) rfl ?_
          refine a_goto C 2 dX4_spanOf_25 (by decide) ?_
          exact ih _ (by omega) (k + 1) rfl (by omega) (by omega) (fun j q1 q2 => by by_cases hj : j = k; (subst hj; omega); exact i3 j q1 (by omega))
  refine a_iconst C dX4_spanOf_0 ?_
  refine a_istore_n C 2 [(2, vI 0), (0, .ref (vq v b)), (1, vI val)] dX4_spanOf_1 rfl (by decide) rfl ?_
  exact lp _ 0 rfl (by omega) (by omega) (fun j q1 q2 => by omega)
set_option maxHeartbeats 4000000 in
set_option maxRecDepth 100000 in
theorem c_X4_endsAt (l : Launch) (v : VC) (σ : Mem) (b : Nat) (hS : shSk v b) (val : Int) (hv : rg val) (hW : skW σ b ∧ 0 < σ b 5) : CtI l yX4_endsAt wsX4_endsAt 1 22 v [.ref (vq v b), vI val] σ (fun z u => z = (if σ (b + 1) (spOf (σ (b + 1)) (σ b 5) val) = val then 1 else 0) ∧ u = σ) := by
  refine mkZ (cc := cX4_endsAt) (n := 2) (by decide +kernel) rfl (Nat.le_of_ble_eq_true rfl) (fun x A Q hx C hret => ?_)
  subst hx
  show At x v A Q _ 0 [(0, .ref (vq v b)), (1, vI val)] [] σ
  have iX4 : ∀ w ∈ wsX40, w ∈ wsX4_endsAt := by decide +kernel
  have k9 : Cond.fieldLink RX4 9 (TX4 0).1 (TX4 0).2.1 (TX4 0).2.2.1 ∈ wsX4_endsAt := by decide +kernel
  have hw1 := hW.1.1
  have hw2 := hW.1.2.1
  have hw3 := hW.2
  refine a_aload_n C dX4_endsAt_0 0 rfl rfl ?_
  refine a_getf C hS.f0 hS.n0 (Cn := RX4) (T := TX4) (N := 7) rfl iX4 0 (by decide) k9 (w := .ref (vq v (b + 1))) rfl dX4_endsAt_1 ?_
  refine a_aload_n C dX4_endsAt_4 0 rfl rfl ?_
  refine a_iload_n C dX4_endsAt_5 1 rfl rfl ?_
  refine a_cVI C (k0 := 1) (As := [vI val]) (rest := [.ref (vq v (b + 1))]) (c_X4_spanOf x.2.1 v σ b hS val hv ⟨hW.1.1, hW.1.2.1⟩) gX4_endsAt_X4_spanOf rfl (by decide +kernel) (by decide) hS.f0 rfl hS.n0 rfl rfl (Nat.le_of_ble_eq_true rfl) dX4_endsAt_6 (fun z6 u6 r6 p6 => ?_)
  obtain ⟨e6, p6⟩ := p6
  subst u6
  have hb := spOf_bd (σ (b + 1)) (σ b 5) val
  rw [← e6] at hb
  refine a_iald C hS.f1 hS.n1 0 hS.tI (by omega) (by omega) (by decide) dX4_endsAt_9 (fun z9 e9 r9 => ?_)
  refine a_iload_n C dX4_endsAt_10 1 rfl rfl ?_
  refine a_icmp_ne C 18 r9 (by omega) dX4_endsAt_11 (by decide) (fun c11 => ?_) (fun c11 => ?_)
  · skip
    refine a_iconst C dX4_endsAt_18 ?_
    exact hret _ _ _ _ dX4_endsAt_19 (by decide) ⟨by rw [← e6, ← e9]; split <;> omega, rfl⟩
  · skip
    refine a_iconst C dX4_endsAt_14 ?_
    refine a_goto C 19 dX4_endsAt_15 (by decide) ?_
    exact hret _ _ _ _ dX4_endsAt_19 (by decide) ⟨by rw [← e6, ← e9]; split <;> omega, rfl⟩
set_option maxHeartbeats 4000000 in
set_option maxRecDepth 100000 in
theorem c_X4_firstOf (l : Launch) (v : VC) (σ : Mem) (b : Nat) (hS : shSk v b) (k : Int) (hk : -1 ≤ k ∧ k ≤ 24) (hE : 0 < k → 0 ≤ σ (b + 1) (k - 1) ∧ σ (b + 1) (k - 1) ≤ 39) : CtI l yX4_firstOf wsX4_firstOf 0 0 v [.ref (vq v b), vI k] σ (fun z u => z = foF (σ (b + 1)) k ∧ u = σ) := by
  refine mkI (cc := cX4_firstOf) (n := 2) (by decide +kernel) rfl (Nat.le_of_ble_eq_true rfl) (fun x A Q hx C hret => ?_)
  subst hx
  show At x v A Q _ 0 [(0, .ref (vq v b)), (1, vI k)] [] σ
  have iX4 : ∀ w ∈ wsX40, w ∈ wsX4_firstOf := by decide +kernel
  have k9 : Cond.fieldLink RX4 9 (TX4 0).1 (TX4 0).2.1 (TX4 0).2.2.1 ∈ wsX4_firstOf := by decide +kernel
  refine a_iload_n C dX4_firstOf_0 1 rfl rfl ?_
  refine a_if_le C 17 (by omega) dX4_firstOf_1 (by decide) (fun c1 => ?_) (fun c1 => ?_)
  · skip
    refine a_iconst C dX4_firstOf_17 ?_
    exact hret _ _ _ _ dX4_firstOf_18 (by decide) ⟨by unfold foF; split <;> omega, rfl⟩
  · skip
    refine a_aload_n C dX4_firstOf_4 0 rfl rfl ?_
    refine a_getf C hS.f0 hS.n0 (Cn := RX4) (T := TX4) (N := 7) rfl iX4 0 (by decide) k9 (w := .ref (vq v (b + 1))) rfl dX4_firstOf_5 ?_
    refine a_iload_n C dX4_firstOf_8 1 rfl rfl ?_
    refine a_iconst C dX4_firstOf_9 ?_
    refine a_isub C dX4_firstOf_10 ?_
    refine a_iald C hS.f1 hS.n1 0 hS.tI (by omega) (by omega) (by decide) dX4_firstOf_11 (fun z11 e11 r11 => ?_)
    have q11 := hE (by omega)
    refine a_iconst C dX4_firstOf_12 ?_
    refine a_iadd C dX4_firstOf_13 ?_
    refine a_goto C 18 dX4_firstOf_14 (by decide) ?_
    exact hret _ _ _ _ dX4_firstOf_18 (by omega) ⟨by unfold foF; split <;> omega, rfl⟩
set_option maxHeartbeats 4000000 in
set_option maxRecDepth 100000 in
theorem c_X4_plainBetween (l : Launch) (v : VC) (σ : Mem) (b : Nat) (hS : shSk v b) (fr to : Int) (hf : rg fr) (ht : rg to) : CtI l yX4_plainBetween wsX4_plainBetween 1 23 v [.ref (vq v b), vI fr, vI to] σ (fun z u => z = ltC (σ (b + 4)) fr to ∧ u = σ) := by
  refine mkI (cc := cX4_plainBetween) (n := 5) (by decide +kernel) rfl (Nat.le_of_ble_eq_true rfl) (fun x A Q hx C hret => ?_)
  subst hx
  show At x v A Q _ 0 [(0, .ref (vq v b)), (1, vI fr), (2, vI to)] [] σ
  have iX4 : ∀ w ∈ wsX40, w ∈ wsX4_plainBetween := by decide +kernel
  have k21 : Cond.fieldLink RX4 21 (TX4 3).1 (TX4 3).2.1 (TX4 3).2.2.1 ∈ wsX4_plainBetween := by decide +kernel
  have lp : ∀ (n : Nat) (w m : Int) , (40 - w).toNat = n → 0 ≤ w → rg w → 0 ≤ m → (m ≤ w) → (m + smR (fun v => if σ (b + 4) v = 0 then 1 else 0) w (min (to + 1) 40) = ltC (σ (b + 4)) fr to) → At x v A Q 5 9 [(4, vI w), (3, vI m), (0, .ref (vq v b)), (1, vI fr), (2, vI to)] [] σ := by
    intro n
    induction n using Nat.strongRecOn with
    | _ n ih =>
      intro w m hn i1 i2 i3 i4 i5
      refine a_iload C dX4_plainBetween_9 0 rfl ?_
      refine a_iload_n C dX4_plainBetween_11 4 rfl rfl ?_
      refine a_icmp_gt C 41 (by omega) (by omega) dX4_plainBetween_12 (by decide) (fun c12 => ?_) (fun c12 => ?_)
      · skip
        refine a_iload_n C dX4_plainBetween_41 1 rfl rfl ?_
        exact hret _ _ _ _ dX4_plainBetween_42 (by omega) ⟨by rw [← i5, smR_nil (by omega)]; omega, rfl⟩
      · skip
        refine a_iload C dX4_plainBetween_15 0 rfl ?_
        refine a_bipush C dX4_plainBetween_17 ?_
        refine a_icmp_ge C 41 (by omega) (by decide) dX4_plainBetween_19 (by decide) (fun c19 => ?_) (fun c19 => ?_)
        · skip
          refine a_iload_n C dX4_plainBetween_41 1 rfl rfl ?_
          exact hret _ _ _ _ dX4_plainBetween_42 (by omega) ⟨by rw [← i5, smR_nil (by omega)]; omega, rfl⟩
        · skip
          refine a_aload_n C dX4_plainBetween_22 2 rfl rfl ?_
          refine a_getf C hS.f0 hS.n0 (Cn := RX4) (T := TX4) (N := 7) rfl iX4 3 (by decide) k21 (w := .ref (vq v (b + 4))) rfl dX4_plainBetween_23 ?_
          refine a_iload C dX4_plainBetween_26 0 rfl ?_
          refine a_zald C hS.f4 hS.n4 2 hS.tB (by omega) (by omega) (by decide) dX4_plainBetween_28 (fun z28 e28 r28 => ?_)
          refine a_if_ne C 35 r28 dX4_plainBetween_29 (by decide) (fun c29 => ?_) (fun c29 => ?_)
          · skip
            refine a_iinc C (w + 1) [(4, vI (w + 1)), (3, vI m), (0, .ref (vq v b)), (1, vI fr), (2, vI to)] dX4_plainBetween_35 0 rfl (by omega) (by decide) rfl ?_
            refine a_goto C 9 dX4_plainBetween_38 (by decide) ?_
            exact ih _ (by omega) _ _ rfl (by omega) (by omega) (by omega) (by omega) (by rw [smR_step (by omega)] at i5; simp only [← e28] at i5; (first | rw [if_pos (by omega)] at i5 | rw [if_neg (by omega)] at i5); omega)
          · skip
            refine a_iinc C (m + 1) [(3, vI (m + 1)), (4, vI w), (0, .ref (vq v b)), (1, vI fr), (2, vI to)] dX4_plainBetween_32 1 rfl (by omega) (by decide) rfl ?_
            refine a_iinc C (w + 1) [(4, vI (w + 1)), (3, vI (m + 1)), (0, .ref (vq v b)), (1, vI fr), (2, vI to)] dX4_plainBetween_35 1 rfl (by omega) (by decide) rfl ?_
            refine a_goto C 9 dX4_plainBetween_38 (by decide) ?_
            exact ih _ (by omega) _ _ rfl (by omega) (by omega) (by omega) (by omega) (by rw [smR_step (by omega)] at i5; simp only [← e28] at i5; (first | rw [if_pos (by omega)] at i5 | rw [if_neg (by omega)] at i5); omega)
  refine a_iconst C dX4_plainBetween_0 ?_
  refine a_istore_n C 3 [(3, vI 0), (0, .ref (vq v b)), (1, vI fr), (2, vI to)] dX4_plainBetween_1 rfl (by decide) rfl ?_
  refine a_iload_n C dX4_plainBetween_2 2 rfl rfl ?_
  refine a_iconst C dX4_plainBetween_3 ?_
  refine a_mmax C (by omega) (by decide) (by decide +kernel) ⟨by decide, Nat.le_of_ble_eq_true rfl⟩ dX4_plainBetween_4 ?_
  obtain ⟨z4, e4⟩ : ∃ w : Int, w = max fr 0 := ⟨_, rfl⟩
  rw [← e4]
  refine a_istore C [(4, vI z4), (3, vI 0), (0, .ref (vq v b)), (1, vI fr), (2, vI to)] dX4_plainBetween_7 (by decide) rfl ?_
  exact lp _ _ 0 rfl (by omega) (by omega) (by omega) (by omega) (by rw [e4]; unfold ltC; omega)
set_option maxHeartbeats 4000000 in
set_option maxRecDepth 100000 in
theorem c_X4_longOf (l : Launch) (v : VC) (σ : Mem) (b : Nat) (hS : shSk v b) (k : Int) (hk : 0 ≤ k ∧ k < σ b 5) (hW : skW σ b) : CtI l yX4_longOf wsX4_longOf 2 47 v [.ref (vq v b), vI k] σ (fun z u => z = loN (σ (b + 4)) (σ (b + 1)) k ∧ u = σ) := by
  refine mkI (cc := cX4_longOf) (n := 2) (by decide +kernel) rfl (Nat.le_of_ble_eq_true rfl) (fun x A Q hx C hret => ?_)
  subst hx
  show At x v A Q _ 0 [(0, .ref (vq v b)), (1, vI k)] [] σ
  have iX4 : ∀ w ∈ wsX40, w ∈ wsX4_longOf := by decide +kernel
  have k9 : Cond.fieldLink RX4 9 (TX4 0).1 (TX4 0).2.1 (TX4 0).2.2.1 ∈ wsX4_longOf := by decide +kernel
  have hw1 := hW.1
  have hw2 := hW.2.1
  refine a_aload_n C dX4_longOf_0 0 rfl rfl ?_
  refine a_aload_n C dX4_longOf_1 0 rfl rfl ?_
  refine a_iload_n C dX4_longOf_2 1 rfl rfl ?_
  refine a_cVI C (k0 := 1) (As := [vI k]) (rest := [.ref (vq v b)]) (c_X4_firstOf x.2.1 v σ b hS k (by omega) (fun q => hW.2.2 _ (by omega) (by omega))) gX4_longOf_X4_firstOf rfl (by decide +kernel) (by decide) hS.f0 rfl hS.n0 rfl rfl (Nat.le_of_ble_eq_true rfl) dX4_longOf_3 (fun z3 u3 r3 p3 => ?_)
  obtain ⟨e3, p3⟩ := p3
  subst u3
  refine a_aload_n C dX4_longOf_6 0 rfl rfl ?_
  refine a_getf C hS.f0 hS.n0 (Cn := RX4) (T := TX4) (N := 7) rfl iX4 0 (by decide) k9 (w := .ref (vq v (b + 1))) rfl dX4_longOf_7 ?_
  refine a_iload_n C dX4_longOf_10 1 rfl rfl ?_
  refine a_iald C hS.f1 hS.n1 0 hS.tI (by omega) (by omega) (by decide) dX4_longOf_11 (fun z11 e11 r11 => ?_)
  refine a_cVI C (k0 := 2) (As := [vI z3, vI z11]) (rest := []) (c_X4_plainBetween x.2.1 v σ b hS z3 z11 r3 r11) gX4_longOf_X4_plainBetween rfl (by decide +kernel) (by decide) hS.f0 rfl hS.n0 rfl rfl (Nat.le_of_ble_eq_true rfl) dX4_longOf_12 (fun z12 u12 r12 p12 => ?_)
  obtain ⟨e12, p12⟩ := p12
  subst u12
  exact hret _ _ _ _ dX4_longOf_15 r12 ⟨by rw [e12, e3, e11]; rfl, rfl⟩
set_option maxHeartbeats 4000000 in
set_option maxRecDepth 100000 in
theorem c_X4_heavyMany (l : Launch) (v : VC) (σ : Mem) (b : Nat) (hS : shSk v b)  : CtI l yX4_heavyMany wsX4_heavyMany 2 47 v [.ref (vq v b)] σ (fun z u => z = 40 - ltC (σ (b + 4)) 0 39 ∧ u = σ) := by
  refine mkI (cc := cX4_heavyMany) (n := 1) (by decide +kernel) rfl (Nat.le_of_ble_eq_true rfl) (fun x A Q hx C hret => ?_)
  subst hx
  show At x v A Q _ 0 [(0, .ref (vq v b))] [] σ
  refine a_bipush C dX4_heavyMany_0 ?_
  refine a_aload_n C dX4_heavyMany_2 0 rfl rfl ?_
  refine a_iconst C dX4_heavyMany_3 ?_
  refine a_bipush C dX4_heavyMany_4 ?_
  refine a_cVI C (k0 := 2) (As := [vI 0, vI 39]) (rest := [vI 40]) (c_X4_plainBetween x.2.1 v σ b hS 0 39 (by decide) (by decide)) gX4_heavyMany_X4_plainBetween rfl (by decide +kernel) (by decide) hS.f0 rfl hS.n0 rfl rfl (Nat.le_of_ble_eq_true rfl) dX4_heavyMany_6 (fun z6 u6 r6 p6 => ?_)
  obtain ⟨e6, p6⟩ := p6
  subst u6
  have q6 := ltC_bd (σ (b + 4)) 0 39
  rw [← e6] at q6
  refine a_isub C dX4_heavyMany_9 ?_
  exact hret _ _ _ _ dX4_heavyMany_10 (by omega) ⟨by rw [e6], rfl⟩
set_option maxHeartbeats 4000000 in
set_option maxRecDepth 100000 in
theorem c_X4_allCounts (l : Launch) (v : VC) (σ : Mem) (b : Nat) (hS : shSk v b) (hW : skW σ b) (hB : skB σ b) : CtI l yX4_allCounts wsX4_allCounts 0 0 v [.ref (vq v b)] σ (fun z u => z = smR (σ (b + 2)) 0 (σ b 5) ∧ u = σ) := by
  refine mkI (cc := cX4_allCounts) (n := 3) (by decide +kernel) rfl (Nat.le_of_ble_eq_true rfl) (fun x A Q hx C hret => ?_)
  subst hx
  show At x v A Q _ 0 [(0, .ref (vq v b))] [] σ
  have iX4 : ∀ w ∈ wsX40, w ∈ wsX4_allCounts := by decide +kernel
  have k28 : Cond.fieldLink RX4 28 (TX4 5).1 (TX4 5).2.1 (TX4 5).2.2.1 ∈ wsX4_allCounts := by decide +kernel
  have k15 : Cond.fieldLink RX4 15 (TX4 1).1 (TX4 1).2.1 (TX4 1).2.2.1 ∈ wsX4_allCounts := by decide +kernel
  have hw1 := hW.1
  have hw2 := hW.2.1
  have ht := smR_bd (f := σ (b + 2)) (a := 0) (b := σ b 5) (fun j q1 q2 => hB.1 j q1 q2) hw1
  have lp : ∀ (n : Nat) (k s1 : Int) , (24 - k).toNat = n → 0 ≤ k → k ≤ σ b 5 → (s1 + smR (σ (b + 2)) k (σ b 5) = smR (σ (b + 2)) 0 (σ b 5)) → At x v A Q 3 4 [(2, vI k), (1, vI s1), (0, .ref (vq v b))] [] σ := by
    intro n
    induction n using Nat.strongRecOn with
    | _ n ih =>
      intro k s1 hn i1 i2 i3
      refine a_iload_n C dX4_allCounts_4 0 rfl rfl ?_
      refine a_aload_n C dX4_allCounts_5 2 rfl rfl ?_
      refine a_geti C hS.f0 hS.n0 (Cn := RX4) (T := TX4) (N := 7) rfl iX4 5 (by decide) k28 5 (by decide) rfl dX4_allCounts_6 (fun z6 e6 r6 => ?_)
      refine a_icmp_ge C 27 (by omega) r6 dX4_allCounts_9 (by decide) (fun c9 => ?_) (fun c9 => ?_)
      · skip
        refine a_iload_n C dX4_allCounts_27 1 rfl rfl ?_
        have q28 : s1 = smR (σ (b + 2)) 0 (σ b 5) := by rw [← i3, smR_nil (by omega), Int.add_zero]
        exact hret _ _ _ _ dX4_allCounts_28 (by rw [q28]; omega) ⟨q28, rfl⟩
      · skip
        refine a_iload_n C dX4_allCounts_12 1 rfl rfl ?_
        refine a_aload_n C dX4_allCounts_13 2 rfl rfl ?_
        refine a_getf C hS.f0 hS.n0 (Cn := RX4) (T := TX4) (N := 7) rfl iX4 1 (by decide) k15 (w := .ref (vq v (b + 2))) rfl dX4_allCounts_14 ?_
        refine a_iload_n C dX4_allCounts_17 0 rfl rfl ?_
        refine a_iald C hS.f2 hS.n2 0 hS.tI (by omega) (by omega) (by decide) dX4_allCounts_18 (fun z18 e18 r18 => ?_)
        refine a_iadd C dX4_allCounts_19 ?_
        refine a_istore_n C 1 [(1, vI (s1 + z18)), (2, vI k), (0, .ref (vq v b))] dX4_allCounts_20 rfl (by decide) rfl ?_
        refine a_iinc C (k + 1) [(2, vI (k + 1)), (1, vI (s1 + z18)), (0, .ref (vq v b))] dX4_allCounts_21 1 rfl (by omega) (by decide) rfl ?_
        refine a_goto C 4 dX4_allCounts_24 (by decide) ?_
        exact ih _ (by omega) _ _ rfl (by omega) (by omega) (by rw [smR_step (by omega)] at i3; rw [e18]; omega)
  refine a_iconst C dX4_allCounts_0 ?_
  refine a_istore_n C 1 [(1, vI 0), (0, .ref (vq v b))] dX4_allCounts_1 rfl (by decide) rfl ?_
  refine a_iconst C dX4_allCounts_2 ?_
  refine a_istore_n C 2 [(2, vI 0), (1, vI 0), (0, .ref (vq v b))] dX4_allCounts_3 rfl (by decide) rfl ?_
  exact lp _ 0 0 rfl (by omega) (by omega) (by omega)
set_option maxHeartbeats 4000000 in
set_option maxRecDepth 100000 in
theorem c_X4_allDoubts (l : Launch) (v : VC) (σ : Mem) (b : Nat) (hS : shSk v b) (hW : skW σ b) (hB : skB σ b) : CtI l yX4_allDoubts wsX4_allDoubts 0 0 v [.ref (vq v b)] σ (fun z u => z = smR (σ (b + 3)) 0 (σ b 5) ∧ u = σ) := by
  refine mkI (cc := cX4_allDoubts) (n := 3) (by decide +kernel) rfl (Nat.le_of_ble_eq_true rfl) (fun x A Q hx C hret => ?_)
  subst hx
  show At x v A Q _ 0 [(0, .ref (vq v b))] [] σ
  have iX4 : ∀ w ∈ wsX40, w ∈ wsX4_allDoubts := by decide +kernel
  have k28 : Cond.fieldLink RX4 28 (TX4 5).1 (TX4 5).2.1 (TX4 5).2.2.1 ∈ wsX4_allDoubts := by decide +kernel
  have k18 : Cond.fieldLink RX4 18 (TX4 2).1 (TX4 2).2.1 (TX4 2).2.2.1 ∈ wsX4_allDoubts := by decide +kernel
  have hw1 := hW.1
  have hw2 := hW.2.1
  have ht := smR_bd (f := σ (b + 3)) (a := 0) (b := σ b 5) (fun j q1 q2 => hB.2.1 j q1 q2) hw1
  have lp : ∀ (n : Nat) (k s1 : Int) , (24 - k).toNat = n → 0 ≤ k → k ≤ σ b 5 → (s1 + smR (σ (b + 3)) k (σ b 5) = smR (σ (b + 3)) 0 (σ b 5)) → At x v A Q 3 4 [(2, vI k), (1, vI s1), (0, .ref (vq v b))] [] σ := by
    intro n
    induction n using Nat.strongRecOn with
    | _ n ih =>
      intro k s1 hn i1 i2 i3
      refine a_iload_n C dX4_allDoubts_4 0 rfl rfl ?_
      refine a_aload_n C dX4_allDoubts_5 2 rfl rfl ?_
      refine a_geti C hS.f0 hS.n0 (Cn := RX4) (T := TX4) (N := 7) rfl iX4 5 (by decide) k28 5 (by decide) rfl dX4_allDoubts_6 (fun z6 e6 r6 => ?_)
      refine a_icmp_ge C 27 (by omega) r6 dX4_allDoubts_9 (by decide) (fun c9 => ?_) (fun c9 => ?_)
      · skip
        refine a_iload_n C dX4_allDoubts_27 1 rfl rfl ?_
        have q28 : s1 = smR (σ (b + 3)) 0 (σ b 5) := by rw [← i3, smR_nil (by omega), Int.add_zero]
        exact hret _ _ _ _ dX4_allDoubts_28 (by rw [q28]; omega) ⟨q28, rfl⟩
      · skip
        refine a_iload_n C dX4_allDoubts_12 1 rfl rfl ?_
        refine a_aload_n C dX4_allDoubts_13 2 rfl rfl ?_
        refine a_getf C hS.f0 hS.n0 (Cn := RX4) (T := TX4) (N := 7) rfl iX4 2 (by decide) k18 (w := .ref (vq v (b + 3))) rfl dX4_allDoubts_14 ?_
        refine a_iload_n C dX4_allDoubts_17 0 rfl rfl ?_
        refine a_iald C hS.f3 hS.n3 0 hS.tI (by omega) (by omega) (by decide) dX4_allDoubts_18 (fun z18 e18 r18 => ?_)
        refine a_iadd C dX4_allDoubts_19 ?_
        refine a_istore_n C 1 [(1, vI (s1 + z18)), (2, vI k), (0, .ref (vq v b))] dX4_allDoubts_20 rfl (by decide) rfl ?_
        refine a_iinc C (k + 1) [(2, vI (k + 1)), (1, vI (s1 + z18)), (0, .ref (vq v b))] dX4_allDoubts_21 1 rfl (by omega) (by decide) rfl ?_
        refine a_goto C 4 dX4_allDoubts_24 (by decide) ?_
        exact ih _ (by omega) _ _ rfl (by omega) (by omega) (by rw [smR_step (by omega)] at i3; rw [e18]; omega)
  refine a_iconst C dX4_allDoubts_0 ?_
  refine a_istore_n C 1 [(1, vI 0), (0, .ref (vq v b))] dX4_allDoubts_1 rfl (by decide) rfl ?_
  refine a_iconst C dX4_allDoubts_2 ?_
  refine a_istore_n C 2 [(2, vI 0), (1, vI 0), (0, .ref (vq v b))] dX4_allDoubts_3 rfl (by decide) rfl ?_
  exact lp _ 0 0 rfl (by omega) (by omega) (by omega)
set_option maxHeartbeats 4000000 in
set_option maxRecDepth 100000 in
theorem c_X4_heavyBetween (l : Launch) (v : VC) (σ : Mem) (b : Nat) (hS : shSk v b) (fr to : Int) (hf : rg fr) (ht : rg to) (hr : rg (hvS (σ (b + 4)) (σ (b + 5)) fr to)) : CtI l yX4_heavyBetween wsX4_heavyBetween 1 23 v [.ref (vq v b), vI fr, vI to] σ (fun z u => z = hvS (σ (b + 4)) (σ (b + 5)) fr to ∧ u = σ) := by
  refine mkI (cc := cX4_heavyBetween) (n := 5) (by decide +kernel) rfl (Nat.le_of_ble_eq_true rfl) (fun x A Q hx C hret => ?_)
  subst hx
  show At x v A Q _ 0 [(0, .ref (vq v b)), (1, vI fr), (2, vI to)] [] σ
  have iX4 : ∀ w ∈ wsX40, w ∈ wsX4_heavyBetween := by decide +kernel
  have k21 : Cond.fieldLink RX4 21 (TX4 3).1 (TX4 3).2.1 (TX4 3).2.2.1 ∈ wsX4_heavyBetween := by decide +kernel
  have k25 : Cond.fieldLink RX4 25 (TX4 4).1 (TX4 4).2.1 (TX4 4).2.2.1 ∈ wsX4_heavyBetween := by decide +kernel
  have lp : ∀ (n : Nat) (w m : Int) , (40 - w).toNat = n → 0 ≤ w → rg w → (m + smR (fun v => if σ (b + 4) v = 0 then 0 else σ (b + 5) v) w (min (to + 1) 40) = hvS (σ (b + 4)) (σ (b + 5)) fr to) → At x v A Q 5 9 [(4, vI w), (3, vI m), (0, .ref (vq v b)), (1, vI fr), (2, vI to)] [] σ := by
    intro n
    induction n using Nat.strongRecOn with
    | _ n ih =>
      intro w m hn i1 i2 i3
      refine a_iload C dX4_heavyBetween_9 0 rfl ?_
      refine a_iload_n C dX4_heavyBetween_11 4 rfl rfl ?_
      refine a_icmp_gt C 52 (by omega) (by omega) dX4_heavyBetween_12 (by decide) (fun c12 => ?_) (fun c12 => ?_)
      · skip
        refine a_iload_n C dX4_heavyBetween_52 1 rfl rfl ?_
        have q53 : m = hvS (σ (b + 4)) (σ (b + 5)) fr to := by rw [← i3, smR_nil (by omega), Int.add_zero]
        exact hret _ _ _ _ dX4_heavyBetween_53 (by rw [q53]; exact hr) ⟨q53, rfl⟩
      · skip
        refine a_iload C dX4_heavyBetween_15 0 rfl ?_
        refine a_bipush C dX4_heavyBetween_17 ?_
        refine a_icmp_ge C 52 (by omega) (by decide) dX4_heavyBetween_19 (by decide) (fun c19 => ?_) (fun c19 => ?_)
        · skip
          refine a_iload_n C dX4_heavyBetween_52 1 rfl rfl ?_
          have q53 : m = hvS (σ (b + 4)) (σ (b + 5)) fr to := by rw [← i3, smR_nil (by omega), Int.add_zero]
          exact hret _ _ _ _ dX4_heavyBetween_53 (by rw [q53]; exact hr) ⟨q53, rfl⟩
        · skip
          refine a_iload_n C dX4_heavyBetween_22 1 rfl rfl ?_
          refine a_aload_n C dX4_heavyBetween_23 2 rfl rfl ?_
          refine a_getf C hS.f0 hS.n0 (Cn := RX4) (T := TX4) (N := 7) rfl iX4 3 (by decide) k21 (w := .ref (vq v (b + 4))) rfl dX4_heavyBetween_24 ?_
          refine a_iload C dX4_heavyBetween_27 0 rfl ?_
          refine a_zald C hS.f4 hS.n4 2 hS.tB (by omega) (by omega) (by decide) dX4_heavyBetween_29 (fun z29 e29 r29 => ?_)
          refine a_if_eq C 43 r29 dX4_heavyBetween_30 (by decide) (fun c30 => ?_) (fun c30 => ?_)
          · skip
            refine a_iconst C dX4_heavyBetween_43 ?_
            refine a_iadd C dX4_heavyBetween_44 ?_
            refine a_istore_n C 3 [(3, vI (m + 0)), (4, vI w), (0, .ref (vq v b)), (1, vI fr), (2, vI to)] dX4_heavyBetween_45 rfl (by decide) rfl ?_
            refine a_iinc C (w + 1) [(4, vI (w + 1)), (3, vI (m + 0)), (0, .ref (vq v b)), (1, vI fr), (2, vI to)] dX4_heavyBetween_46 1 rfl (by omega) (by decide) rfl ?_
            refine a_goto C 9 dX4_heavyBetween_49 (by decide) ?_
            exact ih _ (by omega) _ _ rfl (by omega) (by omega) (by rw [smR_step (by omega)] at i3; simp only [← e29] at i3; (first | rw [if_pos (by omega)] at i3 | rw [if_neg (by omega), ← e39] at i3); omega)
          · skip
            refine a_aload_n C dX4_heavyBetween_33 2 rfl rfl ?_
            refine a_getf C hS.f0 hS.n0 (Cn := RX4) (T := TX4) (N := 7) rfl iX4 4 (by decide) k25 (w := .ref (vq v (b + 5))) rfl dX4_heavyBetween_34 ?_
            refine a_iload C dX4_heavyBetween_37 0 rfl ?_
            refine a_iald C hS.f5 hS.n5 0 hS.tI (by omega) (by omega) (by decide) dX4_heavyBetween_39 (fun z39 e39 r39 => ?_)
            refine a_goto C 44 dX4_heavyBetween_40 (by decide) ?_
            refine a_iadd C dX4_heavyBetween_44 ?_
            refine a_istore_n C 3 [(3, vI (m + z39)), (4, vI w), (0, .ref (vq v b)), (1, vI fr), (2, vI to)] dX4_heavyBetween_45 rfl (by decide) rfl ?_
            refine a_iinc C (w + 1) [(4, vI (w + 1)), (3, vI (m + z39)), (0, .ref (vq v b)), (1, vI fr), (2, vI to)] dX4_heavyBetween_46 1 rfl (by omega) (by decide) rfl ?_
            refine a_goto C 9 dX4_heavyBetween_49 (by decide) ?_
            exact ih _ (by omega) _ _ rfl (by omega) (by omega) (by rw [smR_step (by omega)] at i3; simp only [← e29] at i3; (first | rw [if_pos (by omega)] at i3 | rw [if_neg (by omega), ← e39] at i3); omega)
  refine a_iconst C dX4_heavyBetween_0 ?_
  refine a_istore_n C 3 [(3, vI 0), (0, .ref (vq v b)), (1, vI fr), (2, vI to)] dX4_heavyBetween_1 rfl (by decide) rfl ?_
  refine a_iload_n C dX4_heavyBetween_2 2 rfl rfl ?_
  refine a_iconst C dX4_heavyBetween_3 ?_
  refine a_mmax C (by omega) (by decide) (by decide +kernel) ⟨by decide, Nat.le_of_ble_eq_true rfl⟩ dX4_heavyBetween_4 ?_
  obtain ⟨z4, e4⟩ : ∃ w : Int, w = max fr 0 := ⟨_, rfl⟩
  rw [← e4]
  refine a_istore C [(4, vI z4), (3, vI 0), (0, .ref (vq v b)), (1, vI fr), (2, vI to)] dX4_heavyBetween_7 (by decide) rfl ?_
  exact lp _ _ 0 rfl (by omega) (by omega) (by rw [e4]; unfold hvS; omega)
set_option maxHeartbeats 4000000 in
set_option maxRecDepth 100000 in
theorem c_X4_askedOf (l : Launch) (v : VC) (σ : Mem) (b : Nat) (hS : shSk v b) (k a1 a2 : Int) (hk : 0 ≤ k ∧ k < σ b 5) (h1 : rg a1) (h2 : rg a2) (hW : skW σ b) : CtI l yX4_askedOf wsX4_askedOf 2 47 v [.ref (vq v b), vI k, vI a1, vI a2] σ (fun z u => z = ltC (σ (b + 4)) (max (foF (σ (b + 1)) k) a1) (min (σ (b + 1) k) a2) ∧ u = σ) := by
  refine mkI (cc := cX4_askedOf) (n := 4) (by decide +kernel) rfl (Nat.le_of_ble_eq_true rfl) (fun x A Q hx C hret => ?_)
  subst hx
  show At x v A Q _ 0 [(0, .ref (vq v b)), (1, vI k), (2, vI a1), (3, vI a2)] [] σ
  have iX4 : ∀ w ∈ wsX40, w ∈ wsX4_askedOf := by decide +kernel
  have k9 : Cond.fieldLink RX4 9 (TX4 0).1 (TX4 0).2.1 (TX4 0).2.2.1 ∈ wsX4_askedOf := by decide +kernel
  have hw1 := hW.1
  have hw2 := hW.2.1
  refine a_aload_n C dX4_askedOf_0 0 rfl rfl ?_
  refine a_aload_n C dX4_askedOf_1 0 rfl rfl ?_
  refine a_iload_n C dX4_askedOf_2 1 rfl rfl ?_
  refine a_cVI C (k0 := 1) (As := [vI k]) (rest := [.ref (vq v b)]) (c_X4_firstOf x.2.1 v σ b hS k (by omega) (fun q => hW.2.2 _ (by omega) (by omega))) gX4_askedOf_X4_firstOf rfl (by decide +kernel) (by decide) hS.f0 rfl hS.n0 rfl rfl (Nat.le_of_ble_eq_true rfl) dX4_askedOf_3 (fun z3 u3 r3 p3 => ?_)
  obtain ⟨e3, p3⟩ := p3
  subst u3
  refine a_iload_n C dX4_askedOf_6 2 rfl rfl ?_
  refine a_mmax C r3 (by omega) (by decide +kernel) ⟨by decide, Nat.le_of_ble_eq_true rfl⟩ dX4_askedOf_7 ?_
  obtain ⟨z7, e7⟩ : ∃ w : Int, w = max z3 a1 := ⟨_, rfl⟩
  rw [← e7]
  refine a_aload_n C dX4_askedOf_10 0 rfl rfl ?_
  refine a_getf C hS.f0 hS.n0 (Cn := RX4) (T := TX4) (N := 7) rfl iX4 0 (by decide) k9 (w := .ref (vq v (b + 1))) rfl dX4_askedOf_11 ?_
  refine a_iload_n C dX4_askedOf_14 1 rfl rfl ?_
  refine a_iald C hS.f1 hS.n1 0 hS.tI (by omega) (by omega) (by decide) dX4_askedOf_15 (fun z15 e15 r15 => ?_)
  refine a_iload_n C dX4_askedOf_16 3 rfl rfl ?_
  refine a_mmin C r15 (by omega) (by decide +kernel) ⟨by decide, Nat.le_of_ble_eq_true rfl⟩ dX4_askedOf_17 ?_
  obtain ⟨z17, e17⟩ : ∃ w : Int, w = min z15 a2 := ⟨_, rfl⟩
  rw [← e17]
  refine a_cVI C (k0 := 2) (As := [vI z7, vI z17]) (rest := []) (c_X4_plainBetween x.2.1 v σ b hS z7 z17 (by omega) (by omega)) gX4_askedOf_X4_plainBetween rfl (by decide +kernel) (by decide) hS.f0 rfl hS.n0 rfl rfl (Nat.le_of_ble_eq_true rfl) dX4_askedOf_20 (fun z20 u20 r20 p20 => ?_)
  obtain ⟨e20, p20⟩ := p20
  subst u20
  exact hret _ _ _ _ dX4_askedOf_23 r20 ⟨by rw [e20, e7, e17, e3, e15], rfl⟩
