/-! ===== the model's small methods ===== -/
/-- a row from a place on -/
def shR (f : Int → Int) (o : Int) : Int → Int := fun j => f (o + j)
/-- what the model's trays keep -/
def mtW (σ : Mem) (b : Nat) : Prop := ∀ i : Int, 0 ≤ i → i < 4 → (0 ≤ σ (b + 1) i ∧ σ (b + 1) i ≤ 3) ∧ (-1 ≤ σ (b + 2) i ∧ σ (b + 2) i ≤ 100)
set_option maxHeartbeats 4000000 in
set_option maxRecDepth 100000 in
theorem c_X7_status (l : Launch) (v : VC) (σ : Mem) (b : Nat) (hM : shMo v b)  : CtI l yX7_status wsX7_status 0 0 v [.ref (vq v b)] σ (fun z u => z = σ b 0 ∧ u = σ) := by
  refine mkI (cc := cX7_status) (n := 1) (by decide +kernel) rfl (Nat.le_of_ble_eq_true rfl) (fun x A Q hx C hret => ?_)
  subst hx
  show At x v A Q _ 0 [(0, .ref (vq v b))] [] σ
  have iX7 : ∀ w ∈ wsX70, w ∈ wsX7_status := by decide +kernel
  have k85 : Cond.fieldLink RX7 85 (TX7 0).1 (TX7 0).2.1 (TX7 0).2.2.1 ∈ wsX7_status := by decide +kernel
  refine a_aload_n C dX7_status_0 0 rfl rfl ?_
  refine a_geti C hM.f0 hM.n0 (Cn := RX7) (T := TX7) (N := 30) rfl iX7 0 (by decide) k85 0 (by decide) rfl dX7_status_1 (fun z1 e1 r1 => ?_)
  exact hret _ _ _ _ dX7_status_4 r1 ⟨by assumption, rfl⟩
set_option maxHeartbeats 4000000 in
set_option maxRecDepth 100000 in
theorem c_X7_top (l : Launch) (v : VC) (σ : Mem) (b : Nat) (hM : shMo v b)  : CtL l yX7_top wsX7_top 0 0 v [.ref (vq v b)] σ (fun z u => z = σ b 100001 ∧ u = σ) := by
  refine mkL (cc := cX7_top) (n := 1) (by decide +kernel) rfl (Nat.le_of_ble_eq_true rfl) (fun x A Q hx C hret => ?_)
  subst hx
  show At x v A Q _ 0 [(0, .ref (vq v b))] [] σ
  have iX7 : ∀ w ∈ wsX70, w ∈ wsX7_top := by decide +kernel
  have k89 : Cond.fieldLink RX7 89 (TX7 1).1 (TX7 1).2.1 (TX7 1).2.2.1 ∈ wsX7_top := by decide +kernel
  refine a_aload_n C dX7_top_0 0 rfl rfl ?_
  refine a_getl C hM.f0 hM.n0 (Cn := RX7) (T := TX7) (N := 30) rfl iX7 1 (by decide) k89 100001 rfl dX7_top_1 (fun z1 e1 r1 => ?_)
  exact hret _ _ _ _ dX7_top_4 r1 ⟨by assumption, rfl⟩
set_option maxHeartbeats 4000000 in
set_option maxRecDepth 100000 in
theorem c_X7_bottom (l : Launch) (v : VC) (σ : Mem) (b : Nat) (hM : shMo v b)  : CtL l yX7_bottom wsX7_bottom 0 0 v [.ref (vq v b)] σ (fun z u => z = σ b 100002 ∧ u = σ) := by
  refine mkL (cc := cX7_bottom) (n := 1) (by decide +kernel) rfl (Nat.le_of_ble_eq_true rfl) (fun x A Q hx C hret => ?_)
  subst hx
  show At x v A Q _ 0 [(0, .ref (vq v b))] [] σ
  have iX7 : ∀ w ∈ wsX70, w ∈ wsX7_bottom := by decide +kernel
  have k7 : Cond.fieldLink RX7 7 (TX7 2).1 (TX7 2).2.1 (TX7 2).2.2.1 ∈ wsX7_bottom := by decide +kernel
  refine a_aload_n C dX7_bottom_0 0 rfl rfl ?_
  refine a_getl C hM.f0 hM.n0 (Cn := RX7) (T := TX7) (N := 30) rfl iX7 2 (by decide) k7 100002 rfl dX7_bottom_1 (fun z1 e1 r1 => ?_)
  exact hret _ _ _ _ dX7_bottom_4 r1 ⟨by assumption, rfl⟩
set_option maxHeartbeats 4000000 in
set_option maxRecDepth 100000 in
theorem c_X7_is (l : Launch) (v : VC) (σ : Mem) (b : Nat) (hM : shMo v b) (w1 : Int) (h1 : rg w1) : CtI l yX7_is wsX7_is 0 0 v [.ref (vq v b), vI w1] σ (fun z u => z = (if w1 = 0 then 1 else 0) ∧ u = sput σ b 0 w1) := by
  refine mkZ (cc := cX7_is) (n := 2) (by decide +kernel) rfl (Nat.le_of_ble_eq_true rfl) (fun x A Q hx C hret => ?_)
  subst hx
  show At x v A Q _ 0 [(0, .ref (vq v b)), (1, vI w1)] [] σ
  have iX7 : ∀ w ∈ wsX70, w ∈ wsX7_is := by decide +kernel
  have k85 : Cond.fieldLink RX7 85 (TX7 0).1 (TX7 0).2.1 (TX7 0).2.2.1 ∈ wsX7_is := by decide +kernel
  refine a_aload_n C dX7_is_0 0 rfl rfl ?_
  refine a_iload_n C dX7_is_1 1 rfl rfl ?_
  refine a_puti C hM.f0 hM.n0 (Cn := RX7) (T := TX7) (N := 30) rfl iX7 tyX7_ok nmX7 0 (by decide) k85 rfl rfl 0 (by omega) (fun _ => Nat.le_of_ble_eq_true rfl) (fun _ => rfl) dX7_is_2 ?_
  refine a_iload_n C dX7_is_5 1 rfl rfl ?_
  refine a_if_ne C 13 (by omega) dX7_is_6 (by decide) (fun c6 => ?_) (fun c6 => ?_)
  · skip
    refine a_iconst C dX7_is_13 ?_
    refine hret _ _ _ _ dX7_is_14 (by decide) ⟨?_, ?_⟩
    · (first | rw [if_pos (by omega)] | rw [if_neg (by omega)])
    · rfl
  · skip
    refine a_iconst C dX7_is_9 ?_
    refine a_goto C 14 dX7_is_10 (by decide) ?_
    refine hret _ _ _ _ dX7_is_14 (by decide) ⟨?_, ?_⟩
    · (first | rw [if_pos (by omega)] | rw [if_neg (by omega)])
    · rfl
set_option maxHeartbeats 4000000 in
set_option maxRecDepth 100000 in
theorem c_X7_refuse (l : Launch) (v : VC) (σ : Mem) (b : Nat) (hM : shMo v b) (w1 : Int) (h1 : rg w1) : CtI l yX7_refuse wsX7_refuse 0 0 v [.ref (vq v b), vI w1] σ (fun z u => z = -1 ∧ u = sput σ b 0 w1) := by
  refine mkI (cc := cX7_refuse) (n := 2) (by decide +kernel) rfl (Nat.le_of_ble_eq_true rfl) (fun x A Q hx C hret => ?_)
  subst hx
  show At x v A Q _ 0 [(0, .ref (vq v b)), (1, vI w1)] [] σ
  have iX7 : ∀ w ∈ wsX70, w ∈ wsX7_refuse := by decide +kernel
  have k85 : Cond.fieldLink RX7 85 (TX7 0).1 (TX7 0).2.1 (TX7 0).2.2.1 ∈ wsX7_refuse := by decide +kernel
  refine a_aload_n C dX7_refuse_0 0 rfl rfl ?_
  refine a_iload_n C dX7_refuse_1 1 rfl rfl ?_
  refine a_puti C hM.f0 hM.n0 (Cn := RX7) (T := TX7) (N := 30) rfl iX7 tyX7_ok nmX7 0 (by decide) k85 rfl rfl 0 (by omega) (fun _ => Nat.le_of_ble_eq_true rfl) (fun _ => rfl) dX7_refuse_2 ?_
  refine a_iconst C dX7_refuse_5 ?_
  exact hret _ _ _ _ dX7_refuse_6 (by decide) ⟨rfl, rfl⟩
set_option maxHeartbeats 4000000 in
set_option maxRecDepth 100000 in
theorem c_X7_isTray (l : Launch) (v : VC) (σ : Mem) (i1 : Int) (h1 : rg i1) : CtI l yX7_isTray wsX7_isTray 0 0 v [vI i1] σ (fun z u => z = (if 0 ≤ i1 ∧ i1 < 4 then 1 else 0) ∧ u = σ) := by
  refine mkZ (cc := cX7_isTray) (n := 1) (by decide +kernel) rfl (Nat.le_of_ble_eq_true rfl) (fun x A Q hx C hret => ?_)
  subst hx
  show At x v A Q _ 0 [(0, vI i1)] [] σ
  refine a_iload_n C dX7_isTray_0 0 rfl rfl ?_
  refine a_if_lt C 13 (by omega) dX7_isTray_1 (by decide) (fun c1 => ?_) (fun c1 => ?_)
  · skip
    refine a_iconst C dX7_isTray_13 ?_
    refine hret _ _ _ _ dX7_isTray_14 (by decide) ⟨?_, ?_⟩
    · (first | rw [if_pos (by omega)] | rw [if_neg (by omega)])
    · rfl
  · skip
    refine a_iload_n C dX7_isTray_4 0 rfl rfl ?_
    refine a_iconst C dX7_isTray_5 ?_
    refine a_icmp_ge C 13 (by omega) (by decide) dX7_isTray_6 (by decide) (fun c6 => ?_) (fun c6 => ?_)
    · skip
      refine a_iconst C dX7_isTray_13 ?_
      refine hret _ _ _ _ dX7_isTray_14 (by decide) ⟨?_, ?_⟩
      · (first | rw [if_pos (by omega)] | rw [if_neg (by omega)])
      · rfl
    · skip
      refine a_iconst C dX7_isTray_9 ?_
      refine a_goto C 14 dX7_isTray_10 (by decide) ?_
      refine hret _ _ _ _ dX7_isTray_14 (by decide) ⟨?_, ?_⟩
      · (first | rw [if_pos (by omega)] | rw [if_neg (by omega)])
      · rfl
set_option maxHeartbeats 4000000 in
set_option maxRecDepth 100000 in
theorem c_X7_isColumn (l : Launch) (v : VC) (σ : Mem) (i1 : Int) (h1 : rg i1) : CtI l yX7_isColumn wsX7_isColumn 0 0 v [vI i1] σ (fun z u => z = (if 0 ≤ i1 ∧ i1 < 3 then 1 else 0) ∧ u = σ) := by
  refine mkZ (cc := cX7_isColumn) (n := 1) (by decide +kernel) rfl (Nat.le_of_ble_eq_true rfl) (fun x A Q hx C hret => ?_)
  subst hx
  show At x v A Q _ 0 [(0, vI i1)] [] σ
  refine a_iload_n C dX7_isColumn_0 0 rfl rfl ?_
  refine a_if_lt C 13 (by omega) dX7_isColumn_1 (by decide) (fun c1 => ?_) (fun c1 => ?_)
  · skip
    refine a_iconst C dX7_isColumn_13 ?_
    refine hret _ _ _ _ dX7_isColumn_14 (by decide) ⟨?_, ?_⟩
    · (first | rw [if_pos (by omega)] | rw [if_neg (by omega)])
    · rfl
  · skip
    refine a_iload_n C dX7_isColumn_4 0 rfl rfl ?_
    refine a_iconst C dX7_isColumn_5 ?_
    refine a_icmp_ge C 13 (by omega) (by decide) dX7_isColumn_6 (by decide) (fun c6 => ?_) (fun c6 => ?_)
    · skip
      refine a_iconst C dX7_isColumn_13 ?_
      refine hret _ _ _ _ dX7_isColumn_14 (by decide) ⟨?_, ?_⟩
      · (first | rw [if_pos (by omega)] | rw [if_neg (by omega)])
      · rfl
    · skip
      refine a_iconst C dX7_isColumn_9 ?_
      refine a_goto C 14 dX7_isColumn_10 (by decide) ?_
      refine hret _ _ _ _ dX7_isColumn_14 (by decide) ⟨?_, ?_⟩
      · (first | rw [if_pos (by omega)] | rw [if_neg (by omega)])
      · rfl
set_option maxHeartbeats 4000000 in
set_option maxRecDepth 100000 in
theorem c_X7_isValue (l : Launch) (v : VC) (σ : Mem) (i1 : Int) (h1 : rg i1) : CtI l yX7_isValue wsX7_isValue 0 0 v [vI i1] σ (fun z u => z = (if 0 ≤ i1 ∧ i1 < 40 then 1 else 0) ∧ u = σ) := by
  refine mkZ (cc := cX7_isValue) (n := 1) (by decide +kernel) rfl (Nat.le_of_ble_eq_true rfl) (fun x A Q hx C hret => ?_)
  subst hx
  show At x v A Q _ 0 [(0, vI i1)] [] σ
  refine a_iload_n C dX7_isValue_0 0 rfl rfl ?_
  refine a_if_lt C 14 (by omega) dX7_isValue_1 (by decide) (fun c1 => ?_) (fun c1 => ?_)
  · skip
    refine a_iconst C dX7_isValue_14 ?_
    refine hret _ _ _ _ dX7_isValue_15 (by decide) ⟨?_, ?_⟩
    · (first | rw [if_pos (by omega)] | rw [if_neg (by omega)])
    · rfl
  · skip
    refine a_iload_n C dX7_isValue_4 0 rfl rfl ?_
    refine a_bipush C dX7_isValue_5 ?_
    refine a_icmp_ge C 14 (by omega) (by decide) dX7_isValue_7 (by decide) (fun c7 => ?_) (fun c7 => ?_)
    · skip
      refine a_iconst C dX7_isValue_14 ?_
      refine hret _ _ _ _ dX7_isValue_15 (by decide) ⟨?_, ?_⟩
      · (first | rw [if_pos (by omega)] | rw [if_neg (by omega)])
      · rfl
    · skip
      refine a_iconst C dX7_isValue_10 ?_
      refine a_goto C 15 dX7_isValue_11 (by decide) ?_
      refine hret _ _ _ _ dX7_isValue_15 (by decide) ⟨?_, ?_⟩
      · (first | rw [if_pos (by omega)] | rw [if_neg (by omega)])
      · rfl
set_option maxHeartbeats 4000000 in
set_option maxRecDepth 100000 in
theorem c_X7_cut (l : Launch) (v : VC) (σ : Mem) (x1 s1 : Int) (hx : rgL x1) (hs : rg s1) : CtL l yX7_cut wsX7_cut 0 0 v [vJ x1, vI s1] σ (fun z u => z = fitI s1 x1 ∧ u = σ) := by
  refine mkL (cc := cX7_cut) (n := 3) (by decide +kernel) rfl (Nat.le_of_ble_eq_true rfl) (fun x A Q hx C hret => ?_)
  subst hx
  show At x v A Q _ 0 [(0, vJ x1), (2, vI s1)] [] σ
  have w8 := bm8 x1
  have w16 := bm16 x1
  refine a_iload_n C dX7_cut_0 1 rfl rfl ?_
  refine a_if_ne C 11 (by omega) dX7_cut_1 (by decide) (fun c1 => ?_) (fun c1 => ?_)
  · skip
    refine a_iload_n C dX7_cut_11 1 rfl rfl ?_
    refine a_iconst C dX7_cut_12 ?_
    refine a_icmp_ne C 23 (by omega) (by decide) dX7_cut_13 (by decide) (fun c13 => ?_) (fun c13 => ?_)
    · skip
      refine a_iload_n C dX7_cut_23 1 rfl rfl ?_
      refine a_iconst C dX7_cut_24 ?_
      refine a_icmp_ne C 34 (by omega) (by decide) dX7_cut_25 (by decide) (fun c25 => ?_) (fun c25 => ?_)
      · skip
        refine a_lload_n C dX7_cut_34 0 rfl rfl ?_
        exact hret _ _ _ _ dX7_cut_35 (by omega) ⟨by unfold fitI; (first | rw [if_pos (by omega)] | (rw [if_neg (by omega)]; (first | rw [if_pos (by omega)] | (rw [if_neg (by omega)]; (first | rw [if_pos (by omega)] | rw [if_neg (by omega)]))))), rfl⟩
      · skip
        refine a_lload_n C dX7_cut_28 0 rfl rfl ?_
        refine a_l2i C dX7_cut_29 ?_
        refine a_wrap ?_
        have w32 := bm32 x1
        refine a_i2l C (by omega) dX7_cut_30 ?_
        refine a_goto C 35 dX7_cut_31 (by decide) ?_
        exact hret _ _ _ _ dX7_cut_35 (by omega) ⟨by unfold fitI; (first | rw [if_pos (by omega)] | (rw [if_neg (by omega)]; (first | rw [if_pos (by omega)] | (rw [if_neg (by omega)]; (first | rw [if_pos (by omega)] | rw [if_neg (by omega)]))))), rfl⟩
    · skip
      refine a_lload_n C dX7_cut_16 0 rfl rfl ?_
      refine a_l2i C dX7_cut_17 ?_
      refine a_i2s C dX7_cut_18 ?_
      refine a_i2l C (by omega) dX7_cut_19 ?_
      refine a_goto C 35 dX7_cut_20 (by decide) ?_
      exact hret _ _ _ _ dX7_cut_35 (by omega) ⟨by unfold fitI; (first | rw [if_pos (by omega)] | (rw [if_neg (by omega)]; (first | rw [if_pos (by omega)] | (rw [if_neg (by omega)]; (first | rw [if_pos (by omega)] | rw [if_neg (by omega)]))))), rfl⟩
  · skip
    refine a_lload_n C dX7_cut_4 0 rfl rfl ?_
    refine a_l2i C dX7_cut_5 ?_
    refine a_i2b C dX7_cut_6 ?_
    refine a_i2l C (by omega) dX7_cut_7 ?_
    refine a_goto C 35 dX7_cut_8 (by decide) ?_
    exact hret _ _ _ _ dX7_cut_35 (by omega) ⟨by unfold fitI; (first | rw [if_pos (by omega)] | (rw [if_neg (by omega)]; (first | rw [if_pos (by omega)] | (rw [if_neg (by omega)]; (first | rw [if_pos (by omega)] | rw [if_neg (by omega)]))))), rfl⟩
set_option maxHeartbeats 4000000 in
set_option maxRecDepth 100000 in
theorem c_X7_all (l : Launch) (v : VC) (σ : Mem) (b : Nat) (hM : shMo v b) (cl : Int) (hc : 0 ≤ cl ∧ cl < 3) (h3 : 0 ≤ σ (b + 6) cl ∧ σ (b + 6) cl ≤ 10000) (h4 : 0 ≤ σ (b + 5) cl ∧ σ (b + 5) cl ≤ 10000) : CtI l yX7_all wsX7_all 0 0 v [.ref (vq v b), vI cl] σ (fun z u => z = σ (b + 6) cl + σ (b + 5) cl ∧ u = σ) := by
  refine mkI (cc := cX7_all) (n := 2) (by decide +kernel) rfl (Nat.le_of_ble_eq_true rfl) (fun x A Q hx C hret => ?_)
  subst hx
  show At x v A Q _ 0 [(0, .ref (vq v b)), (1, vI cl)] [] σ
  have iX7 : ∀ w ∈ wsX70, w ∈ wsX7_all := by decide +kernel
  have k30 : Cond.fieldLink RX7 30 (TX7 8).1 (TX7 8).2.1 (TX7 8).2.2.1 ∈ wsX7_all := by decide +kernel
  have k27 : Cond.fieldLink RX7 27 (TX7 7).1 (TX7 7).2.1 (TX7 7).2.2.1 ∈ wsX7_all := by decide +kernel
  refine a_aload_n C dX7_all_0 0 rfl rfl ?_
  refine a_getf C hM.f0 hM.n0 (Cn := RX7) (T := TX7) (N := 30) rfl iX7 8 (by decide) k30 (w := .ref (vq v (b + 6))) rfl dX7_all_1 ?_
  refine a_iload_n C dX7_all_4 1 rfl rfl ?_
  refine a_iald C hM.f6 hM.n6 0 hM.tI (by omega) (by omega) (by decide) dX7_all_5 (fun z5 e5 r5 => ?_)
  refine a_aload_n C dX7_all_6 0 rfl rfl ?_
  refine a_getf C hM.f0 hM.n0 (Cn := RX7) (T := TX7) (N := 30) rfl iX7 7 (by decide) k27 (w := .ref (vq v (b + 5))) rfl dX7_all_7 ?_
  refine a_iload_n C dX7_all_10 1 rfl rfl ?_
  refine a_iald C hM.f5 hM.n5 0 hM.tI (by omega) (by omega) (by decide) dX7_all_11 (fun z11 e11 r11 => ?_)
  refine a_iadd C dX7_all_12 ?_
  exact hret _ _ _ _ dX7_all_13 (by omega) ⟨by omega, rfl⟩
set_option maxHeartbeats 4000000 in
set_option maxRecDepth 100000 in
theorem c_X7_at (l : Launch) (v : VC) (σ : Mem) (p1 f1 : Int) (h1 : 0 ≤ p1 ∧ p1 ≤ 100) (h2 : 0 ≤ f1 ∧ f1 ≤ 100) : CtI l yX7_at wsX7_at 0 0 v [vI p1, vI f1] σ (fun z u => z = 101 * p1 + f1 ∧ u = σ) := by
  refine mkI (cc := cX7_at) (n := 2) (by decide +kernel) rfl (Nat.le_of_ble_eq_true rfl) (fun x A Q hx C hret => ?_)
  subst hx
  show At x v A Q _ 0 [(0, vI p1), (1, vI f1)] [] σ
  refine a_bipush C dX7_at_0 ?_
  refine a_iload_n C dX7_at_2 0 rfl rfl ?_
  refine a_imul C dX7_at_3 ?_
  refine a_iload_n C dX7_at_4 1 rfl rfl ?_
  refine a_iadd C dX7_at_5 ?_
  exact hret _ _ _ _ dX7_at_6 (by omega) ⟨rfl, rfl⟩
set_option maxHeartbeats 4000000 in
set_option maxRecDepth 100000 in
theorem c_X7_capped (l : Launch) (v : VC) (σ : Mem) (d : Int) (hd : rg d) : CtI l yX7_capped wsX7_capped 1 23 v [vI d] σ (fun z u => z = min d 1000000 ∧ u = σ) := by
  refine mkI (cc := cX7_capped) (n := 1) (by decide +kernel) rfl (Nat.le_of_ble_eq_true rfl) (fun x A Q hx C hret => ?_)
  subst hx
  show At x v A Q _ 0 [(0, vI d)] [] σ
  refine a_ldc C 1000000 (w := 1000000) (by decide +kernel) rfl dX7_capped_0 ?_
  refine a_iload_n C dX7_capped_2 0 rfl rfl ?_
  refine a_mmin C (by decide) (by omega) (by decide +kernel) ⟨by decide, Nat.le_of_ble_eq_true rfl⟩ dX7_capped_3 ?_
  obtain ⟨z3, e3⟩ : ∃ w : Int, w = min 1000000 d := ⟨_, rfl⟩
  rw [← e3]
  exact hret _ _ _ _ dX7_capped_6 (by omega) ⟨by omega, rfl⟩
set_option maxHeartbeats 4000000 in
set_option maxRecDepth 100000 in
theorem c_X7_both (l : Launch) (v : VC) (σ : Mem) (b : Nat) (hM : shMo v b) (cl k : Int) (hc : 0 ≤ cl ∧ cl < 3) (hk : 0 ≤ k ∧ k < 39) (b0 : -1000000000 ≤ σ (b + 16) (40 * cl + k) ∧ σ (b + 16) (40 * cl + k) ≤ 1000000000) (b1 : -1000000000 ≤ σ (b + 16) (40 * cl + (k + 1)) ∧ σ (b + 16) (40 * cl + (k + 1)) ≤ 1000000000) : CtI l yX7_both wsX7_both 0 0 v [.ref (vq v b), vI cl, vI k] σ (fun z u => z = σ (b + 16) (40 * cl + k) + σ (b + 16) (40 * cl + (k + 1)) ∧ u = σ) := by
  refine mkI (cc := cX7_both) (n := 3) (by decide +kernel) rfl (Nat.le_of_ble_eq_true rfl) (fun x A Q hx C hret => ?_)
  subst hx
  show At x v A Q _ 0 [(0, .ref (vq v b)), (1, vI cl), (2, vI k)] [] σ
  have iX7 : ∀ w ∈ wsX70, w ∈ wsX7_both := by decide +kernel
  have k61 : Cond.fieldLink RX7 61 (TX7 18).1 (TX7 18).2.1 (TX7 18).2.2.1 ∈ wsX7_both := by decide +kernel
  refine a_aload_n C dX7_both_0 0 rfl rfl ?_
  refine a_getf C hM.f0 hM.n0 (Cn := RX7) (T := TX7) (N := 30) rfl iX7 18 (by decide) k61 (w := .ref (vq v (b + 16))) rfl dX7_both_1 ?_
  refine a_bipush C dX7_both_4 ?_
  refine a_iload_n C dX7_both_6 1 rfl rfl ?_
  refine a_imul C dX7_both_7 ?_
  refine a_iload_n C dX7_both_8 2 rfl rfl ?_
  refine a_iadd C dX7_both_9 ?_
  refine a_iald C hM.f16 hM.n16 0 hM.tI (by omega) (by omega) (by decide) dX7_both_10 (fun z10 e10 r10 => ?_)
  refine a_aload_n C dX7_both_11 0 rfl rfl ?_
  refine a_getf C hM.f0 hM.n0 (Cn := RX7) (T := TX7) (N := 30) rfl iX7 18 (by decide) k61 (w := .ref (vq v (b + 16))) rfl dX7_both_12 ?_
  refine a_bipush C dX7_both_15 ?_
  refine a_iload_n C dX7_both_17 1 rfl rfl ?_
  refine a_imul C dX7_both_18 ?_
  refine a_iload_n C dX7_both_19 2 rfl rfl ?_
  refine a_iadd C dX7_both_20 ?_
  refine a_iconst C dX7_both_21 ?_
  refine a_iadd C dX7_both_22 ?_
  refine a_iald C hM.f16 hM.n16 0 hM.tI (by omega) (by omega) (by decide) dX7_both_23 (fun z23 e23 r23 => ?_)
  rw [show 40 * cl + k + 1 = 40 * cl + (k + 1) by omega] at e23
  refine a_iadd C dX7_both_24 ?_
  exact hret _ _ _ _ dX7_both_25 (by omega) ⟨by omega, rfl⟩
set_option maxHeartbeats 4000000 in
set_option maxRecDepth 100000 in
theorem c_X7_wrong (l : Launch) (v : VC) (σ : Mem) (b : Nat) (hM : shMo v b) (i1 p1 : Int) (h1 : rg i1) (h2 : rg p1) : CtI l yX7_wrong wsX7_wrong 1 20 v [.ref (vq v b), vI i1, vI p1] σ (fun z u => z = (if ¬ (0 ≤ i1 ∧ i1 < 4) then 1 else if σ (b + 2) i1 = -1 then 2 else if ¬ (0 ≤ p1 ∧ p1 < σ (b + 2) i1) then 3 else 0) ∧ u = σ) := by
  refine mkI (cc := cX7_wrong) (n := 3) (by decide +kernel) rfl (Nat.le_of_ble_eq_true rfl) (fun x A Q hx C hret => ?_)
  subst hx
  show At x v A Q _ 0 [(0, .ref (vq v b)), (1, vI i1), (2, vI p1)] [] σ
  have iX7 : ∀ w ∈ wsX70, w ∈ wsX7_wrong := by decide +kernel
  have k17 : Cond.fieldLink RX7 17 (TX7 4).1 (TX7 4).2.1 (TX7 4).2.2.1 ∈ wsX7_wrong := by decide +kernel
  refine a_iload_n C dX7_wrong_0 1 rfl rfl ?_
  refine a_cSI C (k0 := 1) (As := [vI i1]) (rest := []) (c_X7_isTray x.2.1 v σ i1 (by omega)) gX7_wrong_X7_isTray rfl (by decide +kernel) (by decide) rfl rfl (Nat.le_of_ble_eq_true rfl) dX7_wrong_1 (fun z1 u1 r1 p1 => ?_)
  obtain ⟨e1, p1⟩ := p1
  subst u1
  have q1 := zz e1
  refine a_if_ne C 11 r1 dX7_wrong_4 (by decide) (fun c4 => ?_) (fun c4 => ?_)
  · skip
    refine a_aload_n C dX7_wrong_11 0 rfl rfl ?_
    refine a_getf C hM.f0 hM.n0 (Cn := RX7) (T := TX7) (N := 30) rfl iX7 4 (by decide) k17 (w := .ref (vq v (b + 2))) rfl dX7_wrong_12 ?_
    refine a_iload_n C dX7_wrong_15 1 rfl rfl ?_
    refine a_iald C hM.f2 hM.n2 0 hM.tI (by omega) (by omega) (by decide) dX7_wrong_16 (fun z16 e16 r16 => ?_)
    refine a_iconst C dX7_wrong_17 ?_
    refine a_icmp_ne C 25 r16 (by decide) dX7_wrong_18 (by decide) (fun c18 => ?_) (fun c18 => ?_)
    · skip
      refine a_iload_n C dX7_wrong_25 2 rfl rfl ?_
      refine a_if_lt C 39 (by omega) dX7_wrong_26 (by decide) (fun c26 => ?_) (fun c26 => ?_)
      · skip
        refine a_iconst C dX7_wrong_39 ?_
        refine a_goto C 44 dX7_wrong_40 (by decide) ?_
        refine hret _ _ _ _ dX7_wrong_44 (by decide) ⟨?_, rfl⟩
        (repeat (first | rw [if_pos (by omega)] | rw [if_neg (by omega)]))
      · skip
        refine a_iload_n C dX7_wrong_29 2 rfl rfl ?_
        refine a_aload_n C dX7_wrong_30 0 rfl rfl ?_
        refine a_getf C hM.f0 hM.n0 (Cn := RX7) (T := TX7) (N := 30) rfl iX7 4 (by decide) k17 (w := .ref (vq v (b + 2))) rfl dX7_wrong_31 ?_
        refine a_iload_n C dX7_wrong_34 1 rfl rfl ?_
        refine a_iald C hM.f2 hM.n2 0 hM.tI (by omega) (by omega) (by decide) dX7_wrong_35 (fun z35 e35 r35 => ?_)
        refine a_icmp_lt C 43 (by omega) r35 dX7_wrong_36 (by decide) (fun c36 => ?_) (fun c36 => ?_)
        · skip
          refine a_iconst C dX7_wrong_43 ?_
          refine hret _ _ _ _ dX7_wrong_44 (by decide) ⟨?_, rfl⟩
          (repeat (first | rw [if_pos (by omega)] | rw [if_neg (by omega)]))
        · skip
          refine a_iconst C dX7_wrong_39 ?_
          refine a_goto C 44 dX7_wrong_40 (by decide) ?_
          refine hret _ _ _ _ dX7_wrong_44 (by decide) ⟨?_, rfl⟩
          (repeat (first | rw [if_pos (by omega)] | rw [if_neg (by omega)]))
    · skip
      refine a_iconst C dX7_wrong_21 ?_
      refine a_goto C 44 dX7_wrong_22 (by decide) ?_
      refine hret _ _ _ _ dX7_wrong_44 (by decide) ⟨?_, rfl⟩
      (repeat (first | rw [if_pos (by omega)] | rw [if_neg (by omega)]))
  · skip
    refine a_iconst C dX7_wrong_7 ?_
    refine a_goto C 44 dX7_wrong_8 (by decide) ?_
    refine hret _ _ _ _ dX7_wrong_44 (by decide) ⟨?_, rfl⟩
    (repeat (first | rw [if_pos (by omega)] | rw [if_neg (by omega)]))
set_option maxHeartbeats 4000000 in
set_option maxRecDepth 100000 in
theorem c_X7_wrongSketch (l : Launch) (v : VC) (σ : Mem) (b : Nat) (hM : shMo v b) (i1 : Int) (h1 : rg i1) : CtI l yX7_wrongSketch wsX7_wrongSketch 1 20 v [.ref (vq v b), vI i1] σ (fun z u => z = (if ¬ (0 ≤ i1 ∧ i1 < 3) then 1 else if σ (b + 11) i1 = 0 then 5 else 0) ∧ u = σ) := by
  refine mkI (cc := cX7_wrongSketch) (n := 2) (by decide +kernel) rfl (Nat.le_of_ble_eq_true rfl) (fun x A Q hx C hret => ?_)
  subst hx
  show At x v A Q _ 0 [(0, .ref (vq v b)), (1, vI i1)] [] σ
  have iX7 : ∀ w ∈ wsX70, w ∈ wsX7_wrongSketch := by decide +kernel
  have k45 : Cond.fieldLink RX7 45 (TX7 13).1 (TX7 13).2.1 (TX7 13).2.2.1 ∈ wsX7_wrongSketch := by decide +kernel
  refine a_iload_n C dX7_wrongSketch_0 1 rfl rfl ?_
  refine a_cSI C (k0 := 1) (As := [vI i1]) (rest := []) (c_X7_isColumn x.2.1 v σ i1 (by omega)) gX7_wrongSketch_X7_isColumn rfl (by decide +kernel) (by decide) rfl rfl (Nat.le_of_ble_eq_true rfl) dX7_wrongSketch_1 (fun z1 u1 r1 p1 => ?_)
  obtain ⟨e1, p1⟩ := p1
  subst u1
  have q1 := zz e1
  refine a_if_ne C 11 r1 dX7_wrongSketch_4 (by decide) (fun c4 => ?_) (fun c4 => ?_)
  · skip
    refine a_aload_n C dX7_wrongSketch_11 0 rfl rfl ?_
    refine a_getf C hM.f0 hM.n0 (Cn := RX7) (T := TX7) (N := 30) rfl iX7 13 (by decide) k45 (w := .ref (vq v (b + 11))) rfl dX7_wrongSketch_12 ?_
    refine a_iload_n C dX7_wrongSketch_15 1 rfl rfl ?_
    refine a_iald C hM.f11 hM.n11 0 hM.tI (by omega) (by omega) (by decide) dX7_wrongSketch_16 (fun z16 e16 r16 => ?_)
    refine a_if_ne C 24 r16 dX7_wrongSketch_17 (by decide) (fun c17 => ?_) (fun c17 => ?_)
    · skip
      refine a_iconst C dX7_wrongSketch_24 ?_
      refine hret _ _ _ _ dX7_wrongSketch_25 (by decide) ⟨?_, rfl⟩
      (repeat (first | rw [if_pos (by omega)] | rw [if_neg (by omega)]))
    · skip
      refine a_iconst C dX7_wrongSketch_20 ?_
      refine a_goto C 25 dX7_wrongSketch_21 (by decide) ?_
      refine hret _ _ _ _ dX7_wrongSketch_25 (by decide) ⟨?_, rfl⟩
      (repeat (first | rw [if_pos (by omega)] | rw [if_neg (by omega)]))
  · skip
    refine a_iconst C dX7_wrongSketch_7 ?_
    refine a_goto C 25 dX7_wrongSketch_8 (by decide) ?_
    refine hret _ _ _ _ dX7_wrongSketch_25 (by decide) ⟨?_, rfl⟩
    (repeat (first | rw [if_pos (by omega)] | rw [if_neg (by omega)]))
set_option maxHeartbeats 4000000 in
set_option maxRecDepth 100000 in
theorem c_X7_wrongAsk (l : Launch) (v : VC) (σ : Mem) (b : Nat) (hM : shMo v b) (i1 a1 a2 : Int) (h1 : rg i1) (h2 : rg a1) (h3 : rg a2) : CtI l yX7_wrongAsk wsX7_wrongAsk 2 41 v [.ref (vq v b), vI i1, vI a1, vI a2] σ (fun z u => z = (if ¬ (0 ≤ a1 ∧ a1 ≤ a2 ∧ a2 ≤ 39) then 1 else (if ¬ (0 ≤ i1 ∧ i1 < 3) then 1 else if σ (b + 11) i1 = 0 then 5 else 0)) ∧ u = σ) := by
  refine mkI (cc := cX7_wrongAsk) (n := 4) (by decide +kernel) rfl (Nat.le_of_ble_eq_true rfl) (fun x A Q hx C hret => ?_)
  subst hx
  show At x v A Q _ 0 [(0, .ref (vq v b)), (1, vI i1), (2, vI a1), (3, vI a2)] [] σ
  refine a_iload_n C dX7_wrongAsk_0 2 rfl rfl ?_
  refine a_cSI C (k0 := 1) (As := [vI a1]) (rest := []) (c_X7_isValue x.2.1 v σ a1 (by omega)) gX7_wrongAsk_X7_isValue rfl (by decide +kernel) (by decide) rfl rfl (Nat.le_of_ble_eq_true rfl) dX7_wrongAsk_1 (fun z1 u1 r1 p1 => ?_)
  obtain ⟨e1, p1⟩ := p1
  subst u1
  have q1 := zz e1
  refine a_if_eq C 19 r1 dX7_wrongAsk_4 (by decide) (fun c4 => ?_) (fun c4 => ?_)
  · skip
    refine a_iconst C dX7_wrongAsk_19 ?_
    refine a_goto C 28 dX7_wrongAsk_20 (by decide) ?_
    refine hret _ _ _ _ dX7_wrongAsk_28 (by omega) ⟨?_, rfl⟩
    (first | rw [if_pos (by omega)] | (rw [if_neg (by omega)]; assumption))
  · skip
    refine a_iload_n C dX7_wrongAsk_7 3 rfl rfl ?_
    refine a_cSI C (k0 := 1) (As := [vI a2]) (rest := []) (c_X7_isValue x.2.1 v σ a2 (by omega)) gX7_wrongAsk_X7_isValue rfl (by decide +kernel) (by decide) rfl rfl (Nat.le_of_ble_eq_true rfl) dX7_wrongAsk_8 (fun z8 u8 r8 p8 => ?_)
    obtain ⟨e8, p8⟩ := p8
    subst u8
    have q8 := zz e8
    refine a_if_eq C 19 r8 dX7_wrongAsk_11 (by decide) (fun c11 => ?_) (fun c11 => ?_)
    · skip
      refine a_iconst C dX7_wrongAsk_19 ?_
      refine a_goto C 28 dX7_wrongAsk_20 (by decide) ?_
      refine hret _ _ _ _ dX7_wrongAsk_28 (by omega) ⟨?_, rfl⟩
      (first | rw [if_pos (by omega)] | (rw [if_neg (by omega)]; assumption))
    · skip
      refine a_iload_n C dX7_wrongAsk_14 2 rfl rfl ?_
      refine a_iload_n C dX7_wrongAsk_15 3 rfl rfl ?_
      refine a_icmp_le C 23 (by omega) (by omega) dX7_wrongAsk_16 (by decide) (fun c16 => ?_) (fun c16 => ?_)
      · skip
        refine a_aload_n C dX7_wrongAsk_23 0 rfl rfl ?_
        refine a_iload_n C dX7_wrongAsk_24 1 rfl rfl ?_
        refine a_cVI C (k0 := 1) (As := [vI i1]) (rest := []) (c_X7_wrongSketch x.2.1 v σ b hM i1 (by omega)) gX7_wrongAsk_X7_wrongSketch rfl (by decide +kernel) (by decide) hM.f0 rfl hM.n0 rfl rfl (Nat.le_of_ble_eq_true rfl) dX7_wrongAsk_25 (fun z25 u25 r25 p25 => ?_)
        obtain ⟨e25, p25⟩ := p25
        subst u25
        refine hret _ _ _ _ dX7_wrongAsk_28 (by omega) ⟨?_, rfl⟩
        (first | rw [if_pos (by omega)] | (rw [if_neg (by omega)]; assumption))
      · skip
        refine a_iconst C dX7_wrongAsk_19 ?_
        refine a_goto C 28 dX7_wrongAsk_20 (by decide) ?_
        refine hret _ _ _ _ dX7_wrongAsk_28 (by omega) ⟨?_, rfl⟩
        (first | rw [if_pos (by omega)] | (rw [if_neg (by omega)]; assumption))
