/-! ===== the model's looks ===== -/
/-- the sketch of a column of the model -/
def moE (σ : Mem) (b : Nat) (cl : Int) : SV := ((σ (b + 11) cl), (shR (σ (b + 15)) (40 * cl)), (shR (σ (b + 16)) (40 * cl)), (shR (σ (b + 17)) (40 * cl)))
theorem moE_e (σ : Mem) (b : Nat) (cl : Int) : (moE σ b cl).1 = (σ (b + 11) cl) ∧ (moE σ b cl).2.1 = (shR (σ (b + 15)) (40 * cl)) ∧ (moE σ b cl).2.2.1 = (shR (σ (b + 16)) (40 * cl)) ∧ (moE σ b cl).2.2.2 = (shR (σ (b + 17)) (40 * cl)) := ⟨rfl, rfl, rfl, rfl⟩
theorem shR_e (f : Int → Int) (o j : Int) : shR f o j = f (o + j) := rfl
theorem shR_i (f : Int → Int) (o j i : Int) (h : i = o + j) : f i = shR f o j := by rw [h]; rfl
set_option maxHeartbeats 4000000 in
set_option maxRecDepth 100000 in
theorem c_X7_spanOf (l : Launch) (v : VC) (σ : Mem) (b : Nat) (hM : shMo v b) (cl val : Int) (hc : 0 ≤ cl ∧ cl < 3) (hv : 0 ≤ val ∧ val ≤ 39) (hE : svE (moE σ b cl)) : CtI l yX7_spanOf wsX7_spanOf 0 0 v [.ref (vq v b), vI cl, vI val] σ (fun z u => z = spOf (shR (σ (b + 15)) (40 * cl)) (σ (b + 11) cl) val ∧ u = σ) := by
  refine mkI (cc := cX7_spanOf) (n := 4) (by decide +kernel) rfl (Nat.le_of_ble_eq_true rfl) (fun x A Q hx C hret => ?_)
  subst hx
  show At x v A Q _ 0 [(0, .ref (vq v b)), (1, vI cl), (2, vI val)] [] σ
  have iX7 : ∀ w ∈ wsX70, w ∈ wsX7_spanOf := by decide +kernel
  have k58 : Cond.fieldLink RX7 58 (TX7 17).1 (TX7 17).2.1 (TX7 17).2.2.1 ∈ wsX7_spanOf := by decide +kernel
  have n1 : 1 ≤ (σ (b + 11) cl) := hE.1
  have n2 : (σ (b + 11) cl) ≤ 24 := hE.2.1
  have nE : ∀ j : Int, 0 ≤ j → j < (σ (b + 11) cl) → 0 ≤ (shR (σ (b + 15)) (40 * cl)) j ∧ (shR (σ (b + 15)) (40 * cl)) j ≤ 39 := hE.2.2.1
  have nl : (shR (σ (b + 15)) (40 * cl)) ((σ (b + 11) cl) - 1) = 39 := hE.2.2.2.2
  have lp : ∀ (n : Nat) (k : Int) , (24 - k).toNat = n → 0 ≤ k → k ≤ (σ (b + 11) cl) - 1 → (∀ j : Int, 0 ≤ j → j < k → (shR (σ (b + 15)) (40 * cl)) j < val) → At x v A Q 4 2 [(3, vI k), (0, .ref (vq v b)), (1, vI cl), (2, vI val)] [] σ := by
    intro n
    induction n using Nat.strongRecOn with
    | _ n ih =>
      intro k hn i1 i2 i3
      refine a_aload_n C dX7_spanOf_2 1 rfl rfl ?_
      refine a_getf C hM.f0 hM.n0 (Cn := RX7) (T := TX7) (N := 30) rfl iX7 17 (by decide) k58 (w := .ref (vq v (b + 15))) rfl dX7_spanOf_3 ?_
      refine a_bipush C dX7_spanOf_6 ?_
      refine a_iload_n C dX7_spanOf_8 2 rfl rfl ?_
      refine a_imul C dX7_spanOf_9 ?_
      refine a_iload_n C dX7_spanOf_10 0 rfl rfl ?_
      refine a_iadd C dX7_spanOf_11 ?_
      refine a_iald C hM.f15 hM.n15 0 hM.tI (by omega) (by omega) (by decide) dX7_spanOf_12 (fun z12 e12 r12 => ?_)
      have q12 := nE k i1 (by omega)
      rw [shR_i (σ (b + 15)) (40 * cl) k _ rfl] at e12
      refine a_iload_n C dX7_spanOf_13 3 rfl rfl ?_
      refine a_icmp_ge C 23 r12 (by omega) dX7_spanOf_14 (by decide) (fun c14 => ?_) (fun c14 => ?_)
      · skip
        refine a_iload_n C dX7_spanOf_23 0 rfl rfl ?_
        exact hret _ _ _ _ dX7_spanOf_24 (by omega) ⟨fnd_uniq _ _ _ _ (by omega) (by omega) (fun j q1 q2 => by simp only [decide_eq_false_iff_not]; have := i3 j q1 q2; omega) (fun q => by simp only [decide_eq_true_eq]; omega), rfl⟩
      · skip
        refine a_iinc C (k + 1) [(3, vI (k + 1)), (0, .ref (vq v b)), (1, vI cl), (2, vI val)] dX7_spanOf_17 0 rfl (by omega) (by decide) rfl ?_
        refine a_goto C 2 dX7_spanOf_20 (by decide) ?_
        exact ih _ (by omega) (k + 1) rfl (by omega) (by rcases Int.lt_or_le k (σ (b + 11) cl - 1) with z | z; omega; (have : k = σ (b + 11) cl - 1 := by omega); subst this; omega) (fun j q1 q2 => by by_cases hj : j = k; (subst hj; omega); exact i3 j q1 (by omega))
  refine a_iconst C dX7_spanOf_0 ?_
  refine a_istore_n C 3 [(3, vI 0), (0, .ref (vq v b)), (1, vI cl), (2, vI val)] dX7_spanOf_1 rfl (by decide) rfl ?_
  exact lp _ 0 rfl (by omega) (by omega) (fun j q1 q2 => by omega)
set_option maxHeartbeats 4000000 in
set_option maxRecDepth 100000 in
theorem c_X7_begins (l : Launch) (v : VC) (σ : Mem) (b : Nat) (hM : shMo v b) (cl k : Int) (hc : 0 ≤ cl ∧ cl < 3) (hk : 0 ≤ k ∧ k ≤ 39) (hb : 0 < k → 0 ≤ (shR (σ (b + 15)) (40 * cl)) (k - 1) ∧ (shR (σ (b + 15)) (40 * cl)) (k - 1) ≤ 39) : CtI l yX7_begins wsX7_begins 0 0 v [.ref (vq v b), vI cl, vI k] σ (fun z u => z = foF (shR (σ (b + 15)) (40 * cl)) k ∧ u = σ) := by
  refine mkI (cc := cX7_begins) (n := 3) (by decide +kernel) rfl (Nat.le_of_ble_eq_true rfl) (fun x A Q hx C hret => ?_)
  subst hx
  show At x v A Q _ 0 [(0, .ref (vq v b)), (1, vI cl), (2, vI k)] [] σ
  have iX7 : ∀ w ∈ wsX70, w ∈ wsX7_begins := by decide +kernel
  have k58 : Cond.fieldLink RX7 58 (TX7 17).1 (TX7 17).2.1 (TX7 17).2.2.1 ∈ wsX7_begins := by decide +kernel
  refine a_iload_n C dX7_begins_0 2 rfl rfl ?_
  refine a_if_ne C 8 (by omega) dX7_begins_1 (by decide) (fun c1 => ?_) (fun c1 => ?_)
  · skip
    refine a_aload_n C dX7_begins_8 0 rfl rfl ?_
    refine a_getf C hM.f0 hM.n0 (Cn := RX7) (T := TX7) (N := 30) rfl iX7 17 (by decide) k58 (w := .ref (vq v (b + 15))) rfl dX7_begins_9 ?_
    refine a_bipush C dX7_begins_12 ?_
    refine a_iload_n C dX7_begins_14 1 rfl rfl ?_
    refine a_imul C dX7_begins_15 ?_
    refine a_iload_n C dX7_begins_16 2 rfl rfl ?_
    refine a_iadd C dX7_begins_17 ?_
    refine a_iconst C dX7_begins_18 ?_
    refine a_isub C dX7_begins_19 ?_
    refine a_iald C hM.f15 hM.n15 0 hM.tI (by omega) (by omega) (by decide) dX7_begins_20 (fun z20 e20 r20 => ?_)
    have q20 := hb (by omega)
    rw [show 40 * cl + k - 1 = 40 * cl + (k - 1) by omega, shR_i (σ (b + 15)) (40 * cl) (k - 1) _ rfl] at e20
    refine a_iconst C dX7_begins_21 ?_
    refine a_iadd C dX7_begins_22 ?_
    exact hret _ _ _ _ dX7_begins_23 (by omega) ⟨by unfold foF; (first | rw [if_pos (by omega)] | rw [if_neg (by omega)]) <;> omega, rfl⟩
  · skip
    refine a_iconst C dX7_begins_4 ?_
    refine a_goto C 23 dX7_begins_5 (by decide) ?_
    exact hret _ _ _ _ dX7_begins_23 (by decide) ⟨by unfold foF; (first | rw [if_pos (by omega)] | rw [if_neg (by omega)]) <;> omega, rfl⟩
set_option maxHeartbeats 4000000 in
set_option maxRecDepth 100000 in
theorem c_X7_light (l : Launch) (v : VC) (σ : Mem) (b : Nat) (hM : shMo v b) (cl fr to : Int) (hc : 0 ≤ cl ∧ cl < 3) (hf : 0 ≤ fr ∧ fr ≤ 40) (ht : -1 ≤ to ∧ to ≤ 39) : CtI l yX7_light wsX7_light 0 0 v [.ref (vq v b), vI cl, vI fr, vI to] σ (fun z u => z = ltC (shR (σ (b + 14)) (40 * cl)) fr to ∧ u = σ) := by
  refine mkI (cc := cX7_light) (n := 6) (by decide +kernel) rfl (Nat.le_of_ble_eq_true rfl) (fun x A Q hx C hret => ?_)
  subst hx
  show At x v A Q _ 0 [(0, .ref (vq v b)), (1, vI cl), (2, vI fr), (3, vI to)] [] σ
  have iX7 : ∀ w ∈ wsX70, w ∈ wsX7_light := by decide +kernel
  have k54 : Cond.fieldLink RX7 54 (TX7 16).1 (TX7 16).2.1 (TX7 16).2.2.1 ∈ wsX7_light := by decide +kernel
  have lp : ∀ (n : Nat) (w m : Int) , (40 - w).toNat = n → 0 ≤ w ∧ w ≤ 40 → 0 ≤ m → (m ≤ w) → (m + smR (fun v => if (shR (σ (b + 14)) (40 * cl)) v = 0 then 1 else 0) w (min (to + 1) 40) = ltC (shR (σ (b + 14)) (40 * cl)) fr to) → At x v A Q 6 6 [(5, vI w), (4, vI m), (0, .ref (vq v b)), (1, vI cl), (2, vI fr), (3, vI to)] [] σ := by
    intro n
    induction n using Nat.strongRecOn with
    | _ n ih =>
      intro w m hn i1 i3 i4 i5
      refine a_iload C dX7_light_6 0 rfl ?_
      refine a_iload_n C dX7_light_8 5 rfl rfl ?_
      refine a_icmp_gt C 43 (by omega) (by omega) dX7_light_9 (by decide) (fun c9 => ?_) (fun c9 => ?_)
      · skip
        refine a_iload C dX7_light_43 1 rfl ?_
        exact hret _ _ _ _ dX7_light_45 (by omega) ⟨by rw [← i5, smR_nil (by omega)]; omega, rfl⟩
      · skip
        refine a_iload C dX7_light_12 1 rfl ?_
        refine a_aload_n C dX7_light_14 2 rfl rfl ?_
        refine a_getf C hM.f0 hM.n0 (Cn := RX7) (T := TX7) (N := 30) rfl iX7 16 (by decide) k54 (w := .ref (vq v (b + 14))) rfl dX7_light_15 ?_
        refine a_bipush C dX7_light_18 ?_
        refine a_iload_n C dX7_light_20 3 rfl rfl ?_
        refine a_imul C dX7_light_21 ?_
        refine a_iload C dX7_light_22 0 rfl ?_
        refine a_iadd C dX7_light_24 ?_
        refine a_zald C hM.f14 hM.n14 2 hM.tB (by omega) (by omega) (by decide) dX7_light_25 (fun z25 e25 r25 => ?_)
        rw [shR_i (σ (b + 14)) (40 * cl) w _ rfl] at e25
        refine a_if_eq C 33 r25 dX7_light_26 (by decide) (fun c26 => ?_) (fun c26 => ?_)
        · skip
          refine a_iconst C dX7_light_33 ?_
          refine a_iadd C dX7_light_34 ?_
          refine a_istore C [(4, vI (m + 1)), (5, vI w), (0, .ref (vq v b)), (1, vI cl), (2, vI fr), (3, vI to)] dX7_light_35 (by decide) rfl ?_
          refine a_iinc C (w + 1) [(5, vI (w + 1)), (4, vI (m + 1)), (0, .ref (vq v b)), (1, vI cl), (2, vI fr), (3, vI to)] dX7_light_37 1 rfl (by omega) (by decide) rfl ?_
          refine a_goto C 6 dX7_light_40 (by decide) ?_
          exact ih _ (by omega) _ _ rfl (by omega) (by omega) (by omega) (by rw [smR_step (by omega)] at i5; simp only [← e25] at i5; (first | rw [if_pos (by omega)] at i5 | rw [if_neg (by omega)] at i5); omega)
        · skip
          refine a_iconst C dX7_light_29 ?_
          refine a_goto C 34 dX7_light_30 (by decide) ?_
          refine a_iadd C dX7_light_34 ?_
          refine a_istore C [(4, vI (m + 0)), (5, vI w), (0, .ref (vq v b)), (1, vI cl), (2, vI fr), (3, vI to)] dX7_light_35 (by decide) rfl ?_
          refine a_iinc C (w + 1) [(5, vI (w + 1)), (4, vI (m + 0)), (0, .ref (vq v b)), (1, vI cl), (2, vI fr), (3, vI to)] dX7_light_37 1 rfl (by omega) (by decide) rfl ?_
          refine a_goto C 6 dX7_light_40 (by decide) ?_
          exact ih _ (by omega) _ _ rfl (by omega) (by omega) (by omega) (by rw [smR_step (by omega)] at i5; simp only [← e25] at i5; (first | rw [if_pos (by omega)] at i5 | rw [if_neg (by omega)] at i5); omega)
  refine a_iconst C dX7_light_0 ?_
  refine a_istore C [(4, vI 0), (0, .ref (vq v b)), (1, vI cl), (2, vI fr), (3, vI to)] dX7_light_1 (by decide) rfl ?_
  refine a_iload_n C dX7_light_3 3 rfl rfl ?_
  refine a_istore C [(5, vI fr), (4, vI 0), (0, .ref (vq v b)), (1, vI cl), (2, vI fr), (3, vI to)] dX7_light_4 (by decide) rfl ?_
  exact lp _ fr 0 rfl (by omega) (by omega) (by omega) (by unfold ltC; rw [show max fr 0 = fr by omega]; omega)
set_option maxHeartbeats 4000000 in
set_option maxRecDepth 100000 in
theorem c_X7_longOf (l : Launch) (v : VC) (σ : Mem) (b : Nat) (hM : shMo v b) (cl k : Int) (hc : 0 ≤ cl ∧ cl < 3) (hk : 0 ≤ k ∧ k < (σ (b + 11) cl)) (hE : svE (moE σ b cl)) : CtI l yX7_longOf wsX7_longOf 1 25 v [.ref (vq v b), vI cl, vI k] σ (fun z u => z = loN (shR (σ (b + 14)) (40 * cl)) (shR (σ (b + 15)) (40 * cl)) k ∧ u = σ) := by
  refine mkI (cc := cX7_longOf) (n := 3) (by decide +kernel) rfl (Nat.le_of_ble_eq_true rfl) (fun x A Q hx C hret => ?_)
  subst hx
  show At x v A Q _ 0 [(0, .ref (vq v b)), (1, vI cl), (2, vI k)] [] σ
  have iX7 : ∀ w ∈ wsX70, w ∈ wsX7_longOf := by decide +kernel
  have k58 : Cond.fieldLink RX7 58 (TX7 17).1 (TX7 17).2.1 (TX7 17).2.2.1 ∈ wsX7_longOf := by decide +kernel
  have n1 : 1 ≤ (σ (b + 11) cl) := hE.1
  have n2 : (σ (b + 11) cl) ≤ 24 := hE.2.1
  have nE : ∀ j : Int, 0 ≤ j → j < (σ (b + 11) cl) → 0 ≤ (shR (σ (b + 15)) (40 * cl)) j ∧ (shR (σ (b + 15)) (40 * cl)) j ≤ 39 := hE.2.2.1
  refine a_aload_n C dX7_longOf_0 0 rfl rfl ?_
  refine a_iload_n C dX7_longOf_1 1 rfl rfl ?_
  refine a_aload_n C dX7_longOf_2 0 rfl rfl ?_
  refine a_iload_n C dX7_longOf_3 1 rfl rfl ?_
  refine a_iload_n C dX7_longOf_4 2 rfl rfl ?_
  refine a_cVI C (k0 := 2) (As := [vI cl, vI k]) (rest := [vI cl, .ref (vq v b)]) (c_X7_begins x.2.1 v σ b hM cl k hc (by omega) (fun q => nE (k - 1) (by omega) (by omega))) gX7_longOf_X7_begins rfl (by decide +kernel) (by decide) hM.f0 rfl hM.n0 rfl rfl (Nat.le_of_ble_eq_true rfl) dX7_longOf_5 (fun z5 u5 r5 p5 => ?_)
  obtain ⟨e5, p5⟩ := p5
  subst u5
  have q5 : 0 ≤ foF (shR (σ (b + 15)) (40 * cl)) k ∧ foF (shR (σ (b + 15)) (40 * cl)) k ≤ 40 := by unfold foF; split; (have := nE (k - 1) (by omega) (by omega); omega); omega
  rw [← e5] at q5
  refine a_aload_n C dX7_longOf_8 0 rfl rfl ?_
  refine a_getf C hM.f0 hM.n0 (Cn := RX7) (T := TX7) (N := 30) rfl iX7 17 (by decide) k58 (w := .ref (vq v (b + 15))) rfl dX7_longOf_9 ?_
  refine a_bipush C dX7_longOf_12 ?_
  refine a_iload_n C dX7_longOf_14 1 rfl rfl ?_
  refine a_imul C dX7_longOf_15 ?_
  refine a_iload_n C dX7_longOf_16 2 rfl rfl ?_
  refine a_iadd C dX7_longOf_17 ?_
  refine a_iald C hM.f15 hM.n15 0 hM.tI (by omega) (by omega) (by decide) dX7_longOf_18 (fun z18 e18 r18 => ?_)
  rw [shR_i (σ (b + 15)) (40 * cl) k _ rfl] at e18
  have q18 := nE k (by omega) (by omega)
  refine a_cVI C (k0 := 3) (As := [vI cl, vI z5, vI z18]) (rest := []) (c_X7_light x.2.1 v σ b hM cl z5 z18 hc q5 (by omega)) gX7_longOf_X7_light rfl (by decide +kernel) (by decide) hM.f0 rfl hM.n0 rfl rfl (Nat.le_of_ble_eq_true rfl) dX7_longOf_19 (fun z19 u19 r19 p19 => ?_)
  obtain ⟨e19, p19⟩ := p19
  subst u19
  exact hret _ _ _ _ dX7_longOf_22 r19 ⟨by rw [e19, e5, e18]; rfl, rfl⟩
set_option maxHeartbeats 4000000 in
set_option maxRecDepth 100000 in
theorem c_X7_heavies (l : Launch) (v : VC) (σ : Mem) (b : Nat) (hM : shMo v b) (cl fr to : Int) (hc : 0 ≤ cl ∧ cl < 3) (hf : 0 ≤ fr ∧ fr ≤ 40) (ht : -1 ≤ to ∧ to ≤ 39) (hr : rg (hvS (shR (σ (b + 14)) (40 * cl)) (shR (σ (b + 13)) (40 * cl)) fr to)) : CtI l yX7_heavies wsX7_heavies 0 0 v [.ref (vq v b), vI cl, vI fr, vI to] σ (fun z u => z = hvS (shR (σ (b + 14)) (40 * cl)) (shR (σ (b + 13)) (40 * cl)) fr to ∧ u = σ) := by
  refine mkI (cc := cX7_heavies) (n := 6) (by decide +kernel) rfl (Nat.le_of_ble_eq_true rfl) (fun x A Q hx C hret => ?_)
  subst hx
  show At x v A Q _ 0 [(0, .ref (vq v b)), (1, vI cl), (2, vI fr), (3, vI to)] [] σ
  have iX7 : ∀ w ∈ wsX70, w ∈ wsX7_heavies := by decide +kernel
  have k54 : Cond.fieldLink RX7 54 (TX7 16).1 (TX7 16).2.1 (TX7 16).2.2.1 ∈ wsX7_heavies := by decide +kernel
  have k51 : Cond.fieldLink RX7 51 (TX7 15).1 (TX7 15).2.1 (TX7 15).2.2.1 ∈ wsX7_heavies := by decide +kernel
  have lp : ∀ (n : Nat) (w m : Int) , (40 - w).toNat = n → 0 ≤ w ∧ w ≤ 40 → (m + smR (fun v => if (shR (σ (b + 14)) (40 * cl)) v = 0 then 0 else (shR (σ (b + 13)) (40 * cl)) v) w (min (to + 1) 40) = hvS (shR (σ (b + 14)) (40 * cl)) (shR (σ (b + 13)) (40 * cl)) fr to) → At x v A Q 6 6 [(5, vI w), (4, vI m), (0, .ref (vq v b)), (1, vI cl), (2, vI fr), (3, vI to)] [] σ := by
    intro n
    induction n using Nat.strongRecOn with
    | _ n ih =>
      intro w m hn i1 i3
      refine a_iload C dX7_heavies_6 0 rfl ?_
      refine a_iload_n C dX7_heavies_8 5 rfl rfl ?_
      refine a_icmp_gt C 54 (by omega) (by omega) dX7_heavies_9 (by decide) (fun c9 => ?_) (fun c9 => ?_)
      · skip
        refine a_iload C dX7_heavies_54 1 rfl ?_
        have q53 : m = hvS (shR (σ (b + 14)) (40 * cl)) (shR (σ (b + 13)) (40 * cl)) fr to := by rw [← i3, smR_nil (by omega), Int.add_zero]
        exact hret _ _ _ _ dX7_heavies_56 (by rw [q53]; exact hr) ⟨q53, rfl⟩
      · skip
        refine a_iload C dX7_heavies_12 1 rfl ?_
        refine a_aload_n C dX7_heavies_14 2 rfl rfl ?_
        refine a_getf C hM.f0 hM.n0 (Cn := RX7) (T := TX7) (N := 30) rfl iX7 16 (by decide) k54 (w := .ref (vq v (b + 14))) rfl dX7_heavies_15 ?_
        refine a_bipush C dX7_heavies_18 ?_
        refine a_iload_n C dX7_heavies_20 3 rfl rfl ?_
        refine a_imul C dX7_heavies_21 ?_
        refine a_iload C dX7_heavies_22 0 rfl ?_
        refine a_iadd C dX7_heavies_24 ?_
        refine a_zald C hM.f14 hM.n14 2 hM.tB (by omega) (by omega) (by decide) dX7_heavies_25 (fun z25 e25 r25 => ?_)
        rw [shR_i (σ (b + 14)) (40 * cl) w _ rfl] at e25
        refine a_if_eq C 44 r25 dX7_heavies_26 (by decide) (fun c26 => ?_) (fun c26 => ?_)
        · skip
          refine a_iconst C dX7_heavies_44 ?_
          refine a_iadd C dX7_heavies_45 ?_
          refine a_istore C [(4, vI (m + 0)), (5, vI w), (0, .ref (vq v b)), (1, vI cl), (2, vI fr), (3, vI to)] dX7_heavies_46 (by decide) rfl ?_
          refine a_iinc C (w + 1) [(5, vI (w + 1)), (4, vI (m + 0)), (0, .ref (vq v b)), (1, vI cl), (2, vI fr), (3, vI to)] dX7_heavies_48 1 rfl (by omega) (by decide) rfl ?_
          refine a_goto C 6 dX7_heavies_51 (by decide) ?_
          exact ih _ (by omega) _ _ rfl (by omega) (by rw [smR_step (by omega)] at i3; simp only [← e25] at i3; (first | rw [if_pos (by omega)] at i3 | rw [if_neg (by omega), ← e40] at i3); omega)
        · skip
          refine a_aload_n C dX7_heavies_29 2 rfl rfl ?_
          refine a_getf C hM.f0 hM.n0 (Cn := RX7) (T := TX7) (N := 30) rfl iX7 15 (by decide) k51 (w := .ref (vq v (b + 13))) rfl dX7_heavies_30 ?_
          refine a_bipush C dX7_heavies_33 ?_
          refine a_iload_n C dX7_heavies_35 3 rfl rfl ?_
          refine a_imul C dX7_heavies_36 ?_
          refine a_iload C dX7_heavies_37 0 rfl ?_
          refine a_iadd C dX7_heavies_39 ?_
          refine a_iald C hM.f13 hM.n13 0 hM.tI (by omega) (by omega) (by decide) dX7_heavies_40 (fun z40 e40 r40 => ?_)
          rw [shR_i (σ (b + 13)) (40 * cl) w _ rfl] at e40
          refine a_goto C 45 dX7_heavies_41 (by decide) ?_
          refine a_iadd C dX7_heavies_45 ?_
          refine a_istore C [(4, vI (m + z40)), (5, vI w), (0, .ref (vq v b)), (1, vI cl), (2, vI fr), (3, vI to)] dX7_heavies_46 (by decide) rfl ?_
          refine a_iinc C (w + 1) [(5, vI (w + 1)), (4, vI (m + z40)), (0, .ref (vq v b)), (1, vI cl), (2, vI fr), (3, vI to)] dX7_heavies_48 1 rfl (by omega) (by decide) rfl ?_
          refine a_goto C 6 dX7_heavies_51 (by decide) ?_
          exact ih _ (by omega) _ _ rfl (by omega) (by rw [smR_step (by omega)] at i3; simp only [← e25] at i3; (first | rw [if_pos (by omega)] at i3 | rw [if_neg (by omega), ← e40] at i3); omega)
  refine a_iconst C dX7_heavies_0 ?_
  refine a_istore C [(4, vI 0), (0, .ref (vq v b)), (1, vI cl), (2, vI fr), (3, vI to)] dX7_heavies_1 (by decide) rfl ?_
  refine a_iload_n C dX7_heavies_3 3 rfl rfl ?_
  refine a_istore C [(5, vI fr), (4, vI 0), (0, .ref (vq v b)), (1, vI cl), (2, vI fr), (3, vI to)] dX7_heavies_4 (by decide) rfl ?_
  exact lp _ fr 0 rfl (by omega) (by unfold hvS; rw [show max fr 0 = fr by omega]; omega)
set_option maxHeartbeats 4000000 in
set_option maxRecDepth 100000 in
theorem c_X7_asked (l : Launch) (v : VC) (σ : Mem) (b : Nat) (hM : shMo v b) (cl k a1 a2 : Int) (hc : 0 ≤ cl ∧ cl < 3) (hk : 0 ≤ k ∧ k < (σ (b + 11) cl)) (ha : 0 ≤ a1 ∧ a1 ≤ a2 ∧ a2 ≤ 39) (hE : svE (moE σ b cl)) : CtI l yX7_asked wsX7_asked 1 25 v [.ref (vq v b), vI cl, vI k, vI a1, vI a2] σ (fun z u => z = askF (shR (σ (b + 14)) (40 * cl)) (shR (σ (b + 15)) (40 * cl)) a1 a2 k ∧ u = σ) := by
  refine mkI (cc := cX7_asked) (n := 5) (by decide +kernel) rfl (Nat.le_of_ble_eq_true rfl) (fun x A Q hx C hret => ?_)
  subst hx
  show At x v A Q _ 0 [(0, .ref (vq v b)), (1, vI cl), (2, vI k), (3, vI a1), (4, vI a2)] [] σ
  have iX7 : ∀ w ∈ wsX70, w ∈ wsX7_asked := by decide +kernel
  have k58 : Cond.fieldLink RX7 58 (TX7 17).1 (TX7 17).2.1 (TX7 17).2.2.1 ∈ wsX7_asked := by decide +kernel
  have n1 : 1 ≤ (σ (b + 11) cl) := hE.1
  have n2 : (σ (b + 11) cl) ≤ 24 := hE.2.1
  have nE : ∀ j : Int, 0 ≤ j → j < (σ (b + 11) cl) → 0 ≤ (shR (σ (b + 15)) (40 * cl)) j ∧ (shR (σ (b + 15)) (40 * cl)) j ≤ 39 := hE.2.2.1
  refine a_aload_n C dX7_asked_0 0 rfl rfl ?_
  refine a_iload_n C dX7_asked_1 1 rfl rfl ?_
  refine a_iload_n C dX7_asked_2 3 rfl rfl ?_
  refine a_aload_n C dX7_asked_3 0 rfl rfl ?_
  refine a_iload_n C dX7_asked_4 1 rfl rfl ?_
  refine a_iload_n C dX7_asked_5 2 rfl rfl ?_
  refine a_cVI C (k0 := 2) (As := [vI cl, vI k]) (rest := [vI a1, vI cl, .ref (vq v b)]) (c_X7_begins x.2.1 v σ b hM cl k hc (by omega) (fun q => nE (k - 1) (by omega) (by omega))) gX7_asked_X7_begins rfl (by decide +kernel) (by decide) hM.f0 rfl hM.n0 rfl rfl (Nat.le_of_ble_eq_true rfl) dX7_asked_6 (fun z6 u6 r6 p6 => ?_)
  obtain ⟨e6, p6⟩ := p6
  subst u6
  have q5 : 0 ≤ foF (shR (σ (b + 15)) (40 * cl)) k ∧ foF (shR (σ (b + 15)) (40 * cl)) k ≤ 40 := by unfold foF; split; (have := nE (k - 1) (by omega) (by omega); omega); omega
  rw [← e6] at q5
  refine a_mmax C (by omega) r6 (by decide +kernel) ⟨by decide, Nat.le_of_ble_eq_true rfl⟩ dX7_asked_9 ?_
  obtain ⟨z9, e9⟩ : ∃ w : Int, w = max a1 z6 := ⟨_, rfl⟩
  rw [← e9]
  refine a_iload C dX7_asked_12 4 rfl ?_
  refine a_aload_n C dX7_asked_14 0 rfl rfl ?_
  refine a_getf C hM.f0 hM.n0 (Cn := RX7) (T := TX7) (N := 30) rfl iX7 17 (by decide) k58 (w := .ref (vq v (b + 15))) rfl dX7_asked_15 ?_
  refine a_bipush C dX7_asked_18 ?_
  refine a_iload_n C dX7_asked_20 1 rfl rfl ?_
  refine a_imul C dX7_asked_21 ?_
  refine a_iload_n C dX7_asked_22 2 rfl rfl ?_
  refine a_iadd C dX7_asked_23 ?_
  refine a_iald C hM.f15 hM.n15 0 hM.tI (by omega) (by omega) (by decide) dX7_asked_24 (fun z24 e24 r24 => ?_)
  rw [shR_i (σ (b + 15)) (40 * cl) k _ rfl] at e24
  have q18 := nE k (by omega) (by omega)
  refine a_mmin C (by omega) r24 (by decide +kernel) ⟨by decide, Nat.le_of_ble_eq_true rfl⟩ dX7_asked_25 ?_
  obtain ⟨z25, e25⟩ : ∃ w : Int, w = min a2 z24 := ⟨_, rfl⟩
  rw [← e25]
  refine a_cVI C (k0 := 3) (As := [vI cl, vI z9, vI z25]) (rest := []) (c_X7_light x.2.1 v σ b hM cl z9 z25 hc (by omega) (by omega)) gX7_asked_X7_light rfl (by decide +kernel) (by decide) hM.f0 rfl hM.n0 rfl rfl (Nat.le_of_ble_eq_true rfl) dX7_asked_28 (fun z28 u28 r28 p28 => ?_)
  obtain ⟨e28, p28⟩ := p28
  subst u28
  exact hret _ _ _ _ dX7_asked_31 r28 ⟨by rw [e28, e9, e25, e6, e24, Int.max_comm, Int.min_comm]; rfl, rfl⟩
set_option maxHeartbeats 4000000 in
set_option maxRecDepth 100000 in
theorem c_X7_load (l : Launch) (v : VC) (σ : Mem) (b : Nat) (hM : shMo v b) (cl : Int) (hc : 0 ≤ cl ∧ cl < 3) (hE : svE (moE σ b cl)) (hB : ∀ j : Int, 0 ≤ j → j < (σ (b + 11) cl) → (-20000000 ≤ (shR (σ (b + 16)) (40 * cl)) j ∧ (shR (σ (b + 16)) (40 * cl)) j ≤ 20000000) ∧ 0 ≤ (shR (σ (b + 17)) (40 * cl)) j ∧ (shR (σ (b + 17)) (40 * cl)) j ≤ 1000000) (hH : ∀ j : Int, 0 ≤ j → j < 40 → -5000000 ≤ (shR (σ (b + 13)) (40 * cl)) j ∧ (shR (σ (b + 13)) (40 * cl)) j ≤ 5000000) : CtI l yX7_load wsX7_load 1 25 v [.ref (vq v b), vI cl] σ (fun z u => z = (hvS (shR (σ (b + 14)) (40 * cl)) (shR (σ (b + 13)) (40 * cl)) 0 39 + (smR (shR (σ (b + 16)) (40 * cl)) 0 (σ (b + 11) cl) + smR (shR (σ (b + 17)) (40 * cl)) 0 (σ (b + 11) cl))) ∧ u = σ) := by
  refine mkI (cc := cX7_load) (n := 4) (by decide +kernel) rfl (Nat.le_of_ble_eq_true rfl) (fun x A Q hx C hret => ?_)
  subst hx
  show At x v A Q _ 0 [(0, .ref (vq v b)), (1, vI cl)] [] σ
  have iX7 : ∀ w ∈ wsX70, w ∈ wsX7_load := by decide +kernel
  have k45 : Cond.fieldLink RX7 45 (TX7 13).1 (TX7 13).2.1 (TX7 13).2.2.1 ∈ wsX7_load := by decide +kernel
  have k61 : Cond.fieldLink RX7 61 (TX7 18).1 (TX7 18).2.1 (TX7 18).2.2.1 ∈ wsX7_load := by decide +kernel
  have k64 : Cond.fieldLink RX7 64 (TX7 19).1 (TX7 19).2.1 (TX7 19).2.2.1 ∈ wsX7_load := by decide +kernel
  have n1 : 1 ≤ (σ (b + 11) cl) := hE.1
  have n2 : (σ (b + 11) cl) ≤ 24 := hE.2.1
  have nE : ∀ j : Int, 0 ≤ j → j < (σ (b + 11) cl) → 0 ≤ (shR (σ (b + 15)) (40 * cl)) j ∧ (shR (σ (b + 15)) (40 * cl)) j ≤ 39 := hE.2.2.1
  have g1 := smR_bd (f := (shR (σ (b + 16)) (40 * cl))) (a := 0) (b := (σ (b + 11) cl)) (fun j q1 q2 => (hB j q1 q2).1) (by omega)
  have g2 := smR_bd (f := (shR (σ (b + 17)) (40 * cl))) (a := 0) (b := (σ (b + 11) cl)) (fun j q1 q2 => (hB j q1 q2).2) (by omega)
  have g3 := hvS_bd (h := (shR (σ (b + 14)) (40 * cl))) (M := 5000000) (by decide) hH 0 39
  have lp : ∀ (n : Nat) (k m : Int) , (24 - k).toNat = n → 0 ≤ k ∧ k ≤ (σ (b + 11) cl) → (m + (smR (shR (σ (b + 16)) (40 * cl)) k (σ (b + 11) cl) + smR (shR (σ (b + 17)) (40 * cl)) k (σ (b + 11) cl)) = (hvS (shR (σ (b + 14)) (40 * cl)) (shR (σ (b + 13)) (40 * cl)) 0 39 + (smR (shR (σ (b + 16)) (40 * cl)) 0 (σ (b + 11) cl) + smR (shR (σ (b + 17)) (40 * cl)) 0 (σ (b + 11) cl)))) → At x v A Q 4 11 [(3, vI k), (2, vI m), (0, .ref (vq v b)), (1, vI cl)] [] σ := by
    intro n
    induction n using Nat.strongRecOn with
    | _ n ih =>
      intro k m hn i1 i3
      refine a_iload_n C dX7_load_11 0 rfl rfl ?_
      refine a_aload_n C dX7_load_12 2 rfl rfl ?_
      refine a_getf C hM.f0 hM.n0 (Cn := RX7) (T := TX7) (N := 30) rfl iX7 13 (by decide) k45 (w := .ref (vq v (b + 11))) rfl dX7_load_13 ?_
      refine a_iload_n C dX7_load_16 3 rfl rfl ?_
      refine a_iald C hM.f11 hM.n11 0 hM.tI (by omega) (by omega) (by decide) dX7_load_17 (fun z17 e17 r17 => ?_)
      refine a_icmp_ge C 53 (by omega) r17 dX7_load_18 (by decide) (fun c18 => ?_) (fun c18 => ?_)
      · skip
        refine a_iload_n C dX7_load_53 1 rfl rfl ?_
        have q53 : m = (hvS (shR (σ (b + 14)) (40 * cl)) (shR (σ (b + 13)) (40 * cl)) 0 39 + (smR (shR (σ (b + 16)) (40 * cl)) 0 (σ (b + 11) cl) + smR (shR (σ (b + 17)) (40 * cl)) 0 (σ (b + 11) cl))) := by rw [← i3, smR_nil (by omega), smR_nil (by omega)]; omega
        exact hret _ _ _ _ dX7_load_54 (by rw [q53]; omega) ⟨q53, rfl⟩
      · skip
        refine a_iload_n C dX7_load_21 1 rfl rfl ?_
        refine a_aload_n C dX7_load_22 2 rfl rfl ?_
        refine a_getf C hM.f0 hM.n0 (Cn := RX7) (T := TX7) (N := 30) rfl iX7 18 (by decide) k61 (w := .ref (vq v (b + 16))) rfl dX7_load_23 ?_
        refine a_bipush C dX7_load_26 ?_
        refine a_iload_n C dX7_load_28 3 rfl rfl ?_
        refine a_imul C dX7_load_29 ?_
        refine a_iload_n C dX7_load_30 0 rfl rfl ?_
        refine a_iadd C dX7_load_31 ?_
        refine a_iald C hM.f16 hM.n16 0 hM.tI (by omega) (by omega) (by decide) dX7_load_32 (fun z32 e32 r32 => ?_)
        rw [shR_i (σ (b + 16)) (40 * cl) k _ rfl] at e32
        refine a_aload_n C dX7_load_33 2 rfl rfl ?_
        refine a_getf C hM.f0 hM.n0 (Cn := RX7) (T := TX7) (N := 30) rfl iX7 19 (by decide) k64 (w := .ref (vq v (b + 17))) rfl dX7_load_34 ?_
        refine a_bipush C dX7_load_37 ?_
        refine a_iload_n C dX7_load_39 3 rfl rfl ?_
        refine a_imul C dX7_load_40 ?_
        refine a_iload_n C dX7_load_41 0 rfl rfl ?_
        refine a_iadd C dX7_load_42 ?_
        refine a_iald C hM.f17 hM.n17 0 hM.tI (by omega) (by omega) (by decide) dX7_load_43 (fun z43 e43 r43 => ?_)
        rw [shR_i (σ (b + 17)) (40 * cl) k _ rfl] at e43
        refine a_iadd C dX7_load_44 ?_
        refine a_iadd C dX7_load_45 ?_
        refine a_istore_n C 2 [(2, vI (m + (z32 + z43))), (3, vI k), (0, .ref (vq v b)), (1, vI cl)] dX7_load_46 rfl (by decide) rfl ?_
        refine a_iinc C (k + 1) [(3, vI (k + 1)), (2, vI (m + (z32 + z43))), (0, .ref (vq v b)), (1, vI cl)] dX7_load_47 1 rfl (by omega) (by decide) rfl ?_
        refine a_goto C 11 dX7_load_50 (by decide) ?_
        exact ih _ (by omega) (k + 1) _ rfl (by omega) (by rw [smR_step (f := shR (σ (b + 16)) (40 * cl)) (by omega), smR_step (f := shR (σ (b + 17)) (40 * cl)) (by omega), ← e32, ← e43] at i3; omega)
  refine a_aload_n C dX7_load_0 0 rfl rfl ?_
  refine a_iload_n C dX7_load_1 1 rfl rfl ?_
  refine a_iconst C dX7_load_2 ?_
  refine a_bipush C dX7_load_3 ?_
  refine a_cVI C (k0 := 3) (As := [vI cl, vI 0, vI 39]) (rest := []) (c_X7_heavies x.2.1 v σ b hM cl 0 39 hc (by decide) (by decide) (by omega)) gX7_load_X7_heavies rfl (by decide +kernel) (by decide) hM.f0 rfl hM.n0 rfl rfl (Nat.le_of_ble_eq_true rfl) dX7_load_5 (fun z5 u5 r5 p5 => ?_)
  obtain ⟨e5, p5⟩ := p5
  subst u5
  refine a_istore_n C 2 [(2, vI z5), (0, .ref (vq v b)), (1, vI cl)] dX7_load_8 rfl (by decide) rfl ?_
  refine a_iconst C dX7_load_9 ?_
  refine a_istore_n C 3 [(3, vI 0), (2, vI z5), (0, .ref (vq v b)), (1, vI cl)] dX7_load_10 rfl (by decide) rfl ?_
  exact lp _ 0 _ rfl (by omega) (by rw [e5])
set_option maxHeartbeats 4000000 in
set_option maxRecDepth 100000 in
theorem c_X7_pair (l : Launch) (v : VC) (σ : Mem) (b : Nat) (hM : shMo v b) (cl w : Int) (hc : 0 ≤ cl ∧ cl < 3) (hw : rg w) (hn : 1 ≤ (σ (b + 11) cl) ∧ (σ (b + 11) cl) ≤ 24) (hB : ∀ j : Int, 0 ≤ j → j < (σ (b + 11) cl) → -400000000 ≤ (shR (σ (b + 16)) (40 * cl)) j ∧ (shR (σ (b + 16)) (40 * cl)) j ≤ 400000000) : CtI l yX7_pair wsX7_pair 1 22 v [.ref (vq v b), vI cl, vI w] σ (fun z u => z = itrR (lpF (shR (σ (b + 16)) (40 * cl)) w) 0 ((σ (b + 11) cl) - 1) (-1) ∧ u = σ) := by
  refine mkI (cc := cX7_pair) (n := 5) (by decide +kernel) rfl (Nat.le_of_ble_eq_true rfl) (fun x A Q hx C hret => ?_)
  subst hx
  show At x v A Q _ 0 [(0, .ref (vq v b)), (1, vI cl), (2, vI w)] [] σ
  have iX7 : ∀ w ∈ wsX70, w ∈ wsX7_pair := by decide +kernel
  have k45 : Cond.fieldLink RX7 45 (TX7 13).1 (TX7 13).2.1 (TX7 13).2.2.1 ∈ wsX7_pair := by decide +kernel
  have lp : ∀ (n : Nat) (k at1 : Int) , (24 - k).toNat = n → 0 ≤ k → k ≤ (σ (b + 11) cl) - 1 → -1 ≤ at1 ∧ at1 < k → itrR (lpF (shR (σ (b + 16)) (40 * cl)) w) k ((σ (b + 11) cl) - 1) at1 = itrR (lpF (shR (σ (b + 16)) (40 * cl)) w) 0 ((σ (b + 11) cl) - 1) (-1) → At x v A Q 5 5 [(4, vI k), (3, vI at1), (0, .ref (vq v b)), (1, vI cl), (2, vI w)] [] σ := by
    intro n
    induction n using Nat.strongRecOn with
    | _ n ih =>
      intro k at1 hn i1 i2 i3 i4
      refine a_iload C dX7_pair_5 0 rfl ?_
      refine a_iconst C dX7_pair_7 ?_
      refine a_iadd C dX7_pair_8 ?_
      refine a_aload_n C dX7_pair_9 2 rfl rfl ?_
      refine a_getf C hM.f0 hM.n0 (Cn := RX7) (T := TX7) (N := 30) rfl iX7 13 (by decide) k45 (w := .ref (vq v (b + 11))) rfl dX7_pair_10 ?_
      refine a_iload_n C dX7_pair_13 3 rfl rfl ?_
      refine a_iald C hM.f11 hM.n11 0 hM.tI (by omega) (by omega) (by decide) dX7_pair_14 (fun z14 e14 r14 => ?_)
      refine a_icmp_ge C 65 (by omega) r14 dX7_pair_15 (by decide) (fun c15 => ?_) (fun c15 => ?_)
      · skip
        refine a_iload_n C dX7_pair_65 1 rfl rfl ?_
        exact hret _ _ _ _ dX7_pair_66 (by omega) ⟨by rw [← i4, itrR_nil (by omega)], rfl⟩
      · skip
        refine a_iload C dX7_pair_18 0 rfl ?_
        refine a_iload_n C dX7_pair_20 4 rfl rfl ?_
        refine a_icmp_eq C 59 (by omega) (by omega) dX7_pair_21 (by decide) (fun c21 => ?_) (fun c21 => ?_)
        · skip
          refine a_iinc C (k + 1) [(4, vI (k + 1)), (3, vI at1), (0, .ref (vq v b)), (1, vI cl), (2, vI w)] dX7_pair_59 0 rfl (by omega) (by decide) rfl ?_
          refine a_goto C 5 dX7_pair_62 (by decide) ?_
          exact ih _ (by omega) _ _ rfl (by omega) (by omega) (by omega) (by rw [← i4, itrR_step (a := k) (by omega)]; congr 1; unfold lpF; (first | rw [if_pos (by omega)] | (rw [if_neg (by omega)]; (first | rw [if_pos (by simp only [shR_e]; omega)] | rw [if_neg (by simp only [shR_e]; omega)]))))
        · skip
          refine a_iload C dX7_pair_24 0 rfl ?_
          refine a_iconst C dX7_pair_26 ?_
          refine a_iadd C dX7_pair_27 ?_
          refine a_iload_n C dX7_pair_28 4 rfl rfl ?_
          refine a_icmp_ne C 35 (by omega) (by omega) dX7_pair_29 (by decide) (fun c29 => ?_) (fun c29 => ?_)
          · skip
            refine a_iload_n C dX7_pair_35 1 rfl rfl ?_
            refine a_iconst C dX7_pair_36 ?_
            refine a_icmp_eq C 56 (by omega) (by decide) dX7_pair_37 (by decide) (fun c37 => ?_) (fun c37 => ?_)
            · skip
              refine a_iload C dX7_pair_56 0 rfl ?_
              refine a_istore_n C 3 [(3, vI k), (4, vI k), (0, .ref (vq v b)), (1, vI cl), (2, vI w)] dX7_pair_58 rfl (by decide) rfl ?_
              refine a_iinc C (k + 1) [(4, vI (k + 1)), (3, vI k), (0, .ref (vq v b)), (1, vI cl), (2, vI w)] dX7_pair_59 1 rfl (by omega) (by decide) rfl ?_
              refine a_goto C 5 dX7_pair_62 (by decide) ?_
              exact ih _ (by omega) _ _ rfl (by omega) (by omega) (by omega) (by rw [← i4, itrR_step (a := k) (by omega)]; congr 1; unfold lpF; (first | rw [if_pos (by omega)] | (rw [if_neg (by omega)]; (first | rw [if_pos (by simp only [shR_e]; omega)] | rw [if_neg (by simp only [shR_e]; omega)]))))
            · skip
              refine a_aload_n C dX7_pair_40 2 rfl rfl ?_
              refine a_iload_n C dX7_pair_41 3 rfl rfl ?_
              refine a_iload C dX7_pair_42 0 rfl ?_
              refine a_cVI C (k0 := 2) (As := [vI cl, vI k]) (rest := []) (c_X7_both x.2.1 v σ b hM cl k hc (by omega) (by have := hB k (by omega) (by omega); exact ⟨by simp only [shR_e] at this; omega, by simp only [shR_e] at this; omega⟩) (by have := hB (k + 1) (by omega) (by omega); exact ⟨by simp only [shR_e] at this; omega, by simp only [shR_e] at this; omega⟩)) gX7_pair_X7_both rfl (by decide +kernel) (by decide) hM.f0 rfl hM.n0 rfl rfl (Nat.le_of_ble_eq_true rfl) dX7_pair_44 (fun z44 u44 r44 p44 => ?_)
              obtain ⟨e44, p44⟩ := p44
              subst u44
              refine a_aload_n C dX7_pair_47 2 rfl rfl ?_
              refine a_iload_n C dX7_pair_48 3 rfl rfl ?_
              refine a_iload_n C dX7_pair_49 1 rfl rfl ?_
              refine a_cVI C (k0 := 2) (As := [vI cl, vI at1]) (rest := [vI z44]) (c_X7_both x.2.1 v σ b hM cl at1 hc (by omega) (by have := hB at1 (by omega) (by omega); exact ⟨by simp only [shR_e] at this; omega, by simp only [shR_e] at this; omega⟩) (by have := hB (at1 + 1) (by omega) (by omega); exact ⟨by simp only [shR_e] at this; omega, by simp only [shR_e] at this; omega⟩)) gX7_pair_X7_both rfl (by decide +kernel) (by decide) hM.f0 rfl hM.n0 rfl rfl (Nat.le_of_ble_eq_true rfl) dX7_pair_50 (fun z50 u50 r50 p50 => ?_)
              obtain ⟨e50, p50⟩ := p50
              subst u50
              refine a_icmp_ge C 59 r44 r50 dX7_pair_53 (by decide) (fun c53 => ?_) (fun c53 => ?_)
              · skip
                refine a_iinc C (k + 1) [(4, vI (k + 1)), (3, vI at1), (0, .ref (vq v b)), (1, vI cl), (2, vI w)] dX7_pair_59 0 rfl (by omega) (by decide) rfl ?_
                refine a_goto C 5 dX7_pair_62 (by decide) ?_
                exact ih _ (by omega) _ _ rfl (by omega) (by omega) (by omega) (by rw [← i4, itrR_step (a := k) (by omega)]; congr 1; unfold lpF; (first | rw [if_pos (by omega)] | (rw [if_neg (by omega)]; (first | rw [if_pos (by simp only [shR_e]; omega)] | rw [if_neg (by simp only [shR_e]; omega)]))))
              · skip
                refine a_iload C dX7_pair_56 0 rfl ?_
                refine a_istore_n C 3 [(3, vI k), (4, vI k), (0, .ref (vq v b)), (1, vI cl), (2, vI w)] dX7_pair_58 rfl (by decide) rfl ?_
                refine a_iinc C (k + 1) [(4, vI (k + 1)), (3, vI k), (0, .ref (vq v b)), (1, vI cl), (2, vI w)] dX7_pair_59 1 rfl (by omega) (by decide) rfl ?_
                refine a_goto C 5 dX7_pair_62 (by decide) ?_
                exact ih _ (by omega) _ _ rfl (by omega) (by omega) (by omega) (by rw [← i4, itrR_step (a := k) (by omega)]; congr 1; unfold lpF; (first | rw [if_pos (by omega)] | (rw [if_neg (by omega)]; (first | rw [if_pos (by simp only [shR_e]; omega)] | rw [if_neg (by simp only [shR_e]; omega)]))))
          · skip
            refine a_goto C 59 dX7_pair_32 (by decide) ?_
            refine a_iinc C (k + 1) [(4, vI (k + 1)), (3, vI at1), (0, .ref (vq v b)), (1, vI cl), (2, vI w)] dX7_pair_59 0 rfl (by omega) (by decide) rfl ?_
            refine a_goto C 5 dX7_pair_62 (by decide) ?_
            exact ih _ (by omega) _ _ rfl (by omega) (by omega) (by omega) (by rw [← i4, itrR_step (a := k) (by omega)]; congr 1; unfold lpF; (first | rw [if_pos (by omega)] | (rw [if_neg (by omega)]; (first | rw [if_pos (by simp only [shR_e]; omega)] | rw [if_neg (by simp only [shR_e]; omega)]))))
  refine a_iconst C dX7_pair_0 ?_
  refine a_istore_n C 3 [(3, vI (-1)), (0, .ref (vq v b)), (1, vI cl), (2, vI w)] dX7_pair_1 rfl (by decide) rfl ?_
  refine a_iconst C dX7_pair_2 ?_
  refine a_istore C [(4, vI 0), (3, vI (-1)), (0, .ref (vq v b)), (1, vI cl), (2, vI w)] dX7_pair_3 (by decide) rfl ?_
  exact lp _ 0 (-1) rfl (by omega) (by omega) (by omega) rfl
