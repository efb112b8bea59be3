/-! ===== the law's loop ===== -/
theorem Inv_mono {σ : Mem} {b : Nat} {n m : Int} (hm : n ≤ m) (h : Inv σ b n) : Inv σ b m := ⟨BI_mono hm h.1, h.2.1, moB_up hm rfl rfl rfl rfl h.2.2⟩
set_option maxHeartbeats 4000000 in
set_option maxRecDepth 100000 in
theorem lw_loop {x : XC} {v : VC} {Q : State → Prop} {k1 k2 b L o : Nat} {xs : Nat → Int32} (C : CxL x v k1 k2 b L xs) (hS : shSS v) (ho : 52 ≤ o) (hM : shMo v o) (hL : L ≤ 3584) (hend : ∀ (lv : List (Nat × Value)) (w : Mem), AtL x v Q k1 k2 1232 lv [vI 1] w) : ∀ (fuel j : Nat) (σ : Mem), L + 7 ≤ fuel + 7 * j → 7 * j ≤ L + 7 → Inv σ o (1000 * j) → JI σ (1000 * j) → AtL x v Q k1 k2 18 [(3, vI (7 * (j : Int))), (0, .ref b), (1, .ref (vq v 0)), (2, .ref (vq v o))] [] σ := by
  intro fuel
  induction fuel with
  | zero =>
    intro j σ hf hj hI hJ
    refine l_iload_n C dL_law_18 0 rfl rfl ?_
    refine l_aload_n C dL_law_19 1 rfl rfl ?_
    refine l_slen C dL_law_20 ?_
    refine l_bipush C dL_law_21 ?_
    refine l_isub C dL_law_23 ?_
    refine l_icmp_gt C 1231 (by omega) (by omega) dL_law_24 (by decide) (fun _ => ?_) (fun c => by omega)
    refine l_iconst C dL_law_1231 ?_
    exact hend _ _
  | succ fuel ih =>
    intro j σ hf hj hI hJ
    refine l_iload_n C dL_law_18 0 rfl rfl ?_
    refine l_aload_n C dL_law_19 1 rfl rfl ?_
    refine l_slen C dL_law_20 ?_
    refine l_bipush C dL_law_21 ?_
    refine l_isub C dL_law_23 ?_
    refine l_icmp_gt C 1231 (by omega) (by omega) dL_law_24 (by decide) (fun _ => ?_) (fun c9 => ?_)
    · refine l_iconst C dL_law_1231 ?_
      exact hend _ _
    · have hn : (0 : Int) ≤ 1000 * j ∧ 1000 * (j : Int) ≤ 511000 := by omega
      have kk : ∀ w : Mem, Inv w o (1000 * (j : Int) + 1000) → JI w (1000 * (j : Int) + 1000) → AtL x v Q k1 k2 1225 [(3, vI (7 * (j : Int))), (0, .ref b), (1, .ref (vq v 0)), (2, .ref (vq v o))] [] w := by
        intro w I2 J2
        refine l_iinc C (7 * (j : Int) + 7) [(3, vI (7 * (j : Int) + 7)), (0, .ref b), (1, .ref (vq v 0)), (2, .ref (vq v o))] dL_law_1225 0 rfl rfl (by decide) rfl ?_
        refine l_goto C 18 dL_law_1228 (by decide) ?_
        have e1 : 7 * (j : Int) + 7 = 7 * ((j + 1 : Nat) : Int) := by omega
        have e2 : 1000 * (j : Int) + 1000 = 1000 * ((j + 1 : Nat) : Int) := by omega
        rw [e2] at I2 J2
        rw [e1]
        exact ih (j + 1) w (by omega) (by omega) I2 J2
      refine l_aload_n C dL_law_27 1 rfl rfl ?_
      refine l_iload_n C dL_law_28 0 rfl rfl ?_
      refine l_sld C (by omega) (by omega) dL_law_29 ?_
      refine l_bipush C dL_law_30 ?_
      refine l_iand C dL_law_32 (fun z rz => ?_)
      have alt : z = 0 ∨ z = 1 ∨ z = 2 ∨ z = 3 ∨ z = 4 ∨ z = 5 ∨ z = 6 ∨ z = 7 ∨ z = 8 ∨ z = 9 ∨ z = 10 ∨ z = 11 ∨ z = 12 ∨ z = 13 ∨ z = 14 ∨ z = 15 ∨ z = 16 ∨ z = 17 ∨ z = 18 ∨ z = 19 ∨ z = 20 ∨ z = 21 ∨ z = 22 ∨ z = 23 ∨ z = 24 ∨ z = 25 ∨ z = 26 ∨ z = 27 ∨ (z < 0 ∨ 27 < z) := by omega
      rcases alt with rfl | rfl | rfl | rfl | rfl | rfl | rfl | rfl | rfl | rfl | rfl | rfl | rfl | rfl | rfl | rfl | rfl | rfl | rfl | rfl | rfl | rfl | rfl | rfl | rfl | rfl | rfl | rfl | hz
      · refine l_tsIn C 160 rz dL_law_33 (by decide) (by decide) (off := 127) rfl (by decide) ?_
        exact lw_status C hS ho hM hI hJ hn (by omega) (by omega) kk
      · refine l_tsIn C 173 rz dL_law_33 (by decide) (by decide) (off := 140) rfl (by decide) ?_
        exact lw_top C hS ho hM hI hJ hn (by omega) (by omega) kk
      · refine l_tsIn C 187 rz dL_law_33 (by decide) (by decide) (off := 154) rfl (by decide) ?_
        exact lw_bottom C hS ho hM hI hJ hn (by omega) (by omega) kk
      · refine l_tsIn C 201 rz dL_law_33 (by decide) (by decide) (off := 168) rfl (by decide) ?_
        exact lw_tray C hS ho hM hI hJ hn (by omega) (by omega) kk
      · refine l_tsIn C 244 rz dL_law_33 (by decide) (by decide) (off := 211) rfl (by decide) ?_
        exact lw_write C hS ho hM hI hJ hn (by omega) (by omega) kk
      · refine l_tsIn C 317 rz dL_law_33 (by decide) (by decide) (off := 284) rfl (by decide) ?_
        exact lw_read C hS ho hM hI hJ hn (by omega) (by omega) kk
      · refine l_tsIn C 351 rz dL_law_33 (by decide) (by decide) (off := 318) rfl (by decide) ?_
        exact lw_pour C hS ho hM hI hJ hn (by omega) (by omega) kk
      · refine l_tsIn C 414 rz dL_law_33 (by decide) (by decide) (off := 381) rfl (by decide) ?_
        exact lw_put C hS ho hM hI hJ hn (by omega) (by omega) kk
      · refine l_tsIn C 457 rz dL_law_33 (by decide) (by decide) (off := 424) rfl (by decide) ?_
        exact lw_strike C hS ho hM hI hJ hn (by omega) (by omega) kk
      · refine l_tsIn C 500 rz dL_law_33 (by decide) (by decide) (off := 467) rfl (by decide) ?_
        exact lw_pack C hS ho hM hI hJ hn (by omega) (by omega) kk
      · refine l_tsIn C 533 rz dL_law_33 (by decide) (by decide) (off := 500) rfl (by decide) ?_
        exact lw_truly C hS ho hM hI hJ hn (by omega) (by omega) kk
      · refine l_tsIn C 566 rz dL_law_33 (by decide) (by decide) (off := 533) rfl (by decide) ?_
        exact lw_rows C hS ho hM hI hJ hn (by omega) (by omega) kk
      · refine l_tsIn C 599 rz dL_law_33 (by decide) (by decide) (off := 566) rfl (by decide) ?_
        exact lw_make C hS ho hM hI hJ hn (by omega) (by omega) kk
      · refine l_tsIn C 652 rz dL_law_33 (by decide) (by decide) (off := 619) rfl (by decide) ?_
        exact lw_away C hS ho hM hI hJ hn (by omega) (by omega) kk
      · refine l_tsIn C 675 rz dL_law_33 (by decide) (by decide) (off := 642) rfl (by decide) ?_
        exact lw_sketch C hS ho hM hI hJ hn (by omega) (by omega) kk
      · refine l_tsIn C 708 rz dL_law_33 (by decide) (by decide) (off := 675) rfl (by decide) ?_
        exact lw_span C hS ho hM hI hJ hn (by omega) (by omega) kk
      · refine l_tsIn C 751 rz dL_law_33 (by decide) (by decide) (off := 718) rfl (by decide) ?_
        exact lw_heavy C hS ho hM hI hJ hn (by omega) (by omega) kk
      · refine l_tsIn C 784 rz dL_law_33 (by decide) (by decide) (off := 751) rfl (by decide) ?_
        exact lw_split C hS ho hM hI hJ hn (by omega) (by omega) kk
      · refine l_tsIn C 817 rz dL_law_33 (by decide) (by decide) (off := 784) rfl (by decide) ?_
        exact lw_melt C hS ho hM hI hJ hn (by omega) (by omega) kk
      · refine l_tsIn C 850 rz dL_law_33 (by decide) (by decide) (off := 817) rfl (by decide) ?_
        exact lw_keep C hS ho hM hI hJ hn (by omega) (by omega) kk
      · refine l_tsIn C 873 rz dL_law_33 (by decide) (by decide) (off := 840) rfl (by decide) ?_
        exact lw_together C hS ho hM hI hJ hn (by omega) (by omega) kk
      · refine l_tsIn C 906 rz dL_law_33 (by decide) (by decide) (off := 873) rfl (by decide) ?_
        exact lw_drifts C hS ho hM hI hJ hn (by omega) (by omega) kk
      · refine l_tsIn C 929 rz dL_law_33 (by decide) (by decide) (off := 896) rfl (by decide) ?_
        exact lw_guess C hS ho hM hI hJ hn (by omega) (by omega) kk
      · refine l_tsIn C 972 rz dL_law_33 (by decide) (by decide) (off := 939) rfl (by decide) ?_
        exact lw_bound C hS ho hM hI hJ hn (by omega) (by omega) kk
      · refine l_tsIn C 1041 rz dL_law_33 (by decide) (by decide) (off := 1008) rfl (by decide) ?_
        exact lw_join C hS ho hM hI hJ hn (by omega) (by omega) kk
      · refine l_tsIn C 1074 rz dL_law_33 (by decide) (by decide) (off := 1041) rfl (by decide) ?_
        exact lw_harm C hS ho hM hI hJ hn (by omega) (by omega) kk
      · refine l_tsIn C 1149 rz dL_law_33 (by decide) (by decide) (off := 1116) rfl (by decide) ?_
        exact lw_sample C hS ho hM hI hJ hn (by omega) (by omega) kk
      · refine l_tsIn C 1192 rz dL_law_33 (by decide) (by decide) (off := 1159) rfl (by decide) ?_
        exact lw_drawn C hS ho hM hI hJ hn (by omega) (by omega) kk
      · refine l_tsOut C 1225 rz dL_law_33 hz (by decide) ?_
        exact kk σ (Inv_mono (by omega) hI) hJ.id
