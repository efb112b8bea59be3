set_option maxHeartbeats 4000000 in
set_option maxRecDepth 100000 in
theorem c_X6_tray (l : Launch) (v : VC) (σ : Mem) (hS : shSS v) (i1 s1 m1 : Int) (h1 : rg i1) (h2 : rg s1) (h3 : rg m1) : CtI l yX6_tray wsX6_tray 2 46 v [.ref (vq v 0), vI i1, vI s1, vI m1] σ (fun z u => (if (0 ≤ i1 ∧ i1 < 4) ∧ (0 ≤ s1 ∧ s1 ≤ 3) ∧ (0 ≤ m1 ∧ m1 ≤ 100) then (z = 1 ∧ (∀ j : Int, 0 ≤ j → j < 100 → u ((3 + 2 * i1.toNat) + 1) (100000 + j) = 0) ∧ (∀ a : Nat, a ≠ (3 + 2 * i1.toNat) + 1 → u a = sput (sput (sput (sput σ (3 + 2 * i1.toNat) 1 1) (3 + 2 * i1.toNat) 2 s1) (3 + 2 * i1.toNat) 3 m1) 0 5 0 a)) else (z = 0 ∧ u = sput σ 0 5 1))) := by
  refine mkZ (cc := cX6_tray) (n := 5) (by decide +kernel) rfl (Nat.le_of_ble_eq_true rfl) (fun x A Q hx C hret => ?_)
  subst hx
  show At x v A Q _ 0 [(0, .ref (vq v 0)), (1, vI i1), (2, vI s1), (3, vI m1)] [] σ
  refine a_aload_n C dX6_tray_0 0 rfl rfl ?_
  refine a_iload_n C dX6_tray_1 1 rfl rfl ?_
  refine a_cVQ C (k0 := 1) (As := [vI i1]) (rest := []) (c_X6_trayAt x.2.1 v σ hS i1 (by omega)) gX6_tray_X6_trayAt rfl (by decide +kernel) (by decide) hS.f0 rfl hS.n0 rfl rfl (Nat.le_of_ble_eq_true rfl) dX6_tray_2 (fun z2 u2 p2 => ?_)
  obtain ⟨e2, p2⟩ := p2
  subst u2
  rcases e2 with ⟨q2, h2⟩ | ⟨q2, h2⟩ <;> subst h2
  · skip
    show At x v A Q _ 5 [(0, .ref (vq v 0)), (1, vI i1), (2, vI s1), (3, vI m1)] [.ref (vq v (3 + 2 * i1.toNat))] σ
    refine a_astore C [(4, .ref (vq v (3 + 2 * i1.toNat))), (0, .ref (vq v 0)), (1, vI i1), (2, vI s1), (3, vI m1)] dX6_tray_5 (by decide) rfl ?_
    refine a_aload C dX6_tray_7 0 rfl ?_
    refine a_ifnull C dX6_tray_9 ?_
    refine a_iload_n C dX6_tray_12 3 rfl rfl ?_
    refine a_i2l C (by omega) dX6_tray_13 ?_
    refine a_lconst C 0 dX6_tray_14 rfl ?_
    refine a_ldc2 C 3 (w := 3) (by decide +kernel) rfl dX6_tray_15 ?_
    refine a_cSI C (k0 := 3) (As := [vJ s1, vJ 0, vJ 3]) (rest := []) (c_X6_within x.2.1 v σ s1 0 3 (by omega) (by omega) (by omega)) gX6_tray_X6_within rfl (by decide +kernel) (by decide) rfl rfl (Nat.le_of_ble_eq_true rfl) dX6_tray_18 (fun z18 u18 r18 p18 => ?_)
    obtain ⟨e18, p18⟩ := p18
    subst u18
    have q18 := zz e18
    refine a_if_eq C 36 r18 dX6_tray_21 (by decide) (fun c21 => ?_) (fun c21 => ?_)
    · skip
      refine a_aload_n C dX6_tray_36 1 rfl rfl ?_
      refine a_iconst C dX6_tray_37 ?_
      refine a_cVI C (k0 := 1) (As := [vI 1]) (rest := []) (c_X6_no x.2.1 v σ hS 1 (by omega)) gX6_tray_X6_no rfl (by decide +kernel) (by decide) hS.f0 rfl hS.n0 rfl rfl (Nat.le_of_ble_eq_true rfl) dX6_tray_38 (fun z38 u38 r38 p38 => ?_)
      obtain ⟨e38, p38⟩ := p38
      subst u38
      refine hret _ _ _ _ dX6_tray_41 (by omega) ?_
      (repeat (first | rw [if_pos (by omega)] | rw [if_neg (by omega)]))
      (first | exact ⟨by omega, rfl⟩ | (refine ⟨by omega, fun j j0 j1 => by rw [sput_r (by omega)]; exact p47 j j0 j1, fun a q => sput_cg (p46 a q)⟩))
    · skip
      refine a_iload_n C dX6_tray_24 4 rfl rfl ?_
      refine a_i2l C (by omega) dX6_tray_25 ?_
      refine a_lconst C 0 dX6_tray_26 rfl ?_
      refine a_ldc2 C 100 (w := 100) (by decide +kernel) rfl dX6_tray_27 ?_
      refine a_cSI C (k0 := 3) (As := [vJ m1, vJ 0, vJ 100]) (rest := []) (c_X6_within x.2.1 v σ m1 0 100 (by omega) (by omega) (by omega)) gX6_tray_X6_within rfl (by decide +kernel) (by decide) rfl rfl (Nat.le_of_ble_eq_true rfl) dX6_tray_30 (fun z30 u30 r30 p30 => ?_)
      obtain ⟨e30, p30⟩ := p30
      subst u30
      have q30 := zz e30
      refine a_if_ne C 42 r30 dX6_tray_33 (by decide) (fun c33 => ?_) (fun c33 => ?_)
      · skip
        refine a_aload C dX6_tray_42 0 rfl ?_
        refine a_iload_n C dX6_tray_44 3 rfl rfl ?_
        refine a_iload_n C dX6_tray_45 4 rfl rfl ?_
        refine a_cVV C (k0 := 2) (As := [vI s1, vI m1]) (rest := []) (c_X5_lay x.2.1 v σ (3 + 2 * i1.toNat) (hS.tr i1 (by omega) (by omega)) s1 m1 (by omega) (by omega)) gX6_tray_X5_lay rfl (by decide +kernel) (by decide) (hS.tr i1 (by omega) (by omega)).f0 rfl (hS.tr i1 (by omega) (by omega)).n0 rfl rfl (Nat.le_of_ble_eq_true rfl) dX6_tray_46 (fun u46 p46 => ?_)
        obtain ⟨p46, p47⟩ := p46
        refine a_aload_n C dX6_tray_49 1 rfl rfl ?_
        refine a_cVI C (k0 := 0) (As := []) (rest := []) (c_X6_yes x.2.1 v u46 hS ) gX6_tray_X6_yes rfl (by decide +kernel) (by decide) hS.f0 rfl hS.n0 rfl rfl (Nat.le_of_ble_eq_true rfl) dX6_tray_50 (fun z50 u50 r50 p50 => ?_)
        obtain ⟨e50, p50⟩ := p50
        subst u50
        refine hret _ _ _ _ dX6_tray_53 (by omega) ?_
        (repeat (first | rw [if_pos (by omega)] | rw [if_neg (by omega)]))
        (first | exact ⟨by omega, rfl⟩ | (refine ⟨by omega, fun j j0 j1 => by rw [sput_r (by omega)]; exact p47 j j0 j1, fun a q => sput_cg (p46 a q)⟩))
      · skip
        refine a_aload_n C dX6_tray_36 1 rfl rfl ?_
        refine a_iconst C dX6_tray_37 ?_
        refine a_cVI C (k0 := 1) (As := [vI 1]) (rest := []) (c_X6_no x.2.1 v σ hS 1 (by omega)) gX6_tray_X6_no rfl (by decide +kernel) (by decide) hS.f0 rfl hS.n0 rfl rfl (Nat.le_of_ble_eq_true rfl) dX6_tray_38 (fun z38 u38 r38 p38 => ?_)
        obtain ⟨e38, p38⟩ := p38
        subst u38
        refine hret _ _ _ _ dX6_tray_41 (by omega) ?_
        (repeat (first | rw [if_pos (by omega)] | rw [if_neg (by omega)]))
        (first | exact ⟨by omega, rfl⟩ | (refine ⟨by omega, fun j j0 j1 => by rw [sput_r (by omega)]; exact p47 j j0 j1, fun a q => sput_cg (p46 a q)⟩))
  · skip
    show At x v A Q _ 5 [(0, .ref (vq v 0)), (1, vI i1), (2, vI s1), (3, vI m1)] [.null] σ
    refine a_astoreN C [(4, .null), (0, .ref (vq v 0)), (1, vI i1), (2, vI s1), (3, vI m1)] dX6_tray_5 (by decide) rfl ?_
    refine a_aloadN C dX6_tray_7 0 rfl ?_
    refine a_ifnullN C 36 dX6_tray_9 (by decide) ?_
    refine a_aload_n C dX6_tray_36 1 rfl rfl ?_
    refine a_iconst C dX6_tray_37 ?_
    refine a_cVI C (k0 := 1) (As := [vI 1]) (rest := []) (c_X6_no x.2.1 v σ hS 1 (by omega)) gX6_tray_X6_no rfl (by decide +kernel) (by decide) hS.f0 rfl hS.n0 rfl rfl (Nat.le_of_ble_eq_true rfl) dX6_tray_38 (fun z38 u38 r38 p38 => ?_)
    obtain ⟨e38, p38⟩ := p38
    subst u38
    refine hret _ _ _ _ dX6_tray_41 (by omega) ?_
    (repeat (first | rw [if_pos (by omega)] | rw [if_neg (by omega)]))
    (first | exact ⟨by omega, rfl⟩ | (refine ⟨by omega, fun j j0 j1 => by rw [sput_r (by omega)]; exact p47 j j0 j1, fun a q => sput_cg (p46 a q)⟩))
set_option maxHeartbeats 4000000 in
set_option maxRecDepth 100000 in
theorem c_X6_write (l : Launch) (v : VC) (σ : Mem) (hS : shSS v) (i1 p1 x1 : Int) (h1 : rg i1) (h2 : rg p1) (h3 : rgL x1) (hT : trW σ) : CtI l yX6_write wsX6_write 2 46 v [.ref (vq v 0), vI i1, vI p1, vJ x1] σ (fun z u => (if ¬ (0 ≤ i1 ∧ i1 < 4) then (z = 0 ∧ u = sput σ 0 5 1) else (if σ (3 + 2 * i1.toNat) 1 = 0 then (z = 0 ∧ u = sput σ 0 5 2) else (if ¬ (0 ≤ p1 ∧ p1 ≤ σ (3 + 2 * i1.toNat) 3 - 1) then (z = 0 ∧ u = sput σ 0 5 3) else (z = 1 ∧ u = sput (sput σ ((3 + 2 * i1.toNat) + 1) (100000 + p1) (fitI (σ (3 + 2 * i1.toNat) 2) x1)) 0 5 0))))) := by
  refine mkZ (cc := cX6_write) (n := 6) (by decide +kernel) rfl (Nat.le_of_ble_eq_true rfl) (fun x A Q hx C hret => ?_)
  subst hx
  show At x v A Q _ 0 [(0, .ref (vq v 0)), (1, vI i1), (2, vI p1), (3, vJ x1)] [] σ
  have iX5 : ∀ w ∈ wsX50, w ∈ wsX6_write := by decide +kernel
  have k79 : Cond.fieldLink RX6 79 (TX5 1).1 (TX5 1).2.1 (TX5 1).2.2.1 ∈ wsX6_write := by decide +kernel
  have k87 : Cond.fieldLink RX6 87 (TX5 0).1 (TX5 0).2.1 (TX5 0).2.2.1 ∈ wsX6_write := by decide +kernel
  refine a_aload_n C dX6_write_0 0 rfl rfl ?_
  refine a_iload_n C dX6_write_1 1 rfl rfl ?_
  refine a_cVQ C (k0 := 1) (As := [vI i1]) (rest := []) (c_X6_trayAt x.2.1 v σ hS i1 (by omega)) gX6_write_X6_trayAt rfl (by decide +kernel) (by decide) hS.f0 rfl hS.n0 rfl rfl (Nat.le_of_ble_eq_true rfl) dX6_write_2 (fun z2 u2 p2 => ?_)
  obtain ⟨e2, p2⟩ := p2
  subst u2
  rcases e2 with ⟨q2, h2⟩ | ⟨q2, h2⟩ <;> subst h2
  · skip
    show At x v A Q _ 5 [(0, .ref (vq v 0)), (1, vI i1), (2, vI p1), (3, vJ x1)] [.ref (vq v (3 + 2 * i1.toNat))] σ
    refine a_astore C [(5, .ref (vq v (3 + 2 * i1.toNat))), (0, .ref (vq v 0)), (1, vI i1), (2, vI p1), (3, vJ x1)] dX6_write_5 (by decide) rfl ?_
    refine a_aload C dX6_write_7 0 rfl ?_
    refine a_ifnonnull C 18 dX6_write_9 (by decide) ?_
    refine a_aload C dX6_write_18 0 rfl ?_
    refine a_geti C (hS.tr i1 (by omega) (by omega)).f0 (hS.tr i1 (by omega) (by omega)).n0 (Cn := RX5) (T := TX5) (N := 4) rfl iX5 1 (by decide) k79 1 (by decide) rfl dX6_write_20 (fun z20 e20 r20 => ?_)
    have t20 := hT i1 (by omega) (by omega)
    refine a_if_ne C 32 r20 dX6_write_23 (by decide) (fun c23 => ?_) (fun c23 => ?_)
    · skip
      refine a_aload C dX6_write_32 0 rfl ?_
      refine a_iload_n C dX6_write_34 3 rfl rfl ?_
      refine a_iconst C dX6_write_35 ?_
      refine a_cVI C (k0 := 2) (As := [vI p1, vI 1]) (rest := []) (c_X5_has x.2.1 v σ (3 + 2 * i1.toNat) (hS.tr i1 (by omega) (by omega)) p1 1 (by omega) (by omega) (by omega)) gX6_write_X5_has rfl (by decide +kernel) (by decide) (hS.tr i1 (by omega) (by omega)).f0 rfl (hS.tr i1 (by omega) (by omega)).n0 rfl rfl (Nat.le_of_ble_eq_true rfl) dX6_write_36 (fun z36 u36 r36 p36 => ?_)
      obtain ⟨e36, p36⟩ := p36
      subst u36
      have q36 := zz e36
      refine a_if_ne C 48 r36 dX6_write_39 (by decide) (fun c39 => ?_) (fun c39 => ?_)
      · skip
        refine a_aload C dX6_write_48 0 rfl ?_
        refine a_getf C (hS.tr i1 (by omega) (by omega)).f0 (hS.tr i1 (by omega) (by omega)).n0 (Cn := RX5) (T := TX5) (N := 4) rfl iX5 0 (by decide) k87 (w := .ref (vq v (3 + 2 * i1.toNat + 1))) rfl dX6_write_50 ?_
        refine a_iload_n C dX6_write_53 3 rfl rfl ?_
        refine a_aload C dX6_write_54 0 rfl ?_
        refine a_lload_n C dX6_write_56 4 rfl rfl ?_
        refine a_cVL C (k0 := 1) (As := [vJ x1]) (rest := [vI p1, .ref (vq v (3 + 2 * i1.toNat + 1))]) (c_X5_fitted x.2.1 v σ (3 + 2 * i1.toNat) (hS.tr i1 (by omega) (by omega)) x1 (by omega) (by omega)) gX6_write_X5_fitted rfl (by decide +kernel) (by decide) (hS.tr i1 (by omega) (by omega)).f0 rfl (hS.tr i1 (by omega) (by omega)).n0 rfl rfl (Nat.le_of_ble_eq_true rfl) dX6_write_57 (fun z57 u57 r57 p57 => ?_)
        obtain ⟨e57, p57⟩ := p57
        subst u57
        refine a_last C (hS.tr i1 (by omega) (by omega)).f1 (hS.tr i1 (by omega) (by omega)).n1 1 (hS.tr i1 (by omega) (by omega)).tL (by omega) (by omega) (by decide) r57 dX6_write_60 ?_
        refine a_aload_n C dX6_write_61 1 rfl rfl ?_
        refine a_cVI C (k0 := 0) (As := []) (rest := []) (c_X6_yes x.2.1 v (sput σ (3 + 2 * i1.toNat + 1) (100000 + p1) z57) hS ) gX6_write_X6_yes rfl (by decide +kernel) (by decide) hS.f0 rfl hS.n0 rfl rfl (Nat.le_of_ble_eq_true rfl) dX6_write_62 (fun z62 u62 r62 p62 => ?_)
        obtain ⟨e62, p62⟩ := p62
        subst u62
        refine hret _ _ _ _ dX6_write_65 (by omega) ?_
        (repeat (first | rw [if_pos (by omega)] | rw [if_neg (by omega)]))
        (first | exact ⟨by omega, rfl⟩ | (refine ⟨by omega, ?_⟩; rw [e57]))
      · skip
        refine a_aload_n C dX6_write_42 1 rfl rfl ?_
        refine a_iconst C dX6_write_43 ?_
        refine a_cVI C (k0 := 1) (As := [vI 3]) (rest := []) (c_X6_no x.2.1 v σ hS 3 (by omega)) gX6_write_X6_no rfl (by decide +kernel) (by decide) hS.f0 rfl hS.n0 rfl rfl (Nat.le_of_ble_eq_true rfl) dX6_write_44 (fun z44 u44 r44 p44 => ?_)
        obtain ⟨e44, p44⟩ := p44
        subst u44
        refine hret _ _ _ _ dX6_write_47 (by omega) ?_
        (repeat (first | rw [if_pos (by omega)] | rw [if_neg (by omega)]))
        (first | exact ⟨by omega, rfl⟩ | (refine ⟨by omega, ?_⟩; rw [e57]))
    · skip
      refine a_aload_n C dX6_write_26 1 rfl rfl ?_
      refine a_iconst C dX6_write_27 ?_
      refine a_cVI C (k0 := 1) (As := [vI 2]) (rest := []) (c_X6_no x.2.1 v σ hS 2 (by omega)) gX6_write_X6_no rfl (by decide +kernel) (by decide) hS.f0 rfl hS.n0 rfl rfl (Nat.le_of_ble_eq_true rfl) dX6_write_28 (fun z28 u28 r28 p28 => ?_)
      obtain ⟨e28, p28⟩ := p28
      subst u28
      refine hret _ _ _ _ dX6_write_31 (by omega) ?_
      (repeat (first | rw [if_pos (by omega)] | rw [if_neg (by omega)]))
      (first | exact ⟨by omega, rfl⟩ | (refine ⟨by omega, ?_⟩; rw [e57]))
  · skip
    show At x v A Q _ 5 [(0, .ref (vq v 0)), (1, vI i1), (2, vI p1), (3, vJ x1)] [.null] σ
    refine a_astoreN C [(5, .null), (0, .ref (vq v 0)), (1, vI i1), (2, vI p1), (3, vJ x1)] dX6_write_5 (by decide) rfl ?_
    refine a_aloadN C dX6_write_7 0 rfl ?_
    refine a_ifnonnullN C dX6_write_9 ?_
    refine a_aload_n C dX6_write_12 1 rfl rfl ?_
    refine a_iconst C dX6_write_13 ?_
    refine a_cVI C (k0 := 1) (As := [vI 1]) (rest := []) (c_X6_no x.2.1 v σ hS 1 (by omega)) gX6_write_X6_no rfl (by decide +kernel) (by decide) hS.f0 rfl hS.n0 rfl rfl (Nat.le_of_ble_eq_true rfl) dX6_write_14 (fun z14 u14 r14 p14 => ?_)
    obtain ⟨e14, p14⟩ := p14
    subst u14
    refine hret _ _ _ _ dX6_write_17 (by omega) ?_
    (repeat (first | rw [if_pos (by omega)] | rw [if_neg (by omega)]))
    (first | exact ⟨by omega, rfl⟩ | (refine ⟨by omega, ?_⟩; rw [e57]))
set_option maxHeartbeats 4000000 in
set_option maxRecDepth 100000 in
theorem c_X6_read (l : Launch) (v : VC) (σ : Mem) (hS : shSS v) (i1 p1 : Int) (h1 : rg i1) (h2 : rg p1) (hT : trW σ) : CtL l yX6_read wsX6_read 2 46 v [.ref (vq v 0), vI i1, vI p1] σ (fun z u => (if ¬ (0 ≤ i1 ∧ i1 < 4) then (z = -1 ∧ u = sput σ 0 5 1) else (if σ (3 + 2 * i1.toNat) 1 = 0 then (z = -1 ∧ u = sput σ 0 5 2) else (if ¬ (0 ≤ p1 ∧ p1 ≤ σ (3 + 2 * i1.toNat) 3 - 1) then (z = -1 ∧ u = sput σ 0 5 3) else (z = σ ((3 + 2 * i1.toNat) + 1) (100000 + p1) ∧ u = sput σ 0 5 0))))) := by
  refine mkL (cc := cX6_read) (n := 4) (by decide +kernel) rfl (Nat.le_of_ble_eq_true rfl) (fun x A Q hx C hret => ?_)
  subst hx
  show At x v A Q _ 0 [(0, .ref (vq v 0)), (1, vI i1), (2, vI p1)] [] σ
  have iX5 : ∀ w ∈ wsX50, w ∈ wsX6_read := by decide +kernel
  have iX6 : ∀ w ∈ wsX60, w ∈ wsX6_read := by decide +kernel
  have k79 : Cond.fieldLink RX6 79 (TX5 1).1 (TX5 1).2.1 (TX5 1).2.2.1 ∈ wsX6_read := by decide +kernel
  have k42 : Cond.fieldLink RX6 42 (TX6 5).1 (TX6 5).2.1 (TX6 5).2.2.1 ∈ wsX6_read := by decide +kernel
  have k87 : Cond.fieldLink RX6 87 (TX5 0).1 (TX5 0).2.1 (TX5 0).2.2.1 ∈ wsX6_read := by decide +kernel
  refine a_aload_n C dX6_read_0 0 rfl rfl ?_
  refine a_iload_n C dX6_read_1 1 rfl rfl ?_
  refine a_cVQ C (k0 := 1) (As := [vI i1]) (rest := []) (c_X6_trayAt x.2.1 v σ hS i1 (by omega)) gX6_read_X6_trayAt rfl (by decide +kernel) (by decide) hS.f0 rfl hS.n0 rfl rfl (Nat.le_of_ble_eq_true rfl) dX6_read_2 (fun z2 u2 p2 => ?_)
  obtain ⟨e2, p2⟩ := p2
  subst u2
  rcases e2 with ⟨q2, h2⟩ | ⟨q2, h2⟩ <;> subst h2
  · skip
    show At x v A Q _ 5 [(0, .ref (vq v 0)), (1, vI i1), (2, vI p1)] [.ref (vq v (3 + 2 * i1.toNat))] σ
    refine a_astore_n C 3 [(3, .ref (vq v (3 + 2 * i1.toNat))), (0, .ref (vq v 0)), (1, vI i1), (2, vI p1)] dX6_read_5 rfl (by decide) rfl ?_
    refine a_aload_n C dX6_read_6 0 rfl rfl ?_
    refine a_ifnonnull C 17 dX6_read_7 (by decide) ?_
    refine a_aload_n C dX6_read_17 0 rfl rfl ?_
    refine a_geti C (hS.tr i1 (by omega) (by omega)).f0 (hS.tr i1 (by omega) (by omega)).n0 (Cn := RX5) (T := TX5) (N := 4) rfl iX5 1 (by decide) k79 1 (by decide) rfl dX6_read_18 (fun z18 e18 r18 => ?_)
    have t20 := hT i1 (by omega) (by omega)
    refine a_if_ne C 31 r18 dX6_read_21 (by decide) (fun c21 => ?_) (fun c21 => ?_)
    · skip
      refine a_aload_n C dX6_read_31 0 rfl rfl ?_
      refine a_iload_n C dX6_read_32 3 rfl rfl ?_
      refine a_iconst C dX6_read_33 ?_
      refine a_cVI C (k0 := 2) (As := [vI p1, vI 1]) (rest := []) (c_X5_has x.2.1 v σ (3 + 2 * i1.toNat) (hS.tr i1 (by omega) (by omega)) p1 1 (by omega) (by omega) (by omega)) gX6_read_X5_has rfl (by decide +kernel) (by decide) (hS.tr i1 (by omega) (by omega)).f0 rfl (hS.tr i1 (by omega) (by omega)).n0 rfl rfl (Nat.le_of_ble_eq_true rfl) dX6_read_34 (fun z34 u34 r34 p34 => ?_)
      obtain ⟨e34, p34⟩ := p34
      subst u34
      have q34 := zz e34
      refine a_if_ne C 47 r34 dX6_read_37 (by decide) (fun c37 => ?_) (fun c37 => ?_)
      · skip
        refine a_aload_n C dX6_read_47 1 rfl rfl ?_
        refine a_iconst C dX6_read_48 ?_
        refine a_puti C hS.f0 hS.n0 (Cn := RX6) (T := TX6) (N := 6) rfl iX6 tyX6_ok nmX6 5 (by decide) k42 rfl rfl 5 (by decide) (fun _ => Nat.le_of_ble_eq_true rfl) (fun _ => rfl) dX6_read_49 ?_
        refine a_aload_n C dX6_read_52 0 rfl rfl ?_
        refine a_getf C (hS.tr i1 (by omega) (by omega)).f0 (hS.tr i1 (by omega) (by omega)).n0 (Cn := RX5) (T := TX5) (N := 4) rfl iX5 0 (by decide) k87 (w := .ref (vq v (3 + 2 * i1.toNat + 1))) rfl dX6_read_53 ?_
        refine a_iload_n C dX6_read_56 3 rfl rfl ?_
        refine a_lald C (hS.tr i1 (by omega) (by omega)).f1 (hS.tr i1 (by omega) (by omega)).n1 1 (hS.tr i1 (by omega) (by omega)).tL (by omega) (by omega) (by decide) dX6_read_57 (fun z57 e57 r57 => ?_)
        try simp [sput_r, mset_n, sput, mset] at e57
        refine hret _ _ _ _ dX6_read_58 (by omega) ?_
        (repeat (first | rw [if_pos (by omega)] | rw [if_neg (by omega)]))
        exact ⟨by omega, rfl⟩
      · skip
        refine a_aload_n C dX6_read_40 1 rfl rfl ?_
        refine a_iconst C dX6_read_41 ?_
        refine a_cVI C (k0 := 1) (As := [vI 3]) (rest := []) (c_X6_none x.2.1 v σ hS 3 (by omega)) gX6_read_X6_none rfl (by decide +kernel) (by decide) hS.f0 rfl hS.n0 rfl rfl (Nat.le_of_ble_eq_true rfl) dX6_read_42 (fun z42 u42 r42 p42 => ?_)
        obtain ⟨e42, p42⟩ := p42
        subst u42
        refine a_i2l C r42 dX6_read_45 ?_
        refine hret _ _ _ _ dX6_read_46 (by omega) ?_
        (repeat (first | rw [if_pos (by omega)] | rw [if_neg (by omega)]))
        exact ⟨by omega, rfl⟩
    · skip
      refine a_aload_n C dX6_read_24 1 rfl rfl ?_
      refine a_iconst C dX6_read_25 ?_
      refine a_cVI C (k0 := 1) (As := [vI 2]) (rest := []) (c_X6_none x.2.1 v σ hS 2 (by omega)) gX6_read_X6_none rfl (by decide +kernel) (by decide) hS.f0 rfl hS.n0 rfl rfl (Nat.le_of_ble_eq_true rfl) dX6_read_26 (fun z26 u26 r26 p26 => ?_)
      obtain ⟨e26, p26⟩ := p26
      subst u26
      refine a_i2l C r26 dX6_read_29 ?_
      refine hret _ _ _ _ dX6_read_30 (by omega) ?_
      (repeat (first | rw [if_pos (by omega)] | rw [if_neg (by omega)]))
      exact ⟨by omega, rfl⟩
  · skip
    show At x v A Q _ 5 [(0, .ref (vq v 0)), (1, vI i1), (2, vI p1)] [.null] σ
    refine a_astore_nN C 3 [(3, .null), (0, .ref (vq v 0)), (1, vI i1), (2, vI p1)] dX6_read_5 rfl (by decide) rfl ?_
    refine a_aload_nN C dX6_read_6 0 rfl rfl ?_
    refine a_ifnonnullN C dX6_read_7 ?_
    refine a_aload_n C dX6_read_10 1 rfl rfl ?_
    refine a_iconst C dX6_read_11 ?_
    refine a_cVI C (k0 := 1) (As := [vI 1]) (rest := []) (c_X6_none x.2.1 v σ hS 1 (by omega)) gX6_read_X6_none rfl (by decide +kernel) (by decide) hS.f0 rfl hS.n0 rfl rfl (Nat.le_of_ble_eq_true rfl) dX6_read_12 (fun z12 u12 r12 p12 => ?_)
    obtain ⟨e12, p12⟩ := p12
    subst u12
    refine a_i2l C r12 dX6_read_15 ?_
    refine hret _ _ _ _ dX6_read_16 (by omega) ?_
    (repeat (first | rw [if_pos (by omega)] | rw [if_neg (by omega)]))
    exact ⟨by omega, rfl⟩
set_option maxHeartbeats 4000000 in
set_option maxRecDepth 100000 in
theorem c_X6_pour (l : Launch) (v : VC) (σ : Mem) (hS : shSS v) (i1 p1 i2 p2 m1 : Int) (h1 : rg i1) (h2 : rg p1) (h3 : rg i2) (h4 : rg p2) (h5 : rg m1) (hT : trW σ) : CtI l yX6_pour wsX6_pour 2 46 v [.ref (vq v 0), vI i1, vI p1, vI i2, vI p2, vI m1] σ (fun z u => (if ¬ ((0 ≤ i1 ∧ i1 < 4) ∧ (0 ≤ i2 ∧ i2 < 4) ∧ 0 ≤ p1 ∧ 0 ≤ p2 ∧ 0 ≤ m1) then (z = 0 ∧ u = sput σ 0 5 1) else (if σ (3 + 2 * i1.toNat) 1 = 0 ∨ σ (3 + 2 * i2.toNat) 1 = 0 then (z = 0 ∧ u = sput σ 0 5 2) else (if σ (3 + 2 * i1.toNat) 2 ≠ σ (3 + 2 * i2.toNat) 2 then (z = 0 ∧ u = sput σ 0 5 7) else (if ¬ (p1 ≤ σ (3 + 2 * i1.toNat) 3 - m1 ∧ p2 ≤ σ (3 + 2 * i2.toNat) 3 - m1) then (z = 0 ∧ u = sput σ 0 5 3) else (z = 1 ∧ u = sput (mset σ ((3 + 2 * i2.toNat) + 1) (mcpy (σ ((3 + 2 * i1.toNat) + 1)) (σ ((3 + 2 * i2.toNat) + 1)) (100000 + p1) (100000 + p2) m1)) 0 5 0)))))) := by
  refine mkZ (cc := cX6_pour) (n := 8) (by decide +kernel) rfl (Nat.le_of_ble_eq_true rfl) (fun x A Q hx C hret => ?_)
  subst hx
  show At x v A Q _ 0 [(0, .ref (vq v 0)), (1, vI i1), (2, vI p1), (3, vI i2), (4, vI p2), (5, vI m1)] [] σ
  have iX5 : ∀ w ∈ wsX50, w ∈ wsX6_pour := by decide +kernel
  have k79 : Cond.fieldLink RX6 79 (TX5 1).1 (TX5 1).2.1 (TX5 1).2.2.1 ∈ wsX6_pour := by decide +kernel
  have k99 : Cond.fieldLink RX6 99 (TX5 2).1 (TX5 2).2.1 (TX5 2).2.2.1 ∈ wsX6_pour := by decide +kernel
  have k87 : Cond.fieldLink RX6 87 (TX5 0).1 (TX5 0).2.1 (TX5 0).2.2.1 ∈ wsX6_pour := by decide +kernel
  refine a_aload_n C dX6_pour_0 0 rfl rfl ?_
  refine a_iload_n C dX6_pour_1 1 rfl rfl ?_
  refine a_cVQ C (k0 := 1) (As := [vI i1]) (rest := []) (c_X6_trayAt x.2.1 v σ hS i1 (by omega)) gX6_pour_X6_trayAt rfl (by decide +kernel) (by decide) hS.f0 rfl hS.n0 rfl rfl (Nat.le_of_ble_eq_true rfl) dX6_pour_2 (fun z2 u2 p2 => ?_)
  obtain ⟨e2, p2⟩ := p2
  subst u2
  rcases e2 with ⟨q2, h2⟩ | ⟨q2, h2⟩ <;> subst h2
  · skip
    show At x v A Q _ 5 [(0, .ref (vq v 0)), (1, vI i1), (2, vI p1), (3, vI i2), (4, vI p2), (5, vI m1)] [.ref (vq v (3 + 2 * i1.toNat))] σ
    refine a_astore C [(6, .ref (vq v (3 + 2 * i1.toNat))), (0, .ref (vq v 0)), (1, vI i1), (2, vI p1), (3, vI i2), (4, vI p2), (5, vI m1)] dX6_pour_5 (by decide) rfl ?_
    refine a_aload_n C dX6_pour_7 1 rfl rfl ?_
    refine a_iload_n C dX6_pour_8 4 rfl rfl ?_
    refine a_cVQ C (k0 := 1) (As := [vI i2]) (rest := []) (c_X6_trayAt x.2.1 v σ hS i2 (by omega)) gX6_pour_X6_trayAt rfl (by decide +kernel) (by decide) hS.f0 rfl hS.n0 rfl rfl (Nat.le_of_ble_eq_true rfl) dX6_pour_9 (fun z9 u9 p9 => ?_)
    obtain ⟨e9, p9⟩ := p9
    subst u9
    rcases e9 with ⟨q9, h9⟩ | ⟨q9, h9⟩ <;> subst h9
    · skip
      show At x v A Q _ 12 [(6, .ref (vq v (3 + 2 * i1.toNat))), (0, .ref (vq v 0)), (1, vI i1), (2, vI p1), (3, vI i2), (4, vI p2), (5, vI m1)] [.ref (vq v (3 + 2 * i2.toNat))] σ
      refine a_astore C [(7, .ref (vq v (3 + 2 * i2.toNat))), (6, .ref (vq v (3 + 2 * i1.toNat))), (0, .ref (vq v 0)), (1, vI i1), (2, vI p1), (3, vI i2), (4, vI p2), (5, vI m1)] dX6_pour_12 (by decide) rfl ?_
      refine a_aload C dX6_pour_14 1 rfl ?_
      refine a_ifnull C dX6_pour_16 ?_
      refine a_aload C dX6_pour_19 0 rfl ?_
      refine a_ifnull C dX6_pour_21 ?_
      refine a_iload_n C dX6_pour_24 4 rfl rfl ?_
      refine a_if_lt C 38 (by omega) dX6_pour_25 (by decide) (fun c25 => ?_) (fun c25 => ?_)
      · skip
        refine a_aload_n C dX6_pour_38 2 rfl rfl ?_
        refine a_iconst C dX6_pour_39 ?_
        refine a_cVI C (k0 := 1) (As := [vI 1]) (rest := []) (c_X6_no x.2.1 v σ hS 1 (by omega)) gX6_pour_X6_no rfl (by decide +kernel) (by decide) hS.f0 rfl hS.n0 rfl rfl (Nat.le_of_ble_eq_true rfl) dX6_pour_40 (fun z40 u40 r40 p40 => ?_)
        obtain ⟨e40, p40⟩ := p40
        subst u40
        refine hret _ _ _ _ dX6_pour_43 (by omega) ?_
        (repeat (first | rw [if_pos (by omega)] | rw [if_neg (by omega)]))
        exact ⟨by omega, rfl⟩
      · skip
        refine a_iload C dX6_pour_28 6 rfl ?_
        refine a_if_lt C 38 (by omega) dX6_pour_30 (by decide) (fun c30 => ?_) (fun c30 => ?_)
        · skip
          refine a_aload_n C dX6_pour_38 2 rfl rfl ?_
          refine a_iconst C dX6_pour_39 ?_
          refine a_cVI C (k0 := 1) (As := [vI 1]) (rest := []) (c_X6_no x.2.1 v σ hS 1 (by omega)) gX6_pour_X6_no rfl (by decide +kernel) (by decide) hS.f0 rfl hS.n0 rfl rfl (Nat.le_of_ble_eq_true rfl) dX6_pour_40 (fun z40 u40 r40 p40 => ?_)
          obtain ⟨e40, p40⟩ := p40
          subst u40
          refine hret _ _ _ _ dX6_pour_43 (by omega) ?_
          (repeat (first | rw [if_pos (by omega)] | rw [if_neg (by omega)]))
          exact ⟨by omega, rfl⟩
        · skip
          refine a_iload C dX6_pour_33 7 rfl ?_
          refine a_if_ge C 44 (by omega) dX6_pour_35 (by decide) (fun c35 => ?_) (fun c35 => ?_)
          · skip
            refine a_aload C dX6_pour_44 1 rfl ?_
            refine a_geti C (hS.tr i1 (by omega) (by omega)).f0 (hS.tr i1 (by omega) (by omega)).n0 (Cn := RX5) (T := TX5) (N := 4) rfl iX5 1 (by decide) k79 1 (by decide) rfl dX6_pour_46 (fun z46 e46 r46 => ?_)
            have t1 := hT i1 (by omega) (by omega)
            have t2 := hT i2 (by omega) (by omega)
            refine a_if_eq C 60 r46 dX6_pour_49 (by decide) (fun c49 => ?_) (fun c49 => ?_)
            · skip
              refine a_aload_n C dX6_pour_60 2 rfl rfl ?_
              refine a_iconst C dX6_pour_61 ?_
              refine a_cVI C (k0 := 1) (As := [vI 2]) (rest := []) (c_X6_no x.2.1 v σ hS 2 (by omega)) gX6_pour_X6_no rfl (by decide +kernel) (by decide) hS.f0 rfl hS.n0 rfl rfl (Nat.le_of_ble_eq_true rfl) dX6_pour_62 (fun z62 u62 r62 p62 => ?_)
              obtain ⟨e62, p62⟩ := p62
              subst u62
              refine hret _ _ _ _ dX6_pour_65 (by omega) ?_
              (repeat (first | rw [if_pos (by omega)] | rw [if_neg (by omega)]))
              exact ⟨by omega, rfl⟩
            · skip
              refine a_aload C dX6_pour_52 0 rfl ?_
              refine a_geti C (hS.tr i2 (by omega) (by omega)).f0 (hS.tr i2 (by omega) (by omega)).n0 (Cn := RX5) (T := TX5) (N := 4) rfl iX5 1 (by decide) k79 1 (by decide) rfl dX6_pour_54 (fun z54 e54 r54 => ?_)
              refine a_if_ne C 66 r54 dX6_pour_57 (by decide) (fun c57 => ?_) (fun c57 => ?_)
              · skip
                refine a_aload C dX6_pour_66 1 rfl ?_
                refine a_geti C (hS.tr i1 (by omega) (by omega)).f0 (hS.tr i1 (by omega) (by omega)).n0 (Cn := RX5) (T := TX5) (N := 4) rfl iX5 2 (by decide) k99 2 (by decide) rfl dX6_pour_68 (fun z68 e68 r68 => ?_)
                refine a_aload C dX6_pour_71 0 rfl ?_
                refine a_geti C (hS.tr i2 (by omega) (by omega)).f0 (hS.tr i2 (by omega) (by omega)).n0 (Cn := RX5) (T := TX5) (N := 4) rfl iX5 2 (by decide) k99 2 (by decide) rfl dX6_pour_73 (fun z73 e73 r73 => ?_)
                refine a_icmp_eq C 86 r68 r73 dX6_pour_76 (by decide) (fun c76 => ?_) (fun c76 => ?_)
                · skip
                  refine a_aload C dX6_pour_86 1 rfl ?_
                  refine a_iload_n C dX6_pour_88 4 rfl rfl ?_
                  refine a_iload C dX6_pour_89 7 rfl ?_
                  refine a_cVI C (k0 := 2) (As := [vI p1, vI m1]) (rest := []) (c_X5_has x.2.1 v σ (3 + 2 * i1.toNat) (hS.tr i1 (by omega) (by omega)) p1 m1 (by omega) (by omega) (by omega)) gX6_pour_X5_has rfl (by decide +kernel) (by decide) (hS.tr i1 (by omega) (by omega)).f0 rfl (hS.tr i1 (by omega) (by omega)).n0 rfl rfl (Nat.le_of_ble_eq_true rfl) dX6_pour_91 (fun z91 u91 r91 p91 => ?_)
                  obtain ⟨e91, p91⟩ := p91
                  subst u91
                  have q91 := zz e91
                  refine a_if_eq C 109 r91 dX6_pour_94 (by decide) (fun c94 => ?_) (fun c94 => ?_)
                  · skip
                    refine a_aload_n C dX6_pour_109 2 rfl rfl ?_
                    refine a_iconst C dX6_pour_110 ?_
                    refine a_cVI C (k0 := 1) (As := [vI 3]) (rest := []) (c_X6_no x.2.1 v σ hS 3 (by omega)) gX6_pour_X6_no rfl (by decide +kernel) (by decide) hS.f0 rfl hS.n0 rfl rfl (Nat.le_of_ble_eq_true rfl) dX6_pour_111 (fun z111 u111 r111 p111 => ?_)
                    obtain ⟨e111, p111⟩ := p111
                    subst u111
                    refine hret _ _ _ _ dX6_pour_114 (by omega) ?_
                    (repeat (first | rw [if_pos (by omega)] | rw [if_neg (by omega)]))
                    exact ⟨by omega, rfl⟩
                  · skip
                    refine a_aload C dX6_pour_97 0 rfl ?_
                    refine a_iload C dX6_pour_99 6 rfl ?_
                    refine a_iload C dX6_pour_101 7 rfl ?_
                    refine a_cVI C (k0 := 2) (As := [vI p2, vI m1]) (rest := []) (c_X5_has x.2.1 v σ (3 + 2 * i2.toNat) (hS.tr i2 (by omega) (by omega)) p2 m1 (by omega) (by omega) (by omega)) gX6_pour_X5_has rfl (by decide +kernel) (by decide) (hS.tr i2 (by omega) (by omega)).f0 rfl (hS.tr i2 (by omega) (by omega)).n0 rfl rfl (Nat.le_of_ble_eq_true rfl) dX6_pour_103 (fun z103 u103 r103 p103 => ?_)
                    obtain ⟨e103, p103⟩ := p103
                    subst u103
                    have q103 := zz e103
                    refine a_if_ne C 115 r103 dX6_pour_106 (by decide) (fun c106 => ?_) (fun c106 => ?_)
                    · skip
                      refine a_aload C dX6_pour_115 1 rfl ?_
                      refine a_getf C (hS.tr i1 (by omega) (by omega)).f0 (hS.tr i1 (by omega) (by omega)).n0 (Cn := RX5) (T := TX5) (N := 4) rfl iX5 0 (by decide) k87 (w := .ref (vq v (3 + 2 * i1.toNat + 1))) rfl dX6_pour_117 ?_
                      refine a_iload_n C dX6_pour_120 4 rfl rfl ?_
                      refine a_aload C dX6_pour_121 0 rfl ?_
                      refine a_getf C (hS.tr i2 (by omega) (by omega)).f0 (hS.tr i2 (by omega) (by omega)).n0 (Cn := RX5) (T := TX5) (N := 4) rfl iX5 0 (by decide) k87 (w := .ref (vq v (3 + 2 * i2.toNat + 1))) rfl dX6_pour_123 ?_
                      refine a_iload C dX6_pour_126 6 rfl ?_
                      refine a_iload C dX6_pour_128 7 rfl ?_
                      refine a_copyl C (hS.tr i1 (by omega) (by omega)).f1 (hS.tr i2 (by omega) (by omega)).f1 (hS.tr i1 (by omega) (by omega)).n1 (hS.tr i2 (by omega) (by omega)).n1 1 (hS.tr i1 (by omega) (by omega)).tL (hS.tr i2 (by omega) (by omega)).tL (by omega) (by omega) (by omega) (by omega) (by omega) (by decide) (by decide) (by decide +kernel) ⟨by decide, Nat.le_of_ble_eq_true rfl⟩ dX6_pour_130 ?_
                      refine a_aload_n C dX6_pour_133 2 rfl rfl ?_
                      refine a_cVI C (k0 := 0) (As := []) (rest := []) (c_X6_yes x.2.1 v (mset σ (3 + 2 * i2.toNat + 1) (mcpy (σ (3 + 2 * i1.toNat + 1)) (σ (3 + 2 * i2.toNat + 1)) (100000 + p1) (100000 + p2) m1)) hS ) gX6_pour_X6_yes rfl (by decide +kernel) (by decide) hS.f0 rfl hS.n0 rfl rfl (Nat.le_of_ble_eq_true rfl) dX6_pour_134 (fun z134 u134 r134 p134 => ?_)
                      obtain ⟨e134, p134⟩ := p134
                      subst u134
                      refine hret _ _ _ _ dX6_pour_137 (by omega) ?_
                      (repeat (first | rw [if_pos (by omega)] | rw [if_neg (by omega)]))
                      exact ⟨by omega, rfl⟩
                    · skip
                      refine a_aload_n C dX6_pour_109 2 rfl rfl ?_
                      refine a_iconst C dX6_pour_110 ?_
                      refine a_cVI C (k0 := 1) (As := [vI 3]) (rest := []) (c_X6_no x.2.1 v σ hS 3 (by omega)) gX6_pour_X6_no rfl (by decide +kernel) (by decide) hS.f0 rfl hS.n0 rfl rfl (Nat.le_of_ble_eq_true rfl) dX6_pour_111 (fun z111 u111 r111 p111 => ?_)
                      obtain ⟨e111, p111⟩ := p111
                      subst u111
                      refine hret _ _ _ _ dX6_pour_114 (by omega) ?_
                      (repeat (first | rw [if_pos (by omega)] | rw [if_neg (by omega)]))
                      exact ⟨by omega, rfl⟩
                · skip
                  refine a_aload_n C dX6_pour_79 2 rfl rfl ?_
                  refine a_bipush C dX6_pour_80 ?_
                  refine a_cVI C (k0 := 1) (As := [vI 7]) (rest := []) (c_X6_no x.2.1 v σ hS 7 (by omega)) gX6_pour_X6_no rfl (by decide +kernel) (by decide) hS.f0 rfl hS.n0 rfl rfl (Nat.le_of_ble_eq_true rfl) dX6_pour_82 (fun z82 u82 r82 p82 => ?_)
                  obtain ⟨e82, p82⟩ := p82
                  subst u82
                  refine hret _ _ _ _ dX6_pour_85 (by omega) ?_
                  (repeat (first | rw [if_pos (by omega)] | rw [if_neg (by omega)]))
                  exact ⟨by omega, rfl⟩
              · skip
                refine a_aload_n C dX6_pour_60 2 rfl rfl ?_
                refine a_iconst C dX6_pour_61 ?_
                refine a_cVI C (k0 := 1) (As := [vI 2]) (rest := []) (c_X6_no x.2.1 v σ hS 2 (by omega)) gX6_pour_X6_no rfl (by decide +kernel) (by decide) hS.f0 rfl hS.n0 rfl rfl (Nat.le_of_ble_eq_true rfl) dX6_pour_62 (fun z62 u62 r62 p62 => ?_)
                obtain ⟨e62, p62⟩ := p62
                subst u62
                refine hret _ _ _ _ dX6_pour_65 (by omega) ?_
                (repeat (first | rw [if_pos (by omega)] | rw [if_neg (by omega)]))
                exact ⟨by omega, rfl⟩
          · skip
            refine a_aload_n C dX6_pour_38 2 rfl rfl ?_
            refine a_iconst C dX6_pour_39 ?_
            refine a_cVI C (k0 := 1) (As := [vI 1]) (rest := []) (c_X6_no x.2.1 v σ hS 1 (by omega)) gX6_pour_X6_no rfl (by decide +kernel) (by decide) hS.f0 rfl hS.n0 rfl rfl (Nat.le_of_ble_eq_true rfl) dX6_pour_40 (fun z40 u40 r40 p40 => ?_)
            obtain ⟨e40, p40⟩ := p40
            subst u40
            refine hret _ _ _ _ dX6_pour_43 (by omega) ?_
            (repeat (first | rw [if_pos (by omega)] | rw [if_neg (by omega)]))
            exact ⟨by omega, rfl⟩
    · skip
      show At x v A Q _ 12 [(6, .ref (vq v (3 + 2 * i1.toNat))), (0, .ref (vq v 0)), (1, vI i1), (2, vI p1), (3, vI i2), (4, vI p2), (5, vI m1)] [.null] σ
      refine a_astoreN C [(7, .null), (6, .ref (vq v (3 + 2 * i1.toNat))), (0, .ref (vq v 0)), (1, vI i1), (2, vI p1), (3, vI i2), (4, vI p2), (5, vI m1)] dX6_pour_12 (by decide) rfl ?_
      refine a_aload C dX6_pour_14 1 rfl ?_
      refine a_ifnull C dX6_pour_16 ?_
      refine a_aloadN C dX6_pour_19 0 rfl ?_
      refine a_ifnullN C 38 dX6_pour_21 (by decide) ?_
      refine a_aload_n C dX6_pour_38 2 rfl rfl ?_
      refine a_iconst C dX6_pour_39 ?_
      refine a_cVI C (k0 := 1) (As := [vI 1]) (rest := []) (c_X6_no x.2.1 v σ hS 1 (by omega)) gX6_pour_X6_no rfl (by decide +kernel) (by decide) hS.f0 rfl hS.n0 rfl rfl (Nat.le_of_ble_eq_true rfl) dX6_pour_40 (fun z40 u40 r40 p40 => ?_)
      obtain ⟨e40, p40⟩ := p40
      subst u40
      refine hret _ _ _ _ dX6_pour_43 (by omega) ?_
      (repeat (first | rw [if_pos (by omega)] | rw [if_neg (by omega)]))
      exact ⟨by omega, rfl⟩
  · skip
    show At x v A Q _ 5 [(0, .ref (vq v 0)), (1, vI i1), (2, vI p1), (3, vI i2), (4, vI p2), (5, vI m1)] [.null] σ
    refine a_astoreN C [(6, .null), (0, .ref (vq v 0)), (1, vI i1), (2, vI p1), (3, vI i2), (4, vI p2), (5, vI m1)] dX6_pour_5 (by decide) rfl ?_
    refine a_aload_n C dX6_pour_7 1 rfl rfl ?_
    refine a_iload_n C dX6_pour_8 4 rfl rfl ?_
    refine a_cVQ C (k0 := 1) (As := [vI i2]) (rest := []) (c_X6_trayAt x.2.1 v σ hS i2 (by omega)) gX6_pour_X6_trayAt rfl (by decide +kernel) (by decide) hS.f0 rfl hS.n0 rfl rfl (Nat.le_of_ble_eq_true rfl) dX6_pour_9 (fun z9 u9 p9 => ?_)
    obtain ⟨e9, p9⟩ := p9
    subst u9
    rcases e9 with ⟨q9, h9⟩ | ⟨q9, h9⟩ <;> subst h9
    · skip
      show At x v A Q _ 12 [(6, .null), (0, .ref (vq v 0)), (1, vI i1), (2, vI p1), (3, vI i2), (4, vI p2), (5, vI m1)] [.ref (vq v (3 + 2 * i2.toNat))] σ
      refine a_astore C [(7, .ref (vq v (3 + 2 * i2.toNat))), (6, .null), (0, .ref (vq v 0)), (1, vI i1), (2, vI p1), (3, vI i2), (4, vI p2), (5, vI m1)] dX6_pour_12 (by decide) rfl ?_
      refine a_aloadN C dX6_pour_14 1 rfl ?_
      refine a_ifnullN C 38 dX6_pour_16 (by decide) ?_
      refine a_aload_n C dX6_pour_38 2 rfl rfl ?_
      refine a_iconst C dX6_pour_39 ?_
      refine a_cVI C (k0 := 1) (As := [vI 1]) (rest := []) (c_X6_no x.2.1 v σ hS 1 (by omega)) gX6_pour_X6_no rfl (by decide +kernel) (by decide) hS.f0 rfl hS.n0 rfl rfl (Nat.le_of_ble_eq_true rfl) dX6_pour_40 (fun z40 u40 r40 p40 => ?_)
      obtain ⟨e40, p40⟩ := p40
      subst u40
      refine hret _ _ _ _ dX6_pour_43 (by omega) ?_
      (repeat (first | rw [if_pos (by omega)] | rw [if_neg (by omega)]))
      exact ⟨by omega, rfl⟩
    · skip
      show At x v A Q _ 12 [(6, .null), (0, .ref (vq v 0)), (1, vI i1), (2, vI p1), (3, vI i2), (4, vI p2), (5, vI m1)] [.null] σ
      refine a_astoreN C [(7, .null), (6, .null), (0, .ref (vq v 0)), (1, vI i1), (2, vI p1), (3, vI i2), (4, vI p2), (5, vI m1)] dX6_pour_12 (by decide) rfl ?_
      refine a_aloadN C dX6_pour_14 1 rfl ?_
      refine a_ifnullN C 38 dX6_pour_16 (by decide) ?_
      refine a_aload_n C dX6_pour_38 2 rfl rfl ?_
      refine a_iconst C dX6_pour_39 ?_
      refine a_cVI C (k0 := 1) (As := [vI 1]) (rest := []) (c_X6_no x.2.1 v σ hS 1 (by omega)) gX6_pour_X6_no rfl (by decide +kernel) (by decide) hS.f0 rfl hS.n0 rfl rfl (Nat.le_of_ble_eq_true rfl) dX6_pour_40 (fun z40 u40 r40 p40 => ?_)
      obtain ⟨e40, p40⟩ := p40
      subst u40
      refine hret _ _ _ _ dX6_pour_43 (by omega) ?_
      (repeat (first | rw [if_pos (by omega)] | rw [if_neg (by omega)]))
      exact ⟨by omega, rfl⟩
set_option maxHeartbeats 4000000 in
set_option maxRecDepth 100000 in
theorem c_X6_put (l : Launch) (v : VC) (σ : Mem) (hS : shSS v) (i1 x1 m1 : Int) (h1 : rg i1) (h2 : rg x1) (h3 : rg m1) (hC : ∀ i : Int, 0 ≤ i → i < 3 → coW σ (11 + 10 * i.toNat)) : CtI l yX6_put wsX6_put 4 89 v [.ref (vq v 0), vI i1, vI x1, vI m1] σ (fun z u => (if ¬ ((0 ≤ i1 ∧ i1 < 3) ∧ (-1 ≤ x1 ∧ x1 ≤ 39) ∧ (1 ≤ m1 ∧ m1 ≤ 1000)) then (z = 0 ∧ u = sput σ 0 5 1) else (if 10000 < σ (11 + 10 * i1.toNat) 3 + σ (11 + 10 * i1.toNat) 4 + m1 then (z = 0 ∧ u = sput σ 0 5 4) else (z = 1 ∧ u = sput (enM σ (11 + 10 * i1.toNat) x1 m1) 0 5 0)))) := by
  refine mkZ (cc := cX6_put) (n := 5) (by decide +kernel) rfl (Nat.le_of_ble_eq_true rfl) (fun x A Q hx C hret => ?_)
  subst hx
  show At x v A Q _ 0 [(0, .ref (vq v 0)), (1, vI i1), (2, vI x1), (3, vI m1)] [] σ
  refine a_aload_n C dX6_put_0 0 rfl rfl ?_
  refine a_iload_n C dX6_put_1 1 rfl rfl ?_
  refine a_cVQ C (k0 := 1) (As := [vI i1]) (rest := []) (c_X6_columnAt x.2.1 v σ hS i1 (by omega)) gX6_put_X6_columnAt rfl (by decide +kernel) (by decide) hS.f0 rfl hS.n0 rfl rfl (Nat.le_of_ble_eq_true rfl) dX6_put_2 (fun z2 u2 p2 => ?_)
  obtain ⟨e2, p2⟩ := p2
  subst u2
  rcases e2 with ⟨q2, h2⟩ | ⟨q2, h2⟩ <;> subst h2
  · skip
    show At x v A Q _ 5 [(0, .ref (vq v 0)), (1, vI i1), (2, vI x1), (3, vI m1)] [.ref (vq v (11 + 10 * i1.toNat))] σ
    refine a_astore C [(4, .ref (vq v (11 + 10 * i1.toNat))), (0, .ref (vq v 0)), (1, vI i1), (2, vI x1), (3, vI m1)] dX6_put_5 (by decide) rfl ?_
    refine a_aload C dX6_put_7 0 rfl ?_
    refine a_ifnull C dX6_put_9 ?_
    refine a_iload_n C dX6_put_12 3 rfl rfl ?_
    refine a_i2l C (by omega) dX6_put_13 ?_
    refine a_cSI C (k0 := 1) (As := [vJ x1]) (rest := []) (c_X6_isValueOrNone x.2.1 v σ x1 (by omega)) gX6_put_X6_isValueOrNone rfl (by decide +kernel) (by decide) rfl rfl (Nat.le_of_ble_eq_true rfl) dX6_put_14 (fun z14 u14 r14 p14 => ?_)
    obtain ⟨e14, p14⟩ := p14
    subst u14
    have q14 := zz e14
    refine a_if_eq C 32 r14 dX6_put_17 (by decide) (fun c17 => ?_) (fun c17 => ?_)
    · skip
      refine a_aload_n C dX6_put_32 1 rfl rfl ?_
      refine a_iconst C dX6_put_33 ?_
      refine a_cVI C (k0 := 1) (As := [vI 1]) (rest := []) (c_X6_no x.2.1 v σ hS 1 (by omega)) gX6_put_X6_no rfl (by decide +kernel) (by decide) hS.f0 rfl hS.n0 rfl rfl (Nat.le_of_ble_eq_true rfl) dX6_put_34 (fun z34 u34 r34 p34 => ?_)
      obtain ⟨e34, p34⟩ := p34
      subst u34
      refine hret _ _ _ _ dX6_put_37 (by omega) ?_
      (repeat (first | rw [if_pos (by omega)] | rw [if_neg (by omega)]))
      exact ⟨by omega, rfl⟩
    · skip
      refine a_iload_n C dX6_put_20 4 rfl rfl ?_
      refine a_i2l C (by omega) dX6_put_21 ?_
      refine a_lconst C 1 dX6_put_22 rfl ?_
      refine a_ldc2 C 1000 (w := 1000) (by decide +kernel) rfl dX6_put_23 ?_
      refine a_cSI C (k0 := 3) (As := [vJ m1, vJ 1, vJ 1000]) (rest := []) (c_X6_within x.2.1 v σ m1 1 1000 (by omega) (by omega) (by omega)) gX6_put_X6_within rfl (by decide +kernel) (by decide) rfl rfl (Nat.le_of_ble_eq_true rfl) dX6_put_26 (fun z26 u26 r26 p26 => ?_)
      obtain ⟨e26, p26⟩ := p26
      subst u26
      have q26 := zz e26
      refine a_if_ne C 38 r26 dX6_put_29 (by decide) (fun c29 => ?_) (fun c29 => ?_)
      · skip
        have c0 := hC i1 (by omega) (by omega)
        have c3 := c0.2.1
        have c4 := c0.2.2.1
        refine a_aload C dX6_put_38 0 rfl ?_
        refine a_iload_n C dX6_put_40 4 rfl rfl ?_
        refine a_cVI C (k0 := 1) (As := [vI m1]) (rest := []) (c_X0_hasRoom x.2.1 v σ (11 + 10 * i1.toNat) (hS.co i1 (by omega) (by omega)) m1 (by omega) c3 c4) gX6_put_X0_hasRoom rfl (by decide +kernel) (by decide) (hS.co i1 (by omega) (by omega)).f0 rfl (hS.co i1 (by omega) (by omega)).n0 rfl rfl (Nat.le_of_ble_eq_true rfl) dX6_put_41 (fun z41 u41 r41 p41 => ?_)
        obtain ⟨e41, p41⟩ := p41
        subst u41
        have q41 := zz e41
        refine a_if_ne C 53 r41 dX6_put_44 (by decide) (fun c44 => ?_) (fun c44 => ?_)
        · skip
          refine a_aload C dX6_put_53 0 rfl ?_
          refine a_iload_n C dX6_put_55 3 rfl rfl ?_
          refine a_iload_n C dX6_put_56 4 rfl rfl ?_
          refine a_cVV C (k0 := 2) (As := [vI x1, vI m1]) (rest := []) (c_X0_enter x.2.1 v σ (11 + 10 * i1.toNat) (hS.co i1 (by omega) (by omega)) x1 m1 (by omega) (by omega) c0) gX6_put_X0_enter rfl (by decide +kernel) (by decide) (hS.co i1 (by omega) (by omega)).f0 rfl (hS.co i1 (by omega) (by omega)).n0 rfl rfl (Nat.le_of_ble_eq_true rfl) dX6_put_57 (fun u57 p57 => ?_)
          subst u57
          refine a_aload_n C dX6_put_60 1 rfl rfl ?_
          refine a_cVI C (k0 := 0) (As := []) (rest := []) (c_X6_yes x.2.1 v (enM σ (11 + 10 * i1.toNat) x1 m1) hS ) gX6_put_X6_yes rfl (by decide +kernel) (by decide) hS.f0 rfl hS.n0 rfl rfl (Nat.le_of_ble_eq_true rfl) dX6_put_61 (fun z61 u61 r61 p61 => ?_)
          obtain ⟨e61, p61⟩ := p61
          subst u61
          refine hret _ _ _ _ dX6_put_64 (by omega) ?_
          (repeat (first | rw [if_pos (by omega)] | rw [if_neg (by omega)]))
          exact ⟨by omega, rfl⟩
        · skip
          refine a_aload_n C dX6_put_47 1 rfl rfl ?_
          refine a_iconst C dX6_put_48 ?_
          refine a_cVI C (k0 := 1) (As := [vI 4]) (rest := []) (c_X6_no x.2.1 v σ hS 4 (by omega)) gX6_put_X6_no rfl (by decide +kernel) (by decide) hS.f0 rfl hS.n0 rfl rfl (Nat.le_of_ble_eq_true rfl) dX6_put_49 (fun z49 u49 r49 p49 => ?_)
          obtain ⟨e49, p49⟩ := p49
          subst u49
          refine hret _ _ _ _ dX6_put_52 (by omega) ?_
          (repeat (first | rw [if_pos (by omega)] | rw [if_neg (by omega)]))
          exact ⟨by omega, rfl⟩
      · skip
        refine a_aload_n C dX6_put_32 1 rfl rfl ?_
        refine a_iconst C dX6_put_33 ?_
        refine a_cVI C (k0 := 1) (As := [vI 1]) (rest := []) (c_X6_no x.2.1 v σ hS 1 (by omega)) gX6_put_X6_no rfl (by decide +kernel) (by decide) hS.f0 rfl hS.n0 rfl rfl (Nat.le_of_ble_eq_true rfl) dX6_put_34 (fun z34 u34 r34 p34 => ?_)
        obtain ⟨e34, p34⟩ := p34
        subst u34
        refine hret _ _ _ _ dX6_put_37 (by omega) ?_
        (repeat (first | rw [if_pos (by omega)] | rw [if_neg (by omega)]))
        exact ⟨by omega, rfl⟩
  · skip
    show At x v A Q _ 5 [(0, .ref (vq v 0)), (1, vI i1), (2, vI x1), (3, vI m1)] [.null] σ
    refine a_astoreN C [(4, .null), (0, .ref (vq v 0)), (1, vI i1), (2, vI x1), (3, vI m1)] dX6_put_5 (by decide) rfl ?_
    refine a_aloadN C dX6_put_7 0 rfl ?_
    refine a_ifnullN C 32 dX6_put_9 (by decide) ?_
    refine a_aload_n C dX6_put_32 1 rfl rfl ?_
    refine a_iconst C dX6_put_33 ?_
    refine a_cVI C (k0 := 1) (As := [vI 1]) (rest := []) (c_X6_no x.2.1 v σ hS 1 (by omega)) gX6_put_X6_no rfl (by decide +kernel) (by decide) hS.f0 rfl hS.n0 rfl rfl (Nat.le_of_ble_eq_true rfl) dX6_put_34 (fun z34 u34 r34 p34 => ?_)
    obtain ⟨e34, p34⟩ := p34
    subst u34
    refine hret _ _ _ _ dX6_put_37 (by omega) ?_
    (repeat (first | rw [if_pos (by omega)] | rw [if_neg (by omega)]))
    exact ⟨by omega, rfl⟩
set_option maxHeartbeats 4000000 in
set_option maxRecDepth 100000 in
theorem c_X6_strike (l : Launch) (v : VC) (σ : Mem) (hS : shSS v) (i1 x1 m1 : Int) (h1 : rg i1) (h2 : rg x1) (h3 : rg m1) (hC : ∀ i : Int, 0 ≤ i → i < 3 → coW σ (11 + 10 * i.toNat)) : CtI l yX6_strike wsX6_strike 3 67 v [.ref (vq v 0), vI i1, vI x1, vI m1] σ (fun z u => (if ¬ ((0 ≤ i1 ∧ i1 < 3) ∧ (-1 ≤ x1 ∧ x1 ≤ 39) ∧ (1 ≤ m1 ∧ m1 ≤ 1000)) then (z = 0 ∧ u = sput σ 0 5 1) else (if (if 0 ≤ x1 ∧ x1 ≤ 39 then σ ((11 + 10 * i1.toNat) + 1) x1 else σ (11 + 10 * i1.toNat) 4) < m1 then (z = 0 ∧ u = sput σ 0 5 4) else (z = 1 ∧ u = sput (chM σ (11 + 10 * i1.toNat) x1 (-m1)) 0 5 0)))) := by
  refine mkZ (cc := cX6_strike) (n := 5) (by decide +kernel) rfl (Nat.le_of_ble_eq_true rfl) (fun x A Q hx C hret => ?_)
  subst hx
  show At x v A Q _ 0 [(0, .ref (vq v 0)), (1, vI i1), (2, vI x1), (3, vI m1)] [] σ
  refine a_aload_n C dX6_strike_0 0 rfl rfl ?_
  refine a_iload_n C dX6_strike_1 1 rfl rfl ?_
  refine a_cVQ C (k0 := 1) (As := [vI i1]) (rest := []) (c_X6_columnAt x.2.1 v σ hS i1 (by omega)) gX6_strike_X6_columnAt rfl (by decide +kernel) (by decide) hS.f0 rfl hS.n0 rfl rfl (Nat.le_of_ble_eq_true rfl) dX6_strike_2 (fun z2 u2 p2 => ?_)
  obtain ⟨e2, p2⟩ := p2
  subst u2
  rcases e2 with ⟨q2, h2⟩ | ⟨q2, h2⟩ <;> subst h2
  · skip
    show At x v A Q _ 5 [(0, .ref (vq v 0)), (1, vI i1), (2, vI x1), (3, vI m1)] [.ref (vq v (11 + 10 * i1.toNat))] σ
    refine a_astore C [(4, .ref (vq v (11 + 10 * i1.toNat))), (0, .ref (vq v 0)), (1, vI i1), (2, vI x1), (3, vI m1)] dX6_strike_5 (by decide) rfl ?_
    refine a_aload C dX6_strike_7 0 rfl ?_
    refine a_ifnull C dX6_strike_9 ?_
    refine a_iload_n C dX6_strike_12 3 rfl rfl ?_
    refine a_i2l C (by omega) dX6_strike_13 ?_
    refine a_cSI C (k0 := 1) (As := [vJ x1]) (rest := []) (c_X6_isValueOrNone x.2.1 v σ x1 (by omega)) gX6_strike_X6_isValueOrNone rfl (by decide +kernel) (by decide) rfl rfl (Nat.le_of_ble_eq_true rfl) dX6_strike_14 (fun z14 u14 r14 p14 => ?_)
    obtain ⟨e14, p14⟩ := p14
    subst u14
    have q14 := zz e14
    refine a_if_eq C 32 r14 dX6_strike_17 (by decide) (fun c17 => ?_) (fun c17 => ?_)
    · skip
      refine a_aload_n C dX6_strike_32 1 rfl rfl ?_
      refine a_iconst C dX6_strike_33 ?_
      refine a_cVI C (k0 := 1) (As := [vI 1]) (rest := []) (c_X6_no x.2.1 v σ hS 1 (by omega)) gX6_strike_X6_no rfl (by decide +kernel) (by decide) hS.f0 rfl hS.n0 rfl rfl (Nat.le_of_ble_eq_true rfl) dX6_strike_34 (fun z34 u34 r34 p34 => ?_)
      obtain ⟨e34, p34⟩ := p34
      subst u34
      refine hret _ _ _ _ dX6_strike_37 (by omega) ?_
      (repeat (first | rw [if_pos (by omega)] | rw [if_neg (by omega)]))
      exact ⟨by omega, rfl⟩
    · skip
      refine a_iload_n C dX6_strike_20 4 rfl rfl ?_
      refine a_i2l C (by omega) dX6_strike_21 ?_
      refine a_lconst C 1 dX6_strike_22 rfl ?_
      refine a_ldc2 C 1000 (w := 1000) (by decide +kernel) rfl dX6_strike_23 ?_
      refine a_cSI C (k0 := 3) (As := [vJ m1, vJ 1, vJ 1000]) (rest := []) (c_X6_within x.2.1 v σ m1 1 1000 (by omega) (by omega) (by omega)) gX6_strike_X6_within rfl (by decide +kernel) (by decide) rfl rfl (Nat.le_of_ble_eq_true rfl) dX6_strike_26 (fun z26 u26 r26 p26 => ?_)
      obtain ⟨e26, p26⟩ := p26
      subst u26
      have q26 := zz e26
      refine a_if_ne C 38 r26 dX6_strike_29 (by decide) (fun c29 => ?_) (fun c29 => ?_)
      · skip
        have c0 := hC i1 (by omega) (by omega)
        have c3 := c0.2.1
        have c4 := c0.2.2.1
        refine a_aload C dX6_strike_38 0 rfl ?_
        refine a_iload_n C dX6_strike_40 3 rfl rfl ?_
        refine a_cVI C (k0 := 1) (As := [vI x1]) (rest := []) (c_X0_trueCount x.2.1 v σ (11 + 10 * i1.toNat) (hS.co i1 (by omega) (by omega)) x1 (by omega)) gX6_strike_X0_trueCount rfl (by decide +kernel) (by decide) (hS.co i1 (by omega) (by omega)).f0 rfl (hS.co i1 (by omega) (by omega)).n0 rfl rfl (Nat.le_of_ble_eq_true rfl) dX6_strike_41 (fun z41 u41 r41 p41 => ?_)
        obtain ⟨e41, p41⟩ := p41
        subst u41
        refine a_iload_n C dX6_strike_44 4 rfl rfl ?_
        refine a_icmp_ge C 54 r41 (by omega) dX6_strike_45 (by decide) (fun c45 => ?_) (fun c45 => ?_)
        · skip
          refine a_aload C dX6_strike_54 0 rfl ?_
          refine a_iload_n C dX6_strike_56 3 rfl rfl ?_
          refine a_iload_n C dX6_strike_57 4 rfl rfl ?_
          refine a_ineg C dX6_strike_58 ?_
          refine a_cVV C (k0 := 2) (As := [vI x1, vI (-m1)]) (rest := []) (c_X0_change x.2.1 v σ (11 + 10 * i1.toNat) (hS.co i1 (by omega) (by omega)) x1 (-m1) (by omega) (by omega) c0) gX6_strike_X0_change rfl (by decide +kernel) (by decide) (hS.co i1 (by omega) (by omega)).f0 rfl (hS.co i1 (by omega) (by omega)).n0 rfl rfl (Nat.le_of_ble_eq_true rfl) dX6_strike_59 (fun u59 p59 => ?_)
          subst u59
          refine a_aload_n C dX6_strike_62 1 rfl rfl ?_
          refine a_cVI C (k0 := 0) (As := []) (rest := []) (c_X6_yes x.2.1 v (chM σ (11 + 10 * i1.toNat) x1 (-m1)) hS ) gX6_strike_X6_yes rfl (by decide +kernel) (by decide) hS.f0 rfl hS.n0 rfl rfl (Nat.le_of_ble_eq_true rfl) dX6_strike_63 (fun z63 u63 r63 p63 => ?_)
          obtain ⟨e63, p63⟩ := p63
          subst u63
          refine hret _ _ _ _ dX6_strike_66 (by omega) ?_
          (repeat (first | rw [if_pos (by omega)] | rw [if_neg (by omega)]))
          exact ⟨by omega, rfl⟩
        · skip
          refine a_aload_n C dX6_strike_48 1 rfl rfl ?_
          refine a_iconst C dX6_strike_49 ?_
          refine a_cVI C (k0 := 1) (As := [vI 4]) (rest := []) (c_X6_no x.2.1 v σ hS 4 (by omega)) gX6_strike_X6_no rfl (by decide +kernel) (by decide) hS.f0 rfl hS.n0 rfl rfl (Nat.le_of_ble_eq_true rfl) dX6_strike_50 (fun z50 u50 r50 p50 => ?_)
          obtain ⟨e50, p50⟩ := p50
          subst u50
          refine hret _ _ _ _ dX6_strike_53 (by omega) ?_
          (repeat (first | rw [if_pos (by omega)] | rw [if_neg (by omega)]))
          exact ⟨by omega, rfl⟩
      · skip
        refine a_aload_n C dX6_strike_32 1 rfl rfl ?_
        refine a_iconst C dX6_strike_33 ?_
        refine a_cVI C (k0 := 1) (As := [vI 1]) (rest := []) (c_X6_no x.2.1 v σ hS 1 (by omega)) gX6_strike_X6_no rfl (by decide +kernel) (by decide) hS.f0 rfl hS.n0 rfl rfl (Nat.le_of_ble_eq_true rfl) dX6_strike_34 (fun z34 u34 r34 p34 => ?_)
        obtain ⟨e34, p34⟩ := p34
        subst u34
        refine hret _ _ _ _ dX6_strike_37 (by omega) ?_
        (repeat (first | rw [if_pos (by omega)] | rw [if_neg (by omega)]))
        exact ⟨by omega, rfl⟩
  · skip
    show At x v A Q _ 5 [(0, .ref (vq v 0)), (1, vI i1), (2, vI x1), (3, vI m1)] [.null] σ
    refine a_astoreN C [(4, .null), (0, .ref (vq v 0)), (1, vI i1), (2, vI x1), (3, vI m1)] dX6_strike_5 (by decide) rfl ?_
    refine a_aloadN C dX6_strike_7 0 rfl ?_
    refine a_ifnullN C 32 dX6_strike_9 (by decide) ?_
    refine a_aload_n C dX6_strike_32 1 rfl rfl ?_
    refine a_iconst C dX6_strike_33 ?_
    refine a_cVI C (k0 := 1) (As := [vI 1]) (rest := []) (c_X6_no x.2.1 v σ hS 1 (by omega)) gX6_strike_X6_no rfl (by decide +kernel) (by decide) hS.f0 rfl hS.n0 rfl rfl (Nat.le_of_ble_eq_true rfl) dX6_strike_34 (fun z34 u34 r34 p34 => ?_)
    obtain ⟨e34, p34⟩ := p34
    subst u34
    refine hret _ _ _ _ dX6_strike_37 (by omega) ?_
    (repeat (first | rw [if_pos (by omega)] | rw [if_neg (by omega)]))
    exact ⟨by omega, rfl⟩
set_option maxHeartbeats 4000000 in
set_option maxRecDepth 100000 in
theorem c_X6_truly (l : Launch) (v : VC) (σ : Mem) (hS : shSS v) (i1 x1 : Int) (h1 : rg i1) (h2 : rg x1) : CtI l yX6_truly wsX6_truly 3 66 v [.ref (vq v 0), vI i1, vI x1] σ (fun z u => (if ¬ ((0 ≤ i1 ∧ i1 < 3) ∧ (-1 ≤ x1 ∧ x1 ≤ 39)) then (z = -1 ∧ u = sput σ 0 5 1) else (z = (if 0 ≤ x1 ∧ x1 ≤ 39 then σ ((11 + 10 * i1.toNat) + 1) x1 else σ (11 + 10 * i1.toNat) 4) ∧ u = sput σ 0 5 0))) := by
  refine mkI (cc := cX6_truly) (n := 4) (by decide +kernel) rfl (Nat.le_of_ble_eq_true rfl) (fun x A Q hx C hret => ?_)
  subst hx
  show At x v A Q _ 0 [(0, .ref (vq v 0)), (1, vI i1), (2, vI x1)] [] σ
  refine a_aload_n C dX6_truly_0 0 rfl rfl ?_
  refine a_iload_n C dX6_truly_1 1 rfl rfl ?_
  refine a_cVQ C (k0 := 1) (As := [vI i1]) (rest := []) (c_X6_columnAt x.2.1 v σ hS i1 (by omega)) gX6_truly_X6_columnAt rfl (by decide +kernel) (by decide) hS.f0 rfl hS.n0 rfl rfl (Nat.le_of_ble_eq_true rfl) dX6_truly_2 (fun z2 u2 p2 => ?_)
  obtain ⟨e2, p2⟩ := p2
  subst u2
  rcases e2 with ⟨q2, h2⟩ | ⟨q2, h2⟩ <;> subst h2
  · skip
    show At x v A Q _ 5 [(0, .ref (vq v 0)), (1, vI i1), (2, vI x1)] [.ref (vq v (11 + 10 * i1.toNat))] σ
    refine a_astore_n C 3 [(3, .ref (vq v (11 + 10 * i1.toNat))), (0, .ref (vq v 0)), (1, vI i1), (2, vI x1)] dX6_truly_5 rfl (by decide) rfl ?_
    refine a_aload_n C dX6_truly_6 0 rfl rfl ?_
    refine a_ifnull C dX6_truly_7 ?_
    refine a_iload_n C dX6_truly_10 3 rfl rfl ?_
    refine a_i2l C (by omega) dX6_truly_11 ?_
    refine a_cSI C (k0 := 1) (As := [vJ x1]) (rest := []) (c_X6_isValueOrNone x.2.1 v σ x1 (by omega)) gX6_truly_X6_isValueOrNone rfl (by decide +kernel) (by decide) rfl rfl (Nat.le_of_ble_eq_true rfl) dX6_truly_12 (fun z12 u12 r12 p12 => ?_)
    obtain ⟨e12, p12⟩ := p12
    subst u12
    have q12 := zz e12
    refine a_if_ne C 24 r12 dX6_truly_15 (by decide) (fun c15 => ?_) (fun c15 => ?_)
    · skip
      refine a_aload_n C dX6_truly_24 1 rfl rfl ?_
      refine a_aload_n C dX6_truly_25 0 rfl rfl ?_
      refine a_iload_n C dX6_truly_26 3 rfl rfl ?_
      refine a_cVI C (k0 := 1) (As := [vI x1]) (rest := [.ref (vq v 0)]) (c_X0_trueCount x.2.1 v σ (11 + 10 * i1.toNat) (hS.co i1 (by omega) (by omega)) x1 (by omega)) gX6_truly_X0_trueCount rfl (by decide +kernel) (by decide) (hS.co i1 (by omega) (by omega)).f0 rfl (hS.co i1 (by omega) (by omega)).n0 rfl rfl (Nat.le_of_ble_eq_true rfl) dX6_truly_27 (fun z27 u27 r27 p27 => ?_)
      obtain ⟨e27, p27⟩ := p27
      subst u27
      refine a_cVI C (k0 := 1) (As := [vI z27]) (rest := []) (c_X6_told x.2.1 v σ hS z27 (by omega)) gX6_truly_X6_told rfl (by decide +kernel) (by decide) hS.f0 rfl hS.n0 rfl rfl (Nat.le_of_ble_eq_true rfl) dX6_truly_30 (fun z30 u30 r30 p30 => ?_)
      obtain ⟨e30, p30⟩ := p30
      subst u30
      refine hret _ _ _ _ dX6_truly_33 r30 ?_
      (repeat (first | rw [if_pos (by omega)] | rw [if_neg (by omega)]))
      exact ⟨by omega, rfl⟩
    · skip
      refine a_aload_n C dX6_truly_18 1 rfl rfl ?_
      refine a_iconst C dX6_truly_19 ?_
      refine a_cVI C (k0 := 1) (As := [vI 1]) (rest := []) (c_X6_none x.2.1 v σ hS 1 (by omega)) gX6_truly_X6_none rfl (by decide +kernel) (by decide) hS.f0 rfl hS.n0 rfl rfl (Nat.le_of_ble_eq_true rfl) dX6_truly_20 (fun z20 u20 r20 p20 => ?_)
      obtain ⟨e20, p20⟩ := p20
      subst u20
      refine hret _ _ _ _ dX6_truly_23 r20 ?_
      (repeat (first | rw [if_pos (by omega)] | rw [if_neg (by omega)]))
      exact ⟨by omega, rfl⟩
  · skip
    show At x v A Q _ 5 [(0, .ref (vq v 0)), (1, vI i1), (2, vI x1)] [.null] σ
    refine a_astore_nN C 3 [(3, .null), (0, .ref (vq v 0)), (1, vI i1), (2, vI x1)] dX6_truly_5 rfl (by decide) rfl ?_
    refine a_aload_nN C dX6_truly_6 0 rfl rfl ?_
    refine a_ifnullN C 18 dX6_truly_7 (by decide) ?_
    refine a_aload_n C dX6_truly_18 1 rfl rfl ?_
    refine a_iconst C dX6_truly_19 ?_
    refine a_cVI C (k0 := 1) (As := [vI 1]) (rest := []) (c_X6_none x.2.1 v σ hS 1 (by omega)) gX6_truly_X6_none rfl (by decide +kernel) (by decide) hS.f0 rfl hS.n0 rfl rfl (Nat.le_of_ble_eq_true rfl) dX6_truly_20 (fun z20 u20 r20 p20 => ?_)
    obtain ⟨e20, p20⟩ := p20
    subst u20
    refine hret _ _ _ _ dX6_truly_23 r20 ?_
    (repeat (first | rw [if_pos (by omega)] | rw [if_neg (by omega)]))
    exact ⟨by omega, rfl⟩
set_option maxHeartbeats 4000000 in
set_option maxRecDepth 100000 in
theorem c_X6_rows (l : Launch) (v : VC) (σ : Mem) (hS : shSS v) (i1 w1 : Int) (h1 : rg i1) (h2 : rg w1) (hC : ∀ i : Int, 0 ≤ i → i < 3 → coW σ (11 + 10 * i.toNat)) : CtI l yX6_rows wsX6_rows 2 46 v [.ref (vq v 0), vI i1, vI w1] σ (fun z u => (if ¬ (0 ≤ i1 ∧ i1 < 3) then (z = -1 ∧ u = sput σ 0 5 1) else (if w1 = 0 then (z = σ (11 + 10 * i1.toNat) 3 ∧ u = sput σ 0 5 0) else (if w1 = 1 then (z = σ (11 + 10 * i1.toNat) 3 + σ (11 + 10 * i1.toNat) 4 ∧ u = sput σ 0 5 0) else (if w1 = 2 then (z = smR (fun v => if 0 < σ ((11 + 10 * i1.toNat) + 1) v then 1 else 0) 0 40 ∧ u = sput σ 0 5 0) else (z = -1 ∧ u = sput σ 0 5 1)))))) := by
  refine mkI (cc := cX6_rows) (n := 4) (by decide +kernel) rfl (Nat.le_of_ble_eq_true rfl) (fun x A Q hx C hret => ?_)
  subst hx
  show At x v A Q _ 0 [(0, .ref (vq v 0)), (1, vI i1), (2, vI w1)] [] σ
  have iX0 : ∀ w ∈ wsX00, w ∈ wsX6_rows := by decide +kernel
  have k139 : Cond.fieldLink RX6 139 (TX0 3).1 (TX0 3).2.1 (TX0 3).2.2.1 ∈ wsX6_rows := by decide +kernel
  refine a_aload_n C dX6_rows_0 0 rfl rfl ?_
  refine a_iload_n C dX6_rows_1 1 rfl rfl ?_
  refine a_cVQ C (k0 := 1) (As := [vI i1]) (rest := []) (c_X6_columnAt x.2.1 v σ hS i1 (by omega)) gX6_rows_X6_columnAt rfl (by decide +kernel) (by decide) hS.f0 rfl hS.n0 rfl rfl (Nat.le_of_ble_eq_true rfl) dX6_rows_2 (fun z2 u2 p2 => ?_)
  obtain ⟨e2, p2⟩ := p2
  subst u2
  rcases e2 with ⟨q2, h2⟩ | ⟨q2, h2⟩ <;> subst h2
  · skip
    show At x v A Q _ 5 [(0, .ref (vq v 0)), (1, vI i1), (2, vI w1)] [.ref (vq v (11 + 10 * i1.toNat))] σ
    refine a_astore_n C 3 [(3, .ref (vq v (11 + 10 * i1.toNat))), (0, .ref (vq v 0)), (1, vI i1), (2, vI w1)] dX6_rows_5 rfl (by decide) rfl ?_
    refine a_aload_n C dX6_rows_6 0 rfl rfl ?_
    refine a_ifnonnull C 16 dX6_rows_7 (by decide) ?_
    have c0 := hC i1 (by omega) (by omega)
    have c3 := c0.2.1
    have c4 := c0.2.2.1
    refine a_iload_n C dX6_rows_16 3 rfl rfl ?_
    have q17 : w1 = 0 ∨ w1 = 1 ∨ w1 = 2 ∨ w1 < 0 ∨ 2 < w1 := by omega
    rcases q17 with h17 | h17 | h17 | h17
    · skip
      refine a_tsIn C 44 (by omega) dX6_rows_17 (by omega) (by omega) (off := 27) (by rw [h17]; rfl) (by decide) ?_
      refine a_aload_n C dX6_rows_44 1 rfl rfl ?_
      refine a_aload_n C dX6_rows_45 0 rfl rfl ?_
      refine a_geti C (hS.co i1 (by omega) (by omega)).f0 (hS.co i1 (by omega) (by omega)).n0 (Cn := RX0) (T := TX0) (N := 5) rfl iX0 3 (by decide) k139 3 (by decide) rfl dX6_rows_46 (fun z46 e46 r46 => ?_)
      refine a_cVI C (k0 := 1) (As := [vI z46]) (rest := []) (c_X6_told x.2.1 v σ hS z46 (by omega)) gX6_rows_X6_told rfl (by decide +kernel) (by decide) hS.f0 rfl hS.n0 rfl rfl (Nat.le_of_ble_eq_true rfl) dX6_rows_49 (fun z49 u49 r49 p49 => ?_)
      obtain ⟨e49, p49⟩ := p49
      subst u49
      refine hret _ _ _ _ dX6_rows_52 r49 ?_
      (repeat (first | rw [if_pos (by omega)] | rw [if_neg (by omega)]))
      exact ⟨by omega, rfl⟩
    · skip
      refine a_tsIn C 53 (by omega) dX6_rows_17 (by omega) (by omega) (off := 36) (by rw [h17]; rfl) (by decide) ?_
      refine a_aload_n C dX6_rows_53 1 rfl rfl ?_
      refine a_aload_n C dX6_rows_54 0 rfl rfl ?_
      refine a_cVI C (k0 := 0) (As := []) (rest := [.ref (vq v 0)]) (c_X0_allRows x.2.1 v σ (11 + 10 * i1.toNat) (hS.co i1 (by omega) (by omega)) c3 c4) gX6_rows_X0_allRows rfl (by decide +kernel) (by decide) (hS.co i1 (by omega) (by omega)).f0 rfl (hS.co i1 (by omega) (by omega)).n0 rfl rfl (Nat.le_of_ble_eq_true rfl) dX6_rows_55 (fun z55 u55 r55 p55 => ?_)
      obtain ⟨e55, p55⟩ := p55
      subst u55
      refine a_cVI C (k0 := 1) (As := [vI z55]) (rest := []) (c_X6_told x.2.1 v σ hS z55 (by omega)) gX6_rows_X6_told rfl (by decide +kernel) (by decide) hS.f0 rfl hS.n0 rfl rfl (Nat.le_of_ble_eq_true rfl) dX6_rows_58 (fun z58 u58 r58 p58 => ?_)
      obtain ⟨e58, p58⟩ := p58
      subst u58
      refine hret _ _ _ _ dX6_rows_61 r58 ?_
      (repeat (first | rw [if_pos (by omega)] | rw [if_neg (by omega)]))
      exact ⟨by omega, rfl⟩
    · skip
      refine a_tsIn C 62 (by omega) dX6_rows_17 (by omega) (by omega) (off := 45) (by rw [h17]; rfl) (by decide) ?_
      refine a_aload_n C dX6_rows_62 1 rfl rfl ?_
      refine a_aload_n C dX6_rows_63 0 rfl rfl ?_
      refine a_cVI C (k0 := 0) (As := []) (rest := [.ref (vq v 0)]) (c_X0_valuesWithRows x.2.1 v σ (11 + 10 * i1.toNat) (hS.co i1 (by omega) (by omega)) ) gX6_rows_X0_valuesWithRows rfl (by decide +kernel) (by decide) (hS.co i1 (by omega) (by omega)).f0 rfl (hS.co i1 (by omega) (by omega)).n0 rfl rfl (Nat.le_of_ble_eq_true rfl) dX6_rows_64 (fun z64 u64 r64 p64 => ?_)
      obtain ⟨e64, p64⟩ := p64
      subst u64
      refine a_cVI C (k0 := 1) (As := [vI z64]) (rest := []) (c_X6_told x.2.1 v σ hS z64 (by omega)) gX6_rows_X6_told rfl (by decide +kernel) (by decide) hS.f0 rfl hS.n0 rfl rfl (Nat.le_of_ble_eq_true rfl) dX6_rows_67 (fun z67 u67 r67 p67 => ?_)
      obtain ⟨e67, p67⟩ := p67
      subst u67
      refine hret _ _ _ _ dX6_rows_70 r67 ?_
      (repeat (first | rw [if_pos (by omega)] | rw [if_neg (by omega)]))
      exact ⟨by omega, rfl⟩
    · skip
      refine a_tsOut C 71 (by omega) dX6_rows_17 h17 (by decide) ?_
      refine a_aload_n C dX6_rows_71 1 rfl rfl ?_
      refine a_iconst C dX6_rows_72 ?_
      refine a_cVI C (k0 := 1) (As := [vI 1]) (rest := []) (c_X6_none x.2.1 v σ hS 1 (by omega)) gX6_rows_X6_none rfl (by decide +kernel) (by decide) hS.f0 rfl hS.n0 rfl rfl (Nat.le_of_ble_eq_true rfl) dX6_rows_73 (fun z73 u73 r73 p73 => ?_)
      obtain ⟨e73, p73⟩ := p73
      subst u73
      refine hret _ _ _ _ dX6_rows_76 r73 ?_
      (repeat (first | rw [if_pos (by omega)] | rw [if_neg (by omega)]))
      exact ⟨by omega, rfl⟩
  · skip
    show At x v A Q _ 5 [(0, .ref (vq v 0)), (1, vI i1), (2, vI w1)] [.null] σ
    refine a_astore_nN C 3 [(3, .null), (0, .ref (vq v 0)), (1, vI i1), (2, vI w1)] dX6_rows_5 rfl (by decide) rfl ?_
    refine a_aload_nN C dX6_rows_6 0 rfl rfl ?_
    refine a_ifnonnullN C dX6_rows_7 ?_
    refine a_aload_n C dX6_rows_10 1 rfl rfl ?_
    refine a_iconst C dX6_rows_11 ?_
    refine a_cVI C (k0 := 1) (As := [vI 1]) (rest := []) (c_X6_none x.2.1 v σ hS 1 (by omega)) gX6_rows_X6_none rfl (by decide +kernel) (by decide) hS.f0 rfl hS.n0 rfl rfl (Nat.le_of_ble_eq_true rfl) dX6_rows_12 (fun z12 u12 r12 p12 => ?_)
    obtain ⟨e12, p12⟩ := p12
    subst u12
    refine hret _ _ _ _ dX6_rows_15 r12 ?_
    (repeat (first | rw [if_pos (by omega)] | rw [if_neg (by omega)]))
    exact ⟨by omega, rfl⟩
