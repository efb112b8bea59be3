/-! ===== the model's calls on a sketch ===== -/
theorem zq3 {A B : Prop} [Decidable A] [Decidable B] {z : Int} (h : z = if ¬ A then 1 else if B then 5 else 0) : (z = 1 ∧ ¬ A) ∨ (z = 5 ∧ A ∧ B) ∨ (z = 0 ∧ A ∧ ¬ B) := by
  by_cases a : A
  · rw [if_neg (by simpa using a)] at h
    by_cases c : B
    · rw [if_pos c] at h; exact Or.inr (Or.inl ⟨h, a, c⟩)
    · rw [if_neg c] at h; exact Or.inr (Or.inr ⟨h, a, c⟩)
  · rw [if_pos a] at h; exact Or.inl ⟨h, a⟩
theorem zq4 {A B D : Prop} [Decidable A] [Decidable B] [Decidable D] {z x y w : Int} (h : z = if ¬ A then x else if B then y else if D then w else 0) : (z = x ∧ ¬ A) ∨ (z = y ∧ A ∧ B) ∨ (z = w ∧ A ∧ ¬ B ∧ D) ∨ (z = 0 ∧ A ∧ ¬ B ∧ ¬ D) := by
  by_cases a : A
  · rw [if_neg (by simpa using a)] at h
    by_cases c : B
    · rw [if_pos c] at h; exact Or.inr (Or.inl ⟨h, a, c⟩)
    · rw [if_neg c] at h
      by_cases d : D
      · rw [if_pos d] at h; exact Or.inr (Or.inr (Or.inl ⟨h, a, c, d⟩))
      · rw [if_neg d] at h; exact Or.inr (Or.inr (Or.inr ⟨h, a, c, d⟩))
  · rw [if_pos a] at h; exact Or.inl ⟨h, a⟩
/-- a column's numbers in the model are sound -/
def moK (σ : Mem) (b : Nat) (cl : Int) : Prop := (0 ≤ (σ (b + 11) cl) ∧ (σ (b + 11) cl) ≤ 12) ∧ ((σ (b + 11) cl) ≠ 0 → svE (moE σ b cl)) ∧ (∀ j : Int, 0 ≤ j → j < (σ (b + 11) cl) → (-10000000 ≤ (shR (σ (b + 16)) (40 * cl)) j ∧ (shR (σ (b + 16)) (40 * cl)) j ≤ 10000000) ∧ 0 ≤ (shR (σ (b + 17)) (40 * cl)) j ∧ (shR (σ (b + 17)) (40 * cl)) j ≤ 1000000) ∧ (∀ j : Int, 0 ≤ j → j < 40 → -4000000 ≤ (shR (σ (b + 13)) (40 * cl)) j ∧ (shR (σ (b + 13)) (40 * cl)) j ≤ 4000000) ∧ (∀ j : Int, 0 ≤ j → j < 40 → 0 ≤ shR (σ (b + 4)) (40 * cl) j ∧ shR (σ (b + 4)) (40 * cl) j ≤ 10000) ∧ (0 ≤ σ (b + 6) cl ∧ σ (b + 6) cl ≤ 10000) ∧ 0 ≤ σ (b + 5) cl ∧ σ (b + 5) cl ≤ 10000
theorem moFr.st {σ u : Mem} {b : Nat} {cl : Int} (h : moFr σ u b cl) : moFr (sput σ b 0 0) (sput u b 0 0) b cl := by
  refine ⟨fun a q0 q1 q2 q3 q4 => by rw [sput_r q0, sput_r q0]; exact h.1 a q0 q1 q2 q3 q4, fun j q1 q2 q3 q4 => ?_, fun j q => by rw [sput_r (by omega), sput_r (by omega)]; exact h.2.2.1 j q, fun j q => by rw [sput_r (by omega), sput_r (by omega), sput_r (by omega), sput_r (by omega), sput_r (by omega), sput_r (by omega)]; exact h.2.2.2 j q⟩
  by_cases hj : j = 0
  · subst hj; rw [sput_s, sput_s]
  · rw [sput_j _ _ _ _ _ hj, sput_j _ _ _ _ _ hj]; exact h.2.1 j q1 q2 q3 q4
theorem moV_st (σ : Mem) (b : Nat) (cl w : Int) : moV (sput σ b 0 w) b cl = moV σ b cl := by unfold moV; rw [sput_r (by omega), sput_r (by omega), sput_r (by omega), sput_r (by omega)]
theorem moE_st (σ : Mem) (b : Nat) (cl w : Int) : moE (sput σ b 0 w) b cl = moE σ b cl := by unfold moE; rw [sput_r (by omega), sput_r (by omega), sput_r (by omega), sput_r (by omega)]
set_option maxHeartbeats 4000000 in
set_option maxRecDepth 100000 in
theorem c_X7_away (l : Launch) (v : VC) (σ : Mem) (b : Nat) (hM : shMo v b) (i1 : Int) (h1 : rg i1) : CtI l yX7_away wsX7_away 2 41 v [.ref (vq v b), vI i1] σ (fun z u => (if ¬ (0 ≤ i1 ∧ i1 < 3) then (z = 0 ∧ u = sput σ b 0 1) else (if (σ (b + 11) i1) = 0 then (z = 0 ∧ u = sput σ b 0 5) else (z = 1 ∧ u = sput (sput σ (b + 11) i1 0) b 0 0)))) := by
  refine mkZ (cc := cX7_away) (n := 3) (by decide +kernel) rfl (Nat.le_of_ble_eq_true rfl) (fun x A Q hx C hret => ?_)
  subst hx
  show At x v A Q _ 0 [(0, .ref (vq v b)), (1, vI i1)] [] σ
  have iX7 : ∀ w ∈ wsX70, w ∈ wsX7_away := by decide +kernel
  have k45 : Cond.fieldLink RX7 45 (TX7 13).1 (TX7 13).2.1 (TX7 13).2.2.1 ∈ wsX7_away := by decide +kernel
  refine a_aload_n C dX7_away_0 0 rfl rfl ?_
  refine a_iload_n C dX7_away_1 1 rfl rfl ?_
  refine a_cVI C (k0 := 1) (As := [vI i1]) (rest := []) (c_X7_wrongSketch x.2.1 v σ b hM i1 (by omega)) gX7_away_X7_wrongSketch rfl (by decide +kernel) (by decide) hM.f0 rfl hM.n0 rfl rfl (Nat.le_of_ble_eq_true rfl) dX7_away_2 (fun z2 u2 r2 p2 => ?_)
  obtain ⟨e2, p2⟩ := p2
  subst u2
  have q2 := zq3 e2
  rcases q2 with ⟨h2, k2⟩ | ⟨h2, k2⟩ | ⟨h2, k2⟩ <;> subst h2
  · skip
    show At x v A Q _ 5 [(0, .ref (vq v b)), (1, vI i1)] [vI 1] σ
    refine a_istore_n C 2 [(2, vI 1), (0, .ref (vq v b)), (1, vI i1)] dX7_away_5 rfl (by decide) rfl ?_
    refine a_iload_n C dX7_away_6 0 rfl rfl ?_
    refine a_if_ne C 17 (by decide) dX7_away_7 (by decide) (fun c7 => ?_) (fun c7 => ?_)
    · skip
      refine a_aload_n C dX7_away_17 1 rfl rfl ?_
      refine a_iload_n C dX7_away_18 0 rfl rfl ?_
      refine a_cVI C (k0 := 1) (As := [vI 1]) (rest := []) (c_X7_is x.2.1 v σ b hM 1 (by omega)) gX7_away_X7_is rfl (by decide +kernel) (by decide) hM.f0 rfl hM.n0 rfl rfl (Nat.le_of_ble_eq_true rfl) dX7_away_19 (fun z19 u19 r19 p19 => ?_)
      obtain ⟨e19, p19⟩ := p19
      subst u19
      have q19 := zz e19
      refine hret _ _ _ _ dX7_away_22 (by omega) ?_
      (repeat (first | rw [if_pos (by omega)] | rw [if_neg (by omega)]))
      exact ⟨by omega, rfl⟩
    · skip
      exfalso; omega
  · skip
    show At x v A Q _ 5 [(0, .ref (vq v b)), (1, vI i1)] [vI 5] σ
    refine a_istore_n C 2 [(2, vI 5), (0, .ref (vq v b)), (1, vI i1)] dX7_away_5 rfl (by decide) rfl ?_
    refine a_iload_n C dX7_away_6 0 rfl rfl ?_
    refine a_if_ne C 17 (by decide) dX7_away_7 (by decide) (fun c7 => ?_) (fun c7 => ?_)
    · skip
      refine a_aload_n C dX7_away_17 1 rfl rfl ?_
      refine a_iload_n C dX7_away_18 0 rfl rfl ?_
      refine a_cVI C (k0 := 1) (As := [vI 5]) (rest := []) (c_X7_is x.2.1 v σ b hM 5 (by omega)) gX7_away_X7_is rfl (by decide +kernel) (by decide) hM.f0 rfl hM.n0 rfl rfl (Nat.le_of_ble_eq_true rfl) dX7_away_19 (fun z19 u19 r19 p19 => ?_)
      obtain ⟨e19, p19⟩ := p19
      subst u19
      have q19 := zz e19
      refine hret _ _ _ _ dX7_away_22 (by omega) ?_
      (repeat (first | rw [if_pos (by omega)] | rw [if_neg (by omega)]))
      exact ⟨by omega, rfl⟩
    · skip
      exfalso; omega
  · skip
    show At x v A Q _ 5 [(0, .ref (vq v b)), (1, vI i1)] [vI 0] σ
    refine a_istore_n C 2 [(2, vI 0), (0, .ref (vq v b)), (1, vI i1)] dX7_away_5 rfl (by decide) rfl ?_
    refine a_iload_n C dX7_away_6 0 rfl rfl ?_
    refine a_if_ne C 17 (by decide) dX7_away_7 (by decide) (fun c7 => ?_) (fun c7 => ?_)
    · skip
      exfalso; omega
    · skip
      refine a_aload_n C dX7_away_10 1 rfl rfl ?_
      refine a_getf C hM.f0 hM.n0 (Cn := RX7) (T := TX7) (N := 30) rfl iX7 13 (by decide) k45 (w := .ref (vq v (b + 11))) rfl dX7_away_11 ?_
      refine a_iload_n C dX7_away_14 2 rfl rfl ?_
      refine a_iconst C dX7_away_15 ?_
      refine a_iast C hM.f11 hM.n11 0 hM.tI (by omega) (by omega) (by decide) (by decide) dX7_away_16 ?_
      refine a_aload_n C dX7_away_17 1 rfl rfl ?_
      refine a_iload_n C dX7_away_18 0 rfl rfl ?_
      refine a_cVI C (k0 := 1) (As := [vI 0]) (rest := []) (c_X7_is x.2.1 v (sput σ (b + 11) i1 0) b hM 0 (by omega)) gX7_away_X7_is rfl (by decide +kernel) (by decide) hM.f0 rfl hM.n0 rfl rfl (Nat.le_of_ble_eq_true rfl) dX7_away_19 (fun z19 u19 r19 p19 => ?_)
      obtain ⟨e19, p19⟩ := p19
      subst u19
      have q19 := zz e19
      refine hret _ _ _ _ dX7_away_22 (by omega) ?_
      (repeat (first | rw [if_pos (by omega)] | rw [if_neg (by omega)]))
      exact ⟨by omega, rfl⟩
set_option maxHeartbeats 4000000 in
set_option maxRecDepth 100000 in
theorem c_X7_drifts (l : Launch) (v : VC) (σ : Mem) (b : Nat) (hM : shMo v b) (i1 : Int) (h1 : rg i1) : CtI l yX7_drifts wsX7_drifts 2 41 v [.ref (vq v b), vI i1] σ (fun z u => (if ¬ (0 ≤ i1 ∧ i1 < 3) then (z = -1 ∧ u = sput σ b 0 1) else (if (σ (b + 11) i1) = 0 then (z = -1 ∧ u = sput σ b 0 5) else (z = σ (b + 12) i1 ∧ u = sput σ b 0 0)))) := by
  refine mkI (cc := cX7_drifts) (n := 3) (by decide +kernel) rfl (Nat.le_of_ble_eq_true rfl) (fun x A Q hx C hret => ?_)
  subst hx
  show At x v A Q _ 0 [(0, .ref (vq v b)), (1, vI i1)] [] σ
  have iX7 : ∀ w ∈ wsX70, w ∈ wsX7_drifts := by decide +kernel
  have k85 : Cond.fieldLink RX7 85 (TX7 0).1 (TX7 0).2.1 (TX7 0).2.2.1 ∈ wsX7_drifts := by decide +kernel
  have k48 : Cond.fieldLink RX7 48 (TX7 14).1 (TX7 14).2.1 (TX7 14).2.2.1 ∈ wsX7_drifts := by decide +kernel
  refine a_aload_n C dX7_drifts_0 0 rfl rfl ?_
  refine a_iload_n C dX7_drifts_1 1 rfl rfl ?_
  refine a_cVI C (k0 := 1) (As := [vI i1]) (rest := []) (c_X7_wrongSketch x.2.1 v σ b hM i1 (by omega)) gX7_drifts_X7_wrongSketch rfl (by decide +kernel) (by decide) hM.f0 rfl hM.n0 rfl rfl (Nat.le_of_ble_eq_true rfl) dX7_drifts_2 (fun z2 u2 r2 p2 => ?_)
  obtain ⟨e2, p2⟩ := p2
  subst u2
  have q2 := zq3 e2
  rcases q2 with ⟨h2, k2⟩ | ⟨h2, k2⟩ | ⟨h2, k2⟩ <;> subst h2
  · skip
    show At x v A Q _ 5 [(0, .ref (vq v b)), (1, vI i1)] [vI 1] σ
    refine a_istore_n C 2 [(2, vI 1), (0, .ref (vq v b)), (1, vI i1)] dX7_drifts_5 rfl (by decide) rfl ?_
    refine a_iload_n C dX7_drifts_6 0 rfl rfl ?_
    refine a_if_le C 16 (by decide) dX7_drifts_7 (by decide) (fun c7 => ?_) (fun c7 => ?_)
    · skip
      exfalso; omega
    · skip
      refine a_aload_n C dX7_drifts_10 1 rfl rfl ?_
      refine a_iload_n C dX7_drifts_11 0 rfl rfl ?_
      refine a_cVI C (k0 := 1) (As := [vI 1]) (rest := []) (c_X7_refuse x.2.1 v σ b hM 1 (by omega)) gX7_drifts_X7_refuse rfl (by decide +kernel) (by decide) hM.f0 rfl hM.n0 rfl rfl (Nat.le_of_ble_eq_true rfl) dX7_drifts_12 (fun z12 u12 r12 p12 => ?_)
      obtain ⟨e12, p12⟩ := p12
      subst u12
      refine hret _ _ _ _ dX7_drifts_15 r12 ?_
      (repeat (first | rw [if_pos (by omega)] | rw [if_neg (by omega)]))
      exact ⟨by omega, rfl⟩
  · skip
    show At x v A Q _ 5 [(0, .ref (vq v b)), (1, vI i1)] [vI 5] σ
    refine a_istore_n C 2 [(2, vI 5), (0, .ref (vq v b)), (1, vI i1)] dX7_drifts_5 rfl (by decide) rfl ?_
    refine a_iload_n C dX7_drifts_6 0 rfl rfl ?_
    refine a_if_le C 16 (by decide) dX7_drifts_7 (by decide) (fun c7 => ?_) (fun c7 => ?_)
    · skip
      exfalso; omega
    · skip
      refine a_aload_n C dX7_drifts_10 1 rfl rfl ?_
      refine a_iload_n C dX7_drifts_11 0 rfl rfl ?_
      refine a_cVI C (k0 := 1) (As := [vI 5]) (rest := []) (c_X7_refuse x.2.1 v σ b hM 5 (by omega)) gX7_drifts_X7_refuse rfl (by decide +kernel) (by decide) hM.f0 rfl hM.n0 rfl rfl (Nat.le_of_ble_eq_true rfl) dX7_drifts_12 (fun z12 u12 r12 p12 => ?_)
      obtain ⟨e12, p12⟩ := p12
      subst u12
      refine hret _ _ _ _ dX7_drifts_15 r12 ?_
      (repeat (first | rw [if_pos (by omega)] | rw [if_neg (by omega)]))
      exact ⟨by omega, rfl⟩
  · skip
    show At x v A Q _ 5 [(0, .ref (vq v b)), (1, vI i1)] [vI 0] σ
    refine a_istore_n C 2 [(2, vI 0), (0, .ref (vq v b)), (1, vI i1)] dX7_drifts_5 rfl (by decide) rfl ?_
    refine a_iload_n C dX7_drifts_6 0 rfl rfl ?_
    refine a_if_le C 16 (by decide) dX7_drifts_7 (by decide) (fun c7 => ?_) (fun c7 => ?_)
    · skip
      refine a_aload_n C dX7_drifts_16 1 rfl rfl ?_
      refine a_iconst C dX7_drifts_17 ?_
      refine a_puti C hM.f0 hM.n0 (Cn := RX7) (T := TX7) (N := 30) rfl iX7 tyX7_ok nmX7 0 (by decide) k85 rfl rfl 0 (by decide) (fun _ => Nat.le_of_ble_eq_true rfl) (fun _ => rfl) dX7_drifts_18 ?_
      refine a_aload_n C dX7_drifts_21 1 rfl rfl ?_
      refine a_getf C hM.f0 hM.n0 (Cn := RX7) (T := TX7) (N := 30) rfl iX7 14 (by decide) k48 (w := .ref (vq v (b + 12))) rfl dX7_drifts_22 ?_
      refine a_iload_n C dX7_drifts_25 2 rfl rfl ?_
      refine a_iald C hM.f12 hM.n12 0 hM.tI (by omega) (by omega) (by decide) dX7_drifts_26 (fun z26 e26 r26 => ?_)
      try simp [sput_r, mset_n, sput, mset] at e26
      refine hret _ _ _ _ dX7_drifts_27 r26 ?_
      (repeat (first | rw [if_pos (by omega)] | rw [if_neg (by omega)]))
      exact ⟨by omega, rfl⟩
    · skip
      exfalso; omega
set_option maxHeartbeats 4000000 in
set_option maxRecDepth 100000 in
theorem c_X7_heavy (l : Launch) (v : VC) (σ : Mem) (b : Nat) (hM : shMo v b) (i1 x1 : Int) (h1 : rg i1) (h2 : rg x1) : CtI l yX7_heavy wsX7_heavy 2 41 v [.ref (vq v b), vI i1, vI x1] σ (fun z u => (if ¬ ((0 ≤ i1 ∧ i1 < 3) ∧ (0 ≤ x1 ∧ x1 ≤ 39)) then (z = -1 ∧ u = sput σ b 0 1) else (if (σ (b + 11) i1) = 0 then (z = -1 ∧ u = sput σ b 0 5) else (if (shR (σ (b + 14)) (40 * i1)) x1 = 0 then (z = -1 ∧ u = sput σ b 0 6) else (z = (shR (σ (b + 13)) (40 * i1)) x1 ∧ u = sput σ b 0 0))))) := by
  refine mkI (cc := cX7_heavy) (n := 4) (by decide +kernel) rfl (Nat.le_of_ble_eq_true rfl) (fun x A Q hx C hret => ?_)
  subst hx
  show At x v A Q _ 0 [(0, .ref (vq v b)), (1, vI i1), (2, vI x1)] [] σ
  have iX7 : ∀ w ∈ wsX70, w ∈ wsX7_heavy := by decide +kernel
  have k54 : Cond.fieldLink RX7 54 (TX7 16).1 (TX7 16).2.1 (TX7 16).2.2.1 ∈ wsX7_heavy := by decide +kernel
  have k85 : Cond.fieldLink RX7 85 (TX7 0).1 (TX7 0).2.1 (TX7 0).2.2.1 ∈ wsX7_heavy := by decide +kernel
  have k51 : Cond.fieldLink RX7 51 (TX7 15).1 (TX7 15).2.1 (TX7 15).2.2.1 ∈ wsX7_heavy := by decide +kernel
  refine a_iload_n C dX7_heavy_0 2 rfl rfl ?_
  refine a_cSI C (k0 := 1) (As := [vI x1]) (rest := []) (c_X7_isValue x.2.1 v σ x1 (by omega)) gX7_heavy_X7_isValue rfl (by decide +kernel) (by decide) rfl rfl (Nat.le_of_ble_eq_true rfl) dX7_heavy_1 (fun z1 u1 r1 p1 => ?_)
  obtain ⟨e1, p1⟩ := p1
  subst u1
  have q1 := zz e1
  refine a_if_ne C 11 r1 dX7_heavy_4 (by decide) (fun c4 => ?_) (fun c4 => ?_)
  · skip
    refine a_aload_n C dX7_heavy_11 0 rfl rfl ?_
    refine a_iload_n C dX7_heavy_12 1 rfl rfl ?_
    refine a_cVI C (k0 := 1) (As := [vI i1]) (rest := []) (c_X7_wrongSketch x.2.1 v σ b hM i1 (by omega)) gX7_heavy_X7_wrongSketch rfl (by decide +kernel) (by decide) hM.f0 rfl hM.n0 rfl rfl (Nat.le_of_ble_eq_true rfl) dX7_heavy_13 (fun z13 u13 r13 p13 => ?_)
    obtain ⟨e13, p13⟩ := p13
    subst u13
    have q13 := zq3 e13
    rcases q13 with ⟨h13, k13⟩ | ⟨h13, k13⟩ | ⟨h13, k13⟩ <;> subst h13
    · skip
      show At x v A Q _ 16 [(0, .ref (vq v b)), (1, vI i1), (2, vI x1)] [vI 1] σ
      refine a_istore_n C 3 [(3, vI 1), (0, .ref (vq v b)), (1, vI i1), (2, vI x1)] dX7_heavy_16 rfl (by decide) rfl ?_
      refine a_iload_n C dX7_heavy_17 0 rfl rfl ?_
      refine a_if_ne C 38 (by decide) dX7_heavy_18 (by decide) (fun c18 => ?_) (fun c18 => ?_)
      · skip
        refine a_iload_n C dX7_heavy_38 0 rfl rfl ?_
        refine a_if_le C 48 (by decide) dX7_heavy_39 (by decide) (fun c39 => ?_) (fun c39 => ?_)
        · skip
          exfalso; omega
        · skip
          refine a_aload_n C dX7_heavy_42 1 rfl rfl ?_
          refine a_iload_n C dX7_heavy_43 0 rfl rfl ?_
          refine a_cVI C (k0 := 1) (As := [vI 1]) (rest := []) (c_X7_refuse x.2.1 v σ b hM 1 (by omega)) gX7_heavy_X7_refuse rfl (by decide +kernel) (by decide) hM.f0 rfl hM.n0 rfl rfl (Nat.le_of_ble_eq_true rfl) dX7_heavy_44 (fun z44 u44 r44 p44 => ?_)
          obtain ⟨e44, p44⟩ := p44
          subst u44
          refine hret _ _ _ _ dX7_heavy_47 r44 ?_
          (repeat (first | rw [if_pos (by omega)] | rw [if_neg (by omega)]))
          exact ⟨by omega, rfl⟩
      · skip
        exfalso; omega
    · skip
      show At x v A Q _ 16 [(0, .ref (vq v b)), (1, vI i1), (2, vI x1)] [vI 5] σ
      refine a_istore_n C 3 [(3, vI 5), (0, .ref (vq v b)), (1, vI i1), (2, vI x1)] dX7_heavy_16 rfl (by decide) rfl ?_
      refine a_iload_n C dX7_heavy_17 0 rfl rfl ?_
      refine a_if_ne C 38 (by decide) dX7_heavy_18 (by decide) (fun c18 => ?_) (fun c18 => ?_)
      · skip
        refine a_iload_n C dX7_heavy_38 0 rfl rfl ?_
        refine a_if_le C 48 (by decide) dX7_heavy_39 (by decide) (fun c39 => ?_) (fun c39 => ?_)
        · skip
          exfalso; omega
        · skip
          refine a_aload_n C dX7_heavy_42 1 rfl rfl ?_
          refine a_iload_n C dX7_heavy_43 0 rfl rfl ?_
          refine a_cVI C (k0 := 1) (As := [vI 5]) (rest := []) (c_X7_refuse x.2.1 v σ b hM 5 (by omega)) gX7_heavy_X7_refuse rfl (by decide +kernel) (by decide) hM.f0 rfl hM.n0 rfl rfl (Nat.le_of_ble_eq_true rfl) dX7_heavy_44 (fun z44 u44 r44 p44 => ?_)
          obtain ⟨e44, p44⟩ := p44
          subst u44
          refine hret _ _ _ _ dX7_heavy_47 r44 ?_
          (repeat (first | rw [if_pos (by omega)] | rw [if_neg (by omega)]))
          exact ⟨by omega, rfl⟩
      · skip
        exfalso; omega
    · skip
      show At x v A Q _ 16 [(0, .ref (vq v b)), (1, vI i1), (2, vI x1)] [vI 0] σ
      refine a_istore_n C 3 [(3, vI 0), (0, .ref (vq v b)), (1, vI i1), (2, vI x1)] dX7_heavy_16 rfl (by decide) rfl ?_
      refine a_iload_n C dX7_heavy_17 0 rfl rfl ?_
      refine a_if_ne C 38 (by decide) dX7_heavy_18 (by decide) (fun c18 => ?_) (fun c18 => ?_)
      · skip
        exfalso; omega
      · skip
        refine a_aload_n C dX7_heavy_21 1 rfl rfl ?_
        refine a_getf C hM.f0 hM.n0 (Cn := RX7) (T := TX7) (N := 30) rfl iX7 16 (by decide) k54 (w := .ref (vq v (b + 14))) rfl dX7_heavy_22 ?_
        refine a_bipush C dX7_heavy_25 ?_
        refine a_iload_n C dX7_heavy_27 2 rfl rfl ?_
        refine a_imul C dX7_heavy_28 ?_
        refine a_iload_n C dX7_heavy_29 3 rfl rfl ?_
        refine a_iadd C dX7_heavy_30 ?_
        refine a_zald C hM.f14 hM.n14 2 hM.tB (by omega) (by omega) (by decide) dX7_heavy_31 (fun z31 e31 r31 => ?_)
        rw [shR_i (σ (b + 14)) (40 * i1) x1 _ rfl] at e31
        refine a_if_ne C 38 r31 dX7_heavy_32 (by decide) (fun c32 => ?_) (fun c32 => ?_)
        · skip
          refine a_iload_n C dX7_heavy_38 0 rfl rfl ?_
          refine a_if_le C 48 (by decide) dX7_heavy_39 (by decide) (fun c39 => ?_) (fun c39 => ?_)
          · skip
            refine a_aload_n C dX7_heavy_48 1 rfl rfl ?_
            refine a_iconst C dX7_heavy_49 ?_
            refine a_puti C hM.f0 hM.n0 (Cn := RX7) (T := TX7) (N := 30) rfl iX7 tyX7_ok nmX7 0 (by decide) k85 rfl rfl 0 (by decide) (fun _ => Nat.le_of_ble_eq_true rfl) (fun _ => rfl) dX7_heavy_50 ?_
            refine a_aload_n C dX7_heavy_53 1 rfl rfl ?_
            refine a_getf C hM.f0 hM.n0 (Cn := RX7) (T := TX7) (N := 30) rfl iX7 15 (by decide) k51 (w := .ref (vq v (b + 13))) rfl dX7_heavy_54 ?_
            refine a_bipush C dX7_heavy_57 ?_
            refine a_iload_n C dX7_heavy_59 2 rfl rfl ?_
            refine a_imul C dX7_heavy_60 ?_
            refine a_iload_n C dX7_heavy_61 3 rfl rfl ?_
            refine a_iadd C dX7_heavy_62 ?_
            refine a_iald C hM.f13 hM.n13 0 hM.tI (by omega) (by omega) (by decide) dX7_heavy_63 (fun z63 e63 r63 => ?_)
            try simp [sput_r, mset_n, sput, mset] at e63
            rw [shR_i (σ (b + 13)) (40 * i1) x1 _ rfl] at e63
            refine hret _ _ _ _ dX7_heavy_64 r63 ?_
            (repeat (first | rw [if_pos (by omega)] | rw [if_neg (by omega)]))
            exact ⟨by omega, rfl⟩
          · skip
            exfalso; omega
        · skip
          refine a_bipush C dX7_heavy_35 ?_
          refine a_istore_n C 3 [(3, vI 6), (0, .ref (vq v b)), (1, vI i1), (2, vI x1)] dX7_heavy_37 rfl (by decide) rfl ?_
          refine a_iload_n C dX7_heavy_38 0 rfl rfl ?_
          refine a_if_le C 48 (by decide) dX7_heavy_39 (by decide) (fun c39 => ?_) (fun c39 => ?_)
          · skip
            exfalso; omega
          · skip
            refine a_aload_n C dX7_heavy_42 1 rfl rfl ?_
            refine a_iload_n C dX7_heavy_43 0 rfl rfl ?_
            refine a_cVI C (k0 := 1) (As := [vI 6]) (rest := []) (c_X7_refuse x.2.1 v σ b hM 6 (by omega)) gX7_heavy_X7_refuse rfl (by decide +kernel) (by decide) hM.f0 rfl hM.n0 rfl rfl (Nat.le_of_ble_eq_true rfl) dX7_heavy_44 (fun z44 u44 r44 p44 => ?_)
            obtain ⟨e44, p44⟩ := p44
            subst u44
            refine hret _ _ _ _ dX7_heavy_47 r44 ?_
            (repeat (first | rw [if_pos (by omega)] | rw [if_neg (by omega)]))
            exact ⟨by omega, rfl⟩
  · skip
    refine a_iconst C dX7_heavy_7 ?_
    refine a_goto C 16 dX7_heavy_8 (by decide) ?_
    refine a_istore_n C 3 [(3, vI 1), (0, .ref (vq v b)), (1, vI i1), (2, vI x1)] dX7_heavy_16 rfl (by decide) rfl ?_
    refine a_iload_n C dX7_heavy_17 0 rfl rfl ?_
    refine a_if_ne C 38 (by decide) dX7_heavy_18 (by decide) (fun c18 => ?_) (fun c18 => ?_)
    · skip
      refine a_iload_n C dX7_heavy_38 0 rfl rfl ?_
      refine a_if_le C 48 (by decide) dX7_heavy_39 (by decide) (fun c39 => ?_) (fun c39 => ?_)
      · skip
        exfalso; omega
      · skip
        refine a_aload_n C dX7_heavy_42 1 rfl rfl ?_
        refine a_iload_n C dX7_heavy_43 0 rfl rfl ?_
        refine a_cVI C (k0 := 1) (As := [vI 1]) (rest := []) (c_X7_refuse x.2.1 v σ b hM 1 (by omega)) gX7_heavy_X7_refuse rfl (by decide +kernel) (by decide) hM.f0 rfl hM.n0 rfl rfl (Nat.le_of_ble_eq_true rfl) dX7_heavy_44 (fun z44 u44 r44 p44 => ?_)
        obtain ⟨e44, p44⟩ := p44
        subst u44
        refine hret _ _ _ _ dX7_heavy_47 r44 ?_
        (repeat (first | rw [if_pos (by omega)] | rw [if_neg (by omega)]))
        exact ⟨by omega, rfl⟩
    · skip
      exfalso; omega
set_option maxHeartbeats 4000000 in
set_option maxRecDepth 100000 in
theorem c_X7_span (l : Launch) (v : VC) (σ : Mem) (b : Nat) (hM : shMo v b) (i1 k1 w1 : Int) (h1 : rg i1) (h2 : rg k1) (h3 : rg w1) (hK : ∀ c : Int, 0 ≤ c → c < 3 → moK σ b c) : CtI l yX7_span wsX7_span 2 47 v [.ref (vq v b), vI i1, vI k1, vI w1] σ (fun z u => (if ¬ (0 ≤ i1 ∧ i1 < 3) then (z = -1 ∧ u = sput σ b 0 1) else (if (σ (b + 11) i1) = 0 then (z = -1 ∧ u = sput σ b 0 5) else (if ¬ (0 ≤ k1 ∧ k1 ≤ (σ (b + 11) i1) - 1) then (z = -1 ∧ u = sput σ b 0 1) else (if w1 = 0 then (z = foF (shR (σ (b + 15)) (40 * i1)) k1 ∧ u = sput σ b 0 0) else (if w1 = 1 then (z = (shR (σ (b + 15)) (40 * i1)) k1 ∧ u = sput σ b 0 0) else (if w1 = 2 then (z = (shR (σ (b + 16)) (40 * i1)) k1 ∧ u = sput σ b 0 0) else (if w1 = 3 then (z = (shR (σ (b + 17)) (40 * i1)) k1 ∧ u = sput σ b 0 0) else (if w1 = 4 then (z = loN (shR (σ (b + 14)) (40 * i1)) (shR (σ (b + 15)) (40 * i1)) k1 ∧ u = sput σ b 0 0) else (z = -1 ∧ u = sput σ b 0 1)))))))))) := by
  refine mkI (cc := cX7_span) (n := 5) (by decide +kernel) rfl (Nat.le_of_ble_eq_true rfl) (fun x A Q hx C hret => ?_)
  subst hx
  show At x v A Q _ 0 [(0, .ref (vq v b)), (1, vI i1), (2, vI k1), (3, vI w1)] [] σ
  have iX7 : ∀ w ∈ wsX70, w ∈ wsX7_span := by decide +kernel
  have k45 : Cond.fieldLink RX7 45 (TX7 13).1 (TX7 13).2.1 (TX7 13).2.2.1 ∈ wsX7_span := by decide +kernel
  have k85 : Cond.fieldLink RX7 85 (TX7 0).1 (TX7 0).2.1 (TX7 0).2.2.1 ∈ wsX7_span := by decide +kernel
  have k64 : Cond.fieldLink RX7 64 (TX7 19).1 (TX7 19).2.1 (TX7 19).2.2.1 ∈ wsX7_span := by decide +kernel
  have k61 : Cond.fieldLink RX7 61 (TX7 18).1 (TX7 18).2.1 (TX7 18).2.2.1 ∈ wsX7_span := by decide +kernel
  have k58 : Cond.fieldLink RX7 58 (TX7 17).1 (TX7 17).2.1 (TX7 17).2.2.1 ∈ wsX7_span := by decide +kernel
  refine a_aload_n C dX7_span_0 0 rfl rfl ?_
  refine a_iload_n C dX7_span_1 1 rfl rfl ?_
  refine a_cVI C (k0 := 1) (As := [vI i1]) (rest := []) (c_X7_wrongSketch x.2.1 v σ b hM i1 (by omega)) gX7_span_X7_wrongSketch rfl (by decide +kernel) (by decide) hM.f0 rfl hM.n0 rfl rfl (Nat.le_of_ble_eq_true rfl) dX7_span_2 (fun z2 u2 r2 p2 => ?_)
  obtain ⟨e2, p2⟩ := p2
  subst u2
  have q2 := zq3 e2
  rcases q2 with ⟨h2, k2⟩ | ⟨h2, k2⟩ | ⟨h2, k2⟩ <;> subst h2
  · skip
    show At x v A Q _ 5 [(0, .ref (vq v b)), (1, vI i1), (2, vI k1), (3, vI w1)] [vI 1] σ
    refine a_istore C [(4, vI 1), (0, .ref (vq v b)), (1, vI i1), (2, vI k1), (3, vI w1)] dX7_span_5 (by decide) rfl ?_
    refine a_iload C dX7_span_7 0 rfl ?_
    refine a_if_ne C 38 (by decide) dX7_span_9 (by decide) (fun c9 => ?_) (fun c9 => ?_)
    · skip
      refine a_iload C dX7_span_38 0 rfl ?_
      refine a_if_le C 50 (by decide) dX7_span_40 (by decide) (fun c40 => ?_) (fun c40 => ?_)
      · skip
        exfalso; omega
      · skip
        refine a_aload_n C dX7_span_43 1 rfl rfl ?_
        refine a_iload C dX7_span_44 0 rfl ?_
        refine a_cVI C (k0 := 1) (As := [vI 1]) (rest := []) (c_X7_refuse x.2.1 v σ b hM 1 (by omega)) gX7_span_X7_refuse rfl (by decide +kernel) (by decide) hM.f0 rfl hM.n0 rfl rfl (Nat.le_of_ble_eq_true rfl) dX7_span_46 (fun z46 u46 r46 p46 => ?_)
        obtain ⟨e46, p46⟩ := p46
        subst u46
        refine hret _ _ _ _ dX7_span_49 r46 ?_
        (repeat (first | rw [if_pos (by omega)] | rw [if_neg (by omega)]))
        exact ⟨by omega, rfl⟩
    · skip
      exfalso; omega
  · skip
    show At x v A Q _ 5 [(0, .ref (vq v b)), (1, vI i1), (2, vI k1), (3, vI w1)] [vI 5] σ
    refine a_istore C [(4, vI 5), (0, .ref (vq v b)), (1, vI i1), (2, vI k1), (3, vI w1)] dX7_span_5 (by decide) rfl ?_
    refine a_iload C dX7_span_7 0 rfl ?_
    refine a_if_ne C 38 (by decide) dX7_span_9 (by decide) (fun c9 => ?_) (fun c9 => ?_)
    · skip
      refine a_iload C dX7_span_38 0 rfl ?_
      refine a_if_le C 50 (by decide) dX7_span_40 (by decide) (fun c40 => ?_) (fun c40 => ?_)
      · skip
        exfalso; omega
      · skip
        refine a_aload_n C dX7_span_43 1 rfl rfl ?_
        refine a_iload C dX7_span_44 0 rfl ?_
        refine a_cVI C (k0 := 1) (As := [vI 5]) (rest := []) (c_X7_refuse x.2.1 v σ b hM 5 (by omega)) gX7_span_X7_refuse rfl (by decide +kernel) (by decide) hM.f0 rfl hM.n0 rfl rfl (Nat.le_of_ble_eq_true rfl) dX7_span_46 (fun z46 u46 r46 p46 => ?_)
        obtain ⟨e46, p46⟩ := p46
        subst u46
        refine hret _ _ _ _ dX7_span_49 r46 ?_
        (repeat (first | rw [if_pos (by omega)] | rw [if_neg (by omega)]))
        exact ⟨by omega, rfl⟩
    · skip
      exfalso; omega
  · skip
    show At x v A Q _ 5 [(0, .ref (vq v b)), (1, vI i1), (2, vI k1), (3, vI w1)] [vI 0] σ
    refine a_istore C [(4, vI 0), (0, .ref (vq v b)), (1, vI i1), (2, vI k1), (3, vI w1)] dX7_span_5 (by decide) rfl ?_
    refine a_iload C dX7_span_7 0 rfl ?_
    refine a_if_ne C 38 (by decide) dX7_span_9 (by decide) (fun c9 => ?_) (fun c9 => ?_)
    · skip
      exfalso; omega
    · skip
      refine a_iload_n C dX7_span_12 3 rfl rfl ?_
      refine a_if_lt C 35 (by omega) dX7_span_13 (by decide) (fun c13 => ?_) (fun c13 => ?_)
      · skip
        refine a_iconst C dX7_span_35 ?_
        refine a_istore C [(4, vI 1), (0, .ref (vq v b)), (1, vI i1), (2, vI k1), (3, vI w1)] dX7_span_36 (by decide) rfl ?_
        refine a_iload C dX7_span_38 0 rfl ?_
        refine a_if_le C 50 (by decide) dX7_span_40 (by decide) (fun c40 => ?_) (fun c40 => ?_)
        · skip
          exfalso; omega
        · skip
          refine a_aload_n C dX7_span_43 1 rfl rfl ?_
          refine a_iload C dX7_span_44 0 rfl ?_
          refine a_cVI C (k0 := 1) (As := [vI 1]) (rest := []) (c_X7_refuse x.2.1 v σ b hM 1 (by omega)) gX7_span_X7_refuse rfl (by decide +kernel) (by decide) hM.f0 rfl hM.n0 rfl rfl (Nat.le_of_ble_eq_true rfl) dX7_span_46 (fun z46 u46 r46 p46 => ?_)
          obtain ⟨e46, p46⟩ := p46
          subst u46
          refine hret _ _ _ _ dX7_span_49 r46 ?_
          (repeat (first | rw [if_pos (by omega)] | rw [if_neg (by omega)]))
          exact ⟨by omega, rfl⟩
      · skip
        refine a_iload_n C dX7_span_16 3 rfl rfl ?_
        refine a_aload_n C dX7_span_17 1 rfl rfl ?_
        refine a_getf C hM.f0 hM.n0 (Cn := RX7) (T := TX7) (N := 30) rfl iX7 13 (by decide) k45 (w := .ref (vq v (b + 11))) rfl dX7_span_18 ?_
        refine a_iload_n C dX7_span_21 2 rfl rfl ?_
        refine a_iald C hM.f11 hM.n11 0 hM.tI (by omega) (by omega) (by decide) dX7_span_22 (fun z22 e22 r22 => ?_)
        refine a_icmp_ge C 35 (by omega) r22 dX7_span_23 (by decide) (fun c23 => ?_) (fun c23 => ?_)
        · skip
          refine a_iconst C dX7_span_35 ?_
          refine a_istore C [(4, vI 1), (0, .ref (vq v b)), (1, vI i1), (2, vI k1), (3, vI w1)] dX7_span_36 (by decide) rfl ?_
          refine a_iload C dX7_span_38 0 rfl ?_
          refine a_if_le C 50 (by decide) dX7_span_40 (by decide) (fun c40 => ?_) (fun c40 => ?_)
          · skip
            exfalso; omega
          · skip
            refine a_aload_n C dX7_span_43 1 rfl rfl ?_
            refine a_iload C dX7_span_44 0 rfl ?_
            refine a_cVI C (k0 := 1) (As := [vI 1]) (rest := []) (c_X7_refuse x.2.1 v σ b hM 1 (by omega)) gX7_span_X7_refuse rfl (by decide +kernel) (by decide) hM.f0 rfl hM.n0 rfl rfl (Nat.le_of_ble_eq_true rfl) dX7_span_46 (fun z46 u46 r46 p46 => ?_)
            obtain ⟨e46, p46⟩ := p46
            subst u46
            refine hret _ _ _ _ dX7_span_49 r46 ?_
            (repeat (first | rw [if_pos (by omega)] | rw [if_neg (by omega)]))
            exact ⟨by omega, rfl⟩
        · skip
          refine a_iload_n C dX7_span_26 4 rfl rfl ?_
          refine a_if_lt C 35 (by omega) dX7_span_27 (by decide) (fun c27 => ?_) (fun c27 => ?_)
          · skip
            refine a_iconst C dX7_span_35 ?_
            refine a_istore C [(4, vI 1), (0, .ref (vq v b)), (1, vI i1), (2, vI k1), (3, vI w1)] dX7_span_36 (by decide) rfl ?_
            refine a_iload C dX7_span_38 0 rfl ?_
            refine a_if_le C 50 (by decide) dX7_span_40 (by decide) (fun c40 => ?_) (fun c40 => ?_)
            · skip
              exfalso; omega
            · skip
              refine a_aload_n C dX7_span_43 1 rfl rfl ?_
              refine a_iload C dX7_span_44 0 rfl ?_
              refine a_cVI C (k0 := 1) (As := [vI 1]) (rest := []) (c_X7_refuse x.2.1 v σ b hM 1 (by omega)) gX7_span_X7_refuse rfl (by decide +kernel) (by decide) hM.f0 rfl hM.n0 rfl rfl (Nat.le_of_ble_eq_true rfl) dX7_span_46 (fun z46 u46 r46 p46 => ?_)
              obtain ⟨e46, p46⟩ := p46
              subst u46
              refine hret _ _ _ _ dX7_span_49 r46 ?_
              (repeat (first | rw [if_pos (by omega)] | rw [if_neg (by omega)]))
              exact ⟨by omega, rfl⟩
          · skip
            refine a_iload_n C dX7_span_30 4 rfl rfl ?_
            refine a_iconst C dX7_span_31 ?_
            refine a_icmp_le C 38 (by omega) (by decide) dX7_span_32 (by decide) (fun c32 => ?_) (fun c32 => ?_)
            · skip
              refine a_iload C dX7_span_38 0 rfl ?_
              refine a_if_le C 50 (by decide) dX7_span_40 (by decide) (fun c40 => ?_) (fun c40 => ?_)
              · skip
                have k0 := hK i1 (by omega) (by omega)
                obtain ⟨kN, kE, kB, kH, kT, kV, kU⟩ := k0
                have kE := kE (by omega)
                have kE2 := kE.2.2.1
                refine a_aload_n C dX7_span_50 1 rfl rfl ?_
                refine a_iconst C dX7_span_51 ?_
                refine a_puti C hM.f0 hM.n0 (Cn := RX7) (T := TX7) (N := 30) rfl iX7 tyX7_ok nmX7 0 (by decide) k85 rfl rfl 0 (by decide) (fun _ => Nat.le_of_ble_eq_true rfl) (fun _ => rfl) dX7_span_52 ?_
                refine a_iload_n C dX7_span_55 4 rfl rfl ?_
                refine a_if_ne C 68 (by omega) dX7_span_56 (by decide) (fun c56 => ?_) (fun c56 => ?_)
                · skip
                  refine a_iload_n C dX7_span_68 4 rfl rfl ?_
                  refine a_iconst C dX7_span_69 ?_
                  refine a_icmp_ne C 87 (by omega) (by decide) dX7_span_70 (by decide) (fun c70 => ?_) (fun c70 => ?_)
                  · skip
                    refine a_iload_n C dX7_span_87 4 rfl rfl ?_
                    refine a_iconst C dX7_span_88 ?_
                    refine a_icmp_ne C 106 (by omega) (by decide) dX7_span_89 (by decide) (fun c89 => ?_) (fun c89 => ?_)
                    · skip
                      refine a_iload_n C dX7_span_106 4 rfl rfl ?_
                      refine a_iconst C dX7_span_107 ?_
                      refine a_icmp_ne C 125 (by omega) (by decide) dX7_span_108 (by decide) (fun c108 => ?_) (fun c108 => ?_)
                      · skip
                        refine a_aload_n C dX7_span_125 1 rfl rfl ?_
                        refine a_iload_n C dX7_span_126 2 rfl rfl ?_
                        refine a_iload_n C dX7_span_127 3 rfl rfl ?_
                        refine a_cVI C (k0 := 2) (As := [vI i1, vI k1]) (rest := []) (c_X7_longOf x.2.1 v (sput σ b 0 0) b hM i1 k1 (by omega) (by rw [sput_r (by omega)]; omega) (by rw [moE_st]; exact kE)) gX7_span_X7_longOf rfl (by decide +kernel) (by decide) hM.f0 rfl hM.n0 rfl rfl (Nat.le_of_ble_eq_true rfl) dX7_span_128 (fun z128 u128 r128 p128 => ?_)
                        obtain ⟨e128, p128⟩ := p128
                        subst u128
                        try simp [sput_r, mset_n, sput, mset] at e128
                        refine hret _ _ _ _ dX7_span_131 r128 ?_
                        (repeat (first | rw [if_pos (by omega)] | rw [if_neg (by omega)]))
                        exact ⟨by omega, rfl⟩
                      · skip
                        refine a_aload_n C dX7_span_111 1 rfl rfl ?_
                        refine a_getf C hM.f0 hM.n0 (Cn := RX7) (T := TX7) (N := 30) rfl iX7 19 (by decide) k64 (w := .ref (vq v (b + 17))) rfl dX7_span_112 ?_
                        refine a_bipush C dX7_span_115 ?_
                        refine a_iload_n C dX7_span_117 2 rfl rfl ?_
                        refine a_imul C dX7_span_118 ?_
                        refine a_iload_n C dX7_span_119 3 rfl rfl ?_
                        refine a_iadd C dX7_span_120 ?_
                        refine a_iald C hM.f17 hM.n17 0 hM.tI (by omega) (by omega) (by decide) dX7_span_121 (fun z121 e121 r121 => ?_)
                        try simp [sput_r, mset_n, sput, mset] at e121
                        rw [shR_i (σ (b + 17)) (40 * i1) k1 _ rfl] at e121
                        refine a_goto C 131 dX7_span_122 (by decide) ?_
                        refine hret _ _ _ _ dX7_span_131 r121 ?_
                        (repeat (first | rw [if_pos (by omega)] | rw [if_neg (by omega)]))
                        exact ⟨by omega, rfl⟩
                    · skip
                      refine a_aload_n C dX7_span_92 1 rfl rfl ?_
                      refine a_getf C hM.f0 hM.n0 (Cn := RX7) (T := TX7) (N := 30) rfl iX7 18 (by decide) k61 (w := .ref (vq v (b + 16))) rfl dX7_span_93 ?_
                      refine a_bipush C dX7_span_96 ?_
                      refine a_iload_n C dX7_span_98 2 rfl rfl ?_
                      refine a_imul C dX7_span_99 ?_
                      refine a_iload_n C dX7_span_100 3 rfl rfl ?_
                      refine a_iadd C dX7_span_101 ?_
                      refine a_iald C hM.f16 hM.n16 0 hM.tI (by omega) (by omega) (by decide) dX7_span_102 (fun z102 e102 r102 => ?_)
                      try simp [sput_r, mset_n, sput, mset] at e102
                      rw [shR_i (σ (b + 16)) (40 * i1) k1 _ rfl] at e102
                      refine a_goto C 131 dX7_span_103 (by decide) ?_
                      refine hret _ _ _ _ dX7_span_131 r102 ?_
                      (repeat (first | rw [if_pos (by omega)] | rw [if_neg (by omega)]))
                      exact ⟨by omega, rfl⟩
                  · skip
                    refine a_aload_n C dX7_span_73 1 rfl rfl ?_
                    refine a_getf C hM.f0 hM.n0 (Cn := RX7) (T := TX7) (N := 30) rfl iX7 17 (by decide) k58 (w := .ref (vq v (b + 15))) rfl dX7_span_74 ?_
                    refine a_bipush C dX7_span_77 ?_
                    refine a_iload_n C dX7_span_79 2 rfl rfl ?_
                    refine a_imul C dX7_span_80 ?_
                    refine a_iload_n C dX7_span_81 3 rfl rfl ?_
                    refine a_iadd C dX7_span_82 ?_
                    refine a_iald C hM.f15 hM.n15 0 hM.tI (by omega) (by omega) (by decide) dX7_span_83 (fun z83 e83 r83 => ?_)
                    try simp [sput_r, mset_n, sput, mset] at e83
                    rw [shR_i (σ (b + 15)) (40 * i1) k1 _ rfl] at e83
                    refine a_goto C 131 dX7_span_84 (by decide) ?_
                    refine hret _ _ _ _ dX7_span_131 r83 ?_
                    (repeat (first | rw [if_pos (by omega)] | rw [if_neg (by omega)]))
                    exact ⟨by omega, rfl⟩
                · skip
                  refine a_aload_n C dX7_span_59 1 rfl rfl ?_
                  refine a_iload_n C dX7_span_60 2 rfl rfl ?_
                  refine a_iload_n C dX7_span_61 3 rfl rfl ?_
                  refine a_cVI C (k0 := 2) (As := [vI i1, vI k1]) (rest := []) (c_X7_begins x.2.1 v (sput σ b 0 0) b hM i1 k1 (by omega) (by omega) (by rw [sput_r (by omega)]; exact fun q => kE2 (k1 - 1) (by omega) (by show k1 - 1 < σ (b + 11) i1; omega))) gX7_span_X7_begins rfl (by decide +kernel) (by decide) hM.f0 rfl hM.n0 rfl rfl (Nat.le_of_ble_eq_true rfl) dX7_span_62 (fun z62 u62 r62 p62 => ?_)
                  obtain ⟨e62, p62⟩ := p62
                  subst u62
                  try simp [sput_r, mset_n, sput, mset] at e62
                  refine a_goto C 131 dX7_span_65 (by decide) ?_
                  refine hret _ _ _ _ dX7_span_131 r62 ?_
                  (repeat (first | rw [if_pos (by omega)] | rw [if_neg (by omega)]))
                  exact ⟨by omega, rfl⟩
              · skip
                exfalso; omega
            · skip
              refine a_iconst C dX7_span_35 ?_
              refine a_istore C [(4, vI 1), (0, .ref (vq v b)), (1, vI i1), (2, vI k1), (3, vI w1)] dX7_span_36 (by decide) rfl ?_
              refine a_iload C dX7_span_38 0 rfl ?_
              refine a_if_le C 50 (by decide) dX7_span_40 (by decide) (fun c40 => ?_) (fun c40 => ?_)
              · skip
                exfalso; omega
              · skip
                refine a_aload_n C dX7_span_43 1 rfl rfl ?_
                refine a_iload C dX7_span_44 0 rfl ?_
                refine a_cVI C (k0 := 1) (As := [vI 1]) (rest := []) (c_X7_refuse x.2.1 v σ b hM 1 (by omega)) gX7_span_X7_refuse rfl (by decide +kernel) (by decide) hM.f0 rfl hM.n0 rfl rfl (Nat.le_of_ble_eq_true rfl) dX7_span_46 (fun z46 u46 r46 p46 => ?_)
                obtain ⟨e46, p46⟩ := p46
                subst u46
                refine hret _ _ _ _ dX7_span_49 r46 ?_
                (repeat (first | rw [if_pos (by omega)] | rw [if_neg (by omega)]))
                exact ⟨by omega, rfl⟩
set_option maxHeartbeats 4000000 in
set_option maxRecDepth 100000 in
theorem c_X7_split (l : Launch) (v : VC) (σ : Mem) (b : Nat) (hM : shMo v b) (i1 x1 : Int) (h1 : rg i1) (h2 : rg x1) (hK : ∀ c : Int, 0 ≤ c → c < 3 → moK σ b c) : CtI l yX7_split wsX7_split 4 93 v [.ref (vq v b), vI i1, vI x1] σ (fun z u => (if ¬ ((0 ≤ i1 ∧ i1 < 3) ∧ (0 ≤ x1 ∧ x1 ≤ 39)) then (z = -1 ∧ u = sput σ b 0 1) else (if (σ (b + 11) i1) = 0 then (z = -1 ∧ u = sput σ b 0 5) else (if (shR (σ (b + 15)) (40 * i1)) (spOf (shR (σ (b + 15)) (40 * i1)) (σ (b + 11) i1) x1) = x1 ∨ 12 ≤ (σ (b + 11) i1) then (z = -1 ∧ u = sput σ b 0 6) else (z = spOf (shR (σ (b + 15)) (40 * i1)) (σ (b + 11) i1) x1 ∧ moFr (sput σ b 0 0) u b i1 ∧ moV u b i1 = cutV (shR (σ (b + 14)) (40 * i1)) (moV σ b i1) (spOf (shR (σ (b + 15)) (40 * i1)) (σ (b + 11) i1) x1) x1))))) := by
  refine mkI (cc := cX7_split) (n := 5) (by decide +kernel) rfl (Nat.le_of_ble_eq_true rfl) (fun x A Q hx C hret => ?_)
  subst hx
  show At x v A Q _ 0 [(0, .ref (vq v b)), (1, vI i1), (2, vI x1)] [] σ
  have iX7 : ∀ w ∈ wsX70, w ∈ wsX7_split := by decide +kernel
  have k58 : Cond.fieldLink RX7 58 (TX7 17).1 (TX7 17).2.1 (TX7 17).2.2.1 ∈ wsX7_split := by decide +kernel
  have k45 : Cond.fieldLink RX7 45 (TX7 13).1 (TX7 13).2.1 (TX7 13).2.2.1 ∈ wsX7_split := by decide +kernel
  have k85 : Cond.fieldLink RX7 85 (TX7 0).1 (TX7 0).2.1 (TX7 0).2.2.1 ∈ wsX7_split := by decide +kernel
  refine a_iload_n C dX7_split_0 2 rfl rfl ?_
  refine a_cSI C (k0 := 1) (As := [vI x1]) (rest := []) (c_X7_isValue x.2.1 v σ x1 (by omega)) gX7_split_X7_isValue rfl (by decide +kernel) (by decide) rfl rfl (Nat.le_of_ble_eq_true rfl) dX7_split_1 (fun z1 u1 r1 p1 => ?_)
  obtain ⟨e1, p1⟩ := p1
  subst u1
  have q1 := zz e1
  refine a_if_ne C 11 r1 dX7_split_4 (by decide) (fun c4 => ?_) (fun c4 => ?_)
  · skip
    refine a_aload_n C dX7_split_11 0 rfl rfl ?_
    refine a_iload_n C dX7_split_12 1 rfl rfl ?_
    refine a_cVI C (k0 := 1) (As := [vI i1]) (rest := []) (c_X7_wrongSketch x.2.1 v σ b hM i1 (by omega)) gX7_split_X7_wrongSketch rfl (by decide +kernel) (by decide) hM.f0 rfl hM.n0 rfl rfl (Nat.le_of_ble_eq_true rfl) dX7_split_13 (fun z13 u13 r13 p13 => ?_)
    obtain ⟨e13, p13⟩ := p13
    subst u13
    have q13 := zq3 e13
    rcases q13 with ⟨h13, k13⟩ | ⟨h13, k13⟩ | ⟨h13, k13⟩ <;> subst h13
    · skip
      show At x v A Q _ 16 [(0, .ref (vq v b)), (1, vI i1), (2, vI x1)] [vI 1] σ
      refine a_istore_n C 3 [(3, vI 1), (0, .ref (vq v b)), (1, vI i1), (2, vI x1)] dX7_split_16 rfl (by decide) rfl ?_
      refine a_iload_n C dX7_split_17 0 rfl rfl ?_
      refine a_if_le C 27 (by decide) dX7_split_18 (by decide) (fun c18 => ?_) (fun c18 => ?_)
      · skip
        exfalso; omega
      · skip
        refine a_aload_n C dX7_split_21 1 rfl rfl ?_
        refine a_iload_n C dX7_split_22 0 rfl rfl ?_
        refine a_cVI C (k0 := 1) (As := [vI 1]) (rest := []) (c_X7_refuse x.2.1 v σ b hM 1 (by omega)) gX7_split_X7_refuse rfl (by decide +kernel) (by decide) hM.f0 rfl hM.n0 rfl rfl (Nat.le_of_ble_eq_true rfl) dX7_split_23 (fun z23 u23 r23 p23 => ?_)
        obtain ⟨e23, p23⟩ := p23
        subst u23
        refine hret _ _ _ _ dX7_split_26 r23 ?_
        (repeat (first | rw [if_pos (by omega)] | rw [if_neg (by omega)]))
        (first | exact ⟨by omega, rfl⟩ | exact ⟨e30, p74.1.st, by rw [moV_st, p74.2, e30]⟩)
    · skip
      show At x v A Q _ 16 [(0, .ref (vq v b)), (1, vI i1), (2, vI x1)] [vI 5] σ
      refine a_istore_n C 3 [(3, vI 5), (0, .ref (vq v b)), (1, vI i1), (2, vI x1)] dX7_split_16 rfl (by decide) rfl ?_
      refine a_iload_n C dX7_split_17 0 rfl rfl ?_
      refine a_if_le C 27 (by decide) dX7_split_18 (by decide) (fun c18 => ?_) (fun c18 => ?_)
      · skip
        exfalso; omega
      · skip
        refine a_aload_n C dX7_split_21 1 rfl rfl ?_
        refine a_iload_n C dX7_split_22 0 rfl rfl ?_
        refine a_cVI C (k0 := 1) (As := [vI 5]) (rest := []) (c_X7_refuse x.2.1 v σ b hM 5 (by omega)) gX7_split_X7_refuse rfl (by decide +kernel) (by decide) hM.f0 rfl hM.n0 rfl rfl (Nat.le_of_ble_eq_true rfl) dX7_split_23 (fun z23 u23 r23 p23 => ?_)
        obtain ⟨e23, p23⟩ := p23
        subst u23
        refine hret _ _ _ _ dX7_split_26 r23 ?_
        (repeat (first | rw [if_pos (by omega)] | rw [if_neg (by omega)]))
        (first | exact ⟨by omega, rfl⟩ | exact ⟨e30, p74.1.st, by rw [moV_st, p74.2, e30]⟩)
    · skip
      show At x v A Q _ 16 [(0, .ref (vq v b)), (1, vI i1), (2, vI x1)] [vI 0] σ
      refine a_istore_n C 3 [(3, vI 0), (0, .ref (vq v b)), (1, vI i1), (2, vI x1)] dX7_split_16 rfl (by decide) rfl ?_
      refine a_iload_n C dX7_split_17 0 rfl rfl ?_
      refine a_if_le C 27 (by decide) dX7_split_18 (by decide) (fun c18 => ?_) (fun c18 => ?_)
      · skip
        have k0 := hK i1 (by omega) (by omega)
        obtain ⟨kN, kE, kB, kH, kT, kV, kU⟩ := k0
        have kE := kE (by omega)
        refine a_aload_n C dX7_split_27 1 rfl rfl ?_
        refine a_iload_n C dX7_split_28 2 rfl rfl ?_
        refine a_iload_n C dX7_split_29 3 rfl rfl ?_
        refine a_cVI C (k0 := 2) (As := [vI i1, vI x1]) (rest := []) (c_X7_spanOf x.2.1 v σ b hM i1 x1 (by omega) (by omega) kE) gX7_split_X7_spanOf rfl (by decide +kernel) (by decide) hM.f0 rfl hM.n0 rfl rfl (Nat.le_of_ble_eq_true rfl) dX7_split_30 (fun z30 u30 r30 p30 => ?_)
        obtain ⟨e30, p30⟩ := p30
        subst u30
        have b30 := spOf_in (S := moE σ b i1) kE (v := x1) (by omega)
        rw [show spOf (moE σ b i1).2.1 (moE σ b i1).1 x1 = z30 from e30.symm] at b30
        have b31 : z30 < (σ (b + 11) i1) := b30.2.1
        refine a_istore C [(4, vI z30), (3, vI 0), (0, .ref (vq v b)), (1, vI i1), (2, vI x1)] dX7_split_33 (by decide) rfl ?_
        refine a_aload_n C dX7_split_35 2 rfl rfl ?_
        refine a_getf C hM.f0 hM.n0 (Cn := RX7) (T := TX7) (N := 30) rfl iX7 17 (by decide) k58 (w := .ref (vq v (b + 15))) rfl dX7_split_36 ?_
        refine a_bipush C dX7_split_39 ?_
        refine a_iload_n C dX7_split_41 3 rfl rfl ?_
        refine a_imul C dX7_split_42 ?_
        refine a_iload C dX7_split_43 0 rfl ?_
        refine a_iadd C dX7_split_45 ?_
        refine a_iald C hM.f15 hM.n15 0 hM.tI (by omega) (by omega) (by decide) dX7_split_46 (fun z46 e46 r46 => ?_)
        rw [shR_i (σ (b + 15)) (40 * i1) z30 _ rfl, e30] at e46
        refine a_iload_n C dX7_split_47 4 rfl rfl ?_
        refine a_icmp_eq C 62 r46 (by omega) dX7_split_48 (by decide) (fun c48 => ?_) (fun c48 => ?_)
        · skip
          refine a_aload_n C dX7_split_62 2 rfl rfl ?_
          refine a_bipush C dX7_split_63 ?_
          refine a_cVI C (k0 := 1) (As := [vI 6]) (rest := []) (c_X7_refuse x.2.1 v σ b hM 6 (by omega)) gX7_split_X7_refuse rfl (by decide +kernel) (by decide) hM.f0 rfl hM.n0 rfl rfl (Nat.le_of_ble_eq_true rfl) dX7_split_65 (fun z65 u65 r65 p65 => ?_)
          obtain ⟨e65, p65⟩ := p65
          subst u65
          refine hret _ _ _ _ dX7_split_68 r65 ?_
          (repeat (first | rw [if_pos (by omega)] | rw [if_neg (by omega)]))
          (first | exact ⟨by omega, rfl⟩ | exact ⟨e30, p74.1.st, by rw [moV_st, p74.2, e30]⟩)
        · skip
          refine a_aload_n C dX7_split_51 2 rfl rfl ?_
          refine a_getf C hM.f0 hM.n0 (Cn := RX7) (T := TX7) (N := 30) rfl iX7 13 (by decide) k45 (w := .ref (vq v (b + 11))) rfl dX7_split_52 ?_
          refine a_iload_n C dX7_split_55 3 rfl rfl ?_
          refine a_iald C hM.f11 hM.n11 0 hM.tI (by omega) (by omega) (by decide) dX7_split_56 (fun z56 e56 r56 => ?_)
          refine a_bipush C dX7_split_57 ?_
          refine a_icmp_lt C 69 r56 (by decide) dX7_split_59 (by decide) (fun c59 => ?_) (fun c59 => ?_)
          · skip
            refine a_aload_n C dX7_split_69 2 rfl rfl ?_
            refine a_iload_n C dX7_split_70 3 rfl rfl ?_
            refine a_iload C dX7_split_71 0 rfl ?_
            refine a_iload_n C dX7_split_73 4 rfl rfl ?_
            refine a_cVV C (k0 := 3) (As := [vI i1, vI z30, vI x1]) (rest := []) (c_X7_splits x.2.1 v σ b hM i1 z30 x1 (by omega) (by omega) (by omega) (by omega) kE (by have := (kB z30 (by omega) b31).1; omega) (kB z30 (by omega) b31).2) gX7_split_X7_splits rfl (by decide +kernel) (by decide) hM.f0 rfl hM.n0 rfl rfl (Nat.le_of_ble_eq_true rfl) dX7_split_74 (fun u74 p74 => ?_)
            refine a_aload_n C dX7_split_77 2 rfl rfl ?_
            refine a_iconst C dX7_split_78 ?_
            refine a_puti C hM.f0 hM.n0 (Cn := RX7) (T := TX7) (N := 30) rfl iX7 tyX7_ok nmX7 0 (by decide) k85 rfl rfl 0 (by decide) (fun _ => Nat.le_of_ble_eq_true rfl) (fun _ => rfl) dX7_split_79 ?_
            refine a_iload C dX7_split_82 0 rfl ?_
            refine hret _ _ _ _ dX7_split_84 r30 ?_
            (repeat (first | rw [if_pos (by omega)] | rw [if_neg (by omega)]))
            (first | exact ⟨by omega, rfl⟩ | exact ⟨e30, p74.1.st, by rw [moV_st, p74.2, e30]⟩)
          · skip
            refine a_aload_n C dX7_split_62 2 rfl rfl ?_
            refine a_bipush C dX7_split_63 ?_
            refine a_cVI C (k0 := 1) (As := [vI 6]) (rest := []) (c_X7_refuse x.2.1 v σ b hM 6 (by omega)) gX7_split_X7_refuse rfl (by decide +kernel) (by decide) hM.f0 rfl hM.n0 rfl rfl (Nat.le_of_ble_eq_true rfl) dX7_split_65 (fun z65 u65 r65 p65 => ?_)
            obtain ⟨e65, p65⟩ := p65
            subst u65
            refine hret _ _ _ _ dX7_split_68 r65 ?_
            (repeat (first | rw [if_pos (by omega)] | rw [if_neg (by omega)]))
            (first | exact ⟨by omega, rfl⟩ | exact ⟨e30, p74.1.st, by rw [moV_st, p74.2, e30]⟩)
      · skip
        exfalso; omega
  · skip
    refine a_iconst C dX7_split_7 ?_
    refine a_goto C 16 dX7_split_8 (by decide) ?_
    refine a_istore_n C 3 [(3, vI 1), (0, .ref (vq v b)), (1, vI i1), (2, vI x1)] dX7_split_16 rfl (by decide) rfl ?_
    refine a_iload_n C dX7_split_17 0 rfl rfl ?_
    refine a_if_le C 27 (by decide) dX7_split_18 (by decide) (fun c18 => ?_) (fun c18 => ?_)
    · skip
      exfalso; omega
    · skip
      refine a_aload_n C dX7_split_21 1 rfl rfl ?_
      refine a_iload_n C dX7_split_22 0 rfl rfl ?_
      refine a_cVI C (k0 := 1) (As := [vI 1]) (rest := []) (c_X7_refuse x.2.1 v σ b hM 1 (by omega)) gX7_split_X7_refuse rfl (by decide +kernel) (by decide) hM.f0 rfl hM.n0 rfl rfl (Nat.le_of_ble_eq_true rfl) dX7_split_23 (fun z23 u23 r23 p23 => ?_)
      obtain ⟨e23, p23⟩ := p23
      subst u23
      refine hret _ _ _ _ dX7_split_26 r23 ?_
      (repeat (first | rw [if_pos (by omega)] | rw [if_neg (by omega)]))
      (first | exact ⟨by omega, rfl⟩ | exact ⟨e30, p74.1.st, by rw [moV_st, p74.2, e30]⟩)
set_option maxHeartbeats 4000000 in
set_option maxRecDepth 100000 in
theorem c_X7_melt (l : Launch) (v : VC) (σ : Mem) (b : Nat) (hM : shMo v b) (i1 k1 : Int) (h1 : rg i1) (h2 : rg k1) (hK : ∀ c : Int, 0 ≤ c → c < 3 → moK σ b c) : CtI l yX7_melt wsX7_melt 3 66 v [.ref (vq v b), vI i1, vI k1] σ (fun z u => (if ¬ (0 ≤ i1 ∧ i1 < 3) then (z = 0 ∧ u = sput σ b 0 1) else (if (σ (b + 11) i1) = 0 then (z = 0 ∧ u = sput σ b 0 5) else (if ¬ (0 ≤ k1 ∧ k1 ≤ (σ (b + 11) i1) - 2) then (z = 0 ∧ u = sput σ b 0 6) else (z = 1 ∧ moFr (sput σ b 0 0) u b i1 ∧ moV u b i1 = fuseV (moV σ b i1) k1))))) := by
  refine mkZ (cc := cX7_melt) (n := 4) (by decide +kernel) rfl (Nat.le_of_ble_eq_true rfl) (fun x A Q hx C hret => ?_)
  subst hx
  show At x v A Q _ 0 [(0, .ref (vq v b)), (1, vI i1), (2, vI k1)] [] σ
  have iX7 : ∀ w ∈ wsX70, w ∈ wsX7_melt := by decide +kernel
  have k45 : Cond.fieldLink RX7 45 (TX7 13).1 (TX7 13).2.1 (TX7 13).2.2.1 ∈ wsX7_melt := by decide +kernel
  refine a_aload_n C dX7_melt_0 0 rfl rfl ?_
  refine a_iload_n C dX7_melt_1 1 rfl rfl ?_
  refine a_cVI C (k0 := 1) (As := [vI i1]) (rest := []) (c_X7_wrongSketch x.2.1 v σ b hM i1 (by omega)) gX7_melt_X7_wrongSketch rfl (by decide +kernel) (by decide) hM.f0 rfl hM.n0 rfl rfl (Nat.le_of_ble_eq_true rfl) dX7_melt_2 (fun z2 u2 r2 p2 => ?_)
  obtain ⟨e2, p2⟩ := p2
  subst u2
  have q2 := zq3 e2
  rcases q2 with ⟨h2, k2⟩ | ⟨h2, k2⟩ | ⟨h2, k2⟩ <;> subst h2
  · skip
    show At x v A Q _ 5 [(0, .ref (vq v b)), (1, vI i1), (2, vI k1)] [vI 1] σ
    refine a_istore_n C 3 [(3, vI 1), (0, .ref (vq v b)), (1, vI i1), (2, vI k1)] dX7_melt_5 rfl (by decide) rfl ?_
    refine a_iload_n C dX7_melt_6 0 rfl rfl ?_
    refine a_if_ne C 29 (by decide) dX7_melt_7 (by decide) (fun c7 => ?_) (fun c7 => ?_)
    · skip
      refine a_iload_n C dX7_melt_29 0 rfl rfl ?_
      refine a_if_ne C 39 (by decide) dX7_melt_30 (by decide) (fun c30 => ?_) (fun c30 => ?_)
      · skip
        refine a_aload_n C dX7_melt_39 1 rfl rfl ?_
        refine a_iload_n C dX7_melt_40 0 rfl rfl ?_
        refine a_cVI C (k0 := 1) (As := [vI 1]) (rest := []) (c_X7_is x.2.1 v σ b hM 1 (by omega)) gX7_melt_X7_is rfl (by decide +kernel) (by decide) hM.f0 rfl hM.n0 rfl rfl (Nat.le_of_ble_eq_true rfl) dX7_melt_41 (fun z41 u41 r41 p41 => ?_)
        obtain ⟨e41, p41⟩ := p41
        subst u41
        have q41 := zz e41
        refine hret _ _ _ _ dX7_melt_44 (by omega) ?_
        (repeat (first | rw [if_pos (by omega)] | rw [if_neg (by omega)]))
        (first | exact ⟨by omega, rfl⟩ | exact ⟨by omega, p36.1.st, by rw [moV_st, p36.2]⟩)
      · skip
        exfalso; omega
    · skip
      exfalso; omega
  · skip
    show At x v A Q _ 5 [(0, .ref (vq v b)), (1, vI i1), (2, vI k1)] [vI 5] σ
    refine a_istore_n C 3 [(3, vI 5), (0, .ref (vq v b)), (1, vI i1), (2, vI k1)] dX7_melt_5 rfl (by decide) rfl ?_
    refine a_iload_n C dX7_melt_6 0 rfl rfl ?_
    refine a_if_ne C 29 (by decide) dX7_melt_7 (by decide) (fun c7 => ?_) (fun c7 => ?_)
    · skip
      refine a_iload_n C dX7_melt_29 0 rfl rfl ?_
      refine a_if_ne C 39 (by decide) dX7_melt_30 (by decide) (fun c30 => ?_) (fun c30 => ?_)
      · skip
        refine a_aload_n C dX7_melt_39 1 rfl rfl ?_
        refine a_iload_n C dX7_melt_40 0 rfl rfl ?_
        refine a_cVI C (k0 := 1) (As := [vI 5]) (rest := []) (c_X7_is x.2.1 v σ b hM 5 (by omega)) gX7_melt_X7_is rfl (by decide +kernel) (by decide) hM.f0 rfl hM.n0 rfl rfl (Nat.le_of_ble_eq_true rfl) dX7_melt_41 (fun z41 u41 r41 p41 => ?_)
        obtain ⟨e41, p41⟩ := p41
        subst u41
        have q41 := zz e41
        refine hret _ _ _ _ dX7_melt_44 (by omega) ?_
        (repeat (first | rw [if_pos (by omega)] | rw [if_neg (by omega)]))
        (first | exact ⟨by omega, rfl⟩ | exact ⟨by omega, p36.1.st, by rw [moV_st, p36.2]⟩)
      · skip
        exfalso; omega
    · skip
      exfalso; omega
  · skip
    show At x v A Q _ 5 [(0, .ref (vq v b)), (1, vI i1), (2, vI k1)] [vI 0] σ
    refine a_istore_n C 3 [(3, vI 0), (0, .ref (vq v b)), (1, vI i1), (2, vI k1)] dX7_melt_5 rfl (by decide) rfl ?_
    refine a_iload_n C dX7_melt_6 0 rfl rfl ?_
    refine a_if_ne C 29 (by decide) dX7_melt_7 (by decide) (fun c7 => ?_) (fun c7 => ?_)
    · skip
      exfalso; omega
    · skip
      refine a_iload_n C dX7_melt_10 3 rfl rfl ?_
      refine a_if_lt C 26 (by omega) dX7_melt_11 (by decide) (fun c11 => ?_) (fun c11 => ?_)
      · skip
        refine a_bipush C dX7_melt_26 ?_
        refine a_istore_n C 3 [(3, vI 6), (0, .ref (vq v b)), (1, vI i1), (2, vI k1)] dX7_melt_28 rfl (by decide) rfl ?_
        refine a_iload_n C dX7_melt_29 0 rfl rfl ?_
        refine a_if_ne C 39 (by decide) dX7_melt_30 (by decide) (fun c30 => ?_) (fun c30 => ?_)
        · skip
          refine a_aload_n C dX7_melt_39 1 rfl rfl ?_
          refine a_iload_n C dX7_melt_40 0 rfl rfl ?_
          refine a_cVI C (k0 := 1) (As := [vI 6]) (rest := []) (c_X7_is x.2.1 v σ b hM 6 (by omega)) gX7_melt_X7_is rfl (by decide +kernel) (by decide) hM.f0 rfl hM.n0 rfl rfl (Nat.le_of_ble_eq_true rfl) dX7_melt_41 (fun z41 u41 r41 p41 => ?_)
          obtain ⟨e41, p41⟩ := p41
          subst u41
          have q41 := zz e41
          refine hret _ _ _ _ dX7_melt_44 (by omega) ?_
          (repeat (first | rw [if_pos (by omega)] | rw [if_neg (by omega)]))
          (first | exact ⟨by omega, rfl⟩ | exact ⟨by omega, p36.1.st, by rw [moV_st, p36.2]⟩)
        · skip
          exfalso; omega
      · skip
        have k0 := hK i1 (by omega) (by omega)
        obtain ⟨kN, kE, kB, kH, kT, kV, kU⟩ := k0
        have kE := kE (by omega)
        refine a_iload_n C dX7_melt_14 3 rfl rfl ?_
        refine a_aload_n C dX7_melt_15 1 rfl rfl ?_
        refine a_getf C hM.f0 hM.n0 (Cn := RX7) (T := TX7) (N := 30) rfl iX7 13 (by decide) k45 (w := .ref (vq v (b + 11))) rfl dX7_melt_16 ?_
        refine a_iload_n C dX7_melt_19 2 rfl rfl ?_
        refine a_iald C hM.f11 hM.n11 0 hM.tI (by omega) (by omega) (by decide) dX7_melt_20 (fun z20 e20 r20 => ?_)
        refine a_iconst C dX7_melt_21 ?_
        refine a_isub C dX7_melt_22 ?_
        refine a_icmp_lt C 29 (by omega) (by omega) dX7_melt_23 (by decide) (fun c23 => ?_) (fun c23 => ?_)
        · skip
          refine a_iload_n C dX7_melt_29 0 rfl rfl ?_
          refine a_if_ne C 39 (by decide) dX7_melt_30 (by decide) (fun c30 => ?_) (fun c30 => ?_)
          · skip
            exfalso; omega
          · skip
            refine a_aload_n C dX7_melt_33 1 rfl rfl ?_
            refine a_iload_n C dX7_melt_34 2 rfl rfl ?_
            refine a_iload_n C dX7_melt_35 3 rfl rfl ?_
            refine a_cVV C (k0 := 2) (As := [vI i1, vI k1]) (rest := []) (c_X7_melts x.2.1 v σ b hM i1 k1 (by omega) (by omega) (by omega) (fun j q1 q2 => by have := kB j q1 q2; omega)) gX7_melt_X7_melts rfl (by decide +kernel) (by decide) hM.f0 rfl hM.n0 rfl rfl (Nat.le_of_ble_eq_true rfl) dX7_melt_36 (fun u36 p36 => ?_)
            refine a_aload_n C dX7_melt_39 1 rfl rfl ?_
            refine a_iload_n C dX7_melt_40 0 rfl rfl ?_
            refine a_cVI C (k0 := 1) (As := [vI 0]) (rest := []) (c_X7_is x.2.1 v u36 b hM 0 (by omega)) gX7_melt_X7_is rfl (by decide +kernel) (by decide) hM.f0 rfl hM.n0 rfl rfl (Nat.le_of_ble_eq_true rfl) dX7_melt_41 (fun z41 u41 r41 p41 => ?_)
            obtain ⟨e41, p41⟩ := p41
            subst u41
            have q41 := zz e41
            refine hret _ _ _ _ dX7_melt_44 (by omega) ?_
            (repeat (first | rw [if_pos (by omega)] | rw [if_neg (by omega)]))
            (first | exact ⟨by omega, rfl⟩ | exact ⟨by omega, p36.1.st, by rw [moV_st, p36.2]⟩)
        · skip
          refine a_bipush C dX7_melt_26 ?_
          refine a_istore_n C 3 [(3, vI 6), (0, .ref (vq v b)), (1, vI i1), (2, vI k1)] dX7_melt_28 rfl (by decide) rfl ?_
          refine a_iload_n C dX7_melt_29 0 rfl rfl ?_
          refine a_if_ne C 39 (by decide) dX7_melt_30 (by decide) (fun c30 => ?_) (fun c30 => ?_)
          · skip
            refine a_aload_n C dX7_melt_39 1 rfl rfl ?_
            refine a_iload_n C dX7_melt_40 0 rfl rfl ?_
            refine a_cVI C (k0 := 1) (As := [vI 6]) (rest := []) (c_X7_is x.2.1 v σ b hM 6 (by omega)) gX7_melt_X7_is rfl (by decide +kernel) (by decide) hM.f0 rfl hM.n0 rfl rfl (Nat.le_of_ble_eq_true rfl) dX7_melt_41 (fun z41 u41 r41 p41 => ?_)
            obtain ⟨e41, p41⟩ := p41
            subst u41
            have q41 := zz e41
            refine hret _ _ _ _ dX7_melt_44 (by omega) ?_
            (repeat (first | rw [if_pos (by omega)] | rw [if_neg (by omega)]))
            (first | exact ⟨by omega, rfl⟩ | exact ⟨by omega, p36.1.st, by rw [moV_st, p36.2]⟩)
          · skip
            exfalso; omega
set_option maxHeartbeats 4000000 in
set_option maxRecDepth 100000 in
theorem c_X7_sketch (l : Launch) (v : VC) (σ : Mem) (b : Nat) (hM : shMo v b) (i1 w1 : Int) (h1 : rg i1) (h2 : rg w1) (hK : ∀ c : Int, 0 ≤ c → c < 3 → moK σ b c) : CtI l yX7_sketch wsX7_sketch 2 41 v [.ref (vq v b), vI i1, vI w1] σ (fun z u => (if ¬ ((0 ≤ i1 ∧ i1 < 3) ∧ (0 ≤ w1 ∧ w1 ≤ 3)) then (z = -1 ∧ u = sput σ b 0 1) else (if (σ (b + 11) i1) = 0 then (z = -1 ∧ u = sput σ b 0 5) else (if w1 = 0 then (z = (σ (b + 11) i1) ∧ u = sput σ b 0 0) else (if w1 = 1 then (z = 40 - ltC (shR (σ (b + 14)) (40 * i1)) 0 39 ∧ u = sput σ b 0 0) else (if w1 = 2 then (z = smR (shR (σ (b + 17)) (40 * i1)) 0 (σ (b + 11) i1) ∧ u = sput σ b 0 0) else (z = smR (shR (σ (b + 16)) (40 * i1)) 0 (σ (b + 11) i1) ∧ u = sput σ b 0 0))))))) := by
  refine mkI (cc := cX7_sketch) (n := 6) (by decide +kernel) rfl (Nat.le_of_ble_eq_true rfl) (fun x A Q hx C hret => ?_)
  subst hx
  show At x v A Q _ 0 [(0, .ref (vq v b)), (1, vI i1), (2, vI w1)] [] σ
  have iX7 : ∀ w ∈ wsX70, w ∈ wsX7_sketch := by decide +kernel
  have k85 : Cond.fieldLink RX7 85 (TX7 0).1 (TX7 0).2.1 (TX7 0).2.2.1 ∈ wsX7_sketch := by decide +kernel
  have k45 : Cond.fieldLink RX7 45 (TX7 13).1 (TX7 13).2.1 (TX7 13).2.2.1 ∈ wsX7_sketch := by decide +kernel
  have k61 : Cond.fieldLink RX7 61 (TX7 18).1 (TX7 18).2.1 (TX7 18).2.2.1 ∈ wsX7_sketch := by decide +kernel
  have k64 : Cond.fieldLink RX7 64 (TX7 19).1 (TX7 19).2.1 (TX7 19).2.2.1 ∈ wsX7_sketch := by decide +kernel
  have k54 : Cond.fieldLink RX7 54 (TX7 16).1 (TX7 16).2.1 (TX7 16).2.2.1 ∈ wsX7_sketch := by decide +kernel
  refine a_iload_n C dX7_sketch_0 2 rfl rfl ?_
  refine a_if_lt C 9 (by omega) dX7_sketch_1 (by decide) (fun c1 => ?_) (fun c1 => ?_)
  · skip
    refine a_iconst C dX7_sketch_9 ?_
    refine a_goto C 18 dX7_sketch_10 (by decide) ?_
    refine a_istore_n C 3 [(3, vI 1), (0, .ref (vq v b)), (1, vI i1), (2, vI w1)] dX7_sketch_18 rfl (by decide) rfl ?_
    refine a_iload_n C dX7_sketch_19 0 rfl rfl ?_
    refine a_if_le C 29 (by decide) dX7_sketch_20 (by decide) (fun c20 => ?_) (fun c20 => ?_)
    · skip
      exfalso; omega
    · skip
      refine a_aload_n C dX7_sketch_23 1 rfl rfl ?_
      refine a_iload_n C dX7_sketch_24 0 rfl rfl ?_
      refine a_cVI C (k0 := 1) (As := [vI 1]) (rest := []) (c_X7_refuse x.2.1 v σ b hM 1 (by omega)) gX7_sketch_X7_refuse rfl (by decide +kernel) (by decide) hM.f0 rfl hM.n0 rfl rfl (Nat.le_of_ble_eq_true rfl) dX7_sketch_25 (fun z25 u25 r25 p25 => ?_)
      obtain ⟨e25, p25⟩ := p25
      subst u25
      refine hret _ _ _ _ dX7_sketch_28 r25 ?_
      (repeat (first | rw [if_pos (by omega)] | rw [if_neg (by omega)]))
      exact ⟨by omega, rfl⟩
  · skip
    refine a_iload_n C dX7_sketch_4 2 rfl rfl ?_
    refine a_iconst C dX7_sketch_5 ?_
    refine a_icmp_le C 13 (by omega) (by decide) dX7_sketch_6 (by decide) (fun c6 => ?_) (fun c6 => ?_)
    · skip
      refine a_aload_n C dX7_sketch_13 0 rfl rfl ?_
      refine a_iload_n C dX7_sketch_14 1 rfl rfl ?_
      refine a_cVI C (k0 := 1) (As := [vI i1]) (rest := []) (c_X7_wrongSketch x.2.1 v σ b hM i1 (by omega)) gX7_sketch_X7_wrongSketch rfl (by decide +kernel) (by decide) hM.f0 rfl hM.n0 rfl rfl (Nat.le_of_ble_eq_true rfl) dX7_sketch_15 (fun z15 u15 r15 p15 => ?_)
      obtain ⟨e15, p15⟩ := p15
      subst u15
      have q15 := zq3 e15
      rcases q15 with ⟨h15, k15⟩ | ⟨h15, k15⟩ | ⟨h15, k15⟩ <;> subst h15
      · skip
        show At x v A Q _ 18 [(0, .ref (vq v b)), (1, vI i1), (2, vI w1)] [vI 1] σ
        refine a_istore_n C 3 [(3, vI 1), (0, .ref (vq v b)), (1, vI i1), (2, vI w1)] dX7_sketch_18 rfl (by decide) rfl ?_
        refine a_iload_n C dX7_sketch_19 0 rfl rfl ?_
        refine a_if_le C 29 (by decide) dX7_sketch_20 (by decide) (fun c20 => ?_) (fun c20 => ?_)
        · skip
          exfalso; omega
        · skip
          refine a_aload_n C dX7_sketch_23 1 rfl rfl ?_
          refine a_iload_n C dX7_sketch_24 0 rfl rfl ?_
          refine a_cVI C (k0 := 1) (As := [vI 1]) (rest := []) (c_X7_refuse x.2.1 v σ b hM 1 (by omega)) gX7_sketch_X7_refuse rfl (by decide +kernel) (by decide) hM.f0 rfl hM.n0 rfl rfl (Nat.le_of_ble_eq_true rfl) dX7_sketch_25 (fun z25 u25 r25 p25 => ?_)
          obtain ⟨e25, p25⟩ := p25
          subst u25
          refine hret _ _ _ _ dX7_sketch_28 r25 ?_
          (repeat (first | rw [if_pos (by omega)] | rw [if_neg (by omega)]))
          exact ⟨by omega, rfl⟩
      · skip
        show At x v A Q _ 18 [(0, .ref (vq v b)), (1, vI i1), (2, vI w1)] [vI 5] σ
        refine a_istore_n C 3 [(3, vI 5), (0, .ref (vq v b)), (1, vI i1), (2, vI w1)] dX7_sketch_18 rfl (by decide) rfl ?_
        refine a_iload_n C dX7_sketch_19 0 rfl rfl ?_
        refine a_if_le C 29 (by decide) dX7_sketch_20 (by decide) (fun c20 => ?_) (fun c20 => ?_)
        · skip
          exfalso; omega
        · skip
          refine a_aload_n C dX7_sketch_23 1 rfl rfl ?_
          refine a_iload_n C dX7_sketch_24 0 rfl rfl ?_
          refine a_cVI C (k0 := 1) (As := [vI 5]) (rest := []) (c_X7_refuse x.2.1 v σ b hM 5 (by omega)) gX7_sketch_X7_refuse rfl (by decide +kernel) (by decide) hM.f0 rfl hM.n0 rfl rfl (Nat.le_of_ble_eq_true rfl) dX7_sketch_25 (fun z25 u25 r25 p25 => ?_)
          obtain ⟨e25, p25⟩ := p25
          subst u25
          refine hret _ _ _ _ dX7_sketch_28 r25 ?_
          (repeat (first | rw [if_pos (by omega)] | rw [if_neg (by omega)]))
          exact ⟨by omega, rfl⟩
      · skip
        show At x v A Q _ 18 [(0, .ref (vq v b)), (1, vI i1), (2, vI w1)] [vI 0] σ
        refine a_istore_n C 3 [(3, vI 0), (0, .ref (vq v b)), (1, vI i1), (2, vI w1)] dX7_sketch_18 rfl (by decide) rfl ?_
        refine a_iload_n C dX7_sketch_19 0 rfl rfl ?_
        refine a_if_le C 29 (by decide) dX7_sketch_20 (by decide) (fun c20 => ?_) (fun c20 => ?_)
        · skip
          have k0 := hK i1 (by omega) (by omega)
          obtain ⟨kN, kE, kB, kH, kT, kV, kU⟩ := k0
          have kE := kE (by omega)
          refine a_aload_n C dX7_sketch_29 1 rfl rfl ?_
          refine a_iconst C dX7_sketch_30 ?_
          refine a_puti C hM.f0 hM.n0 (Cn := RX7) (T := TX7) (N := 30) rfl iX7 tyX7_ok nmX7 0 (by decide) k85 rfl rfl 0 (by decide) (fun _ => Nat.le_of_ble_eq_true rfl) (fun _ => rfl) dX7_sketch_31 ?_
          refine a_iconst C dX7_sketch_34 ?_
          refine a_istore C [(4, vI 0), (3, vI 0), (0, .ref (vq v b)), (1, vI i1), (2, vI w1)] dX7_sketch_35 (by decide) rfl ?_
          refine a_iload_n C dX7_sketch_37 4 rfl rfl ?_
          refine a_if_ne C 48 (by omega) dX7_sketch_38 (by decide) (fun c38 => ?_) (fun c38 => ?_)
          · skip
            refine a_iconst C dX7_sketch_48 ?_
            refine a_istore C [(5, vI 0), (4, vI 0), (3, vI 0), (0, .ref (vq v b)), (1, vI i1), (2, vI w1)] dX7_sketch_49 (by decide) rfl ?_
            obtain ⟨R, hR⟩ : ∃ R : Int, R = (if w1 = 1 then 40 - ltC (shR (σ (b + 14)) (40 * i1)) 0 39 else if w1 = 2 then smR (shR (σ (b + 17)) (40 * i1)) 0 (σ (b + 11) i1) else smR (shR (σ (b + 16)) (40 * i1)) 0 (σ (b + 11) i1)) := ⟨_, rfl⟩
            have g1 := smR_bd (f := (shR (σ (b + 16)) (40 * i1))) (a := 0) (b := (σ (b + 11) i1)) (fun j q1 q2 => (kB j q1 q2).1) (by omega)
            have g2 := smR_bd (f := (shR (σ (b + 17)) (40 * i1))) (a := 0) (b := (σ (b + 11) i1)) (fun j q1 q2 => (kB j q1 q2).2) (by omega)
            have g3 := ltC_bd (shR (σ (b + 14)) (40 * i1)) 0 39
            have hRb : rg R := by rw [hR]; split; omega; split <;> omega
            have g4 : smR (fun v => if (shR (σ (b + 14)) (40 * i1)) v = 0 then 0 else 1) 0 40 = 40 - ltC (shR (σ (b + 14)) (40 * i1)) 0 39 := by
              have h9 := smR_add (f := fun v => if (shR (σ (b + 14)) (40 * i1)) v = 0 then 0 else 1) (g := fun v => if (shR (σ (b + 14)) (40 * i1)) v = 0 then 1 else 0) (a := 0) (b := 40)
              have h8 : smR (fun v => (if (shR (σ (b + 14)) (40 * i1)) v = 0 then (0 : Int) else 1) + (if (shR (σ (b + 14)) (40 * i1)) v = 0 then 1 else 0)) 0 40 = smR (fun _ => 1) 0 40 := smR_congr fun v _ _ => by split <;> rfl
              have h7 : smR (fun _ => (1 : Int)) 0 40 = 40 := by decide
              have h6 : ltC (shR (σ (b + 14)) (40 * i1)) 0 39 = smR (fun v => if (shR (σ (b + 14)) (40 * i1)) v = 0 then 1 else 0) 0 40 := rfl
              omega
            have lpB : ∀ (n : Nat) (k n1 : Int) , (24 - k).toNat = n → 0 ≤ k ∧ k ≤ (σ (b + 11) i1) → (w1 = 1 → n1 = R) → (w1 = 2 → n1 + smR (shR (σ (b + 17)) (40 * i1)) k (σ (b + 11) i1) = R) → (w1 = 3 → n1 + smR (shR (σ (b + 16)) (40 * i1)) k (σ (b + 11) i1) = R) → At x v A Q 6 97 [(5, vI k), (4, vI n1), (0, .ref (vq v b)), (1, vI i1), (2, vI w1), (3, vI 0)] [] (sput σ b 0 0) := by
              intro n
              induction n using Nat.strongRecOn with
              | _ n ih =>
                intro k n1 hn iv1 iv1b iv2 iv3
                refine a_iload C dX7_sketch_97 0 rfl ?_
                refine a_aload_n C dX7_sketch_99 2 rfl rfl ?_
                refine a_getf C hM.f0 hM.n0 (Cn := RX7) (T := TX7) (N := 30) rfl iX7 13 (by decide) k45 (w := .ref (vq v (b + 11))) rfl dX7_sketch_100 ?_
                refine a_iload_n C dX7_sketch_103 3 rfl rfl ?_
                refine a_iald C hM.f11 hM.n11 0 hM.tI (by omega) (by omega) (by decide) dX7_sketch_104 (fun z104 e104 r104 => ?_)
                try simp [sput_r, mset_n, sput, mset] at e104
                refine a_icmp_ge C 156 (by omega) r104 dX7_sketch_105 (by decide) (fun c105 => ?_) (fun c105 => ?_)
                · skip
                  refine a_iload C dX7_sketch_156 1 rfl ?_
                  have hz : n1 = R := by
                    rcases (by omega : w1 = 1 ∨ w1 = 2 ∨ w1 = 3) with q | q | q
                    · exact iv1b q
                    · have h9 := iv2 q; rw [smR_nil (by omega)] at h9; omega
                    · have h9 := iv3 q; rw [smR_nil (by omega)] at h9; omega
                  subst hz
                  rcases (by omega : w1 = 1 ∨ w1 = 2 ∨ w1 = 3) with q | q | q
                  · first | (exfalso; omega) | (refine hret _ _ _ _ dX7_sketch_158 (by omega) ?_; (repeat (first | rw [if_pos (by omega)] | rw [if_neg (by omega)])); exact ⟨by rw [hR]; (repeat (first | rw [if_pos (by omega)] | rw [if_neg (by omega)])), rfl⟩)
                  · first | (exfalso; omega) | (refine hret _ _ _ _ dX7_sketch_158 (by omega) ?_; (repeat (first | rw [if_pos (by omega)] | rw [if_neg (by omega)])); exact ⟨by rw [hR]; (repeat (first | rw [if_pos (by omega)] | rw [if_neg (by omega)])), rfl⟩)
                  · first | (exfalso; omega) | (refine hret _ _ _ _ dX7_sketch_158 (by omega) ?_; (repeat (first | rw [if_pos (by omega)] | rw [if_neg (by omega)])); exact ⟨by rw [hR]; (repeat (first | rw [if_pos (by omega)] | rw [if_neg (by omega)])), rfl⟩)
                · skip
                  refine a_iload_n C dX7_sketch_108 4 rfl rfl ?_
                  refine a_iconst C dX7_sketch_109 ?_
                  refine a_icmp_le C 156 (by omega) (by decide) dX7_sketch_110 (by decide) (fun c110 => ?_) (fun c110 => ?_)
                  · skip
                    refine a_iload C dX7_sketch_156 1 rfl ?_
                    have hz : n1 = R := by
                      rcases (by omega : w1 = 1 ∨ w1 = 2 ∨ w1 = 3) with q | q | q
                      · exact iv1b q
                      · have h9 := iv2 q; rw [smR_nil (by omega)] at h9; omega
                      · have h9 := iv3 q; rw [smR_nil (by omega)] at h9; omega
                    subst hz
                    rcases (by omega : w1 = 1 ∨ w1 = 2 ∨ w1 = 3) with q | q | q
                    · first | (exfalso; omega) | (refine hret _ _ _ _ dX7_sketch_158 (by omega) ?_; (repeat (first | rw [if_pos (by omega)] | rw [if_neg (by omega)])); exact ⟨by rw [hR]; (repeat (first | rw [if_pos (by omega)] | rw [if_neg (by omega)])), rfl⟩)
                    · first | (exfalso; omega) | (refine hret _ _ _ _ dX7_sketch_158 (by omega) ?_; (repeat (first | rw [if_pos (by omega)] | rw [if_neg (by omega)])); exact ⟨by rw [hR]; (repeat (first | rw [if_pos (by omega)] | rw [if_neg (by omega)])), rfl⟩)
                    · first | (exfalso; omega) | (refine hret _ _ _ _ dX7_sketch_158 (by omega) ?_; (repeat (first | rw [if_pos (by omega)] | rw [if_neg (by omega)])); exact ⟨by rw [hR]; (repeat (first | rw [if_pos (by omega)] | rw [if_neg (by omega)])), rfl⟩)
                  · skip
                    refine a_iload C dX7_sketch_113 1 rfl ?_
                    refine a_iload_n C dX7_sketch_115 4 rfl rfl ?_
                    refine a_iconst C dX7_sketch_116 ?_
                    refine a_icmp_ne C 135 (by omega) (by decide) dX7_sketch_117 (by decide) (fun c117 => ?_) (fun c117 => ?_)
                    · skip
                      refine a_aload_n C dX7_sketch_135 2 rfl rfl ?_
                      refine a_getf C hM.f0 hM.n0 (Cn := RX7) (T := TX7) (N := 30) rfl iX7 18 (by decide) k61 (w := .ref (vq v (b + 16))) rfl dX7_sketch_136 ?_
                      refine a_bipush C dX7_sketch_139 ?_
                      refine a_iload_n C dX7_sketch_141 3 rfl rfl ?_
                      refine a_imul C dX7_sketch_142 ?_
                      refine a_iload C dX7_sketch_143 0 rfl ?_
                      refine a_iadd C dX7_sketch_145 ?_
                      refine a_iald C hM.f16 hM.n16 0 hM.tI (by omega) (by omega) (by decide) dX7_sketch_146 (fun z146 e146 r146 => ?_)
                      try simp [sput_r, mset_n, sput, mset] at e146
                      rw [shR_i (σ (b + 16)) (40 * i1) k _ rfl] at e146
                      refine a_iadd C dX7_sketch_147 ?_
                      refine a_istore C [(4, vI (n1 + z146)), (5, vI k), (0, .ref (vq v b)), (1, vI i1), (2, vI w1), (3, vI 0)] dX7_sketch_148 (by decide) rfl ?_
                      refine a_iinc C (k + 1) [(5, vI (k + 1)), (4, vI (n1 + z146)), (0, .ref (vq v b)), (1, vI i1), (2, vI w1), (3, vI 0)] dX7_sketch_150 1 rfl (by omega) (by decide) rfl ?_
                      refine a_goto C 97 dX7_sketch_153 (by decide) ?_
                      refine ih _ (by omega) _ _ rfl (by omega) (fun q => by omega) (fun q => ?_) (fun q => ?_)
                      · have h9 := iv2 q; rw [smR_step (by omega)] at h9; (first | (exfalso; omega) | (rw [← e131] at h9; omega))
                      · have h9 := iv3 q; rw [smR_step (by omega)] at h9; (first | (exfalso; omega) | (rw [← e146] at h9; omega))
                    · skip
                      refine a_aload_n C dX7_sketch_120 2 rfl rfl ?_
                      refine a_getf C hM.f0 hM.n0 (Cn := RX7) (T := TX7) (N := 30) rfl iX7 19 (by decide) k64 (w := .ref (vq v (b + 17))) rfl dX7_sketch_121 ?_
                      refine a_bipush C dX7_sketch_124 ?_
                      refine a_iload_n C dX7_sketch_126 3 rfl rfl ?_
                      refine a_imul C dX7_sketch_127 ?_
                      refine a_iload C dX7_sketch_128 0 rfl ?_
                      refine a_iadd C dX7_sketch_130 ?_
                      refine a_iald C hM.f17 hM.n17 0 hM.tI (by omega) (by omega) (by decide) dX7_sketch_131 (fun z131 e131 r131 => ?_)
                      try simp [sput_r, mset_n, sput, mset] at e131
                      rw [shR_i (σ (b + 17)) (40 * i1) k _ rfl] at e131
                      refine a_goto C 147 dX7_sketch_132 (by decide) ?_
                      refine a_iadd C dX7_sketch_147 ?_
                      refine a_istore C [(4, vI (n1 + z131)), (5, vI k), (0, .ref (vq v b)), (1, vI i1), (2, vI w1), (3, vI 0)] dX7_sketch_148 (by decide) rfl ?_
                      refine a_iinc C (k + 1) [(5, vI (k + 1)), (4, vI (n1 + z131)), (0, .ref (vq v b)), (1, vI i1), (2, vI w1), (3, vI 0)] dX7_sketch_150 1 rfl (by omega) (by decide) rfl ?_
                      refine a_goto C 97 dX7_sketch_153 (by decide) ?_
                      refine ih _ (by omega) _ _ rfl (by omega) (fun q => by omega) (fun q => ?_) (fun q => ?_)
                      · have h9 := iv2 q; rw [smR_step (by omega)] at h9; (first | (exfalso; omega) | (rw [← e131] at h9; omega))
                      · have h9 := iv3 q; rw [smR_step (by omega)] at h9; (first | (exfalso; omega) | (rw [← e146] at h9; omega))
            have lpA : ∀ (n : Nat) (k n1 : Int) , (40 - k).toNat = n → 0 ≤ k ∧ k ≤ 40 → (w1 = 1 → n1 + smR (fun v => if (shR (σ (b + 14)) (40 * i1)) v = 0 then 0 else 1) k 40 = R) → (w1 ≠ 1 → n1 = 0) → At x v A Q 6 51 [(5, vI k), (4, vI n1), (0, .ref (vq v b)), (1, vI i1), (2, vI w1), (3, vI 0)] [] (sput σ b 0 0) := by
              intro n
              induction n using Nat.strongRecOn with
              | _ n ih =>
                intro k n1 hn iv1 iv2 iv3
                refine a_iload C dX7_sketch_51 0 rfl ?_
                refine a_bipush C dX7_sketch_53 ?_
                refine a_icmp_ge C 94 (by omega) (by decide) dX7_sketch_55 (by decide) (fun c55 => ?_) (fun c55 => ?_)
                · skip
                  refine a_iconst C dX7_sketch_94 ?_
                  refine a_istore C [(5, vI 0), (4, vI n1), (0, .ref (vq v b)), (1, vI i1), (2, vI w1), (3, vI 0)] dX7_sketch_95 (by decide) rfl ?_
                  refine lpB _ 0 n1 rfl (by omega) (fun q => by have h9 := iv2 q; rw [smR_nil (by omega)] at h9; omega) (fun q => by rw [iv3 (by omega), hR, if_neg (by omega), if_pos q]; omega) (fun q => by rw [iv3 (by omega), hR, if_neg (by omega), if_neg (by omega)]; omega)
                · skip
                  refine a_iload_n C dX7_sketch_58 4 rfl rfl ?_
                  refine a_iconst C dX7_sketch_59 ?_
                  refine a_icmp_ne C 94 (by omega) (by decide) dX7_sketch_60 (by decide) (fun c60 => ?_) (fun c60 => ?_)
                  · skip
                    refine a_iconst C dX7_sketch_94 ?_
                    refine a_istore C [(5, vI 0), (4, vI n1), (0, .ref (vq v b)), (1, vI i1), (2, vI w1), (3, vI 0)] dX7_sketch_95 (by decide) rfl ?_
                    refine lpB _ 0 n1 rfl (by omega) (fun q => by have h9 := iv2 q; rw [smR_nil (by omega)] at h9; omega) (fun q => by rw [iv3 (by omega), hR, if_neg (by omega), if_pos q]; omega) (fun q => by rw [iv3 (by omega), hR, if_neg (by omega), if_neg (by omega)]; omega)
                  · skip
                    refine a_iload C dX7_sketch_63 1 rfl ?_
                    refine a_aload_n C dX7_sketch_65 2 rfl rfl ?_
                    refine a_getf C hM.f0 hM.n0 (Cn := RX7) (T := TX7) (N := 30) rfl iX7 16 (by decide) k54 (w := .ref (vq v (b + 14))) rfl dX7_sketch_66 ?_
                    refine a_bipush C dX7_sketch_69 ?_
                    refine a_iload_n C dX7_sketch_71 3 rfl rfl ?_
                    refine a_imul C dX7_sketch_72 ?_
                    refine a_iload C dX7_sketch_73 0 rfl ?_
                    refine a_iadd C dX7_sketch_75 ?_
                    refine a_zald C hM.f14 hM.n14 2 hM.tB (by omega) (by omega) (by decide) dX7_sketch_76 (fun z76 e76 r76 => ?_)
                    try simp [sput_r, mset_n, sput, mset] at e76
                    rw [shR_i (σ (b + 14)) (40 * i1) k _ rfl] at e76
                    refine a_if_eq C 84 r76 dX7_sketch_77 (by decide) (fun c77 => ?_) (fun c77 => ?_)
                    · skip
                      refine a_iconst C dX7_sketch_84 ?_
                      refine a_iadd C dX7_sketch_85 ?_
                      refine a_istore C [(4, vI (n1 + 0)), (5, vI k), (0, .ref (vq v b)), (1, vI i1), (2, vI w1), (3, vI 0)] dX7_sketch_86 (by decide) rfl ?_
                      refine a_iinc C (k + 1) [(5, vI (k + 1)), (4, vI (n1 + 0)), (0, .ref (vq v b)), (1, vI i1), (2, vI w1), (3, vI 0)] dX7_sketch_88 1 rfl (by omega) (by decide) rfl ?_
                      refine a_goto C 51 dX7_sketch_91 (by decide) ?_
                      refine ih _ (by omega) _ _ rfl (by omega) (fun q => ?_) (fun q => by omega)
                      have h9 := iv2 q; rw [smR_step (by omega)] at h9; simp only [← e76] at h9; (first | rw [if_pos (by omega)] at h9 | rw [if_neg (by omega)] at h9); omega
                    · skip
                      refine a_iconst C dX7_sketch_80 ?_
                      refine a_goto C 85 dX7_sketch_81 (by decide) ?_
                      refine a_iadd C dX7_sketch_85 ?_
                      refine a_istore C [(4, vI (n1 + 1)), (5, vI k), (0, .ref (vq v b)), (1, vI i1), (2, vI w1), (3, vI 0)] dX7_sketch_86 (by decide) rfl ?_
                      refine a_iinc C (k + 1) [(5, vI (k + 1)), (4, vI (n1 + 1)), (0, .ref (vq v b)), (1, vI i1), (2, vI w1), (3, vI 0)] dX7_sketch_88 1 rfl (by omega) (by decide) rfl ?_
                      refine a_goto C 51 dX7_sketch_91 (by decide) ?_
                      refine ih _ (by omega) _ _ rfl (by omega) (fun q => ?_) (fun q => by omega)
                      have h9 := iv2 q; rw [smR_step (by omega)] at h9; simp only [← e76] at h9; (first | rw [if_pos (by omega)] at h9 | rw [if_neg (by omega)] at h9); omega
            refine a_sub [0, 1, 3, 4, 5, 2] [(5, vI 0), (4, vI 0), (0, .ref (vq v b)), (1, vI i1), (2, vI w1), (3, vI 0)] rfl ?_
            exact lpA _ 0 0 rfl (by omega) (fun q => by rw [g4, hR, if_pos q]; omega) (fun _ => rfl)
          · skip
            refine a_aload_n C dX7_sketch_41 2 rfl rfl ?_
            refine a_getf C hM.f0 hM.n0 (Cn := RX7) (T := TX7) (N := 30) rfl iX7 13 (by decide) k45 (w := .ref (vq v (b + 11))) rfl dX7_sketch_42 ?_
            refine a_iload_n C dX7_sketch_45 3 rfl rfl ?_
            refine a_iald C hM.f11 hM.n11 0 hM.tI (by omega) (by omega) (by decide) dX7_sketch_46 (fun z46 e46 r46 => ?_)
            try simp [sput_r, mset_n, sput, mset] at e46
            refine hret _ _ _ _ dX7_sketch_47 r46 ?_
            (repeat (first | rw [if_pos (by omega)] | rw [if_neg (by omega)]))
            exact ⟨by omega, rfl⟩
        · skip
          exfalso; omega
    · skip
      refine a_iconst C dX7_sketch_9 ?_
      refine a_goto C 18 dX7_sketch_10 (by decide) ?_
      refine a_istore_n C 3 [(3, vI 1), (0, .ref (vq v b)), (1, vI i1), (2, vI w1)] dX7_sketch_18 rfl (by decide) rfl ?_
      refine a_iload_n C dX7_sketch_19 0 rfl rfl ?_
      refine a_if_le C 29 (by decide) dX7_sketch_20 (by decide) (fun c20 => ?_) (fun c20 => ?_)
      · skip
        exfalso; omega
      · skip
        refine a_aload_n C dX7_sketch_23 1 rfl rfl ?_
        refine a_iload_n C dX7_sketch_24 0 rfl rfl ?_
        refine a_cVI C (k0 := 1) (As := [vI 1]) (rest := []) (c_X7_refuse x.2.1 v σ b hM 1 (by omega)) gX7_sketch_X7_refuse rfl (by decide +kernel) (by decide) hM.f0 rfl hM.n0 rfl rfl (Nat.le_of_ble_eq_true rfl) dX7_sketch_25 (fun z25 u25 r25 p25 => ?_)
        obtain ⟨e25, p25⟩ := p25
        subst u25
        refine hret _ _ _ _ dX7_sketch_28 r25 ?_
        (repeat (first | rw [if_pos (by omega)] | rw [if_neg (by omega)]))
        exact ⟨by omega, rfl⟩
