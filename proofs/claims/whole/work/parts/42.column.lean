theorem bm8 (x : Int) : -128 ≤ x.bmod 256 ∧ x.bmod 256 ≤ 127 := by simp only [Int.bmod_def]; split <;> omega
theorem bm16 (x : Int) : -32768 ≤ x.bmod 65536 ∧ x.bmod 65536 ≤ 32767 := by simp only [Int.bmod_def]; split <;> omega
theorem bm32 (x : Int) : -2147483648 ≤ x.bmod 4294967296 ∧ x.bmod 4294967296 ≤ 2147483647 := by simp only [Int.bmod_def]; split <;> omega
/-- a number cut to a sort -/
def fitI (sort x : Int) : Int := if sort = 0 then x.bmod 256 else if sort = 1 then x.bmod 65536 else if sort = 2 then x.bmod 4294967296 else x
theorem skW_rows {σ τ : Mem} {b : Nat} (h0 : τ b = σ b) (h1 : τ (b + 1) = σ (b + 1)) (h : skW σ b) : skW τ b := by unfold skW at *; rw [h0, h1]; exact h
theorem skB_rows {σ τ : Mem} {b : Nat} (h0 : τ b = σ b) (h2 : τ (b + 2) = σ (b + 2)) (h3 : τ (b + 3) = σ (b + 3)) (h5 : τ (b + 5) = σ (b + 5)) (h : skB σ b) : skB τ b := by unfold skB at *; rw [h0, h2, h3, h5]; exact h
theorem smW_row {σ τ : Mem} {s : Nat} {M : Int} (h0 : τ s = σ s) (h : smW σ s M) : smW τ s M := by unfold smW at *; rw [h0]; exact h
/-- so many rows of a value more in a column at c, or less -/
def chM (σ : Mem) (c : Nat) (val m : Int) : Mem :=
  if 0 ≤ val ∧ val ≤ 39 then shM (sput (sput σ (c + 1) val (σ (c + 1) val + m)) c 3 (σ c 3 + m)) (c + 2) val m else sput σ c 4 (σ c 4 + m)
/-- a column's numbers are sound -/
def coW (σ : Mem) (c : Nat) : Prop := (∀ j : Int, 0 ≤ j → j < 40 → 0 ≤ σ (c + 1) j ∧ σ (c + 1) j ≤ 10000) ∧ (0 ≤ σ c 3 ∧ σ c 3 ≤ 10000) ∧ (0 ≤ σ c 4 ∧ σ c 4 ≤ 10000) ∧ skW σ (c + 2) ∧ skB σ (c + 2) ∧ (0 ≤ σ (c + 2) 6 ∧ σ (c + 2) 6 ≤ 1000000) ∧ smW σ (c + 8) 999999000
set_option maxHeartbeats 4000000 in
set_option maxRecDepth 100000 in
theorem c_X5_lay (l : Launch) (v : VC) (σ : Mem) (b : Nat) (hS : shTr v b) (s1 m1 : Int) (h1 : rg s1) (h2 : rg m1) : CtV l yX5_lay wsX5_lay 1 24 v [.ref (vq v b), vI s1, vI m1] σ (fun u => (∀ a : Nat, a ≠ b + 1 → u a = sput (sput (sput σ b 1 1) b 2 s1) b 3 m1 a) ∧ (∀ j : Int, 0 ≤ j → j < 100 → u (b + 1) (100000 + j) = 0)) := by
  refine mkV (cc := cX5_lay) (n := 3) (by decide +kernel) rfl (Nat.le_of_ble_eq_true rfl) (fun x A Q hx C hret => ?_)
  subst hx
  show At x v A Q _ 0 [(0, .ref (vq v b)), (1, vI s1), (2, vI m1)] [] σ
  have iX5 : ∀ w ∈ wsX50, w ∈ wsX5_lay := by decide +kernel
  have k15 : Cond.fieldLink RX5 15 (TX5 1).1 (TX5 1).2.1 (TX5 1).2.2.1 ∈ wsX5_lay := by decide +kernel
  have k19 : Cond.fieldLink RX5 19 (TX5 2).1 (TX5 2).2.1 (TX5 2).2.2.1 ∈ wsX5_lay := by decide +kernel
  have k23 : Cond.fieldLink RX5 23 (TX5 3).1 (TX5 3).2.1 (TX5 3).2.2.1 ∈ wsX5_lay := by decide +kernel
  have k9 : Cond.fieldLink RX5 9 (TX5 0).1 (TX5 0).2.1 (TX5 0).2.2.1 ∈ wsX5_lay := by decide +kernel
  refine a_aload_n C dX5_lay_0 0 rfl rfl ?_
  refine a_iconst C dX5_lay_1 ?_
  refine a_putz C hS.f0 hS.n0 (Cn := RX5) (T := TX5) (N := 4) rfl iX5 tyX5_ok nmX5 1 (by decide) k15 rfl rfl 1 (by omega) (fun _ => Nat.le_of_ble_eq_true rfl) (fun _ => rfl) dX5_lay_2 ?_
  refine a_aload_n C dX5_lay_5 0 rfl rfl ?_
  refine a_iload_n C dX5_lay_6 1 rfl rfl ?_
  refine a_puti C hS.f0 hS.n0 (Cn := RX5) (T := TX5) (N := 4) rfl iX5 tyX5_ok nmX5 2 (by decide) k19 rfl rfl 2 (by omega) (fun _ => Nat.le_of_ble_eq_true rfl) (fun _ => rfl) dX5_lay_7 ?_
  refine a_aload_n C dX5_lay_10 0 rfl rfl ?_
  refine a_iload_n C dX5_lay_11 2 rfl rfl ?_
  refine a_puti C hS.f0 hS.n0 (Cn := RX5) (T := TX5) (N := 4) rfl iX5 tyX5_ok nmX5 3 (by decide) k23 rfl rfl 3 (by omega) (fun _ => Nat.le_of_ble_eq_true rfl) (fun _ => rfl) dX5_lay_12 ?_
  refine a_aload_n C dX5_lay_15 0 rfl rfl ?_
  refine a_getf C hS.f0 hS.n0 (Cn := RX5) (T := TX5) (N := 4) rfl iX5 0 (by decide) k9 (w := .ref (vq v (b + 1))) rfl dX5_lay_16 ?_
  refine a_lconst C 0 dX5_lay_19 rfl ?_
  refine a_cSV C (k0 := 2) (As := [.ref (vq v (b + 1)), vJ 0]) (rest := []) (c_J7_fill_d0a16 x.2.1 v (sput (sput (sput σ b 1 1) b 2 s1) b 3 m1) (b + 1) 100 hS.f1 hS.n1 hS.tL 0 (by decide) (by first | decide | omega)) gX5_lay_J7_fill_d0a16 rfl (by decide +kernel) (by decide) rfl rfl (Nat.le_of_ble_eq_true rfl) dX5_lay_20 (fun u20 p20 => ?_)
  exact hret _ _ _ dX5_lay_23 ⟨fun a q => p20.1 a q, p20.2.1⟩
set_option maxHeartbeats 4000000 in
set_option maxRecDepth 100000 in
theorem c_X5_has (l : Launch) (v : VC) (σ : Mem) (b : Nat) (hS : shTr v b) (p1 m1 : Int) (h1 : rg p1) (h2 : rg m1) (hs : 0 ≤ σ b 3 ∧ σ b 3 ≤ 100) : CtI l yX5_has wsX5_has 0 0 v [.ref (vq v b), vI p1, vI m1] σ (fun z u => z = (if 0 ≤ p1 ∧ 0 ≤ m1 ∧ p1 ≤ σ b 3 - m1 then 1 else 0) ∧ u = σ) := by
  refine mkZ (cc := cX5_has) (n := 3) (by decide +kernel) rfl (Nat.le_of_ble_eq_true rfl) (fun x A Q hx C hret => ?_)
  subst hx
  show At x v A Q _ 0 [(0, .ref (vq v b)), (1, vI p1), (2, vI m1)] [] σ
  have iX5 : ∀ w ∈ wsX50, w ∈ wsX5_has := by decide +kernel
  have k23 : Cond.fieldLink RX5 23 (TX5 3).1 (TX5 3).2.1 (TX5 3).2.2.1 ∈ wsX5_has := by decide +kernel
  refine a_iload_n C dX5_has_0 1 rfl rfl ?_
  refine a_if_lt C 22 (by omega) dX5_has_1 (by decide) (fun c1 => ?_) (fun c1 => ?_)
  · skip
    refine a_iconst C dX5_has_22 ?_
    exact hret _ _ _ _ dX5_has_23 (by decide) ⟨by (first | rw [if_pos (by omega)] | rw [if_neg (by omega)]), rfl⟩
  · skip
    refine a_iload_n C dX5_has_4 2 rfl rfl ?_
    refine a_if_lt C 22 (by omega) dX5_has_5 (by decide) (fun c5 => ?_) (fun c5 => ?_)
    · skip
      refine a_iconst C dX5_has_22 ?_
      exact hret _ _ _ _ dX5_has_23 (by decide) ⟨by (first | rw [if_pos (by omega)] | rw [if_neg (by omega)]), rfl⟩
    · skip
      refine a_iload_n C dX5_has_8 1 rfl rfl ?_
      refine a_aload_n C dX5_has_9 0 rfl rfl ?_
      refine a_geti C hS.f0 hS.n0 (Cn := RX5) (T := TX5) (N := 4) rfl iX5 3 (by decide) k23 3 (by decide) rfl dX5_has_10 (fun z10 e10 r10 => ?_)
      refine a_iload_n C dX5_has_13 2 rfl rfl ?_
      refine a_isub C dX5_has_14 ?_
      refine a_icmp_gt C 22 (by omega) (by omega) dX5_has_15 (by decide) (fun c15 => ?_) (fun c15 => ?_)
      · skip
        refine a_iconst C dX5_has_22 ?_
        exact hret _ _ _ _ dX5_has_23 (by decide) ⟨by (first | rw [if_pos (by omega)] | rw [if_neg (by omega)]), rfl⟩
      · skip
        refine a_iconst C dX5_has_18 ?_
        refine a_goto C 23 dX5_has_19 (by decide) ?_
        exact hret _ _ _ _ dX5_has_23 (by decide) ⟨by (first | rw [if_pos (by omega)] | rw [if_neg (by omega)]), rfl⟩
set_option maxHeartbeats 4000000 in
set_option maxRecDepth 100000 in
theorem c_X5_fitted (l : Launch) (v : VC) (σ : Mem) (b : Nat) (hS : shTr v b) (x1 : Int) (hx : rgL x1) (hs : 0 ≤ σ b 2 ∧ σ b 2 ≤ 3) : CtL l yX5_fitted wsX5_fitted 0 0 v [.ref (vq v b), vJ x1] σ (fun z u => z = fitI (σ b 2) x1 ∧ u = σ) := by
  refine mkL (cc := cX5_fitted) (n := 3) (by decide +kernel) rfl (Nat.le_of_ble_eq_true rfl) (fun x A Q hx C hret => ?_)
  subst hx
  show At x v A Q _ 0 [(0, .ref (vq v b)), (1, vJ x1)] [] σ
  have iX5 : ∀ w ∈ wsX50, w ∈ wsX5_fitted := by decide +kernel
  have k19 : Cond.fieldLink RX5 19 (TX5 2).1 (TX5 2).2.1 (TX5 2).2.2.1 ∈ wsX5_fitted := by decide +kernel
  have w8 := bm8 x1
  have w16 := bm16 x1
  refine a_aload_n C dX5_fitted_0 0 rfl rfl ?_
  refine a_geti C hS.f0 hS.n0 (Cn := RX5) (T := TX5) (N := 4) rfl iX5 2 (by decide) k19 2 (by decide) rfl dX5_fitted_1 (fun z1 e1 r1 => ?_)
  have q4 : z1 = 0 ∨ z1 = 1 ∨ z1 = 2 ∨ z1 < 0 ∨ 2 < z1 := by omega
  rcases q4 with h4 | h4 | h4 | h4
  · skip
    refine a_tsIn C 32 r1 dX5_fitted_4 (by omega) (by omega) (off := 28) (by rw [h4]; rfl) (by decide) ?_
    refine a_lload_n C dX5_fitted_32 1 rfl rfl ?_
    refine a_l2i C dX5_fitted_33 ?_
    refine a_i2b C dX5_fitted_34 ?_
    refine a_i2l C (by omega) dX5_fitted_35 ?_
    exact hret _ _ _ _ dX5_fitted_36 (by omega) ⟨by unfold fitI; (first | rw [if_pos (by omega)] | (rw [if_neg (by omega)]; (first | rw [if_pos (by omega)] | (rw [if_neg (by omega)]; (first | rw [if_pos (by omega)] | rw [if_neg (by omega)]))))), rfl⟩
  · skip
    refine a_tsIn C 37 r1 dX5_fitted_4 (by omega) (by omega) (off := 33) (by rw [h4]; rfl) (by decide) ?_
    refine a_lload_n C dX5_fitted_37 1 rfl rfl ?_
    refine a_l2i C dX5_fitted_38 ?_
    refine a_i2s C dX5_fitted_39 ?_
    refine a_i2l C (by omega) dX5_fitted_40 ?_
    exact hret _ _ _ _ dX5_fitted_41 (by omega) ⟨by unfold fitI; (first | rw [if_pos (by omega)] | (rw [if_neg (by omega)]; (first | rw [if_pos (by omega)] | (rw [if_neg (by omega)]; (first | rw [if_pos (by omega)] | rw [if_neg (by omega)]))))), rfl⟩
  · skip
    refine a_tsIn C 42 r1 dX5_fitted_4 (by omega) (by omega) (off := 38) (by rw [h4]; rfl) (by decide) ?_
    refine a_lload_n C dX5_fitted_42 1 rfl rfl ?_
    refine a_l2i C dX5_fitted_43 ?_
    refine a_wrap ?_
    have w32 := bm32 x1
    refine a_i2l C (by omega) dX5_fitted_44 ?_
    exact hret _ _ _ _ dX5_fitted_45 (by omega) ⟨by unfold fitI; (first | rw [if_pos (by omega)] | (rw [if_neg (by omega)]; (first | rw [if_pos (by omega)] | (rw [if_neg (by omega)]; (first | rw [if_pos (by omega)] | rw [if_neg (by omega)]))))), rfl⟩
  · skip
    refine a_tsOut C 46 r1 dX5_fitted_4 h4 (by decide) ?_
    refine a_lload_n C dX5_fitted_46 1 rfl rfl ?_
    exact hret _ _ _ _ dX5_fitted_47 (by omega) ⟨by unfold fitI; (first | rw [if_pos (by omega)] | (rw [if_neg (by omega)]; (first | rw [if_pos (by omega)] | (rw [if_neg (by omega)]; (first | rw [if_pos (by omega)] | rw [if_neg (by omega)]))))), rfl⟩
set_option maxHeartbeats 4000000 in
set_option maxRecDepth 100000 in
theorem c_X5_holdsRowsAlone (l : Launch) (v : VC) (σ : Mem) (b : Nat) (hS : shTr v b) (hs : 0 ≤ σ b 3 ∧ σ b 3 ≤ 100) : CtI l yX5_holdsRowsAlone wsX5_holdsRowsAlone 2 46 v [.ref (vq v b)] σ (fun z u => ((z = 1 ∧ (∀ j : Int, 0 ≤ j → j < σ b 3 → -1 ≤ σ (b + 1) (100000 + j) ∧ σ (b + 1) (100000 + j) ≤ 39)) ∨ (z = 0 ∧ ¬ (∀ j : Int, 0 ≤ j → j < σ b 3 → -1 ≤ σ (b + 1) (100000 + j) ∧ σ (b + 1) (100000 + j) ≤ 39))) ∧ u = σ) := by
  refine mkZ (cc := cX5_holdsRowsAlone) (n := 2) (by decide +kernel) rfl (Nat.le_of_ble_eq_true rfl) (fun x A Q hx C hret => ?_)
  subst hx
  show At x v A Q _ 0 [(0, .ref (vq v b))] [] σ
  have iX5 : ∀ w ∈ wsX50, w ∈ wsX5_holdsRowsAlone := by decide +kernel
  have k23 : Cond.fieldLink RX5 23 (TX5 3).1 (TX5 3).2.1 (TX5 3).2.2.1 ∈ wsX5_holdsRowsAlone := by decide +kernel
  have k9 : Cond.fieldLink RX5 9 (TX5 0).1 (TX5 0).2.1 (TX5 0).2.2.1 ∈ wsX5_holdsRowsAlone := by decide +kernel
  have lp : ∀ (n : Nat) (k : Int) , (100 - k).toNat = n → 0 ≤ k ∧ k ≤ σ b 3 → (∀ j : Int, 0 ≤ j → j < k → -1 ≤ σ (b + 1) (100000 + j) ∧ σ (b + 1) (100000 + j) ≤ 39) → At x v A Q 2 2 [(1, vI k), (0, .ref (vq v b))] [] σ := by
    intro n
    induction n using Nat.strongRecOn with
    | _ n ih =>
      intro k hn i1 iA
      refine a_iload_n C dX5_holdsRowsAlone_2 0 rfl rfl ?_
      refine a_aload_n C dX5_holdsRowsAlone_3 1 rfl rfl ?_
      refine a_geti C hS.f0 hS.n0 (Cn := RX5) (T := TX5) (N := 4) rfl iX5 3 (by decide) k23 3 (by decide) rfl dX5_holdsRowsAlone_4 (fun z4 e4 r4 => ?_)
      refine a_icmp_ge C 30 (by omega) r4 dX5_holdsRowsAlone_7 (by decide) (fun c7 => ?_) (fun c7 => ?_)
      · skip
        refine a_iconst C dX5_holdsRowsAlone_30 ?_
        exact hret _ _ _ _ dX5_holdsRowsAlone_31 (by decide) ⟨Or.inl ⟨rfl, fun j q1 q2 => iA j q1 (by omega)⟩, rfl⟩
      · skip
        refine a_aload_n C dX5_holdsRowsAlone_10 1 rfl rfl ?_
        refine a_getf C hS.f0 hS.n0 (Cn := RX5) (T := TX5) (N := 4) rfl iX5 0 (by decide) k9 (w := .ref (vq v (b + 1))) rfl dX5_holdsRowsAlone_11 ?_
        refine a_iload_n C dX5_holdsRowsAlone_14 0 rfl rfl ?_
        refine a_lald C hS.f1 hS.n1 1 hS.tL (by omega) (by omega) (by decide) dX5_holdsRowsAlone_15 (fun z15 e15 r15 => ?_)
        refine a_cNI C (k0 := 1) (As := [vJ z15]) (rest := []) (c_X6_isValueOrNone x.2.1 v σ z15 r15) gX5_holdsRowsAlone_X6_isValueOrNone_n32 rfl (host := "SpanSketch") (fun _ q => q.2) (by decide +kernel) (by decide +kernel) (by decide +kernel) (by decide) rfl rfl (Nat.le_of_ble_eq_true rfl) dX5_holdsRowsAlone_16 (fun z16 u16 r16 p16 => ?_)
        obtain ⟨e16, p16⟩ := p16
        subst u16
        have q16 : (z16 = 1 ∧ -1 ≤ z15 ∧ z15 ≤ 39) ∨ (z16 = 0 ∧ ¬ (-1 ≤ z15 ∧ z15 ≤ 39)) := by rw [e16]; split <;> omega
        refine a_if_ne C 24 r16 dX5_holdsRowsAlone_19 (by decide) (fun c19 => ?_) (fun c19 => ?_)
        · skip
          refine a_iinc C (k + 1) [(1, vI (k + 1)), (0, .ref (vq v b))] dX5_holdsRowsAlone_24 0 rfl (by omega) (by decide) rfl ?_
          refine a_goto C 2 dX5_holdsRowsAlone_27 (by decide) ?_
          refine ih _ (by omega) _ rfl (by omega) (fun j q1 q2 => ?_)
          by_cases hj : j = k
          · subst hj; omega
          · exact iA j q1 (by omega)
        · skip
          refine a_iconst C dX5_holdsRowsAlone_22 ?_
          exact hret _ _ _ _ dX5_holdsRowsAlone_23 (by decide) ⟨Or.inr ⟨rfl, fun q => by have := q k i1.1 (by omega); omega⟩, rfl⟩
  refine a_iconst C dX5_holdsRowsAlone_0 ?_
  refine a_istore_n C 1 [(1, vI 0), (0, .ref (vq v b))] dX5_holdsRowsAlone_1 rfl (by decide) rfl ?_
  exact lp _ 0 rfl (by omega) (fun j q1 q2 => by omega)
set_option maxHeartbeats 4000000 in
set_option maxRecDepth 100000 in
theorem c_X0_allRows (l : Launch) (v : VC) (σ : Mem) (b : Nat) (hS : shCo v b) (h3 : 0 ≤ σ b 3 ∧ σ b 3 ≤ 10000) (h4 : 0 ≤ σ b 4 ∧ σ b 4 ≤ 10000) : CtI l yX0_allRows wsX0_allRows 0 0 v [.ref (vq v b)] σ (fun z u => z = σ b 3 + σ b 4 ∧ u = σ) := by
  refine mkI (cc := cX0_allRows) (n := 1) (by decide +kernel) rfl (Nat.le_of_ble_eq_true rfl) (fun x A Q hx C hret => ?_)
  subst hx
  show At x v A Q _ 0 [(0, .ref (vq v b))] [] σ
  have iX0 : ∀ w ∈ wsX00, w ∈ wsX0_allRows := by decide +kernel
  have k29 : Cond.fieldLink RX0 29 (TX0 3).1 (TX0 3).2.1 (TX0 3).2.2.1 ∈ wsX0_allRows := by decide +kernel
  have k33 : Cond.fieldLink RX0 33 (TX0 4).1 (TX0 4).2.1 (TX0 4).2.2.1 ∈ wsX0_allRows := by decide +kernel
  refine a_aload_n C dX0_allRows_0 0 rfl rfl ?_
  refine a_geti C hS.f0 hS.n0 (Cn := RX0) (T := TX0) (N := 5) rfl iX0 3 (by decide) k29 3 (by decide) rfl dX0_allRows_1 (fun z1 e1 r1 => ?_)
  refine a_aload_n C dX0_allRows_4 0 rfl rfl ?_
  refine a_geti C hS.f0 hS.n0 (Cn := RX0) (T := TX0) (N := 5) rfl iX0 4 (by decide) k33 4 (by decide) rfl dX0_allRows_5 (fun z5 e5 r5 => ?_)
  refine a_iadd C dX0_allRows_8 ?_
  exact hret _ _ _ _ dX0_allRows_9 (by omega) ⟨by omega, rfl⟩
set_option maxHeartbeats 4000000 in
set_option maxRecDepth 100000 in
theorem c_X0_hasRoom (l : Launch) (v : VC) (σ : Mem) (b : Nat) (hS : shCo v b) (m1 : Int) (hm : rg m1) (h3 : 0 ≤ σ b 3 ∧ σ b 3 ≤ 10000) (h4 : 0 ≤ σ b 4 ∧ σ b 4 ≤ 10000) : CtI l yX0_hasRoom wsX0_hasRoom 1 20 v [.ref (vq v b), vI m1] σ (fun z u => z = (if m1 ≤ 10000 - (σ b 3 + σ b 4) then 1 else 0) ∧ u = σ) := by
  refine mkZ (cc := cX0_hasRoom) (n := 2) (by decide +kernel) rfl (Nat.le_of_ble_eq_true rfl) (fun x A Q hx C hret => ?_)
  subst hx
  show At x v A Q _ 0 [(0, .ref (vq v b)), (1, vI m1)] [] σ
  refine a_iload_n C dX0_hasRoom_0 1 rfl rfl ?_
  refine a_sipush C dX0_hasRoom_1 ?_
  refine a_aload_n C dX0_hasRoom_4 0 rfl rfl ?_
  refine a_cVI C (k0 := 0) (As := []) (rest := [vI 10000, vI m1]) (c_X0_allRows x.2.1 v σ b hS h3 h4) gX0_hasRoom_X0_allRows rfl (by decide +kernel) (by decide) hS.f0 rfl hS.n0 rfl rfl (Nat.le_of_ble_eq_true rfl) dX0_hasRoom_5 (fun z5 u5 r5 p5 => ?_)
  obtain ⟨e5, p5⟩ := p5
  subst u5
  refine a_isub C dX0_hasRoom_8 ?_
  refine a_icmp_gt C 16 (by omega) (by omega) dX0_hasRoom_9 (by decide) (fun c9 => ?_) (fun c9 => ?_)
  · skip
    refine a_iconst C dX0_hasRoom_16 ?_
    exact hret _ _ _ _ dX0_hasRoom_17 (by decide) ⟨by (first | rw [if_pos (by omega)] | rw [if_neg (by omega)]), rfl⟩
  · skip
    refine a_iconst C dX0_hasRoom_12 ?_
    refine a_goto C 17 dX0_hasRoom_13 (by decide) ?_
    exact hret _ _ _ _ dX0_hasRoom_17 (by decide) ⟨by (first | rw [if_pos (by omega)] | rw [if_neg (by omega)]), rfl⟩
set_option maxHeartbeats 4000000 in
set_option maxRecDepth 100000 in
theorem c_X0_trueCount (l : Launch) (v : VC) (σ : Mem) (b : Nat) (hS : shCo v b) (val : Int) (hv : rg val) : CtI l yX0_trueCount wsX0_trueCount 2 45 v [.ref (vq v b), vI val] σ (fun z u => z = (if 0 ≤ val ∧ val ≤ 39 then σ (b + 1) val else σ b 4) ∧ u = σ) := by
  refine mkI (cc := cX0_trueCount) (n := 2) (by decide +kernel) rfl (Nat.le_of_ble_eq_true rfl) (fun x A Q hx C hret => ?_)
  subst hx
  show At x v A Q _ 0 [(0, .ref (vq v b)), (1, vI val)] [] σ
  have iX0 : ∀ w ∈ wsX00, w ∈ wsX0_trueCount := by decide +kernel
  have k33 : Cond.fieldLink RX0 33 (TX0 4).1 (TX0 4).2.1 (TX0 4).2.2.1 ∈ wsX0_trueCount := by decide +kernel
  have k9 : Cond.fieldLink RX0 9 (TX0 0).1 (TX0 0).2.1 (TX0 0).2.2.1 ∈ wsX0_trueCount := by decide +kernel
  refine a_iload_n C dX0_trueCount_0 1 rfl rfl ?_
  refine a_cNI C (k0 := 1) (As := [vI val]) (rest := []) (c_X6_isValue x.2.1 v σ val (by omega)) gX0_trueCount_X6_isValue_n40 rfl (host := "SpanSketch") (fun _ q => q.1) (by decide +kernel) (by decide +kernel) (by decide +kernel) (by decide) rfl rfl (Nat.le_of_ble_eq_true rfl) dX0_trueCount_1 (fun z1 u1 r1 p1 => ?_)
  obtain ⟨e1, p1⟩ := p1
  subst u1
  have q1 : (z1 = 1 ∧ 0 ≤ val ∧ val ≤ 39) ∨ (z1 = 0 ∧ ¬ (0 ≤ val ∧ val ≤ 39)) := by rw [e1]; split <;> omega
  refine a_if_eq C 16 r1 dX0_trueCount_4 (by decide) (fun c4 => ?_) (fun c4 => ?_)
  · skip
    refine a_aload_n C dX0_trueCount_16 0 rfl rfl ?_
    refine a_geti C hS.f0 hS.n0 (Cn := RX0) (T := TX0) (N := 5) rfl iX0 4 (by decide) k33 4 (by decide) rfl dX0_trueCount_17 (fun z17 e17 r17 => ?_)
    exact hret _ _ _ _ dX0_trueCount_20 r17 ⟨by (first | rw [if_pos (by omega), e12] | rw [if_neg (by omega), e17]), rfl⟩
  · skip
    refine a_aload_n C dX0_trueCount_7 0 rfl rfl ?_
    refine a_getf C hS.f0 hS.n0 (Cn := RX0) (T := TX0) (N := 5) rfl iX0 0 (by decide) k9 (w := .ref (vq v (b + 1))) rfl dX0_trueCount_8 ?_
    refine a_iload_n C dX0_trueCount_11 1 rfl rfl ?_
    refine a_iald C hS.f1 hS.n1 0 hS.tI (by omega) (by omega) (by decide) dX0_trueCount_12 (fun z12 e12 r12 => ?_)
    refine a_goto C 20 dX0_trueCount_13 (by decide) ?_
    exact hret _ _ _ _ dX0_trueCount_20 r12 ⟨by (first | rw [if_pos (by omega), e12] | rw [if_neg (by omega), e17]), rfl⟩
set_option maxHeartbeats 4000000 in
set_option maxRecDepth 100000 in
theorem c_X0_valuesWithRows (l : Launch) (v : VC) (σ : Mem) (b : Nat) (hS : shCo v b)  : CtI l yX0_valuesWithRows wsX0_valuesWithRows 0 0 v [.ref (vq v b)] σ (fun z u => z = smR (fun v => if 0 < σ (b + 1) v then 1 else 0) 0 40 ∧ u = σ) := by
  refine mkI (cc := cX0_valuesWithRows) (n := 3) (by decide +kernel) rfl (Nat.le_of_ble_eq_true rfl) (fun x A Q hx C hret => ?_)
  subst hx
  show At x v A Q _ 0 [(0, .ref (vq v b))] [] σ
  have iX0 : ∀ w ∈ wsX00, w ∈ wsX0_valuesWithRows := by decide +kernel
  have k9 : Cond.fieldLink RX0 9 (TX0 0).1 (TX0 0).2.1 (TX0 0).2.2.1 ∈ wsX0_valuesWithRows := by decide +kernel
  have lp : ∀ (n : Nat) (k m : Int) , (40 - k).toNat = n → 0 ≤ k ∧ k ≤ 40 → (0 ≤ m ∧ m ≤ k) → m + smR (fun v => if 0 < σ (b + 1) v then 1 else 0) k 40 = smR (fun v => if 0 < σ (b + 1) v then 1 else 0) 0 40 → At x v A Q 3 4 [(2, vI k), (1, vI m), (0, .ref (vq v b))] [] σ := by
    intro n
    induction n using Nat.strongRecOn with
    | _ n ih =>
      intro k m hn i1 i2 iS
      refine a_iload_n C dX0_valuesWithRows_4 0 rfl rfl ?_
      refine a_bipush C dX0_valuesWithRows_5 ?_
      refine a_icmp_ge C 28 (by omega) (by decide) dX0_valuesWithRows_7 (by decide) (fun c7 => ?_) (fun c7 => ?_)
      · skip
        refine a_iload_n C dX0_valuesWithRows_28 1 rfl rfl ?_
        exact hret _ _ _ _ dX0_valuesWithRows_29 (by omega) ⟨by rw [← iS, smR_nil (by omega)]; omega, rfl⟩
      · skip
        refine a_aload_n C dX0_valuesWithRows_10 2 rfl rfl ?_
        refine a_getf C hS.f0 hS.n0 (Cn := RX0) (T := TX0) (N := 5) rfl iX0 0 (by decide) k9 (w := .ref (vq v (b + 1))) rfl dX0_valuesWithRows_11 ?_
        refine a_iload_n C dX0_valuesWithRows_14 0 rfl rfl ?_
        refine a_iald C hS.f1 hS.n1 0 hS.tI (by omega) (by omega) (by decide) dX0_valuesWithRows_15 (fun z15 e15 r15 => ?_)
        refine a_if_le C 22 r15 dX0_valuesWithRows_16 (by decide) (fun c16 => ?_) (fun c16 => ?_)
        · skip
          refine a_iinc C (k + 1) [(2, vI (k + 1)), (1, vI m), (0, .ref (vq v b))] dX0_valuesWithRows_22 0 rfl (by omega) (by decide) rfl ?_
          refine a_goto C 4 dX0_valuesWithRows_25 (by decide) ?_
          refine ih _ (by omega) _ _ rfl (by omega) (by omega) ?_
          rw [smR_step (by omega)] at iS
          simp only [← e15] at iS
          (first | rw [if_pos (by omega)] at iS | rw [if_neg (by omega)] at iS)
          omega
        · skip
          refine a_iinc C (m + 1) [(1, vI (m + 1)), (2, vI k), (0, .ref (vq v b))] dX0_valuesWithRows_19 1 rfl (by omega) (by decide) rfl ?_
          refine a_iinc C (k + 1) [(2, vI (k + 1)), (1, vI (m + 1)), (0, .ref (vq v b))] dX0_valuesWithRows_22 1 rfl (by omega) (by decide) rfl ?_
          refine a_goto C 4 dX0_valuesWithRows_25 (by decide) ?_
          refine ih _ (by omega) _ _ rfl (by omega) (by omega) ?_
          rw [smR_step (by omega)] at iS
          simp only [← e15] at iS
          (first | rw [if_pos (by omega)] at iS | rw [if_neg (by omega)] at iS)
          omega
  refine a_iconst C dX0_valuesWithRows_0 ?_
  refine a_istore_n C 1 [(1, vI 0), (0, .ref (vq v b))] dX0_valuesWithRows_1 rfl (by decide) rfl ?_
  refine a_iconst C dX0_valuesWithRows_2 ?_
  refine a_istore_n C 2 [(2, vI 0), (1, vI 0), (0, .ref (vq v b))] dX0_valuesWithRows_3 rfl (by decide) rfl ?_
  exact lp _ 0 0 rfl (by omega) (by omega) (by omega)
set_option maxHeartbeats 4000000 in
set_option maxRecDepth 100000 in
theorem c_X0_change (l : Launch) (v : VC) (σ : Mem) (b : Nat) (hS : shCo v b) (val m : Int) (hv : rg val) (hm : -1000 ≤ m ∧ m ≤ 1000) (hco : coW σ b) : CtV l yX0_change wsX0_change 2 45 v [.ref (vq v b), vI val, vI m] σ (fun u => u = chM σ b val m) := by
  refine mkV (cc := cX0_change) (n := 3) (by decide +kernel) rfl (Nat.le_of_ble_eq_true rfl) (fun x A Q hx C hret => ?_)
  subst hx
  show At x v A Q _ 0 [(0, .ref (vq v b)), (1, vI val), (2, vI m)] [] σ
  have iX0 : ∀ w ∈ wsX00, w ∈ wsX0_change := by decide +kernel
  have k9 : Cond.fieldLink RX0 9 (TX0 0).1 (TX0 0).2.1 (TX0 0).2.2.1 ∈ wsX0_change := by decide +kernel
  have k29 : Cond.fieldLink RX0 29 (TX0 3).1 (TX0 3).2.1 (TX0 3).2.2.1 ∈ wsX0_change := by decide +kernel
  have k18 : Cond.fieldLink RX0 18 (TX0 1).1 (TX0 1).2.1 (TX0 1).2.2.1 ∈ wsX0_change := by decide +kernel
  have k33 : Cond.fieldLink RX0 33 (TX0 4).1 (TX0 4).2.1 (TX0 4).2.2.1 ∈ wsX0_change := by decide +kernel
  obtain ⟨hT, h3, h4, hW, hB, hdr, -⟩ := hco
  refine a_iload_n C dX0_change_0 1 rfl rfl ?_
  refine a_cNI C (k0 := 1) (As := [vI val]) (rest := []) (c_X6_isValue x.2.1 v σ val (by omega)) gX0_change_X6_isValue_n40 rfl (host := "SpanSketch") (fun _ q => q.1) (by decide +kernel) (by decide +kernel) (by decide +kernel) (by decide) rfl rfl (Nat.le_of_ble_eq_true rfl) dX0_change_1 (fun z1 u1 r1 p1 => ?_)
  obtain ⟨e1, p1⟩ := p1
  subst u1
  have q1 : (z1 = 1 ∧ 0 ≤ val ∧ val ≤ 39) ∨ (z1 = 0 ∧ ¬ (0 ≤ val ∧ val ≤ 39)) := by rw [e1]; split <;> omega
  refine a_if_ne C 18 r1 dX0_change_4 (by decide) (fun c4 => ?_) (fun c4 => ?_)
  · skip
    refine a_aload_n C dX0_change_18 0 rfl rfl ?_
    refine a_getf C hS.f0 hS.n0 (Cn := RX0) (T := TX0) (N := 5) rfl iX0 0 (by decide) k9 (w := .ref (vq v (b + 1))) rfl dX0_change_19 ?_
    refine a_iload_n C dX0_change_22 1 rfl rfl ?_
    refine a_dup2 C dX0_change_23 rfl rfl ?_
    refine a_iald C hS.f1 hS.n1 0 hS.tI (by omega) (by omega) (by decide) dX0_change_24 (fun z24 e24 r24 => ?_)
    have q24 := hT val (by omega) (by omega)
    refine a_iload_n C dX0_change_25 2 rfl rfl ?_
    refine a_iadd C dX0_change_26 ?_
    refine a_iast C hS.f1 hS.n1 0 hS.tI (by omega) (by omega) (by decide) (by omega) dX0_change_27 ?_
    refine a_aload_n C dX0_change_28 0 rfl rfl ?_
    refine a_dup C dX0_change_29 rfl ?_
    refine a_geti C hS.f0 hS.n0 (Cn := RX0) (T := TX0) (N := 5) rfl iX0 3 (by decide) k29 3 (by decide) rfl dX0_change_30 (fun z30 e30 r30 => ?_)
    try simp [sput_r, mset_n, sput, mset] at e30
    refine a_iload_n C dX0_change_33 2 rfl rfl ?_
    refine a_iadd C dX0_change_34 ?_
    refine a_puti C hS.f0 hS.n0 (Cn := RX0) (T := TX0) (N := 5) rfl iX0 tyX0_ok nmX0 3 (by decide) k29 rfl rfl 3 (by omega) (fun _ => Nat.le_of_ble_eq_true rfl) (fun _ => rfl) dX0_change_35 ?_
    refine a_aload_n C dX0_change_38 0 rfl rfl ?_
    refine a_getf C hS.f0 hS.n0 (Cn := RX0) (T := TX0) (N := 5) rfl iX0 1 (by decide) k18 (w := .ref (vq v (b + 2))) rfl dX0_change_39 ?_
    refine a_iload_n C dX0_change_42 1 rfl rfl ?_
    refine a_iload_n C dX0_change_43 2 rfl rfl ?_
    refine a_cVV C (k0 := 2) (As := [vI val, vI m]) (rest := []) (c_X4_shift x.2.1 v (sput (sput σ (b + 1) val (z24 + m)) b 3 (z30 + m)) (b + 2) hS.o2 val m (by omega) hm (by rw [sput_r (by omega), sput_r (by omega)]; exact hdr) (skW_rows (by rw [sput_r (by omega), sput_r (by omega)]) (by rw [sput_r (by omega), sput_r (by omega)]) hW) (skB_rows (by rw [sput_r (by omega), sput_r (by omega)]) (by rw [sput_r (by omega), sput_r (by omega)]) (by rw [sput_r (by omega), sput_r (by omega)]) (by rw [sput_r (by omega), sput_r (by omega)]) hB)) gX0_change_X4_shift rfl (by decide +kernel) (by decide) hS.o2.f0 rfl hS.o2.n0 rfl rfl (Nat.le_of_ble_eq_true rfl) dX0_change_44 (fun u44 p44 => ?_)
    subst u44
    exact hret _ _ _ dX0_change_47 (by unfold chM; rw [if_pos (by omega), e24, e30])
  · skip
    refine a_aload_n C dX0_change_7 0 rfl rfl ?_
    refine a_dup C dX0_change_8 rfl ?_
    refine a_geti C hS.f0 hS.n0 (Cn := RX0) (T := TX0) (N := 5) rfl iX0 4 (by decide) k33 4 (by decide) rfl dX0_change_9 (fun z9 e9 r9 => ?_)
    refine a_iload_n C dX0_change_12 2 rfl rfl ?_
    refine a_iadd C dX0_change_13 ?_
    refine a_puti C hS.f0 hS.n0 (Cn := RX0) (T := TX0) (N := 5) rfl iX0 tyX0_ok nmX0 4 (by decide) k33 rfl rfl 4 (by omega) (fun _ => Nat.le_of_ble_eq_true rfl) (fun _ => rfl) dX0_change_14 ?_
    exact hret _ _ _ dX0_change_17 (by unfold chM; rw [if_neg (by omega), e9])
theorem shM_fr {σ : Mem} {b : Nat} {val m : Int} : ∀ a : Nat, a ≠ b → a ≠ b + 2 → a ≠ b + 5 → shM σ b val m a = σ a := by
  intro a q0 q2 q5
  unfold shM
  split
  · split
    · rw [sput_r q2, sput_r q0]
    · rw [sput_r q5, sput_r q0]
  · rfl
theorem chM_fr {σ : Mem} {c : Nat} {val m : Int} : ∀ a : Nat, a ≠ c → a ≠ c + 1 → a ≠ c + 2 → a ≠ c + 4 → a ≠ c + 7 → chM σ c val m a = σ a := by
  intro a q0 q1 q2 q4 q7
  unfold chM
  split
  · rw [shM_fr a q2 (by omega) (by omega), sput_r q0, sput_r q1]
  · rw [sput_r q0]
/-- rows that are put, with the sample -/
def enM (σ : Mem) (c : Nat) (val m : Int) : Mem := if chM σ c val m (c + 8) 1 = 0 then chM σ c val m else smT (c + 8) val m.toNat (chM σ c val m)
set_option maxHeartbeats 4000000 in
set_option maxRecDepth 100000 in
theorem c_X0_enter (l : Launch) (v : VC) (σ : Mem) (b : Nat) (hS : shCo v b) (val m : Int) (hv : rg val) (hm : 0 ≤ m ∧ m ≤ 1000) (hco : coW σ b) : CtV l yX0_enter wsX0_enter 3 67 v [.ref (vq v b), vI val, vI m] σ (fun u => u = enM σ b val m) := by
  refine mkV (cc := cX0_enter) (n := 3) (by decide +kernel) rfl (Nat.le_of_ble_eq_true rfl) (fun x A Q hx C hret => ?_)
  subst hx
  show At x v A Q _ 0 [(0, .ref (vq v b)), (1, vI val), (2, vI m)] [] σ
  have iX0 : ∀ w ∈ wsX00, w ∈ wsX0_enter := by decide +kernel
  have k25 : Cond.fieldLink RX0 25 (TX0 2).1 (TX0 2).2.1 (TX0 2).2.2.1 ∈ wsX0_enter := by decide +kernel
  refine a_aload_n C dX0_enter_0 0 rfl rfl ?_
  refine a_iload_n C dX0_enter_1 1 rfl rfl ?_
  refine a_iload_n C dX0_enter_2 2 rfl rfl ?_
  refine a_cVV C (k0 := 2) (As := [vI val, vI m]) (rest := []) (c_X0_change x.2.1 v σ b hS val m hv (by omega) hco) gX0_enter_X0_change rfl (by decide +kernel) (by decide) hS.f0 rfl hS.n0 rfl rfl (Nat.le_of_ble_eq_true rfl) dX0_enter_3 (fun u3 p3 => ?_)
  subst u3
  refine a_aload_n C dX0_enter_6 0 rfl rfl ?_
  refine a_getf C hS.f0 hS.n0 (Cn := RX0) (T := TX0) (N := 5) rfl iX0 2 (by decide) k25 (w := .ref (vq v (b + 8))) rfl dX0_enter_7 ?_
  refine a_iload_n C dX0_enter_10 1 rfl rfl ?_
  refine a_iload_n C dX0_enter_11 2 rfl rfl ?_
  refine a_cVV C (k0 := 2) (As := [vI val, vI m]) (rest := []) (c_X3_take x.2.1 v (chM σ b val m) (b + 8) hS.o8 val m hv hm (smW_row (chM_fr (b + 8) (by omega) (by omega) (by omega) (by omega) (by omega)) hco.2.2.2.2.2.2)) gX0_enter_X3_take rfl (by decide +kernel) (by decide) hS.o8.f0 rfl hS.o8.n0 rfl rfl (Nat.le_of_ble_eq_true rfl) dX0_enter_12 (fun u12 p12 => ?_)
  subst u12
  exact hret _ _ _ dX0_enter_15 rfl
