/-! ===== the model's make ===== -/
theorem erI_congr {lv lw : Int → Int} (h : ∀ j : Int, 0 ≤ j → j < 40 → lv j = lw j) {a b : Int} (ha : 0 ≤ a) (hb : b < 40) : erI lv a b = erI lw a b := by
  unfold erI
  rw [itrR_congr (f := peF lv) (g := peF lw) (fun k s q1 q2 => by unfold peF; rw [h k (by omega) (by omega)])]
theorem dpL_congr {lv lw : Int → Int} (h : ∀ j : Int, 0 ≤ j → j < 40 → lv j = lw j) : ∀ (n : Nat) (f : Int), 0 ≤ f → dpL lv n f = dpL lw n f := by
  intro n
  induction n with
  | zero => intro f _; rfl
  | succ n ih =>
    intro f hf
    rw [dpL_succ, dpL_succ]
    exact itrR_congr (fun k s q1 q2 => by unfold dlF; rw [erI_congr h hf q2, ih (k + 1) (by omega)]) _
theorem dpS_congr {lv lw : Int → Int} {L : Int} (h : ∀ j : Int, 0 ≤ j → j < 40 → lv j = lw j) : ∀ (n : Nat) (f : Int), 0 ≤ f → dpS lv L n f = dpS lw L n f := by
  intro n
  induction n with
  | zero => intro f _; rfl
  | succ n ih =>
    intro f hf
    rw [dpS_succ, dpS_succ]
    exact itrR_congr (fun k s q1 q2 => by unfold dpF; rw [erI_congr h hf q2, ih (k + 1) (by omega)]) _
theorem fnd_congr {p q : Int → Bool} : ∀ (n : Nat) (k : Int), (∀ j : Int, k ≤ j → j < k + n → p j = q j) → fnd p n k = fnd q n k := by
  intro n
  induction n with
  | zero => intro k _; rfl
  | succ n ih =>
    intro k h
    simp only [fnd]
    rw [h k (by omega) (by omega), ih (k + 1) (fun j q1 q2 => h j (by omega) (by omega))]
theorem feI_congr {lv lw : Int → Int} {L : Int} (h : ∀ j : Int, 0 ≤ j → j < 40 → lv j = lw j) {n : Nat} {f : Int} (hf : 0 ≤ f) : feI lv L n f = feI lw L n f := by
  unfold feI
  refine fnd_congr _ _ (fun j q1 q2 => ?_)
  rw [erI_congr h hf (by omega), dpS_congr h n (j + 1) (by omega), dpS_congr h (n + 1) f hf]
theorem plB_congr {lv lw : Int → Int} {L : Int} {many : Nat} (h : ∀ j : Int, 0 ≤ j → j < 40 → lv j = lw j) : ∀ i : Nat, plB lv L many i = plB lw L many i := by
  intro i
  induction i with
  | zero => rfl
  | succ i ih =>
    unfold plB
    rw [ih, feI_congr h (plB_W lw L many i).1]
theorem chV_congr {tr tr' : Int → Int} {al nn dd : Int} (ht : ∀ j : Int, 0 ≤ j → j < 40 → tr j = tr' j) : ∀ (m : Nat) (s s' : (Int → Int) × (Int → Int)), (∀ j : Int, 0 ≤ j → j < 40 → s.1 j = s'.1 j ∧ s.2 j = s'.2 j) → ∀ j : Int, 0 ≤ j → j < 40 → (chV tr al nn dd m s).1 j = (chV tr' al nn dd m s').1 j ∧ (chV tr al nn dd m s).2 j = (chV tr' al nn dd m s').2 j := by
  intro m
  induction m with
  | zero => intro s s' hs; exact hs
  | succ m ih =>
    intro s s' hs
    have e : gpV s.1 tr = gpV s'.1 tr' := gp_congr (fun w q1 q2 => (hs w q1 q2).1) ht
    have b := gp_bd s.1 tr
    unfold chV
    rw [← e]
    by_cases q : gpV s.1 tr = -1
    · rw [if_pos (Or.inl q), if_pos (Or.inl q)]; exact hs
    · rw [← ht (gpV s.1 tr) (by omega) (by omega)]
      split
      · exact hs
      · refine ih _ _ (fun j q1 q2 => ?_)
        dsimp only
        unfold upI
        rw [(hs j q1 q2).1, (hs j q1 q2).2]
        exact ⟨rfl, rfl⟩
set_option maxHeartbeats 4000000 in
set_option maxRecDepth 100000 in
theorem c_X7_make (l : Launch) (v : VC) (σ : Mem) (b : Nat) (hM : shMo v b) (i1 b1 n1 d1 : Int) (h1 : rg i1) (h2 : rg b1) (h3 : rg n1) (h4 : rg d1) (hG : 0 ≤ i1 ∧ i1 < 3 → (∀ j : Int, 0 ≤ j → j < 40 → 0 ≤ (shR (σ (b + 4)) (40 * i1)) j ∧ (shR (σ (b + 4)) (40 * i1)) j ≤ 10000) ∧ 0 ≤ (σ (b + 6) i1) ∧ (σ (b + 6) i1) ≤ 10000) : CtI l yX7_make wsX7_make 2 48 v [.ref (vq v b), vI i1, vI b1, vI n1, vI d1] σ (fun z u => (if ¬ ((0 ≤ i1 ∧ i1 < 3) ∧ (1 ≤ b1 ∧ b1 ≤ 12) ∧ (1 ≤ d1 ∧ d1 ≤ 1000) ∧ (0 ≤ n1 ∧ n1 ≤ d1)) then z = -1 ∧ u = sput σ b 0 1 else z = dpL (fun j : Int => if (chV (shR (σ (b + 4)) (40 * i1)) (σ (b + 6) i1) n1 d1 8 (fun _ => 0, fun _ => 0)).1 j = 0 then (shR (σ (b + 4)) (40 * i1)) j else -1) b1.toNat 0 ∧ (∀ j : Int, 0 ≤ j → j < 40 → u (b + 14) (40 * i1 + j) = (chV (shR (σ (b + 4)) (40 * i1)) (σ (b + 6) i1) n1 d1 8 (fun _ => 0, fun _ => 0)).1 j ∧ ((chV (shR (σ (b + 4)) (40 * i1)) (σ (b + 6) i1) n1 d1 8 (fun _ => 0, fun _ => 0)).1 j ≠ 0 → u (b + 13) (40 * i1 + j) = (chV (shR (σ (b + 4)) (40 * i1)) (σ (b + 6) i1) n1 d1 8 (fun _ => 0, fun _ => 0)).2 j) ∧ ((chV (shR (σ (b + 4)) (40 * i1)) (σ (b + 6) i1) n1 d1 8 (fun _ => 0, fun _ => 0)).1 j = 0 → u (b + 13) (40 * i1 + j) = σ (b + 13) (40 * i1 + j))) ∧ (∀ j : Int, 0 ≤ j → j < b1 → u (b + 15) (40 * i1 + j) = plB (fun j : Int => if (chV (shR (σ (b + 4)) (40 * i1)) (σ (b + 6) i1) n1 d1 8 (fun _ => 0, fun _ => 0)).1 j = 0 then (shR (σ (b + 4)) (40 * i1)) j else -1) z b1.toNat (j.toNat + 1) - 1 ∧ u (b + 16) (40 * i1 + j) = smR (fun w => if (chV (shR (σ (b + 4)) (40 * i1)) (σ (b + 6) i1) n1 d1 8 (fun _ => 0, fun _ => 0)).1 w = 0 then (shR (σ (b + 4)) (40 * i1)) w else 0) (plB (fun j : Int => if (chV (shR (σ (b + 4)) (40 * i1)) (σ (b + 6) i1) n1 d1 8 (fun _ => 0, fun _ => 0)).1 j = 0 then (shR (σ (b + 4)) (40 * i1)) j else -1) z b1.toNat j.toNat) (plB (fun j : Int => if (chV (shR (σ (b + 4)) (40 * i1)) (σ (b + 6) i1) n1 d1 8 (fun _ => 0, fun _ => 0)).1 j = 0 then (shR (σ (b + 4)) (40 * i1)) j else -1) z b1.toNat (j.toNat + 1)) ∧ u (b + 17) (40 * i1 + j) = 0) ∧ u (b + 11) i1 = b1 ∧ u (b + 12) i1 = 0 ∧ u b 0 = 0 ∧ (∀ a : Nat, a ≠ b → a ≠ b + 11 → a ≠ b + 12 → a ≠ b + 13 → a ≠ b + 14 → a ≠ b + 15 → a ≠ b + 16 → a ≠ b + 17 → a ≠ b + 18 → a ≠ b + 19 → a ≠ b + 20 → u a = σ a) ∧ (∀ j : Int, j ≠ 0 → u b j = σ b j) ∧ (∀ j : Int, j ≠ i1 → u (b + 11) j = σ (b + 11) j ∧ u (b + 12) j = σ (b + 12) j) ∧ ∀ j : Int, j < 40 * i1 ∨ 40 * i1 + 40 ≤ j → u (b + 13) j = σ (b + 13) j ∧ u (b + 14) j = σ (b + 14) j ∧ u (b + 15) j = σ (b + 15) j ∧ u (b + 16) j = σ (b + 16) j ∧ u (b + 17) j = σ (b + 17) j)) := by
  refine mkI (cc := cX7_make) (n := 10) (by decide +kernel) rfl (Nat.le_of_ble_eq_true rfl) (fun x A Q hx C hret => ?_)
  subst hx
  show At x v A Q _ 0 [(0, .ref (vq v b)), (1, vI i1), (2, vI b1), (3, vI n1), (4, vI d1)] [] σ
  have iX7 : ∀ w ∈ wsX70, w ∈ wsX7_make := by decide +kernel
  have k70 : Cond.fieldLink RX7 70 (TX7 21).1 (TX7 21).2.1 (TX7 21).2.2.1 ∈ wsX7_make := by decide +kernel
  have k45 : Cond.fieldLink RX7 45 (TX7 13).1 (TX7 13).2.1 (TX7 13).2.2.1 ∈ wsX7_make := by decide +kernel
  have k48 : Cond.fieldLink RX7 48 (TX7 14).1 (TX7 14).2.1 (TX7 14).2.2.1 ∈ wsX7_make := by decide +kernel
  have k85 : Cond.fieldLink RX7 85 (TX7 0).1 (TX7 0).2.1 (TX7 0).2.2.1 ∈ wsX7_make := by decide +kernel
  refine a_iload_n C dX7_make_0 1 rfl rfl ?_
  refine a_cSI C (k0 := 1) (As := [vI i1]) (rest := []) (c_X7_isColumn x.2.1 v σ i1 (by omega)) gX7_make_X7_isColumn rfl (by decide +kernel) (by decide) rfl rfl (Nat.le_of_ble_eq_true rfl) dX7_make_1 (fun z1 u1 r1 p1 => ?_)
  obtain ⟨e1, p1⟩ := p1
  subst u1
  have q1 := zz e1
  refine a_if_eq C 42 r1 dX7_make_4 (by decide) (fun c4 => ?_) (fun c4 => ?_)
  · skip
    refine a_aload_n C dX7_make_42 0 rfl rfl ?_
    refine a_iconst C dX7_make_43 ?_
    refine a_cVI C (k0 := 1) (As := [vI 1]) (rest := []) (c_X7_refuse x.2.1 v σ b hM 1 (by omega)) gX7_make_X7_refuse rfl (by decide +kernel) (by decide) hM.f0 rfl hM.n0 rfl rfl (Nat.le_of_ble_eq_true rfl) dX7_make_44 (fun z44 u44 r44 p44 => ?_)
    obtain ⟨e44, p44⟩ := p44
    subst u44
    refine hret _ _ _ _ dX7_make_47 (by omega) ?_
    rw [if_pos (by omega)]
    exact ⟨by omega, rfl⟩
  · skip
    refine a_iload_n C dX7_make_7 2 rfl rfl ?_
    refine a_iconst C dX7_make_8 ?_
    refine a_icmp_lt C 42 (by omega) (by decide) dX7_make_9 (by decide) (fun c9 => ?_) (fun c9 => ?_)
    · skip
      refine a_aload_n C dX7_make_42 0 rfl rfl ?_
      refine a_iconst C dX7_make_43 ?_
      refine a_cVI C (k0 := 1) (As := [vI 1]) (rest := []) (c_X7_refuse x.2.1 v σ b hM 1 (by omega)) gX7_make_X7_refuse rfl (by decide +kernel) (by decide) hM.f0 rfl hM.n0 rfl rfl (Nat.le_of_ble_eq_true rfl) dX7_make_44 (fun z44 u44 r44 p44 => ?_)
      obtain ⟨e44, p44⟩ := p44
      subst u44
      refine hret _ _ _ _ dX7_make_47 (by omega) ?_
      rw [if_pos (by omega)]
      exact ⟨by omega, rfl⟩
    · skip
      refine a_iload_n C dX7_make_12 2 rfl rfl ?_
      refine a_bipush C dX7_make_13 ?_
      refine a_icmp_gt C 42 (by omega) (by decide) dX7_make_15 (by decide) (fun c15 => ?_) (fun c15 => ?_)
      · skip
        refine a_aload_n C dX7_make_42 0 rfl rfl ?_
        refine a_iconst C dX7_make_43 ?_
        refine a_cVI C (k0 := 1) (As := [vI 1]) (rest := []) (c_X7_refuse x.2.1 v σ b hM 1 (by omega)) gX7_make_X7_refuse rfl (by decide +kernel) (by decide) hM.f0 rfl hM.n0 rfl rfl (Nat.le_of_ble_eq_true rfl) dX7_make_44 (fun z44 u44 r44 p44 => ?_)
        obtain ⟨e44, p44⟩ := p44
        subst u44
        refine hret _ _ _ _ dX7_make_47 (by omega) ?_
        rw [if_pos (by omega)]
        exact ⟨by omega, rfl⟩
      · skip
        refine a_iload C dX7_make_18 4 rfl ?_
        refine a_iconst C dX7_make_20 ?_
        refine a_icmp_lt C 42 (by omega) (by decide) dX7_make_21 (by decide) (fun c21 => ?_) (fun c21 => ?_)
        · skip
          refine a_aload_n C dX7_make_42 0 rfl rfl ?_
          refine a_iconst C dX7_make_43 ?_
          refine a_cVI C (k0 := 1) (As := [vI 1]) (rest := []) (c_X7_refuse x.2.1 v σ b hM 1 (by omega)) gX7_make_X7_refuse rfl (by decide +kernel) (by decide) hM.f0 rfl hM.n0 rfl rfl (Nat.le_of_ble_eq_true rfl) dX7_make_44 (fun z44 u44 r44 p44 => ?_)
          obtain ⟨e44, p44⟩ := p44
          subst u44
          refine hret _ _ _ _ dX7_make_47 (by omega) ?_
          rw [if_pos (by omega)]
          exact ⟨by omega, rfl⟩
        · skip
          refine a_iload C dX7_make_24 4 rfl ?_
          refine a_sipush C dX7_make_26 ?_
          refine a_icmp_gt C 42 (by omega) (by decide) dX7_make_29 (by decide) (fun c29 => ?_) (fun c29 => ?_)
          · skip
            refine a_aload_n C dX7_make_42 0 rfl rfl ?_
            refine a_iconst C dX7_make_43 ?_
            refine a_cVI C (k0 := 1) (As := [vI 1]) (rest := []) (c_X7_refuse x.2.1 v σ b hM 1 (by omega)) gX7_make_X7_refuse rfl (by decide +kernel) (by decide) hM.f0 rfl hM.n0 rfl rfl (Nat.le_of_ble_eq_true rfl) dX7_make_44 (fun z44 u44 r44 p44 => ?_)
            obtain ⟨e44, p44⟩ := p44
            subst u44
            refine hret _ _ _ _ dX7_make_47 (by omega) ?_
            rw [if_pos (by omega)]
            exact ⟨by omega, rfl⟩
          · skip
            refine a_iload_n C dX7_make_32 3 rfl rfl ?_
            refine a_if_lt C 42 (by omega) dX7_make_33 (by decide) (fun c33 => ?_) (fun c33 => ?_)
            · skip
              refine a_aload_n C dX7_make_42 0 rfl rfl ?_
              refine a_iconst C dX7_make_43 ?_
              refine a_cVI C (k0 := 1) (As := [vI 1]) (rest := []) (c_X7_refuse x.2.1 v σ b hM 1 (by omega)) gX7_make_X7_refuse rfl (by decide +kernel) (by decide) hM.f0 rfl hM.n0 rfl rfl (Nat.le_of_ble_eq_true rfl) dX7_make_44 (fun z44 u44 r44 p44 => ?_)
              obtain ⟨e44, p44⟩ := p44
              subst u44
              refine hret _ _ _ _ dX7_make_47 (by omega) ?_
              rw [if_pos (by omega)]
              exact ⟨by omega, rfl⟩
            · skip
              refine a_iload_n C dX7_make_36 3 rfl rfl ?_
              refine a_iload C dX7_make_37 4 rfl ?_
              refine a_icmp_le C 48 (by omega) (by omega) dX7_make_39 (by decide) (fun c39 => ?_) (fun c39 => ?_)
              · skip
                obtain ⟨hT, hA⟩ := hG (by omega)
                refine mk_s1 C σ b hM i1 b1 n1 d1 (by omega) (fun τ1 a1 a2 a3 => ?_)
                have e4 : τ1 (b + 4) = σ (b + 4) := a3 _ (by omega)
                have e6 : τ1 (b + 6) = σ (b + 6) := a3 _ (by omega)
                refine mk_s2 C τ1 b hM i1 b1 n1 d1 (by omega) (by rw [e6]; exact hA) (by omega) (by omega) (by rw [e4]; exact hT) a1 (fun τ2 x1 x2 x3 x4 => ?_)
                rw [e4, e6] at x1
                obtain ⟨lv, hlv⟩ : ∃ f : Int → Int, f = (fun j : Int => if (chV (shR (σ (b + 4)) (40 * i1)) (σ (b + 6) i1) n1 d1 8 (fun _ => 0, fun _ => 0)).1 j = 0 then (shR (σ (b + 4)) (40 * i1)) j else -1) := ⟨_, rfl⟩
                have y4 : τ2 (b + 4) = σ (b + 4) := by rw [x4 _ (by omega) (by omega), e4]
                have hl : ∀ j : Int, 0 ≤ j → j < 40 → -1 ≤ lv j ∧ lv j ≤ 10000 := fun j q1 q2 => by have := hT j q1 q2; rw [hlv]; dsimp only; split <;> omega
                refine a_aload_n C dX7_make_243 0 rfl rfl ?_
                refine a_iload_n C dX7_make_244 1 rfl rfl ?_
                refine a_cVV C (k0 := 1) (As := [vI i1]) (rest := []) (c_X7_errors x.2.1 v τ2 b hM i1 (by omega) lv (fun j q1 q2 => by rw [hlv, y4]; dsimp only; rw [shR_e (τ2 (b + 14)), (x1 j q1 q2).1]) (by rw [y4]; exact hT)) gX7_make_X7_errors rfl (by decide +kernel) (by decide) hM.f0 rfl hM.n0 rfl rfl (Nat.le_of_ble_eq_true rfl) dX7_make_245 (fun u245 p245 => ?_)
                obtain ⟨E5, F5⟩ := p245
                refine mk_s4 C u245 b hM i1 b1 n1 d1 (fun τ3 z1_ z2_ z3_ => ?_)
                refine mk_s5 C τ3 b hM i1 b1 n1 d1 lv hl (by omega) (fun a9 b9 q1 q2 q3 => by rw [z3_ _ (by omega) (by omega)]; exact E5 a9 b9 q1 q2 q3) z1_ (fun τ4 g1_ g2_ => ?_)
                refine a_aload_n C dX7_make_417 0 rfl rfl ?_
                refine a_getf C hM.f0 hM.n0 (Cn := RX7) (T := TX7) (N := 30) rfl iX7 21 (by decide) k70 (w := .ref (vq v (b + 19))) rfl dX7_make_418 ?_
                refine a_iload_n C dX7_make_421 2 rfl rfl ?_
                refine a_iconst C dX7_make_422 ?_
                refine a_cSI C (k0 := 2) (As := [vI b1, vI 0]) (rest := [.ref (vq v (b + 19))]) (c_X7_at x.2.1 v τ4 b1 0 (by omega) (by omega)) gX7_make_X7_at rfl (by decide +kernel) (by decide) rfl rfl (Nat.le_of_ble_eq_true rfl) dX7_make_423 (fun z423 u423 r423 p423 => ?_)
                obtain ⟨e423, p423⟩ := p423
                subst u423
                refine a_iald C hM.f19 hM.n19 0 hM.tI (by omega) (by omega) (by decide) dX7_make_426 (fun z426 e426 r426 => ?_)
                rw [show z423 = 101 * (b1.toNat : Int) + 0 by omega, g1_ b1.toNat 0 (by omega) (by omega) (by omega)] at e426
                have b426 := dpL_bd hl (n := b1.toNat) (by omega) (by omega)
                rw [← e426] at b426
                refine a_istore C [(5, vI z426), (0, .ref (vq v b)), (1, vI i1), (2, vI b1), (3, vI n1), (4, vI d1)] dX7_make_427 (by decide) rfl ?_
                have pt9 : ptP lv z426 b1.toNat 0 := (dpL_pt b426.1 (by omega) b1.toNat 0 (by omega) (by omega)).mp (by rw [e426]; exact Int.le_refl _)
                have fin9 : dpS lv z426 b1.toNat 0 < 1000000000 := by have h9 := dpS_pt b1.toNat 0 (by omega) (by omega) pt9; have h8 : (b1.toNat : Int) * z426 ≤ 12 * 10000 := Int.mul_le_mul (by omega) b426.2 b426.1 (by omega); omega
                refine mk_s6 C τ4 b hM i1 b1 n1 d1 z426 lv hl (by omega) b426 (fun a9 b9 q1 q2 q3 => by rw [g2_ _ (by omega), z3_ _ (by omega) (by omega)]; exact E5 a9 b9 q1 q2 q3) (by rw [g2_ _ (by omega)]; exact z2_) (fun τ5 h1_ h2_ => ?_)
                have y45 : τ5 (b + 4) = σ (b + 4) := by rw [h2_ _ (by omega), g2_ _ (by omega), z3_ _ (by omega) (by omega), F5 _ (by omega), y4]
                have y145 : τ5 (b + 14) = τ2 (b + 14) := by rw [h2_ _ (by omega), g2_ _ (by omega), z3_ _ (by omega) (by omega), F5 _ (by omega)]
                refine mk_s7 C τ5 b hM i1 b1 n1 d1 z426 lv hl (by omega) (by omega) b426 (fun a9 b9 q1 q2 q3 => by rw [h2_ _ (by omega), g2_ _ (by omega), z3_ _ (by omega) (by omega)]; exact E5 a9 b9 q1 q2 q3) h1_ fin9 (by rw [y45]; exact hT) (fun τ6 d1_ d2_ d3_ => ?_)
                rw [y45, y145] at d1_
                have gw9 : ∀ p q : Int, 0 ≤ p → q ≤ 40 → smR (fun w => if shR (τ2 (b + 14)) (40 * i1) w = 0 then (shR (σ (b + 4)) (40 * i1)) w else 0) p q = smR (fun w => if (chV (shR (σ (b + 4)) (40 * i1)) (σ (b + 6) i1) n1 d1 8 (fun _ => 0, fun _ => 0)).1 w = 0 then (shR (σ (b + 4)) (40 * i1)) w else 0) p q := fun p q q1 q2 => smR_congr fun w w1 w2 => by rw [shR_e (τ2 (b + 14)), (x1 w (by omega) (by omega)).1]
                have F9 : ∀ a : Nat, a ≠ b + 13 → a ≠ b + 14 → a ≠ b + 15 → a ≠ b + 16 → a ≠ b + 17 → a ≠ b + 18 → a ≠ b + 19 → a ≠ b + 20 → τ6 a = σ a := fun a q1 q2 q3 q4 q5 q6 q7 q8 => by rw [d3_ a q3 q4 q5, h2_ a q8, g2_ a q7, z3_ a q7 q8, F5 a q6, x4 a q1 q2, a3 a q2]
                have F8 : ∀ a : Nat, a ≠ b + 15 → a ≠ b + 16 → a ≠ b + 17 → a ≠ b + 18 → a ≠ b + 19 → a ≠ b + 20 → τ6 a = τ2 a := fun a q3 q4 q5 q6 q7 q8 => by rw [d3_ a q3 q4 q5, h2_ a q8, g2_ a q7, z3_ a q7 q8, F5 a q6]
                refine a_aload_n C dX7_make_798 1 rfl rfl ?_
                refine a_getf C hM.f0 hM.n0 (Cn := RX7) (T := TX7) (N := 30) rfl iX7 13 (by decide) k45 (w := .ref (vq v (b + 11))) rfl dX7_make_799 ?_
                refine a_iload_n C dX7_make_802 2 rfl rfl ?_
                refine a_iload_n C dX7_make_803 3 rfl rfl ?_
                refine a_iast C hM.f11 hM.n11 0 hM.tI (by omega) (by omega) (by decide) (by omega) dX7_make_804 ?_
                refine a_aload_n C dX7_make_805 1 rfl rfl ?_
                refine a_getf C hM.f0 hM.n0 (Cn := RX7) (T := TX7) (N := 30) rfl iX7 14 (by decide) k48 (w := .ref (vq v (b + 12))) rfl dX7_make_806 ?_
                refine a_iload_n C dX7_make_809 2 rfl rfl ?_
                refine a_iconst C dX7_make_810 ?_
                refine a_iast C hM.f12 hM.n12 0 hM.tI (by omega) (by omega) (by decide) (by decide) dX7_make_811 ?_
                refine a_aload_n C dX7_make_812 1 rfl rfl ?_
                refine a_iconst C dX7_make_813 ?_
                refine a_puti C hM.f0 hM.n0 (Cn := RX7) (T := TX7) (N := 30) rfl iX7 tyX7_ok nmX7 0 (by decide) k85 rfl rfl 0 (by decide) (fun _ => Nat.le_of_ble_eq_true rfl) (fun _ => rfl) dX7_make_814 ?_
                refine a_iload C dX7_make_817 0 rfl ?_
                refine hret _ _ _ _ dX7_make_819 (by omega) ?_
                rw [if_neg (by omega), ← hlv]
                refine ⟨e426, fun j j0 j1 => ?_, fun j j0 j1 => ?_, ?_, ?_, ?_, ?_, ?_, ?_, ?_⟩
                · rw [sput_r (show b + 14 ≠ b by omega), sput_r (show b + 14 ≠ b + 12 by omega), sput_r (show b + 14 ≠ b + 11 by omega), sput_r (show b + 13 ≠ b by omega), sput_r (show b + 13 ≠ b + 12 by omega), sput_r (show b + 13 ≠ b + 11 by omega), F8 (b + 14) (by omega) (by omega) (by omega) (by omega) (by omega) (by omega), F8 (b + 13) (by omega) (by omega) (by omega) (by omega) (by omega) (by omega)]; exact ⟨(x1 j j0 j1).1, (x1 j j0 j1).2.1, fun q => by rw [(x1 j j0 j1).2.2 q, a3 (b + 13) (by omega)]⟩
                · rw [sput_r (show b + 15 ≠ b by omega), sput_r (show b + 15 ≠ b + 12 by omega), sput_r (show b + 15 ≠ b + 11 by omega), sput_r (show b + 16 ≠ b by omega), sput_r (show b + 16 ≠ b + 12 by omega), sput_r (show b + 16 ≠ b + 11 by omega), sput_r (show b + 17 ≠ b by omega), sput_r (show b + 17 ≠ b + 12 by omega), sput_r (show b + 17 ≠ b + 11 by omega), (d1_ j j0 j1).1, (d1_ j j0 j1).2.1, (d1_ j j0 j1).2.2]
                  exact ⟨rfl, gw9 _ _ (plB_W _ _ _ _).1 (plB_W _ _ _ _).2, rfl⟩
                · rw [sput_r (show b + 11 ≠ b by omega), sput_r (show b + 11 ≠ b + 12 by omega), sput_s]
                · rw [sput_r (show b + 12 ≠ b by omega), sput_s]
                · rw [sput_s]
                · intro a q0 q1 q2 q3 q4 q5 q6 q7 q8 q9 q10; rw [sput_r q0, sput_r q2, sput_r q1]; exact F9 a q3 q4 q5 q6 q7 q8 q9 q10
                · intro j q; rw [sput_j _ _ _ _ _ q, sput_r (show b ≠ b + 12 by omega), sput_r (show b ≠ b + 11 by omega), F9 b (by omega) (by omega) (by omega) (by omega) (by omega) (by omega) (by omega) (by omega)]
                · intro j q
                  rw [sput_r (show b + 11 ≠ b by omega), sput_r (show b + 11 ≠ b + 12 by omega), sput_j _ _ _ _ _ q, F9 (b + 11) (by omega) (by omega) (by omega) (by omega) (by omega) (by omega) (by omega) (by omega), sput_r (show b + 12 ≠ b by omega), sput_j _ _ _ _ _ q, sput_r (show b + 12 ≠ b + 11 by omega), F9 (b + 12) (by omega) (by omega) (by omega) (by omega) (by omega) (by omega) (by omega) (by omega)]
                  exact ⟨rfl, rfl⟩
                · intro j q
                  rw [sput_r (show b + 13 ≠ b by omega), sput_r (show b + 13 ≠ b + 12 by omega), sput_r (show b + 13 ≠ b + 11 by omega), sput_r (show b + 14 ≠ b by omega), sput_r (show b + 14 ≠ b + 12 by omega), sput_r (show b + 14 ≠ b + 11 by omega), sput_r (show b + 15 ≠ b by omega), sput_r (show b + 15 ≠ b + 12 by omega), sput_r (show b + 15 ≠ b + 11 by omega), sput_r (show b + 16 ≠ b by omega), sput_r (show b + 16 ≠ b + 12 by omega), sput_r (show b + 16 ≠ b + 11 by omega), sput_r (show b + 17 ≠ b by omega), sput_r (show b + 17 ≠ b + 12 by omega), sput_r (show b + 17 ≠ b + 11 by omega), (d2_ j q).1, (d2_ j q).2.1, (d2_ j q).2.2, F8 (b + 13) (by omega) (by omega) (by omega) (by omega) (by omega) (by omega), F8 (b + 14) (by omega) (by omega) (by omega) (by omega) (by omega) (by omega), x2 j q, x3 j q, a2 j q, a3 (b + 13) (by omega)]
                  have w1_ : ∀ a : Nat, a ≠ b + 13 → a ≠ b + 14 → a ≠ b + 18 → a ≠ b + 19 → a ≠ b + 20 → τ5 a = σ a := fun a q1 q2 q6 q7 q8 => by rw [h2_ a q8, g2_ a q7, z3_ a q7 q8, F5 a q6, x4 a q1 q2, a3 a q2]
                  rw [w1_ (b + 15) (by omega) (by omega) (by omega) (by omega) (by omega), w1_ (b + 16) (by omega) (by omega) (by omega) (by omega) (by omega), w1_ (b + 17) (by omega) (by omega) (by omega) (by omega) (by omega)]
                  exact ⟨rfl, rfl, rfl, rfl, rfl⟩
              · skip
                refine a_aload_n C dX7_make_42 0 rfl rfl ?_
                refine a_iconst C dX7_make_43 ?_
                refine a_cVI C (k0 := 1) (As := [vI 1]) (rest := []) (c_X7_refuse x.2.1 v σ b hM 1 (by omega)) gX7_make_X7_refuse rfl (by decide +kernel) (by decide) hM.f0 rfl hM.n0 rfl rfl (Nat.le_of_ble_eq_true rfl) dX7_make_44 (fun z44 u44 r44 p44 => ?_)
                obtain ⟨e44, p44⟩ := p44
                subst u44
                refine hret _ _ _ _ dX7_make_47 (by omega) ?_
                rw [if_pos (by omega)]
                exact ⟨by omega, rfl⟩
