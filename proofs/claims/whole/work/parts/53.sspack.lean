theorem smT_fr {s : Nat} {val : Int} : ∀ (n : Nat) (σ : Mem) (a : Nat), a ≠ s → a ≠ s + 1 → smT s val n σ a = σ a := by
  intro n
  induction n with
  | zero => intro σ a _ _; rfl
  | succ n ih => intro σ a q1 q2; unfold smT; rw [ih _ a q1 q2]; exact (smOne_1 (σ := σ) (s := s) (val := val)).2.2.2 a q1 q2
theorem smT_W {s : Nat} {val : Int} : ∀ (n : Nat) (σ : Mem) (M : Int), smW σ s M → smW (smT s val n σ) s (M + n) := by
  intro n
  induction n with
  | zero => intro σ M h; unfold smT; exact smW_less (by omega) h
  | succ n ih => intro σ M h; unfold smT; exact smW_less (by omega) (ih _ _ (smOne_W (val := val) h))
theorem enM_P {σ : Mem} {c : Nat} {val m s : Int} (hm : 0 ≤ m ∧ m ≤ s) (h : coP σ c s) : coP (enM σ c val m) c (s - m) := by
  have h2 := chM_P (val := val) hm h
  have r8 : chM σ c val m (c + 8) = σ (c + 8) := chM_fr (c + 8) (by omega) (by omega) (by omega) (by omega) (by omega)
  have h8 : smW (chM σ c val m) (c + 8) (999999000 - s) := smW_row r8 h.2.2.2.2.2.2.2.2
  unfold enM
  split
  · exact h2
  · have f := fun a q1 q2 => smT_fr (s := c + 8) (val := val) m.toNat (chM σ c val m) a q1 q2
    obtain ⟨k0, k1, k2, k3, k4, k5, k6, k7, -⟩ := h2
    refine ⟨k0, fun j q1 q2 => by rw [f (c + 1) (by omega) (by omega), f c (by omega) (by omega)]; exact k1 j q1 q2, by rw [f c (by omega) (by omega)]; exact k2, by rw [f c (by omega) (by omega)]; exact k3, by rw [f c (by omega) (by omega)]; exact k4, skW_row (f _ (by omega) (by omega)) (f _ (by omega) (by omega)) k5, skS_row (f _ (by omega) (by omega)) (f _ (by omega) (by omega)) (f _ (by omega) (by omega)) (f _ (by omega) (by omega)) k6, by rw [f (c + 2) (by omega) (by omega)]; exact k7, smW_less (by omega) (smT_W m.toNat _ _ h8)⟩
theorem enM_fr {σ : Mem} {c : Nat} {val m : Int} (a : Nat) (h : a < c ∨ c + 9 < a) : enM σ c val m a = σ a := by
  unfold enM
  split
  · exact chM_fr a (by omega) (by omega) (by omega) (by omega) (by omega)
  · rw [smT_fr _ _ _ (by omega) (by omega)]; exact chM_fr a (by omega) (by omega) (by omega) (by omega) (by omega)
/-- the rows of a tray put one by one -/
def pkF (c : Nat) (row : Int → Int) (k : Int) (τ : Mem) : Mem := enM τ c (row (100000 + k)) 1
set_option maxHeartbeats 4000000 in
set_option maxRecDepth 100000 in
theorem c_X6_pack (l : Launch) (v : VC) (σ : Mem) (hS : shSS v) (i1 i2 : Int) (h1 : rg i1) (h2 : rg i2) (hC : ∀ i : Int, 0 ≤ i → i < 3 → coW σ (11 + 10 * i.toNat)) (hT : trW σ) (hQ : (0 ≤ i1 ∧ i1 < 3) → (0 ≤ i2 ∧ i2 < 4) → σ (11 + 10 * i1.toNat) 3 + σ (11 + 10 * i1.toNat) 4 + σ (3 + 2 * i2.toNat) 3 ≤ 10000 → coP σ (11 + 10 * i1.toNat) (σ (3 + 2 * i2.toNat) 3)) [Decidable (∀ j : Int, 0 ≤ j → j < σ (3 + 2 * i2.toNat) 3 → -1 ≤ σ ((3 + 2 * i2.toNat) + 1) (100000 + j) ∧ σ ((3 + 2 * i2.toNat) + 1) (100000 + j) ≤ 39)] : CtI l yX6_pack wsX6_pack 4 89 v [.ref (vq v 0), vI i1, vI i2] σ (fun z u => (if ¬ ((0 ≤ i1 ∧ i1 < 3) ∧ (0 ≤ i2 ∧ i2 < 4)) then (z = -1 ∧ u = sput σ 0 5 1) else (if σ (3 + 2 * i2.toNat) 1 = 0 then (z = -1 ∧ u = sput σ 0 5 2) else (if ¬ (∀ j : Int, 0 ≤ j → j < σ (3 + 2 * i2.toNat) 3 → -1 ≤ σ ((3 + 2 * i2.toNat) + 1) (100000 + j) ∧ σ ((3 + 2 * i2.toNat) + 1) (100000 + j) ≤ 39) then (z = -1 ∧ u = sput σ 0 5 1) else (if 10000 < σ (11 + 10 * i1.toNat) 3 + σ (11 + 10 * i1.toNat) 4 + σ (3 + 2 * i2.toNat) 3 then (z = -1 ∧ u = sput σ 0 5 4) else (z = σ (3 + 2 * i2.toNat) 3 ∧ u = sput (itrR (pkF (11 + 10 * i1.toNat) (σ ((3 + 2 * i2.toNat) + 1))) 0 (σ (3 + 2 * i2.toNat) 3) σ) 0 5 0)))))) := by
  refine mkI (cc := cX6_pack) (n := 6) (by decide +kernel) rfl (Nat.le_of_ble_eq_true rfl) (fun x A Q hx C hret => ?_)
  subst hx
  show At x v A Q _ 0 [(0, .ref (vq v 0)), (1, vI i1), (2, vI i2)] [] σ
  have iX5 : ∀ w ∈ wsX50, w ∈ wsX6_pack := by decide +kernel
  have k79 : Cond.fieldLink RX6 79 (TX5 1).1 (TX5 1).2.1 (TX5 1).2.2.1 ∈ wsX6_pack := by decide +kernel
  have k133 : Cond.fieldLink RX6 133 (TX5 3).1 (TX5 3).2.1 (TX5 3).2.2.1 ∈ wsX6_pack := by decide +kernel
  have k87 : Cond.fieldLink RX6 87 (TX5 0).1 (TX5 0).2.1 (TX5 0).2.2.1 ∈ wsX6_pack := by decide +kernel
  refine a_aload_n C dX6_pack_0 0 rfl rfl ?_
  refine a_iload_n C dX6_pack_1 1 rfl rfl ?_
  refine a_cVQ C (k0 := 1) (As := [vI i1]) (rest := []) (c_X6_columnAt x.2.1 v σ hS i1 (by omega)) gX6_pack_X6_columnAt rfl (by decide +kernel) (by decide) hS.f0 rfl hS.n0 rfl rfl (Nat.le_of_ble_eq_true rfl) dX6_pack_2 (fun z2 u2 p2 => ?_)
  obtain ⟨e2, p2⟩ := p2
  subst u2
  rcases e2 with ⟨q2, h2⟩ | ⟨q2, h2⟩ <;> subst h2
  · skip
    show At x v A Q _ 5 [(0, .ref (vq v 0)), (1, vI i1), (2, vI i2)] [.ref (vq v (11 + 10 * i1.toNat))] σ
    refine a_astore_n C 3 [(3, .ref (vq v (11 + 10 * i1.toNat))), (0, .ref (vq v 0)), (1, vI i1), (2, vI i2)] dX6_pack_5 rfl (by decide) rfl ?_
    refine a_aload_n C dX6_pack_6 1 rfl rfl ?_
    refine a_iload_n C dX6_pack_7 3 rfl rfl ?_
    refine a_cVQ C (k0 := 1) (As := [vI i2]) (rest := []) (c_X6_trayAt x.2.1 v σ hS i2 (by omega)) gX6_pack_X6_trayAt rfl (by decide +kernel) (by decide) hS.f0 rfl hS.n0 rfl rfl (Nat.le_of_ble_eq_true rfl) dX6_pack_8 (fun z8 u8 p8 => ?_)
    obtain ⟨e8, p8⟩ := p8
    subst u8
    rcases e8 with ⟨q8, h8⟩ | ⟨q8, h8⟩ <;> subst h8
    · skip
      show At x v A Q _ 11 [(3, .ref (vq v (11 + 10 * i1.toNat))), (0, .ref (vq v 0)), (1, vI i1), (2, vI i2)] [.ref (vq v (3 + 2 * i2.toNat))] σ
      refine a_astore C [(4, .ref (vq v (3 + 2 * i2.toNat))), (3, .ref (vq v (11 + 10 * i1.toNat))), (0, .ref (vq v 0)), (1, vI i1), (2, vI i2)] dX6_pack_11 (by decide) rfl ?_
      refine a_aload_n C dX6_pack_13 1 rfl rfl ?_
      refine a_ifnull C dX6_pack_14 ?_
      refine a_aload C dX6_pack_17 0 rfl ?_
      refine a_ifnonnull C 28 dX6_pack_19 (by decide) ?_
      have c0 := hC i1 (by omega) (by omega)
      obtain ⟨cT, c3, c4, cW, cB, cD, cS⟩ := c0
      have t2 := hT i2 (by omega) (by omega)
      refine a_aload C dX6_pack_28 0 rfl ?_
      refine a_geti C (hS.tr i2 (by omega) (by omega)).f0 (hS.tr i2 (by omega) (by omega)).n0 (Cn := RX5) (T := TX5) (N := 4) rfl iX5 1 (by decide) k79 1 (by decide) rfl dX6_pack_30 (fun z30 e30 r30 => ?_)
      refine a_if_ne C 42 r30 dX6_pack_33 (by decide) (fun c33 => ?_) (fun c33 => ?_)
      · skip
        refine a_aload C dX6_pack_42 0 rfl ?_
        refine a_cVI C (k0 := 0) (As := []) (rest := []) (c_X5_holdsRowsAlone x.2.1 v σ (3 + 2 * i2.toNat) (hS.tr i2 (by omega) (by omega)) (by omega)) gX6_pack_X5_holdsRowsAlone rfl (by decide +kernel) (by decide) (hS.tr i2 (by omega) (by omega)).f0 rfl (hS.tr i2 (by omega) (by omega)).n0 rfl rfl (Nat.le_of_ble_eq_true rfl) dX6_pack_44 (fun z44 u44 r44 p44 => ?_)
        obtain ⟨e44, p44⟩ := p44
        subst u44
        refine a_if_ne C 56 r44 dX6_pack_47 (by decide) (fun c47 => ?_) (fun c47 => ?_)
        · skip
          have hRB : (∀ j : Int, 0 ≤ j → j < σ (3 + 2 * i2.toNat) 3 → -1 ≤ σ ((3 + 2 * i2.toNat) + 1) (100000 + j) ∧ σ ((3 + 2 * i2.toNat) + 1) (100000 + j) ≤ 39) := by
            rcases e44 with q | q
            · exact q.2
            · omega
          refine a_aload_n C dX6_pack_56 1 rfl rfl ?_
          refine a_aload C dX6_pack_57 0 rfl ?_
          refine a_geti C (hS.tr i2 (by omega) (by omega)).f0 (hS.tr i2 (by omega) (by omega)).n0 (Cn := RX5) (T := TX5) (N := 4) rfl iX5 3 (by decide) k133 3 (by decide) rfl dX6_pack_59 (fun z59 e59 r59 => ?_)
          refine a_cVI C (k0 := 1) (As := [vI z59]) (rest := []) (c_X0_hasRoom x.2.1 v σ (11 + 10 * i1.toNat) (hS.co i1 (by omega) (by omega)) z59 (by omega) c3 c4) gX6_pack_X0_hasRoom rfl (by decide +kernel) (by decide) (hS.co i1 (by omega) (by omega)).f0 rfl (hS.co i1 (by omega) (by omega)).n0 rfl rfl (Nat.le_of_ble_eq_true rfl) dX6_pack_62 (fun z62 u62 r62 p62 => ?_)
          obtain ⟨e62, p62⟩ := p62
          subst u62
          have q62 := zz e62
          refine a_if_ne C 74 r62 dX6_pack_65 (by decide) (fun c65 => ?_) (fun c65 => ?_)
          · skip
            have hq := hQ (by omega) (by omega) (by omega)
            refine a_iconst C dX6_pack_74 ?_
            refine a_istore C [(5, vI 0), (4, .ref (vq v (3 + 2 * i2.toNat))), (3, .ref (vq v (11 + 10 * i1.toNat))), (0, .ref (vq v 0)), (1, vI i1), (2, vI i2)] dX6_pack_75 (by decide) rfl ?_
            have fin_ : ∀ (z : Int) {τ : Mem}, z = σ (3 + 2 * i2.toNat) 3 → τ = itrR (pkF (11 + 10 * i1.toNat) (σ ((3 + 2 * i2.toNat) + 1))) 0 (σ (3 + 2 * i2.toNat) 3) σ → (if ¬ ((0 ≤ i1 ∧ i1 < 3) ∧ (0 ≤ i2 ∧ i2 < 4)) then (z = -1 ∧ (sput τ 0 5 0) = sput σ 0 5 1) else (if σ (3 + 2 * i2.toNat) 1 = 0 then (z = -1 ∧ (sput τ 0 5 0) = sput σ 0 5 2) else (if ¬ (∀ j : Int, 0 ≤ j → j < σ (3 + 2 * i2.toNat) 3 → -1 ≤ σ ((3 + 2 * i2.toNat) + 1) (100000 + j) ∧ σ ((3 + 2 * i2.toNat) + 1) (100000 + j) ≤ 39) then (z = -1 ∧ (sput τ 0 5 0) = sput σ 0 5 1) else (if 10000 < σ (11 + 10 * i1.toNat) 3 + σ (11 + 10 * i1.toNat) 4 + σ (3 + 2 * i2.toNat) 3 then (z = -1 ∧ (sput τ 0 5 0) = sput σ 0 5 4) else (z = σ (3 + 2 * i2.toNat) 3 ∧ (sput τ 0 5 0) = sput (itrR (pkF (11 + 10 * i1.toNat) (σ ((3 + 2 * i2.toNat) + 1))) 0 (σ (3 + 2 * i2.toNat) 3) σ) 0 5 0))))) := by
              intro z τ hz hτ
              (repeat (first | rw [if_pos (by omega)] | rw [if_neg (by omega)] | rw [if_pos hNB] | rw [if_neg (fun q => q hRB)]))
              exact ⟨hz, by rw [hτ]⟩
            have lp : ∀ (n : Nat) (k : Int) (τ : Mem) , (100 - k).toNat = n → 0 ≤ k ∧ k ≤ σ (3 + 2 * i2.toNat) 3 → τ = itrR (pkF (11 + 10 * i1.toNat) (σ ((3 + 2 * i2.toNat) + 1))) 0 k σ → coP τ (11 + 10 * i1.toNat) (σ (3 + 2 * i2.toNat) 3 - k) → (∀ a : Nat, a < (11 + 10 * i1.toNat) ∨ (11 + 10 * i1.toNat) + 9 < a → τ a = σ a) → At x v A Q 6 77 [(5, vI k), (3, .ref (vq v (11 + 10 * i1.toNat))), (4, .ref (vq v (3 + 2 * i2.toNat))), (0, .ref (vq v 0)), (1, vI i1), (2, vI i2)] [] τ := by
              intro n
              induction n using Nat.strongRecOn with
              | _ n ih =>
                intro k τ hn ik iM iP iF
                refine a_iload C dX6_pack_77 0 rfl ?_
                refine a_aload C dX6_pack_79 2 rfl ?_
                refine a_geti C (hS.tr i2 (by omega) (by omega)).f0 (hS.tr i2 (by omega) (by omega)).n0 (Cn := RX5) (T := TX5) (N := 4) rfl iX5 3 (by decide) k133 3 (by decide) rfl dX6_pack_81 (fun z81 e81 r81 => ?_)
                rw [iF (3 + 2 * i2.toNat) (by omega)] at e81
                refine a_icmp_ge C 107 (by omega) r81 dX6_pack_84 (by decide) (fun c84 => ?_) (fun c84 => ?_)
                · skip
                  refine a_aload_n C dX6_pack_107 3 rfl rfl ?_
                  refine a_aload C dX6_pack_108 2 rfl ?_
                  refine a_geti C (hS.tr i2 (by omega) (by omega)).f0 (hS.tr i2 (by omega) (by omega)).n0 (Cn := RX5) (T := TX5) (N := 4) rfl iX5 3 (by decide) k133 3 (by decide) rfl dX6_pack_110 (fun z110 e110 r110 => ?_)
                  rw [iF (3 + 2 * i2.toNat) (by omega)] at e110
                  refine a_cVI C (k0 := 1) (As := [vI z110]) (rest := []) (c_X6_told x.2.1 v τ hS z110 (by omega)) gX6_pack_X6_told rfl (by decide +kernel) (by decide) hS.f0 rfl hS.n0 rfl rfl (Nat.le_of_ble_eq_true rfl) dX6_pack_113 (fun z113 u113 r113 p113 => ?_)
                  obtain ⟨e113, p113⟩ := p113
                  subst u113
                  refine hret _ _ _ _ dX6_pack_116 (by omega) ?_
                  exact fin_ _ (by omega) (by rw [iM, show k = σ (3 + 2 * i2.toNat) 3 by omega])
                · skip
                  refine a_aload_n C dX6_pack_87 1 rfl rfl ?_
                  refine a_aload C dX6_pack_88 2 rfl ?_
                  refine a_getf C (hS.tr i2 (by omega) (by omega)).f0 (hS.tr i2 (by omega) (by omega)).n0 (Cn := RX5) (T := TX5) (N := 4) rfl iX5 0 (by decide) k87 (w := .ref (vq v (3 + 2 * i2.toNat + 1))) rfl dX6_pack_90 ?_
                  refine a_iload C dX6_pack_93 0 rfl ?_
                  refine a_lald C (hS.tr i2 (by omega) (by omega)).f1 (hS.tr i2 (by omega) (by omega)).n1 1 (hS.tr i2 (by omega) (by omega)).tL (by omega) (by omega) (by decide) dX6_pack_95 (fun z95 e95 r95 => ?_)
                  rw [iF ((3 + 2 * i2.toNat) + 1) (by omega)] at e95
                  have q95 := hRB k (by omega) (by omega)
                  rw [← e95] at q95
                  refine a_l2i C dX6_pack_96 ?_
                  refine a_iconst C dX6_pack_97 ?_
                  refine a_cVV C (k0 := 2) (As := [vI z95, vI 1]) (rest := []) (c_X0_enter x.2.1 v τ (11 + 10 * i1.toNat) (hS.co i1 (by omega) (by omega)) z95 1 (by omega) (by omega) iP.W) gX6_pack_X0_enter rfl (by decide +kernel) (by decide) (hS.co i1 (by omega) (by omega)).f0 rfl (hS.co i1 (by omega) (by omega)).n0 rfl rfl (Nat.le_of_ble_eq_true rfl) dX6_pack_98 (fun u98 p98 => ?_)
                  subst u98
                  refine a_iinc C (k + 1) [(5, vI (k + 1)), (3, .ref (vq v (11 + 10 * i1.toNat))), (4, .ref (vq v (3 + 2 * i2.toNat))), (0, .ref (vq v 0)), (1, vI i1), (2, vI i2)] dX6_pack_101 0 rfl (by omega) (by decide) rfl ?_
                  refine a_goto C 77 dX6_pack_104 (by decide) ?_
                  refine ih _ (by omega) (k + 1) _ rfl (by omega) ?_ ?_ (fun a q => by rw [enM_fr a (by omega)]; exact iF a q)
                  · rw [itrR_right (by omega), ← iM]
                    unfold pkF
                    rw [← e95]
                  · have := enM_P (val := z95) (m := 1) (by omega) iP
                    rw [show σ (3 + 2 * i2.toNat) 3 - (k + 1) = σ (3 + 2 * i2.toNat) 3 - k - 1 by omega]
                    exact this
            refine a_sub [0, 2, 1, 3, 4, 5] [(5, vI 0), (3, .ref (vq v (11 + 10 * i1.toNat))), (4, .ref (vq v (3 + 2 * i2.toNat))), (0, .ref (vq v 0)), (1, vI i1), (2, vI i2)] rfl ?_
            exact lp _ 0 σ rfl (by omega) (by rw [itrR_nil (by omega)]) (by rw [Int.sub_zero]; exact hq) (fun _ _ => rfl)
          · skip
            refine a_aload_n C dX6_pack_68 2 rfl rfl ?_
            refine a_iconst C dX6_pack_69 ?_
            refine a_cVI C (k0 := 1) (As := [vI 4]) (rest := []) (c_X6_none x.2.1 v σ hS 4 (by omega)) gX6_pack_X6_none rfl (by decide +kernel) (by decide) hS.f0 rfl hS.n0 rfl rfl (Nat.le_of_ble_eq_true rfl) dX6_pack_70 (fun z70 u70 r70 p70 => ?_)
            obtain ⟨e70, p70⟩ := p70
            subst u70
            refine hret _ _ _ _ dX6_pack_73 (by omega) ?_
            (repeat (first | rw [if_pos (by omega)] | rw [if_neg (by omega)] | rw [if_pos hNB] | rw [if_neg (fun q => q hRB)]))
            exact ⟨by omega, rfl⟩
        · skip
          have hNB : ¬ (∀ j : Int, 0 ≤ j → j < σ (3 + 2 * i2.toNat) 3 → -1 ≤ σ ((3 + 2 * i2.toNat) + 1) (100000 + j) ∧ σ ((3 + 2 * i2.toNat) + 1) (100000 + j) ≤ 39) := by
            rcases e44 with q | q
            · omega
            · exact q.2
          refine a_aload_n C dX6_pack_50 2 rfl rfl ?_
          refine a_iconst C dX6_pack_51 ?_
          refine a_cVI C (k0 := 1) (As := [vI 1]) (rest := []) (c_X6_none x.2.1 v σ hS 1 (by omega)) gX6_pack_X6_none rfl (by decide +kernel) (by decide) hS.f0 rfl hS.n0 rfl rfl (Nat.le_of_ble_eq_true rfl) dX6_pack_52 (fun z52 u52 r52 p52 => ?_)
          obtain ⟨e52, p52⟩ := p52
          subst u52
          refine hret _ _ _ _ dX6_pack_55 (by omega) ?_
          (repeat (first | rw [if_pos (by omega)] | rw [if_neg (by omega)] | rw [if_pos hNB] | rw [if_neg (fun q => q hRB)]))
          exact ⟨by omega, rfl⟩
      · skip
        refine a_aload_n C dX6_pack_36 2 rfl rfl ?_
        refine a_iconst C dX6_pack_37 ?_
        refine a_cVI C (k0 := 1) (As := [vI 2]) (rest := []) (c_X6_none x.2.1 v σ hS 2 (by omega)) gX6_pack_X6_none rfl (by decide +kernel) (by decide) hS.f0 rfl hS.n0 rfl rfl (Nat.le_of_ble_eq_true rfl) dX6_pack_38 (fun z38 u38 r38 p38 => ?_)
        obtain ⟨e38, p38⟩ := p38
        subst u38
        refine hret _ _ _ _ dX6_pack_41 (by omega) ?_
        (repeat (first | rw [if_pos (by omega)] | rw [if_neg (by omega)] | rw [if_pos hNB] | rw [if_neg (fun q => q hRB)]))
        exact ⟨by omega, rfl⟩
    · skip
      show At x v A Q _ 11 [(3, .ref (vq v (11 + 10 * i1.toNat))), (0, .ref (vq v 0)), (1, vI i1), (2, vI i2)] [.null] σ
      refine a_astoreN C [(4, .null), (3, .ref (vq v (11 + 10 * i1.toNat))), (0, .ref (vq v 0)), (1, vI i1), (2, vI i2)] dX6_pack_11 (by decide) rfl ?_
      refine a_aload_n C dX6_pack_13 1 rfl rfl ?_
      refine a_ifnull C dX6_pack_14 ?_
      refine a_aloadN C dX6_pack_17 0 rfl ?_
      refine a_ifnonnullN C dX6_pack_19 ?_
      refine a_aload_n C dX6_pack_22 2 rfl rfl ?_
      refine a_iconst C dX6_pack_23 ?_
      refine a_cVI C (k0 := 1) (As := [vI 1]) (rest := []) (c_X6_none x.2.1 v σ hS 1 (by omega)) gX6_pack_X6_none rfl (by decide +kernel) (by decide) hS.f0 rfl hS.n0 rfl rfl (Nat.le_of_ble_eq_true rfl) dX6_pack_24 (fun z24 u24 r24 p24 => ?_)
      obtain ⟨e24, p24⟩ := p24
      subst u24
      refine hret _ _ _ _ dX6_pack_27 (by omega) ?_
      (repeat (first | rw [if_pos (by omega)] | rw [if_neg (by omega)] | rw [if_pos hNB] | rw [if_neg (fun q => q hRB)]))
      exact ⟨by omega, rfl⟩
  · skip
    show At x v A Q _ 5 [(0, .ref (vq v 0)), (1, vI i1), (2, vI i2)] [.null] σ
    refine a_astore_nN C 3 [(3, .null), (0, .ref (vq v 0)), (1, vI i1), (2, vI i2)] dX6_pack_5 rfl (by decide) rfl ?_
    refine a_aload_n C dX6_pack_6 1 rfl rfl ?_
    refine a_iload_n C dX6_pack_7 3 rfl rfl ?_
    refine a_cVQ C (k0 := 1) (As := [vI i2]) (rest := []) (c_X6_trayAt x.2.1 v σ hS i2 (by omega)) gX6_pack_X6_trayAt rfl (by decide +kernel) (by decide) hS.f0 rfl hS.n0 rfl rfl (Nat.le_of_ble_eq_true rfl) dX6_pack_8 (fun z8 u8 p8 => ?_)
    obtain ⟨e8, p8⟩ := p8
    subst u8
    rcases e8 with ⟨q8, h8⟩ | ⟨q8, h8⟩ <;> subst h8
    · skip
      show At x v A Q _ 11 [(3, .null), (0, .ref (vq v 0)), (1, vI i1), (2, vI i2)] [.ref (vq v (3 + 2 * i2.toNat))] σ
      refine a_astore C [(4, .ref (vq v (3 + 2 * i2.toNat))), (3, .null), (0, .ref (vq v 0)), (1, vI i1), (2, vI i2)] dX6_pack_11 (by decide) rfl ?_
      refine a_aload_nN C dX6_pack_13 1 rfl rfl ?_
      refine a_ifnullN C 22 dX6_pack_14 (by decide) ?_
      refine a_aload_n C dX6_pack_22 2 rfl rfl ?_
      refine a_iconst C dX6_pack_23 ?_
      refine a_cVI C (k0 := 1) (As := [vI 1]) (rest := []) (c_X6_none x.2.1 v σ hS 1 (by omega)) gX6_pack_X6_none rfl (by decide +kernel) (by decide) hS.f0 rfl hS.n0 rfl rfl (Nat.le_of_ble_eq_true rfl) dX6_pack_24 (fun z24 u24 r24 p24 => ?_)
      obtain ⟨e24, p24⟩ := p24
      subst u24
      refine hret _ _ _ _ dX6_pack_27 (by omega) ?_
      (repeat (first | rw [if_pos (by omega)] | rw [if_neg (by omega)] | rw [if_pos hNB] | rw [if_neg (fun q => q hRB)]))
      exact ⟨by omega, rfl⟩
    · skip
      show At x v A Q _ 11 [(3, .null), (0, .ref (vq v 0)), (1, vI i1), (2, vI i2)] [.null] σ
      refine a_astoreN C [(4, .null), (3, .null), (0, .ref (vq v 0)), (1, vI i1), (2, vI i2)] dX6_pack_11 (by decide) rfl ?_
      refine a_aload_nN C dX6_pack_13 1 rfl rfl ?_
      refine a_ifnullN C 22 dX6_pack_14 (by decide) ?_
      refine a_aload_n C dX6_pack_22 2 rfl rfl ?_
      refine a_iconst C dX6_pack_23 ?_
      refine a_cVI C (k0 := 1) (As := [vI 1]) (rest := []) (c_X6_none x.2.1 v σ hS 1 (by omega)) gX6_pack_X6_none rfl (by decide +kernel) (by decide) hS.f0 rfl hS.n0 rfl rfl (Nat.le_of_ble_eq_true rfl) dX6_pack_24 (fun z24 u24 r24 p24 => ?_)
      obtain ⟨e24, p24⟩ := p24
      subst u24
      refine hret _ _ _ _ dX6_pack_27 (by omega) ?_
      (repeat (first | rw [if_pos (by omega)] | rw [if_neg (by omega)] | rw [if_pos hNB] | rw [if_neg (fun q => q hRB)]))
      exact ⟨by omega, rfl⟩
