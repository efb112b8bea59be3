theorem itrR_app {α : Type} {f : Int → α → α} {b c : Int} : ∀ (n : Nat) (a : Int) (s : α), b = a + n → b ≤ c → itrR f b c (itrR f a b s) = itrR f a c s := by
  intro n
  induction n with
  | zero => intro a s h _; rw [itrR_nil (a := a) (by omega), show b = a by omega]
  | succ n ih => intro a s h hc; rw [itrR_step (a := a) (b := b) (by omega), itrR_step (a := a) (b := c) (by omega)]; exact ih (a + 1) _ (by omega) hc
theorem dp_break {lv : Int → Int} {L : Int} {n : Nat} {f t : Int} (hf : f ≤ t) (ht : t ≤ 39) (h : L < erI lv f t) : itrR (dpF lv L n f) f t 1000000000 = dpS lv L (n + 1) f := by
  have e := itrR_app (f := dpF lv L n f) (b := t) (c := 40) (t - f).toNat f 1000000000 (by omega) (by omega)
  rw [dpF_over (40 - t).toNat t _ (by omega) hf h] at e
  rw [dpS_succ]; exact e
theorem dpS_40 (lv : Int → Int) (L : Int) (n : Nat) : dpS lv L n 40 = if n = 0 then 0 else 1000000000 := by
  cases n with
  | zero => rfl
  | succ n => rw [dpS_succ, itrR_nil (by omega)]; rfl
theorem dpS_0 (lv : Int → Int) (L : Int) {f : Int} (h : f < 40) : dpS lv L 0 f = 1000000000 := by unfold dpS; rw [if_neg (by omega)]
theorem feI_W {lv : Int → Int} {L : Int} {n : Nat} {f : Int} (h : f < 40) : f ≤ feI lv L n f ∧ feI lv L n f ≤ 39 := by
  unfold feI
  obtain ⟨h1, h2, -, -⟩ := fnd_spec (fun t => decide (erI lv f t ≤ L) && decide (erI lv f t + dpS lv L n (t + 1) = dpS lv L (n + 1) f)) (39 - f).toNat f
  omega
theorem plB_W (lv : Int → Int) (L : Int) (many : Nat) (i : Nat) : 0 ≤ plB lv L many i ∧ plB lv L many i ≤ 40 := by
  induction i with
  | zero => unfold plB; decide
  | succ i ih =>
    unfold plB
    split
    · next q => have := feI_W (lv := lv) (L := L) (n := many - i - 1) q; omega
    · omega
set_option maxHeartbeats 4000000 in
set_option maxRecDepth 100000 in
theorem c_X2_sumUp (l : Launch) (v : VC) (σ : Mem) (b : Nat) (hS : shPl v b) (ma li : Int) (hL : ∀ j : Int, 0 ≤ j → j < 40 → -1 ≤ σ (b + 2) j ∧ σ (b + 2) j ≤ 10000) (hma : 1 ≤ ma ∧ ma ≤ 12) (hli : rg li) : CtV l yX2_sumUp wsX2_sumUp 2 47 v [.ref (vq v b), vI ma, vI li] σ (fun u => (∀ (n : Nat) (j : Int), (n : Int) ≤ ma → 0 ≤ j → j ≤ 40 → u (b + 3) (n * 41 + j) = dpS (σ (b + 2)) li n j) ∧ (∀ a : Nat, a ≠ b → a ≠ b + 3 → u a = σ a)) := by
  refine mkV (cc := cX2_sumUp) (n := 6) (by decide +kernel) rfl (Nat.le_of_ble_eq_true rfl) (fun x A Q hx C hret => ?_)
  subst hx
  show At x v A Q _ 0 [(0, .ref (vq v b)), (1, vI ma), (2, vI li)] [] σ
  have iX2 : ∀ w ∈ wsX20, w ∈ wsX2_sumUp := by decide +kernel
  have k18 : Cond.fieldLink RX2 18 (TX2 2).1 (TX2 2).2.1 (TX2 2).2.2.1 ∈ wsX2_sumUp := by decide +kernel
  have lpi : ∀ (f1 : Int) (μ : Mem), (0 ≤ f1 ∧ f1 ≤ 39) → (μ b 3, μ b 4) = pe0 → (∀ (n : Nat) (j : Int), (n : Int) ≤ ma → f1 < j → j ≤ 40 → μ (b + 3) (n * 41 + j) = dpS (σ (b + 2)) li n j) → (∀ (n : Nat) (j : Int), (n : Int) ≤ ma → 0 ≤ j → j ≤ f1 → μ (b + 3) (n * 41 + j) = 1000000000) → (∀ p : Int, 0 ≤ p → p < 533 → 0 ≤ μ (b + 3) p ∧ μ (b + 3) p ≤ 1000000000) → (∀ a : Nat, a ≠ b → a ≠ b + 3 → μ a = σ a) → (∀ τ : Mem, (∀ n : Nat, (n : Int) < ma → τ (b + 3) ((n + 1) * 41 + f1) = dpS (σ (b + 2)) li (n + 1) f1) → (∀ (n : Nat) (j : Int), (n : Int) ≤ ma → f1 < j → j ≤ 40 → τ (b + 3) (n * 41 + j) = dpS (σ (b + 2)) li n j) → (∀ (n : Nat) (j : Int), (n : Int) ≤ ma → 0 ≤ j → j < f1 → τ (b + 3) (n * 41 + j) = 1000000000) → τ (b + 3) f1 = 1000000000 → (∀ p : Int, 0 ≤ p → p < 533 → 0 ≤ τ (b + 3) p ∧ τ (b + 3) p ≤ 1000000000) → (∀ a : Nat, a ≠ b → a ≠ b + 3 → τ a = σ a) → At x v A Q 6 75 [(3, vI f1), (0, .ref (vq v b)), (1, vI ma), (2, vI li)] [] τ) → At x v A Q 6 35 [(4, vI f1), (3, vI f1), (0, .ref (vq v b)), (1, vI ma), (2, vI li)] [] μ := by
    intro f1 μ i0 gP gD gU gB gF hk
    have lq : ∀ (n : Nat) (t1 : Int) (τ : Mem) , (40 - t1).toNat = n → f1 ≤ t1 ∧ t1 ≤ 40 → (τ b 3, τ b 4) = itrR (peF (σ (b + 2))) f1 t1 pe0 → (∀ n : Nat, (n : Int) < ma → τ (b + 3) ((n + 1) * 41 + f1) = itrR (dpF (σ (b + 2)) li n f1) f1 t1 1000000000) → (∀ (n : Nat) (j : Int), (n : Int) ≤ ma → f1 < j → j ≤ 40 → τ (b + 3) (n * 41 + j) = dpS (σ (b + 2)) li n j) → (∀ (n : Nat) (j : Int), (n : Int) ≤ ma → 0 ≤ j → j < f1 → τ (b + 3) (n * 41 + j) = 1000000000) → τ (b + 3) f1 = 1000000000 → (∀ p : Int, 0 ≤ p → p < 533 → 0 ≤ τ (b + 3) p ∧ τ (b + 3) p ≤ 1000000000) → (∀ a : Nat, a ≠ b → a ≠ b + 3 → τ a = σ a) → At x v A Q 6 35 [(4, vI t1), (3, vI f1), (0, .ref (vq v b)), (1, vI ma), (2, vI li)] [] τ := by
      intro n
      induction n using Nat.strongRecOn with
      | _ n ih =>
        intro t1 τ hn i1 iP iR iD iU iz iB iF
        refine a_iload C dX2_sumUp_35 0 rfl ?_
        refine a_bipush C dX2_sumUp_37 ?_
        refine a_icmp_ge C 75 (by omega) (by decide) dX2_sumUp_39 (by decide) (fun c39 => ?_) (fun c39 => ?_)
        · skip
          refine a_sub [1, 2, 3, 4] [(3, vI f1), (0, .ref (vq v b)), (1, vI ma), (2, vI li)] rfl ?_
          have ht40 : t1 = 40 := by omega
          subst ht40
          exact hk τ (fun n hn => by rw [iR n hn, dpS_succ]) iD iU iz iB iF
        · skip
          refine a_aload_n C dX2_sumUp_42 2 rfl rfl ?_
          refine a_iload C dX2_sumUp_43 0 rfl ?_
          refine a_cVI C (k0 := 1) (As := [vI t1]) (rest := []) (c_X2_errorWith x.2.1 v τ b hS t1 (by omega) (by rw [iP]; exact pe_W hL i0.1 (t1 - f1).toNat t1 (by omega) (by omega)) (by rw [iF (b + 2) (by omega) (by omega)]; exact hL t1 (by omega) (by omega))) gX2_sumUp_X2_errorWith rfl (by decide +kernel) (by decide) hS.f0 rfl hS.n0 rfl rfl (Nat.le_of_ble_eq_true rfl) dX2_sumUp_45 (fun z45 u45 r45 p45 => ?_)
          obtain ⟨e45, a45, b45, f45⟩ := p45
          have e45 : z45 = erI (σ (b + 2)) f1 t1 := by rw [e45, iP, iF (b + 2) (by omega) (by omega)]; unfold erI; rw [itrR_right (by omega)]
          have w45 := erI_W hL i0.1 (show t1 < 40 by omega) (show f1 ≤ t1 + 1 by omega)
          rw [← e45] at w45
          refine a_istore C [(5, vI z45), (4, vI t1), (3, vI f1), (0, .ref (vq v b)), (1, vI ma), (2, vI li)] dX2_sumUp_48 (by decide) rfl ?_
          refine a_iload C dX2_sumUp_50 0 rfl ?_
          refine a_iload_n C dX2_sumUp_52 5 rfl rfl ?_
          refine a_icmp_le C 59 r45 (by omega) dX2_sumUp_53 (by decide) (fun c53 => ?_) (fun c53 => ?_)
          · skip
            refine a_aload_n C dX2_sumUp_59 3 rfl rfl ?_
            refine a_iload_n C dX2_sumUp_60 4 rfl rfl ?_
            refine a_iload_n C dX2_sumUp_61 2 rfl rfl ?_
            refine a_iload C dX2_sumUp_62 1 rfl ?_
            refine a_iload C dX2_sumUp_64 0 rfl ?_
            refine a_cVV C (k0 := 4) (As := [vI ma, vI f1, vI t1, vI z45]) (rest := []) (c_X2_offerPiece x.2.1 v u45 b hS ma f1 t1 z45 (by omega) (by omega) (by omega) (by rw [f45 (b + 3) (by omega)]; exact iB)) gX2_sumUp_X2_offerPiece rfl (by decide +kernel) (by decide) hS.f0 rfl hS.n0 rfl rfl (Nat.le_of_ble_eq_true rfl) dX2_sumUp_66 (fun u66 p66 => ?_)
            refine a_iinc C (t1 + 1) [(4, vI (t1 + 1)), (5, vI z45), (3, vI f1), (0, .ref (vq v b)), (1, vI ma), (2, vI li)] dX2_sumUp_69 1 rfl (by omega) (by decide) rfl ?_
            refine a_goto C 35 dX2_sumUp_72 (by decide) ?_
            refine a_sub [0, 2, 3, 4, 5] [(4, vI (t1 + 1)), (3, vI f1), (0, .ref (vq v b)), (1, vI ma), (2, vI li)] rfl ?_
            obtain ⟨⟨o1, o2⟩, o3⟩ := p66
            refine ih _ (by omega) (t1 + 1) _ rfl (by omega) ?_ ?_ ?_ ?_ ?_ ?_ (fun a q q3 => by rw [o3 a q3, f45 a q]; exact iF a q q3)
            · rw [itrR_right (by omega), ← iP, o3 b (by omega), a45, b45, iF (b + 2) (by omega) (by omega)]
            · intro n hn
              have q := o1 (n + 1) (by omega) (by omega)
              rw [show ((n : Int) + 1 - 1) * 41 + (t1 + 1) = n * 41 + (t1 + 1) by omega, f45 (b + 3) (by omega), iD n (t1 + 1) (by omega) (by omega) (by omega), iR n hn] at q
              rw [q, itrR_right (by omega)]
              unfold dpF
              rw [if_pos (by rw [← e45]; omega), ← e45]
            · intro n j h1 h2 h3
              rw [o2 _ (fun k1 _ _ => by omega), f45 (b + 3) (by omega)]
              exact iD n j h1 h2 h3
            · intro n j h1 h2 h3
              rw [o2 _ (fun k1 _ _ => by omega), f45 (b + 3) (by omega)]
              exact iU n j h1 h2 h3
            · rw [o2 _ (fun k1 _ _ => by omega), f45 (b + 3) (by omega)]
              exact iz
            · intro p h1 h2
              by_cases hk : ∃ k1 : Int, 1 ≤ k1 ∧ k1 ≤ ma ∧ p = k1 * 41 + f1
              · obtain ⟨k1, k2, k3, k4⟩ := hk
                have c1 := iB p h1 h2
                have c2 := iB ((k1 - 1) * 41 + (t1 + 1)) (by omega) (by omega)
                rw [k4, o1 k1 k2 k3, f45 (b + 3) (by omega)]
                rw [k4] at c1
                omega
              · rw [o2 p (fun k1 k2 k3 k4 => hk ⟨k1, k2, k3, k4⟩), f45 (b + 3) (by omega)]
                exact iB p h1 h2
          · skip
            refine a_goto C 75 dX2_sumUp_56 (by decide) ?_
            refine a_sub [2, 3, 4, 5] [(3, vI f1), (0, .ref (vq v b)), (1, vI ma), (2, vI li)] rfl ?_
            refine hk u45 (fun n hn => ?_) (fun n j h1 h2 h3 => ?_) (fun n j h1 h2 h3 => ?_) ?_ (fun p h1 h2 => ?_) (fun a q q3 => ?_)
            · rw [f45 (b + 3) (by omega), iR n hn]; exact dp_break (by omega) (by omega) (by rw [← e45]; omega)
            · rw [f45 (b + 3) (by omega)]; exact iD n j h1 h2 h3
            · rw [f45 (b + 3) (by omega)]; exact iU n j h1 h2 h3
            · rw [f45 (b + 3) (by omega)]; exact iz
            · rw [f45 (b + 3) (by omega)]; exact iB p h1 h2
            · rw [f45 a q]; exact iF a q q3
    refine lq _ f1 μ rfl (by omega) ?_ (fun n hn => ?_) gD (fun n j h1 h2 h3 => gU n j h1 h2 (by omega)) ?_ gB gF
    · rw [itrR_nil (by omega)]; exact gP
    · rw [itrR_nil (by omega)]; exact gU (n + 1) f1 (by omega) (by omega) (by omega)
    · have := gU 0 f1 (by omega) (by omega) (by omega); simpa using this
  have lpo : ∀ (n : Nat) (f1 : Int) (τ : Mem) , ((f1 + 1)).toNat = n → -1 ≤ f1 ∧ f1 ≤ 39 → (∀ (n : Nat) (j : Int), (n : Int) ≤ ma → f1 < j → j ≤ 40 → τ (b + 3) (n * 41 + j) = dpS (σ (b + 2)) li n j) → (∀ (n : Nat) (j : Int), (n : Int) ≤ ma → 0 ≤ j → j ≤ f1 → τ (b + 3) (n * 41 + j) = 1000000000) → (∀ p : Int, 0 ≤ p → p < 533 → 0 ≤ τ (b + 3) p ∧ τ (b + 3) p ≤ 1000000000) → (∀ a : Nat, a ≠ b → a ≠ b + 3 → τ a = σ a) → At x v A Q 6 24 [(3, vI f1), (0, .ref (vq v b)), (1, vI ma), (2, vI li)] [] τ := by
    intro n
    induction n using Nat.strongRecOn with
    | _ n ih =>
      intro f1 τ hn i1 iD iU iB iF
      refine a_iload_n C dX2_sumUp_24 0 rfl rfl ?_
      refine a_if_lt C 81 (by omega) dX2_sumUp_25 (by decide) (fun c25 => ?_) (fun c25 => ?_)
      · skip
        have hf : f1 = -1 := by omega
        subst hf
        exact hret _ _ _ dX2_sumUp_81 ⟨fun n j h1 h2 h3 => iD n j h1 (by omega) h3, iF⟩
      · skip
        refine a_aload_n C dX2_sumUp_28 1 rfl rfl ?_
        refine a_cVV C (k0 := 0) (As := []) (rest := []) (c_X2_beginPiece x.2.1 v τ b hS ) gX2_sumUp_X2_beginPiece rfl (by decide +kernel) (by decide) hS.f0 rfl hS.n0 rfl rfl (Nat.le_of_ble_eq_true rfl) dX2_sumUp_29 (fun u29 p29 => ?_)
        obtain ⟨a29, b29, f29⟩ := p29
        refine a_iload_n C dX2_sumUp_32 0 rfl rfl ?_
        refine a_istore C [(4, vI f1), (3, vI f1), (0, .ref (vq v b)), (1, vI ma), (2, vI li)] dX2_sumUp_33 (by decide) rfl ?_
        refine lpi f1 _ (by omega) (by rw [a29, b29]; rfl) (fun n j h1 h2 h3 => by rw [f29 (b + 3) (by omega)]; exact iD n j h1 h2 h3) (fun n j h1 h2 h3 => by rw [f29 (b + 3) (by omega)]; exact iU n j h1 h2 h3) (by rw [f29 (b + 3) (by omega)]; exact iB) (fun a q q3 => by rw [f29 a q]; exact iF a q q3) (fun u75 hR hD hU hz hB2 hF => ?_)
        refine a_iinc C (f1 - 1) [(3, vI (f1 - 1)), (0, .ref (vq v b)), (1, vI ma), (2, vI li)] dX2_sumUp_75 0 rfl (by omega) (by decide) rfl ?_
        refine a_goto C 24 dX2_sumUp_78 (by decide) ?_
        refine ih _ (by omega) (f1 - 1) _ rfl (by omega) (fun n j h1 h2 h3 => ?_) (fun n j h1 h2 h3 => hU n j h1 h2 (by omega)) hB2 hF
        by_cases hj : j = f1
        · subst hj
          cases n with
          | zero => rw [dpS_0 _ _ (by omega)]; simpa using hz
          | succ n => exact hR n (by omega)
        · exact hD n j h1 (by omega) h3
  refine a_aload_n C dX2_sumUp_0 0 rfl rfl ?_
  refine a_getf C hS.f0 hS.n0 (Cn := RX2) (T := TX2) (N := 5) rfl iX2 2 (by decide) k18 (w := .ref (vq v (b + 3))) rfl dX2_sumUp_1 ?_
  refine a_ldc C 1000000000 (w := 1000000000) (by decide +kernel) rfl dX2_sumUp_4 ?_
  refine a_cSV C (k0 := 2) (As := [.ref (vq v (b + 3)), vI 1000000000]) (rest := []) (c_J7_fill_53178 x.2.1 v σ (b + 3) 533 hS.f3 hS.n3 hS.tI 1000000000 (by decide) (by first | decide | omega)) gX2_sumUp_J7_fill_53178 rfl (by decide +kernel) (by decide) rfl rfl (Nat.le_of_ble_eq_true rfl) dX2_sumUp_6 (fun u6 p6 => ?_)
  obtain ⟨f6, g6, o6⟩ := p6
  refine a_aload_n C dX2_sumUp_9 0 rfl rfl ?_
  refine a_getf C hS.f0 hS.n0 (Cn := RX2) (T := TX2) (N := 5) rfl iX2 2 (by decide) k18 (w := .ref (vq v (b + 3))) rfl dX2_sumUp_10 ?_
  refine a_iconst C dX2_sumUp_13 ?_
  refine a_bipush C dX2_sumUp_14 ?_
  refine a_cSI C (k0 := 2) (As := [vI 0, vI 40]) (rest := [.ref (vq v (b + 3))]) (c_X2_at x.2.1 v u6 0 40 (by omega) (by omega)) gX2_sumUp_X2_at rfl (by decide +kernel) (by decide) rfl rfl (Nat.le_of_ble_eq_true rfl) dX2_sumUp_16 (fun z16 u16 r16 p16 => ?_)
  obtain ⟨e16, p16⟩ := p16
  subst u16
  refine a_iconst C dX2_sumUp_19 ?_
  refine a_iast C hS.f3 hS.n3 0 hS.tI (by omega) (by omega) (by decide) (by decide) dX2_sumUp_20 ?_
  refine a_bipush C dX2_sumUp_21 ?_
  refine a_istore_n C 3 [(3, vI 39), (0, .ref (vq v b)), (1, vI ma), (2, vI li)] dX2_sumUp_23 rfl (by decide) rfl ?_
  refine lpo _ 39 _ rfl (by omega) (fun n j h1 h2 h3 => ?_) (fun n j h1 h2 h3 => ?_) (fun p h1 h2 => ?_) (fun a q q3 => ?_)
  · rw [show j = 40 by omega, dpS_40, e16]
    by_cases hn : n = 0
    · subst hn; rw [show (((0 : Nat) : Int) * 41 + 40) = 0 * 41 + 40 by omega, sput_s, if_pos rfl]
    · rw [if_neg hn, sput_j _ _ _ _ _ (by omega)]; exact g6 _ (by omega) (by omega)
  · rw [sput_j _ _ _ _ _ (by omega)]; exact g6 _ (by omega) (by omega)
  · by_cases hp : p = z16
    · subst hp; rw [sput_s]; decide
    · rw [sput_j _ _ _ _ _ hp, g6 p (by omega) (by omega)]; decide
  · rw [sput_r q3]; exact f6 a q3
set_option maxHeartbeats 4000000 in
set_option maxRecDepth 100000 in
theorem c_X2_firstEnd (l : Launch) (v : VC) (σ : Mem) (b : Nat) (hS : shPl v b) (ma k1 f1 li : Int) (hL : ∀ j : Int, 0 ≤ j → j < 40 → -1 ≤ σ (b + 2) j ∧ σ (b + 2) j ≤ 10000) (hma : 1 ≤ k1 ∧ k1 ≤ ma ∧ ma ≤ 12) (hf : 0 ≤ f1 ∧ f1 ≤ 40) (hli : rg li) (hD : ∀ (n : Nat) (j : Int), (n : Int) ≤ ma → 0 ≤ j → j ≤ 40 → σ (b + 3) (n * 41 + j) = dpS (σ (b + 2)) li n j) : CtI l yX2_firstEnd wsX2_firstEnd 2 44 v [.ref (vq v b), vI k1, vI f1, vI li] σ (fun z u => z = (if f1 < 40 then feI (σ (b + 2)) li (k1 - 1).toNat f1 else 39) ∧ (∀ a : Nat, a ≠ b → u a = σ a)) := by
  refine mkI (cc := cX2_firstEnd) (n := 6) (by decide +kernel) rfl (Nat.le_of_ble_eq_true rfl) (fun x A Q hx C hret => ?_)
  subst hx
  show At x v A Q _ 0 [(0, .ref (vq v b)), (1, vI k1), (2, vI f1), (3, vI li)] [] σ
  have iX2 : ∀ w ∈ wsX20, w ∈ wsX2_firstEnd := by decide +kernel
  have k18 : Cond.fieldLink RX2 18 (TX2 2).1 (TX2 2).2.1 (TX2 2).2.2.1 ∈ wsX2_firstEnd := by decide +kernel
  have lp : ∀ (n : Nat) (t1 : Int) (τ : Mem) , (40 - t1).toNat = n → f1 ≤ t1 ∧ t1 ≤ 40 → (τ b 3, τ b 4) = itrR (peF (σ (b + 2))) f1 t1 pe0 → (t1 < 40 → fnd (fun t => decide (erI (σ (b + 2)) f1 t ≤ li) && decide (erI (σ (b + 2)) f1 t + dpS (σ (b + 2)) li (k1 - 1).toNat (t + 1) = dpS (σ (b + 2)) li ((k1 - 1).toNat + 1) f1)) (39 - t1).toNat t1 = (if f1 < 40 then feI (σ (b + 2)) li (k1 - 1).toNat f1 else 39)) → (t1 = 40 → (if f1 < 40 then feI (σ (b + 2)) li (k1 - 1).toNat f1 else 39) = 39) → (∀ a : Nat, a ≠ b → τ a = σ a) → At x v A Q 6 7 [(4, vI t1), (0, .ref (vq v b)), (1, vI k1), (2, vI f1), (3, vI li)] [] τ := by
    intro n
    induction n using Nat.strongRecOn with
    | _ n ih =>
      intro t1 τ hn i1 iP iR iE iF
      refine a_iload C dX2_firstEnd_7 0 rfl ?_
      refine a_bipush C dX2_firstEnd_9 ?_
      refine a_icmp_ge C 71 (by omega) (by decide) dX2_firstEnd_11 (by decide) (fun c11 => ?_) (fun c11 => ?_)
      · skip
        refine a_bipush C dX2_firstEnd_71 ?_
        exact hret _ _ _ _ dX2_firstEnd_73 (by decide) ⟨(iE (by omega)).symm, iF⟩
      · skip
        refine a_aload_n C dX2_firstEnd_14 1 rfl rfl ?_
        refine a_iload C dX2_firstEnd_15 0 rfl ?_
        refine a_cVI C (k0 := 1) (As := [vI t1]) (rest := []) (c_X2_errorWith x.2.1 v τ b hS t1 (by omega) (by rw [iP]; exact pe_W hL hf.1 (t1 - f1).toNat t1 (by omega) (by omega)) (by rw [iF (b + 2) (by omega)]; exact hL t1 (by omega) (by omega))) gX2_firstEnd_X2_errorWith rfl (by decide +kernel) (by decide) hS.f0 rfl hS.n0 rfl rfl (Nat.le_of_ble_eq_true rfl) dX2_firstEnd_17 (fun z17 u17 r17 p17 => ?_)
        obtain ⟨e17, a17, b17, f17⟩ := p17
        have e17 : z17 = erI (σ (b + 2)) f1 t1 := by rw [e17, iP, iF (b + 2) (by omega)]; unfold erI; rw [itrR_right (by omega)]
        have w17 := erI_W hL hf.1 (show t1 < 40 by omega) (show f1 ≤ t1 + 1 by omega)
        rw [← e17] at w17
        refine a_istore C [(5, vI z17), (4, vI t1), (0, .ref (vq v b)), (1, vI k1), (2, vI f1), (3, vI li)] dX2_firstEnd_20 (by decide) rfl ?_
        refine a_iload C dX2_firstEnd_22 0 rfl ?_
        refine a_iload_n C dX2_firstEnd_24 5 rfl rfl ?_
        refine a_icmp_le C 31 r17 (by omega) dX2_firstEnd_25 (by decide) (fun c25 => ?_) (fun c25 => ?_)
        · skip
          refine a_iload C dX2_firstEnd_31 0 rfl ?_
          refine a_aload_n C dX2_firstEnd_33 2 rfl rfl ?_
          refine a_getf C hS.f0 hS.n0 (Cn := RX2) (T := TX2) (N := 5) rfl iX2 2 (by decide) k18 (w := .ref (vq v (b + 3))) rfl dX2_firstEnd_34 ?_
          refine a_iload_n C dX2_firstEnd_37 3 rfl rfl ?_
          refine a_iconst C dX2_firstEnd_38 ?_
          refine a_isub C dX2_firstEnd_39 ?_
          refine a_iload C dX2_firstEnd_40 1 rfl ?_
          refine a_iconst C dX2_firstEnd_42 ?_
          refine a_iadd C dX2_firstEnd_43 ?_
          refine a_cSI C (k0 := 2) (As := [vI (k1 - 1), vI (t1 + 1)]) (rest := [.ref (vq v (b + 3)), vI z17]) (c_X2_at x.2.1 v u17 (k1 - 1) (t1 + 1) (by omega) (by omega)) gX2_firstEnd_X2_at rfl (by decide +kernel) (by decide) rfl rfl (Nat.le_of_ble_eq_true rfl) dX2_firstEnd_44 (fun z44 u44 r44 p44 => ?_)
          obtain ⟨e44, p44⟩ := p44
          subst u44
          refine a_iald C hS.f3 hS.n3 0 hS.tI (by omega) (by omega) (by decide) dX2_firstEnd_47 (fun z47 e47 r47 => ?_)
          rw [f17 (b + 3) (by omega), iF (b + 3) (by omega), e44, show (k1 - 1) * 41 + (t1 + 1) = ((k1 - 1).toNat : Int) * 41 + (t1 + 1) by omega, hD (k1 - 1).toNat (t1 + 1) (by omega) (by omega) (by omega)] at e47
          have w47 := dpS_W (σ (b + 2)) li (k1 - 1).toNat (t1 + 1)
          rw [← e47] at w47
          refine a_iadd C dX2_firstEnd_48 ?_
          refine a_aload_n C dX2_firstEnd_49 2 rfl rfl ?_
          refine a_getf C hS.f0 hS.n0 (Cn := RX2) (T := TX2) (N := 5) rfl iX2 2 (by decide) k18 (w := .ref (vq v (b + 3))) rfl dX2_firstEnd_50 ?_
          refine a_iload_n C dX2_firstEnd_53 3 rfl rfl ?_
          refine a_iload_n C dX2_firstEnd_54 4 rfl rfl ?_
          refine a_cSI C (k0 := 2) (As := [vI k1, vI f1]) (rest := [.ref (vq v (b + 3)), vI (z17 + z47)]) (c_X2_at x.2.1 v u17 k1 f1 (by omega) (by omega)) gX2_firstEnd_X2_at rfl (by decide +kernel) (by decide) rfl rfl (Nat.le_of_ble_eq_true rfl) dX2_firstEnd_55 (fun z55 u55 r55 p55 => ?_)
          obtain ⟨e55, p55⟩ := p55
          subst u55
          refine a_iald C hS.f3 hS.n3 0 hS.tI (by omega) (by omega) (by decide) dX2_firstEnd_58 (fun z58 e58 r58 => ?_)
          rw [f17 (b + 3) (by omega), iF (b + 3) (by omega), e55, show k1 * 41 + f1 = (((k1 - 1).toNat + 1 : Nat) : Int) * 41 + f1 by omega, hD ((k1 - 1).toNat + 1) f1 (by omega) (by omega) (by omega)] at e58
          refine a_icmp_ne C 65 (by omega) r58 dX2_firstEnd_59 (by decide) (fun c59 => ?_) (fun c59 => ?_)
          · skip
            refine a_iinc C (t1 + 1) [(4, vI (t1 + 1)), (5, vI z17), (0, .ref (vq v b)), (1, vI k1), (2, vI f1), (3, vI li)] dX2_firstEnd_65 1 rfl (by omega) (by decide) rfl ?_
            refine a_goto C 7 dX2_firstEnd_68 (by decide) ?_
            refine a_sub [0, 2, 3, 4, 5] [(4, vI (t1 + 1)), (0, .ref (vq v b)), (1, vI k1), (2, vI f1), (3, vI li)] rfl ?_
            refine ih _ (by omega) (t1 + 1) _ rfl (by omega) ?_ (fun q => ?_) (fun q => ?_) (fun a q => by rw [f17 a q]; exact iF a q)
            · rw [itrR_right (by omega), ← iP, a17, b17, iF (b + 2) (by omega)]
            · rw [← iR (by omega), show (39 - t1).toNat = (39 - (t1 + 1)).toNat + 1 by omega]
              simp only [fnd]
              rw [if_neg ?_]
              simp only [Bool.and_eq_true, decide_eq_true_eq]
              rw [← e17]
              omega
            · have q2 : t1 = 39 := by omega
              have := iR (by omega)
              subst q2
              exact this.symm
          · skip
            refine a_iload C dX2_firstEnd_62 1 rfl ?_
            refine hret _ _ _ _ dX2_firstEnd_64 (by omega) ⟨?_, fun a q => by rw [f17 a q]; exact iF a q⟩
            rw [← iR (by omega)]
            refine fnd_uniq _ _ _ _ (by omega) (by omega) (fun j q1 q2 => by omega) (fun _ => ?_)
            simp only [Bool.and_eq_true, decide_eq_true_eq]
            rw [← e17]
            omega
        · skip
          refine a_goto C 71 dX2_firstEnd_28 (by decide) ?_
          refine a_bipush C dX2_firstEnd_71 ?_
          refine hret _ _ _ _ dX2_firstEnd_73 (by decide) ⟨?_, fun a q => by rw [f17 a q]; exact iF a q⟩
          rw [← iR (by omega)]
          obtain ⟨g1, g2, g3, g4⟩ := fnd_spec (fun t => decide (erI (σ (b + 2)) f1 t ≤ li) && decide (erI (σ (b + 2)) f1 t + dpS (σ (b + 2)) li (k1 - 1).toNat (t + 1) = dpS (σ (b + 2)) li ((k1 - 1).toNat + 1) f1)) (39 - t1).toNat t1
          refine Classical.byContradiction fun hne => ?_
          have g5 := g4 (by omega)
          simp only [Bool.and_eq_true, decide_eq_true_eq] at g5
          have g6 := erI_mono (lv := (σ (b + 2))) (a := f1) (fnd (fun t => decide (erI (σ (b + 2)) f1 t ≤ li) && decide (erI (σ (b + 2)) f1 t + dpS (σ (b + 2)) li (k1 - 1).toNat (t + 1) = dpS (σ (b + 2)) li ((k1 - 1).toNat + 1) f1)) (39 - t1).toNat t1 - t1).toNat t1 (fnd (fun t => decide (erI (σ (b + 2)) f1 t ≤ li) && decide (erI (σ (b + 2)) f1 t + dpS (σ (b + 2)) li (k1 - 1).toNat (t + 1) = dpS (σ (b + 2)) li ((k1 - 1).toNat + 1) f1)) (39 - t1).toNat t1) (by omega) (by omega)
          have g7 := g5.1
          omega
  refine a_aload_n C dX2_firstEnd_0 0 rfl rfl ?_
  refine a_cVV C (k0 := 0) (As := []) (rest := []) (c_X2_beginPiece x.2.1 v σ b hS ) gX2_firstEnd_X2_beginPiece rfl (by decide +kernel) (by decide) hS.f0 rfl hS.n0 rfl rfl (Nat.le_of_ble_eq_true rfl) dX2_firstEnd_1 (fun u1 p1 => ?_)
  obtain ⟨a1, b1, f1_⟩ := p1
  refine a_iload_n C dX2_firstEnd_4 2 rfl rfl ?_
  refine a_istore C [(4, vI f1), (0, .ref (vq v b)), (1, vI k1), (2, vI f1), (3, vI li)] dX2_firstEnd_5 (by decide) rfl ?_
  refine lp _ f1 _ rfl (by omega) (by rw [itrR_nil (by omega), a1, b1]; rfl) (fun q => by rw [if_pos q]; rfl) (fun q => by rw [if_neg (by omega)]) f1_
set_option maxHeartbeats 4000000 in
set_option maxRecDepth 100000 in
theorem c_X2_plan (l : Launch) (v : VC) (σ : Mem) (b : Nat) (hS : shPl v b) (mn : Nat) (hL : ∀ j : Int, 0 ≤ j → j < 40 → -1 ≤ σ (b + 2) j ∧ σ (b + 2) j ≤ 10000) (hm : 1 ≤ mn ∧ mn ≤ 12) : CtI l yX2_plan wsX2_plan 4 92 v [.ref (vq v b), vI (mn : Int)] σ (fun z u => ((0 ≤ z ∧ z ≤ 10000) ∧ (z = 10000 ∨ fwI (σ (b + 2)) z ≤ (mn : Int)) ∧ (z = 0 ∨ (mn : Int) < fwI (σ (b + 2)) (z - 1))) ∧ (∀ i : Nat, i < mn → u (b + 1) i = plB (σ (b + 2)) z mn (i + 1) - 1) ∧ (∀ a : Nat, a ≠ b → a ≠ b + 1 → a ≠ b + 3 → u a = σ a)) := by
  refine mkI (cc := cX2_plan) (n := 6) (by decide +kernel) rfl (Nat.le_of_ble_eq_true rfl) (fun x A Q hx C hret => ?_)
  subst hx
  show At x v A Q _ 0 [(0, .ref (vq v b)), (1, vI ((mn : Int)))] [] σ
  have iX2 : ∀ w ∈ wsX20, w ∈ wsX2_plan := by decide +kernel
  have k9 : Cond.fieldLink RX2 9 (TX2 0).1 (TX2 0).2.1 (TX2 0).2.2.1 ∈ wsX2_plan := by decide +kernel
  refine a_aload_n C dX2_plan_0 0 rfl rfl ?_
  refine a_iload_n C dX2_plan_1 1 rfl rfl ?_
  refine a_cVI C (k0 := 1) (As := [vI ((mn : Int))]) (rest := []) (c_X2_leastLimit x.2.1 v σ b hS ((mn : Int)) hL (by omega)) gX2_plan_X2_leastLimit rfl (by decide +kernel) (by decide) hS.f0 rfl hS.n0 rfl rfl (Nat.le_of_ble_eq_true rfl) dX2_plan_2 (fun z2 u2 r2 p2 => ?_)
  obtain ⟨g2, f2⟩ := p2
  refine a_istore_n C 2 [(2, vI z2), (0, .ref (vq v b)), (1, vI ((mn : Int)))] dX2_plan_5 rfl (by decide) rfl ?_
  refine a_aload_n C dX2_plan_6 1 rfl rfl ?_
  refine a_iload_n C dX2_plan_7 2 rfl rfl ?_
  refine a_iload_n C dX2_plan_8 0 rfl rfl ?_
  refine a_cVV C (k0 := 2) (As := [vI ((mn : Int)), vI z2]) (rest := []) (c_X2_sumUp x.2.1 v u2 b hS ((mn : Int)) z2 (by rw [f2 (b + 2) (by omega)]; exact hL) (by omega) r2) gX2_plan_X2_sumUp rfl (by decide +kernel) (by decide) hS.f0 rfl hS.n0 rfl rfl (Nat.le_of_ble_eq_true rfl) dX2_plan_9 (fun u9 p9 => ?_)
  obtain ⟨g9, f9⟩ := p9
  refine a_iconst C dX2_plan_12 ?_
  refine a_istore_n C 3 [(3, vI 0), (2, vI z2), (0, .ref (vq v b)), (1, vI ((mn : Int)))] dX2_plan_13 rfl (by decide) rfl ?_
  refine a_iload_n C dX2_plan_14 3 rfl rfl ?_
  refine a_istore C [(4, vI ((mn : Int))), (3, vI 0), (2, vI z2), (0, .ref (vq v b)), (1, vI ((mn : Int)))] dX2_plan_15 (by decide) rfl ?_
  have lp : ∀ (n : Nat) (k f1 : Int) (τ : Mem) , (k).toNat = n → 0 ≤ k ∧ k ≤ mn → (0 ≤ f1 ∧ f1 ≤ 40) → f1 = plB (σ (b + 2)) z2 mn (mn - k.toNat) → (∀ i : Nat, (i : Int) < mn - k → τ (b + 1) i = plB (σ (b + 2)) z2 mn (i + 1) - 1) → (∀ a : Nat, a ≠ b → a ≠ b + 1 → a ≠ b + 3 → τ a = σ a) → (∀ (n : Nat) (j : Int), (n : Int) ≤ (mn : Int) → 0 ≤ j → j ≤ 40 → τ (b + 3) (n * 41 + j) = dpS (σ (b + 2)) z2 n j) → At x v A Q 6 17 [(4, vI k), (3, vI f1), (2, vI z2), (0, .ref (vq v b)), (1, vI ((mn : Int)))] [] τ := by
    intro n
    induction n using Nat.strongRecOn with
    | _ n ih =>
      intro k f1 τ hn i1 i2 iB iE iF iD
      refine a_iload C dX2_plan_17 0 rfl ?_
      refine a_iconst C dX2_plan_19 ?_
      refine a_icmp_lt C 55 (by omega) (by decide) dX2_plan_20 (by decide) (fun c20 => ?_) (fun c20 => ?_)
      · skip
        refine a_iload_n C dX2_plan_55 2 rfl rfl ?_
        have hk : k = 0 := by omega
        subst hk
        exact hret _ _ _ _ dX2_plan_56 (by omega) ⟨g2, fun i q => iE i (by omega), iF⟩
      · skip
        refine a_aload_n C dX2_plan_23 3 rfl rfl ?_
        refine a_iload C dX2_plan_24 0 rfl ?_
        refine a_iload_n C dX2_plan_26 1 rfl rfl ?_
        refine a_iload_n C dX2_plan_27 2 rfl rfl ?_
        refine a_cVI C (k0 := 3) (As := [vI k, vI f1, vI z2]) (rest := []) (c_X2_firstEnd x.2.1 v τ b hS (mn : Int) k f1 z2 (by rw [iF (b + 2) (by omega) (by omega) (by omega)]; exact hL) (by omega) i2 r2 (by rw [iF (b + 2) (by omega) (by omega) (by omega)]; exact iD)) gX2_plan_X2_firstEnd rfl (by decide +kernel) (by decide) hS.f0 rfl hS.n0 rfl rfl (Nat.le_of_ble_eq_true rfl) dX2_plan_28 (fun z28 u28 r28 p28 => ?_)
        obtain ⟨e28, f28⟩ := p28
        rw [iF (b + 2) (by omega) (by omega) (by omega)] at e28
        have w28 : f1 ≤ z28 + 1 ∧ 0 ≤ z28 ∧ z28 ≤ 39 := by rw [e28]; split; (next q => have := feI_W (lv := (σ (b + 2))) (L := z2) (n := (k - 1).toNat) q; omega); omega
        refine a_istore C [(5, vI z28), (4, vI k), (3, vI f1), (2, vI z2), (0, .ref (vq v b)), (1, vI ((mn : Int)))] dX2_plan_31 (by decide) rfl ?_
        refine a_aload_n C dX2_plan_33 4 rfl rfl ?_
        refine a_getf C hS.f0 hS.n0 (Cn := RX2) (T := TX2) (N := 5) rfl iX2 0 (by decide) k9 (w := .ref (vq v (b + 1))) rfl dX2_plan_34 ?_
        refine a_iload_n C dX2_plan_37 5 rfl rfl ?_
        refine a_iload C dX2_plan_38 1 rfl ?_
        refine a_isub C dX2_plan_40 ?_
        refine a_iload C dX2_plan_41 0 rfl ?_
        refine a_iast C hS.f1 hS.n1 0 hS.tI (by omega) (by omega) (by decide) r28 dX2_plan_43 ?_
        refine a_iload C dX2_plan_44 0 rfl ?_
        refine a_iconst C dX2_plan_46 ?_
        refine a_iadd C dX2_plan_47 ?_
        refine a_istore_n C 3 [(3, vI (z28 + 1)), (5, vI z28), (4, vI k), (2, vI z2), (0, .ref (vq v b)), (1, vI ((mn : Int)))] dX2_plan_48 rfl (by decide) rfl ?_
        refine a_iinc C (k - 1) [(4, vI (k - 1)), (3, vI (z28 + 1)), (5, vI z28), (2, vI z2), (0, .ref (vq v b)), (1, vI ((mn : Int)))] dX2_plan_49 2 rfl (by omega) (by decide) rfl ?_
        refine a_goto C 17 dX2_plan_52 (by decide) ?_
        refine a_sub [0, 1, 3, 4, 5] [(4, vI (k - 1)), (3, vI (z28 + 1)), (2, vI z2), (0, .ref (vq v b)), (1, vI ((mn : Int)))] rfl ?_
        refine ih _ (by omega) (k - 1) _ _ rfl (by omega) (by omega) ?_ ?_ (fun a q0 q1 q3 => by rw [sput_r q1, f28 a q0]; exact iF a q0 q1 q3) (fun n j h1 h2 h3 => by rw [sput_r (by omega), f28 (b + 3) (by omega)]; exact iD n j h1 h2 h3)
        · rw [show mn - (k - 1).toNat = (mn - k.toNat) + 1 by omega]
          unfold plB
          rw [← iB, show mn - (mn - k.toNat) - 1 = (k - 1).toNat by omega, e28]
        · intro i q1
          by_cases hi : i = mn - k.toNat
          · subst hi
            rw [show ((mn - k.toNat : Nat) : Int) = (mn : Int) - k by omega, sput_s]
            unfold plB
            rw [← iB, show mn - (mn - k.toNat) - 1 = (k - 1).toNat by omega, e28]
            omega
          · rw [sput_j _ _ _ _ _ (by omega), f28 (b + 1) (by omega)]
            exact iE i (by omega)
  refine lp _ (mn : Int) 0 _ rfl (by omega) (by omega) ?_ (fun i q => by omega) (fun a q0 q1 q3 => by rw [f9 a q0 q3]; exact f2 a q0) ?_
  · rw [show mn - ((mn : Int)).toNat = 0 by omega]; rfl
  · intro n j h1 h2 h3; rw [g9 n j h1 h2 h3, f2 (b + 2) (by omega)]
