theorem skV_other {τ u : Mem} {b o : Nat} (h : skFr τ u o) (hbo : o + 5 < b ∨ b + 5 < o) : skV u b = skV τ b := by
  have e0 : u b 5 = τ b 5 := h b 5 (by omega) (by omega) (by omega) (by omega)
  have e1 : u (b + 1) = τ (b + 1) := by funext j; exact h (b + 1) j (by omega) (by omega) (by omega) (by omega)
  have e2 : u (b + 2) = τ (b + 2) := by funext j; exact h (b + 2) j (by omega) (by omega) (by omega) (by omega)
  have e3 : u (b + 3) = τ (b + 3) := by funext j; exact h (b + 3) j (by omega) (by omega) (by omega) (by omega)
  unfold skV
  rw [e0, e1, e2, e3]
theorem end_mk {τ : Mem} {b : Nat} {v : Int} (h0 : 0 < τ b 5) : (skV τ b).2.1 (spOf (skV τ b).2.1 (skV τ b).1 v) = τ (b + 1) (spOf (τ (b + 1)) (τ b 5) v) := by
  simp only [skV]
  rw [spOf_mk]
  have := spOf_bd (τ (b + 1)) (τ b 5) v
  rw [mkR_in (by omega) (by omega)]
theorem sp_mk {τ : Mem} {b : Nat} {v : Int} : spOf (skV τ b).2.1 (skV τ b).1 v = spOf (τ (b + 1)) (τ b 5) v := by
  simp only [skV]
  rw [spOf_mk]
theorem skC_of {τ : Mem} {b : Nat} {M : Int} (hD : svD (skV τ b)) (hM : l1 (skV τ b) ≤ M) (h4 : M ≤ 400000000) : skC τ b := by
  have h := svB_to (svB_l1 hD hM)
  exact ⟨fun j q1 q2 => by have := (h j q1 q2).1; omega, fun j q1 q2 => (h j q1 q2).2⟩
theorem l1_max {S : SV} {M : Int} (hM : 0 ≤ M) (hn : 0 ≤ S.1 ∧ S.1 ≤ 24) (h : ∀ j : Int, 0 ≤ j → j < S.1 → -M ≤ S.2.2.1 j ∧ S.2.2.1 j ≤ M) : l1 S ≤ M * 24 := by
  have q := smR_bd (f := fun j => abI (S.2.2.1 j)) (a := 0) (b := S.1) (lo := 0) (hi := M) (fun j q1 q2 => by have := h j q1 q2; unfold abI; omega) hn.1
  have g : M * (S.1 - 0) ≤ M * 24 := Int.mul_le_mul_of_nonneg_left (by omega) hM
  unfold l1
  omega
theorem skV_put6 {τ : Mem} {b : Nat} {z : Int} : skV (sput τ b 6 z) b = skV τ b := by
  unfold skV
  rw [sput_r (show b + 1 ≠ b by omega), sput_r (show b + 2 ≠ b by omega), sput_r (show b + 3 ≠ b by omega), sput_j _ _ _ _ _ (by decide)]
theorem skV_rows {τ u : Mem} {b : Nat} (h0 : u b 5 = τ b 5) (h1 : u (b + 1) = τ (b + 1)) : (skV u b).1 = (skV τ b).1 ∧ (skV u b).2.1 = (skV τ b).2.1 := by
  unfold skV
  rw [h0, h1]
  exact ⟨rfl, rfl⟩
/-- what TOGETHER needs of a sketch -/
def tkP (τ : Mem) (b : Nat) : Prop := svD (skV τ b) ∧ l1 (skV τ b) ≤ 2000000
theorem tkP.B {τ : Mem} {b : Nat} (h : tkP τ b) (hH : hcB τ b) : skB τ b := skB_of (svB_mono (svB_l1 h.1 h.2) (by decide)) hH
set_option maxHeartbeats 4000000 in
set_option maxRecDepth 100000 in
theorem c_X4_takeIn (l : Launch) (v : VC) (σ : Mem) (b : Nat) (hS : shSk v b) (o : Nat) (hO : shSk v o) (hbo : o + 5 < b ∨ b + 5 < o) (hE1 : svE (skV σ b)) (hE2 : svE (skV σ o)) (hn1 : σ b 5 ≤ 12) (hn2 : σ o 5 ≤ 12) (hP1 : tkP σ b) (hP2 : tkP σ o) (hH : ∀ j : Int, 0 ≤ j → j < 40 → -4000000 ≤ σ (b + 5) j ∧ σ (b + 5) j ≤ 4000000) (hHo : ∀ j : Int, 0 ≤ j → j < 40 → -200000 ≤ σ (o + 5) j ∧ σ (o + 5) j ≤ 200000) : CtV l yX4_takeIn wsX4_takeIn 4 92 v [.ref (vq v b), .ref (vq v o)] σ (fun u => skV u b = tkV (σ (b + 4)) (σ (o + 4)) (σ (o + 5)) (skV σ b) (skV σ o) ∧ u b 6 = 0 ∧ (∀ j : Int, 0 ≤ j → j < 40 → u (b + 5) j = (if σ (b + 4) j ≠ 0 ∧ σ (o + 4) j ≠ 0 then σ (b + 5) j + σ (o + 5) j else σ (b + 5) j)) ∧ (∀ a : Nat, a ≠ b → a ≠ b + 1 → a ≠ b + 2 → a ≠ b + 3 → a ≠ b + 5 → a ≠ o → a ≠ o + 1 → a ≠ o + 2 → a ≠ o + 3 → u a = σ a)) := by
  refine mkV (cc := cX4_takeIn) (n := 5) (by decide +kernel) rfl (Nat.le_of_ble_eq_true rfl) (fun x A Q hx C hret => ?_)
  subst hx
  show At x v A Q _ 0 [(0, .ref (vq v b)), (1, .ref (vq v o))] [] σ
  have iX4 : ∀ w ∈ wsX40, w ∈ wsX4_takeIn := by decide +kernel
  have k36 : Cond.fieldLink RX4 36 (TX4 6).1 (TX4 6).2.1 (TX4 6).2.2.1 ∈ wsX4_takeIn := by decide +kernel
  have k28 : Cond.fieldLink RX4 28 (TX4 5).1 (TX4 5).2.1 (TX4 5).2.2.1 ∈ wsX4_takeIn := by decide +kernel
  have k15 : Cond.fieldLink RX4 15 (TX4 1).1 (TX4 1).2.1 (TX4 1).2.2.1 ∈ wsX4_takeIn := by decide +kernel
  have k18 : Cond.fieldLink RX4 18 (TX4 2).1 (TX4 2).2.1 (TX4 2).2.2.1 ∈ wsX4_takeIn := by decide +kernel
  have hI0 : tkI 0 (skV σ b, skV σ o) := by
    have q1 := spOf_in hE1 (v := 0) (by decide)
    have q2 := spOf_in hE2 (v := 0) (by decide)
    have z1 : spOf (skV σ b).2.1 (skV σ b).1 0 = 0 := by
      rcases Int.lt_or_le 0 (spOf (skV σ b).2.1 (skV σ b).1 0) with z | z
      · have := q1.2.2.1 0 (by decide) z; have := hE1.2.2.1 0 (by decide) (by have := hE1.1; omega); omega
      · omega
    have z2 : spOf (skV σ o).2.1 (skV σ o).1 0 = 0 := by
      rcases Int.lt_or_le 0 (spOf (skV σ o).2.1 (skV σ o).1 0) with z | z
      · have := q2.2.2.1 0 (by decide) z; have := hE2.2.2.1 0 (by decide) (by have := hE2.1; omega); omega
      · omega
    refine ⟨hE1, hE2, by rw [z1, z2], fun j q1 q2 => ?_, ?_⟩
    · rw [z1] at q2; omega
    · rw [z1]; show σ b 5 + σ o 5 - 0 ≤ 24; omega
  have lp3 : ∀ (n : Nat) (x1 : Int) (τ : Mem) , (x1).toNat = n → x1 = τ b 5 - 12 → svW (skV τ b) → svD (skV τ b) → l1 (skV τ b) ≤ 400000000 → 1 ≤ τ b 5 → fzV x1.toNat (skV τ b) = tkV (σ (b + 4)) (σ (o + 4)) (σ (o + 5)) (skV σ b) (skV σ o) → (∀ j : Int, 0 ≤ j → j < 40 → τ (b + 5) j = (if σ (b + 4) j ≠ 0 ∧ σ (o + 4) j ≠ 0 then σ (b + 5) j + σ (o + 5) j else σ (b + 5) j)) → (∀ a : Nat, a ≠ b → a ≠ b + 1 → a ≠ b + 2 → a ≠ b + 3 → a ≠ b + 5 → a ≠ o → a ≠ o + 1 → a ≠ o + 2 → a ≠ o + 3 → τ a = σ a) → At x v A Q 5 136 [(2, vI x1), (0, .ref (vq v b)), (1, .ref (vq v o))] [] τ := by
    intro n
    induction n using Nat.strongRecOn with
    | _ n ih =>
      intro x1 τ hn i1 iW iD iL in1 iV iH iF
      have iw2 : τ b 5 ≤ 24 := iW.2.1
      refine a_iload_n C dX4_takeIn_136 0 rfl rfl ?_
      refine a_if_le C 155 (by omega) dX4_takeIn_137 (by decide) (fun c137 => ?_) (fun c137 => ?_)
      · skip
        refine a_aload_n C dX4_takeIn_155 1 rfl rfl ?_
        refine a_iconst C dX4_takeIn_156 ?_
        refine a_puti C hS.f0 hS.n0 (Cn := RX4) (T := TX4) (N := 7) rfl iX4 tyX4_ok nmX4 6 (by decide) k36 rfl rfl 6 (by decide) (fun _ => Nat.le_of_ble_eq_true rfl) (fun _ => rfl) dX4_takeIn_157 ?_
        refine hret _ _ _ dX4_takeIn_160 ⟨?_, ?_, ?_, ?_⟩
        · rw [skV_put6, ← iV, show (x1).toNat = 0 by omega]; rfl
        · rw [sput_s]
        · intro j j0 j1; rw [sput_r (by omega)]; exact iH j j0 j1
        · intro a q1 q2 q3 q4 q5 q6 q7 q8 q9; rw [sput_r q1]; exact iF a q1 q2 q3 q4 q5 q6 q7 q8 q9
      · skip
        refine a_aload_n C dX4_takeIn_140 1 rfl rfl ?_
        refine a_aload_n C dX4_takeIn_141 1 rfl rfl ?_
        refine a_iconst C dX4_takeIn_142 ?_
        refine a_cVI C (k0 := 1) (As := [vI (-1)]) (rest := [.ref (vq v b)]) (c_X4_leastPair x.2.1 v τ b hS (-1) (by decide) (skW_iff.mpr iW) (skC_of iD iL (by decide))) gX4_takeIn_X4_leastPair rfl (by decide +kernel) (by decide) hS.f0 rfl hS.n0 rfl rfl (Nat.le_of_ble_eq_true rfl) dX4_takeIn_143 (fun z143 u143 r143 p143 => ?_)
        obtain ⟨e143, p143⟩ := p143
        subst u143
        have g1 := lp_bd (n := τ b 5) (w := -1) (c := τ (b + 2)) (by omega)
        have g2 := lp_some (n := τ b 5) (c := τ (b + 2)) (by omega)
        rw [← e143] at g1 g2
        refine a_cVV C (k0 := 1) (As := [vI z143]) (rest := []) (c_X4_fuse x.2.1 v τ b hS z143 (by omega) (skW_iff.mpr iW) (skC_of iD iL (by decide))) gX4_takeIn_X4_fuse rfl (by decide +kernel) (by decide) hS.f0 rfl hS.n0 rfl rfl (Nat.le_of_ble_eq_true rfl) dX4_takeIn_146 (fun u146 p146 => ?_)
        refine a_iinc C (x1 - 1) [(2, vI (x1 - 1)), (0, .ref (vq v b)), (1, .ref (vq v o))] dX4_takeIn_149 0 rfl (by omega) (by decide) rfl ?_
        refine a_goto C 136 dX4_takeIn_152 (by decide) ?_
        have gW : svW (skV u146 b) := by rw [p146.2]; exact svW_fuse iW (by omega) (by show z143 + 1 < τ b 5; omega)
        have gD : svD (skV u146 b) := by rw [p146.2]; exact svD_fuse iD (by omega) (by show z143 + 1 < τ b 5; omega)
        have gL : l1 (skV u146 b) ≤ 400000000 := by rw [p146.2]; have := l1_fuse (S := skV τ b) (k := z143) (by omega) (by show z143 + 1 < τ b 5; omega); omega
        have g5 : u146 b 5 = τ b 5 - 1 := congrArg Prod.fst p146.2
        refine ih _ (by omega) _ _ rfl (by omega) gW gD gL (by omega) ?_ ?_ ?_
        · rw [← iV, p146.2, show (x1).toNat = (x1 - 1).toNat + 1 by omega]
          simp only [fzV]
          congr 2
          rw [e143]
          show _ = itrR (lpF (mkR (τ b 5) (τ (b + 2))) (-1)) 0 (τ b 5 - 1) (-1)
          rw [lp_mk]
        · intro j j0 j1; rw [p146.1.hc]; exact iH j j0 j1
        · intro a q1 q2 q3 q4 q5 q6 q7 q8 q9; rw [← iF a q1 q2 q3 q4 q5 q6 q7 q8 q9]; funext j; exact p146.1 a j q2 q3 q4 (Or.inl q1)
  have lp2 : ∀ μ : Mem, (skV μ b, skV μ o) = itrR (tkS (σ (b + 4)) (σ (o + 4))) 0 39 (skV σ b, skV σ o) → tkI 39 (skV μ b, skV μ o) → tkP μ b → tkP μ o → (∀ a : Nat, (a ≠ b → a ≠ b + 1 → a ≠ b + 2 → a ≠ b + 3 → a ≠ o → a ≠ o + 1 → a ≠ o + 2 → a ≠ o + 3 → μ a = σ a)) → At x v A Q 5 67 [(2, vI 0), (0, .ref (vq v b)), (1, .ref (vq v o))] [] μ := by
    intro μ gR gI gP1 gP2 gF
    have gn := tkI_end gI
    have gn1 : μ b 5 = μ o 5 := gn.1
    have gn2 : μ b 5 ≤ 23 := gn.2.1
    have gn3 : 1 ≤ μ b 5 := gI.1.1
    have gl1 := gP1.2
    have gl2 := gP2.2
    have lq : ∀ (n : Nat) (k : Int) (τ : Mem) , (24 - k).toNat = n → 0 ≤ k → (k ≤ μ b 5) → (∀ j : Int, 0 ≤ j → j < μ b 5 → τ (b + 2) j = if j < k then μ (b + 2) j + μ (o + 2) j else μ (b + 2) j) → (∀ j : Int, 0 ≤ j → j < μ b 5 → τ (b + 3) j = if j < k then min (μ (b + 3) j + μ (o + 3) j) 1000000 else μ (b + 3) j) → (∀ a : Nat, a ≠ b + 2 → a ≠ b + 3 → τ a = μ a) → At x v A Q 5 67 [(2, vI k), (0, .ref (vq v b)), (1, .ref (vq v o))] [] τ := by
      intro n
      induction n using Nat.strongRecOn with
      | _ n ih =>
        intro k τ hn i1 i2 iC iD iF
        refine a_iload_n C dX4_takeIn_67 0 rfl rfl ?_
        refine a_aload_n C dX4_takeIn_68 1 rfl rfl ?_
        refine a_geti C hS.f0 hS.n0 (Cn := RX4) (T := TX4) (N := 7) rfl iX4 5 (by decide) k28 5 (by decide) rfl dX4_takeIn_69 (fun z69 e69 r69 => ?_)
        rw [iF b (by omega) (by omega)] at e69
        refine a_icmp_ge C 123 (by omega) r69 dX4_takeIn_72 (by decide) (fun c72 => ?_) (fun c72 => ?_)
        · skip
          have hk : k = μ b 5 := by omega
          subst hk
          have t5 : τ b 5 = μ b 5 := by rw [iF b (by omega) (by omega)]
          have hC4 : ∀ j : Int, 0 ≤ j → j < τ b 5 → -4000000 ≤ τ (b + 2) j ∧ τ (b + 2) j ≤ 4000000 := by
            intro j j0 j1
            rw [t5] at j1
            rw [iC j j0 j1, if_pos j1]
            have g1 := l1_at (S := skV μ b) j0 (by show j < μ b 5; omega)
            have g2 := l1_at (S := skV μ o) j0 (by show j < μ o 5; omega)
            rw [show (skV μ b).2.2.1 j = μ (b + 2) j from mkR_in j0 j1] at g1
            rw [show (skV μ o).2.2.1 j = μ (o + 2) j from mkR_in j0 (by omega)] at g2
            omega
          have t4 : τ (b + 4) = σ (b + 4) := by rw [iF (b + 4) (by omega) (by omega)]; exact gF (b + 4) (by omega) (by omega) (by omega) (by omega) (by omega) (by omega) (by omega) (by omega)
          have t5b : τ (b + 5) = σ (b + 5) := by rw [iF (b + 5) (by omega) (by omega)]; exact gF (b + 5) (by omega) (by omega) (by omega) (by omega) (by omega) (by omega) (by omega) (by omega)
          have s4 : τ (o + 4) = σ (o + 4) := by rw [iF (o + 4) (by omega) (by omega)]; exact gF (o + 4) (by omega) (by omega) (by omega) (by omega) (by omega) (by omega) (by omega) (by omega)
          have s5 : τ (o + 5) = σ (o + 5) := by rw [iF (o + 5) (by omega) (by omega)]; exact gF (o + 5) (by omega) (by omega) (by omega) (by omega) (by omega) (by omega) (by omega) (by omega)
          have hHb : hcB τ b := by intro j j0 j1; rw [t5b]; have := hH j j0 j1; omega
          have hHo2 : ∀ j : Int, 0 ≤ j → j < 40 → -200000 ≤ τ (o + 5) j ∧ τ (o + 5) j ≤ 200000 := by intro j j0 j1; rw [s5]; exact hHo j j0 j1
          refine a_aload_n C dX4_takeIn_123 1 rfl rfl ?_
          refine a_aload_n C dX4_takeIn_124 2 rfl rfl ?_
          refine a_cVV C (k0 := 1) (As := [.ref (vq v o)]) (rest := []) (c_X4_takeHeavy x.2.1 v τ b hS o hO hbo (by omega) hC4 hHb hHo2) gX4_takeIn_X4_takeHeavy rfl (by decide +kernel) (by decide) hS.f0 rfl hS.n0 rfl rfl (Nat.le_of_ble_eq_true rfl) dX4_takeIn_125 (fun u125 p125 => ?_)
          refine a_aload_n C dX4_takeIn_128 1 rfl rfl ?_
          refine a_geti C hS.f0 hS.n0 (Cn := RX4) (T := TX4) (N := 7) rfl iX4 5 (by decide) k28 5 (by decide) rfl dX4_takeIn_129 (fun z129 e129 r129 => ?_)
          refine a_bipush C dX4_takeIn_132 ?_
          refine a_isub C dX4_takeIn_134 ?_
          refine a_istore_n C 2 [(2, vI (z129 - 12)), (0, .ref (vq v b)), (1, .ref (vq v o))] dX4_takeIn_135 rfl (by decide) rfl ?_
          obtain ⟨pc, ph, pf⟩ := p125
          have u5 : u125 b 5 = μ b 5 := by rw [pf b (by omega) (by omega)]; exact t5
          have vV : skV u125 b = thV (σ (b + 4)) (σ (o + 4)) (σ (o + 5)) (addV (skV μ b) (skV μ o)) := by
            have hn9 := gn.1
            unfold thV addV
            simp only [skV]
            rw [u5]
            have e1 : u125 (b + 1) = μ (b + 1) := by rw [pf (b + 1) (by omega) (by omega), iF (b + 1) (by omega) (by omega)]
            have e3 : u125 (b + 3) = τ (b + 3) := pf (b + 3) (by omega) (by omega)
            rw [e1, e3]
            refine congrArg (fun z => (μ b 5, mkR (μ b 5) (μ (b + 1)), z)) (Prod.ext ?_ ?_)
            · refine mkR_congr fun j j0 j1 => ?_
              show u125 (b + 2) j = _
              rw [pc j j0 (by omega), iC j j0 j1, if_pos j1, mkR_in j0 j1, mkR_in j0 j1, mkR_in j0 (by omega), t4, s4, s5, t5, iF (b + 1) (by omega) (by omega)]
              congr 1
              refine smR_congr fun w w0 w1 => ?_
              unfold thF
              rw [spOf_mk]
            · refine mkR_congr fun j j0 j1 => ?_
              show τ (b + 3) j = _
              rw [iD j j0 j1, if_pos j1, mkR_in j0 j1, mkR_in j0 (by omega)]
          have hth : ∀ j : Int, -8000000 ≤ smR (thF (τ (b + 4)) (τ (o + 4)) (τ (o + 5)) (τ (b + 1)) (τ b 5) j) 0 40 ∧ smR (thF (τ (b + 4)) (τ (o + 4)) (τ (o + 5)) (τ (b + 1)) (τ b 5) j) 0 40 ≤ 8000000 := by
            intro j
            have q := smR_bd (f := thF (τ (b + 4)) (τ (o + 4)) (τ (o + 5)) (τ (b + 1)) (τ b 5) j) (a := 0) (b := 40) (lo := -200000) (hi := 200000) (fun w q1 q2 => by have := hHo2 w q1 q2; unfold thF; split <;> omega) (by decide)
            omega
          refine lp3 _ (z129 - 12) u125 rfl (by omega) ?_ ?_ ?_ (by omega) ?_ ?_ ?_
          · rw [← skW_iff]
            refine ⟨by omega, by omega, fun j j0 j1 => ?_⟩
            rw [pf (b + 1) (by omega) (by omega), iF (b + 1) (by omega) (by omega)]
            exact (skW_iff.mpr gI.1.W).2.2 j j0 (by omega)
          · intro j j0 j1
            have j2 : j < μ b 5 := by rw [← u5]; exact j1
            simp only [skV]
            rw [mkR_in j0 (by rw [u5]; exact j2), pf (b + 3) (by omega) (by omega), iD j j0 j2, if_pos j2]
            have g1 := gP1.1 j j0 j2
            have g2 := gP2.1 j j0 (by show j < μ o 5; omega)
            simp only [skV] at g1 g2
            rw [mkR_in j0 j2] at g1
            rw [mkR_in j0 (by omega)] at g2
            omega
          · have q := l1_max (S := skV u125 b) (M := 12000000) (by decide) (by show 0 ≤ u125 b 5 ∧ u125 b 5 ≤ 24; omega) (fun j j0 j1 => by
              have j2 : j < u125 b 5 := j1
              simp only [skV]
              rw [mkR_in j0 j2, pc j j0 (by omega)]
              have := hC4 j j0 (by omega)
              have := hth j
              omega)
            omega
          · rw [vV]
            have e9 : (z129 - 12).toNat = ((thV (σ (b + 4)) (σ (o + 4)) (σ (o + 5)) (addV (skV μ b) (skV μ o))).1 - 12).toNat := by
              show _ = (μ b 5 - 12).toNat
              omega
            rw [e9]
            unfold tkV
            rw [← gR]
          · intro j j0 j1
            rw [ph j j0 j1, t4, s4, t5b, s5]
          · intro a q1 q2 q3 q4 q5 q6 q7 q8 q9
            rw [pf a q3 q5, iF a q3 q4]
            exact gF a q1 q2 q3 q4 q6 q7 q8 q9
        · skip
          refine a_iload_n C dX4_takeIn_75 0 rfl rfl ?_
          refine a_aload_n C dX4_takeIn_76 2 rfl rfl ?_
          refine a_geti C hO.f0 hO.n0 (Cn := RX4) (T := TX4) (N := 7) rfl iX4 5 (by decide) k28 5 (by decide) rfl dX4_takeIn_77 (fun z77 e77 r77 => ?_)
          rw [iF o (by omega) (by omega)] at e77
          refine a_icmp_ge C 123 (by omega) r77 dX4_takeIn_80 (by decide) (fun c80 => ?_) (fun c80 => ?_)
          · skip
            have hk : k = μ b 5 := by omega
            subst hk
            have t5 : τ b 5 = μ b 5 := by rw [iF b (by omega) (by omega)]
            have hC4 : ∀ j : Int, 0 ≤ j → j < τ b 5 → -4000000 ≤ τ (b + 2) j ∧ τ (b + 2) j ≤ 4000000 := by
              intro j j0 j1
              rw [t5] at j1
              rw [iC j j0 j1, if_pos j1]
              have g1 := l1_at (S := skV μ b) j0 (by show j < μ b 5; omega)
              have g2 := l1_at (S := skV μ o) j0 (by show j < μ o 5; omega)
              rw [show (skV μ b).2.2.1 j = μ (b + 2) j from mkR_in j0 j1] at g1
              rw [show (skV μ o).2.2.1 j = μ (o + 2) j from mkR_in j0 (by omega)] at g2
              omega
            have t4 : τ (b + 4) = σ (b + 4) := by rw [iF (b + 4) (by omega) (by omega)]; exact gF (b + 4) (by omega) (by omega) (by omega) (by omega) (by omega) (by omega) (by omega) (by omega)
            have t5b : τ (b + 5) = σ (b + 5) := by rw [iF (b + 5) (by omega) (by omega)]; exact gF (b + 5) (by omega) (by omega) (by omega) (by omega) (by omega) (by omega) (by omega) (by omega)
            have s4 : τ (o + 4) = σ (o + 4) := by rw [iF (o + 4) (by omega) (by omega)]; exact gF (o + 4) (by omega) (by omega) (by omega) (by omega) (by omega) (by omega) (by omega) (by omega)
            have s5 : τ (o + 5) = σ (o + 5) := by rw [iF (o + 5) (by omega) (by omega)]; exact gF (o + 5) (by omega) (by omega) (by omega) (by omega) (by omega) (by omega) (by omega) (by omega)
            have hHb : hcB τ b := by intro j j0 j1; rw [t5b]; have := hH j j0 j1; omega
            have hHo2 : ∀ j : Int, 0 ≤ j → j < 40 → -200000 ≤ τ (o + 5) j ∧ τ (o + 5) j ≤ 200000 := by intro j j0 j1; rw [s5]; exact hHo j j0 j1
            refine a_aload_n C dX4_takeIn_123 1 rfl rfl ?_
            refine a_aload_n C dX4_takeIn_124 2 rfl rfl ?_
            refine a_cVV C (k0 := 1) (As := [.ref (vq v o)]) (rest := []) (c_X4_takeHeavy x.2.1 v τ b hS o hO hbo (by omega) hC4 hHb hHo2) gX4_takeIn_X4_takeHeavy rfl (by decide +kernel) (by decide) hS.f0 rfl hS.n0 rfl rfl (Nat.le_of_ble_eq_true rfl) dX4_takeIn_125 (fun u125 p125 => ?_)
            refine a_aload_n C dX4_takeIn_128 1 rfl rfl ?_
            refine a_geti C hS.f0 hS.n0 (Cn := RX4) (T := TX4) (N := 7) rfl iX4 5 (by decide) k28 5 (by decide) rfl dX4_takeIn_129 (fun z129 e129 r129 => ?_)
            refine a_bipush C dX4_takeIn_132 ?_
            refine a_isub C dX4_takeIn_134 ?_
            refine a_istore_n C 2 [(2, vI (z129 - 12)), (0, .ref (vq v b)), (1, .ref (vq v o))] dX4_takeIn_135 rfl (by decide) rfl ?_
            obtain ⟨pc, ph, pf⟩ := p125
            have u5 : u125 b 5 = μ b 5 := by rw [pf b (by omega) (by omega)]; exact t5
            have vV : skV u125 b = thV (σ (b + 4)) (σ (o + 4)) (σ (o + 5)) (addV (skV μ b) (skV μ o)) := by
              have hn9 := gn.1
              unfold thV addV
              simp only [skV]
              rw [u5]
              have e1 : u125 (b + 1) = μ (b + 1) := by rw [pf (b + 1) (by omega) (by omega), iF (b + 1) (by omega) (by omega)]
              have e3 : u125 (b + 3) = τ (b + 3) := pf (b + 3) (by omega) (by omega)
              rw [e1, e3]
              refine congrArg (fun z => (μ b 5, mkR (μ b 5) (μ (b + 1)), z)) (Prod.ext ?_ ?_)
              · refine mkR_congr fun j j0 j1 => ?_
                show u125 (b + 2) j = _
                rw [pc j j0 (by omega), iC j j0 j1, if_pos j1, mkR_in j0 j1, mkR_in j0 j1, mkR_in j0 (by omega), t4, s4, s5, t5, iF (b + 1) (by omega) (by omega)]
                congr 1
                refine smR_congr fun w w0 w1 => ?_
                unfold thF
                rw [spOf_mk]
              · refine mkR_congr fun j j0 j1 => ?_
                show τ (b + 3) j = _
                rw [iD j j0 j1, if_pos j1, mkR_in j0 j1, mkR_in j0 (by omega)]
            have hth : ∀ j : Int, -8000000 ≤ smR (thF (τ (b + 4)) (τ (o + 4)) (τ (o + 5)) (τ (b + 1)) (τ b 5) j) 0 40 ∧ smR (thF (τ (b + 4)) (τ (o + 4)) (τ (o + 5)) (τ (b + 1)) (τ b 5) j) 0 40 ≤ 8000000 := by
              intro j
              have q := smR_bd (f := thF (τ (b + 4)) (τ (o + 4)) (τ (o + 5)) (τ (b + 1)) (τ b 5) j) (a := 0) (b := 40) (lo := -200000) (hi := 200000) (fun w q1 q2 => by have := hHo2 w q1 q2; unfold thF; split <;> omega) (by decide)
              omega
            refine lp3 _ (z129 - 12) u125 rfl (by omega) ?_ ?_ ?_ (by omega) ?_ ?_ ?_
            · rw [← skW_iff]
              refine ⟨by omega, by omega, fun j j0 j1 => ?_⟩
              rw [pf (b + 1) (by omega) (by omega), iF (b + 1) (by omega) (by omega)]
              exact (skW_iff.mpr gI.1.W).2.2 j j0 (by omega)
            · intro j j0 j1
              have j2 : j < μ b 5 := by rw [← u5]; exact j1
              simp only [skV]
              rw [mkR_in j0 (by rw [u5]; exact j2), pf (b + 3) (by omega) (by omega), iD j j0 j2, if_pos j2]
              have g1 := gP1.1 j j0 j2
              have g2 := gP2.1 j j0 (by show j < μ o 5; omega)
              simp only [skV] at g1 g2
              rw [mkR_in j0 j2] at g1
              rw [mkR_in j0 (by omega)] at g2
              omega
            · have q := l1_max (S := skV u125 b) (M := 12000000) (by decide) (by show 0 ≤ u125 b 5 ∧ u125 b 5 ≤ 24; omega) (fun j j0 j1 => by
                have j2 : j < u125 b 5 := j1
                simp only [skV]
                rw [mkR_in j0 j2, pc j j0 (by omega)]
                have := hC4 j j0 (by omega)
                have := hth j
                omega)
              omega
            · rw [vV]
              have e9 : (z129 - 12).toNat = ((thV (σ (b + 4)) (σ (o + 4)) (σ (o + 5)) (addV (skV μ b) (skV μ o))).1 - 12).toNat := by
                show _ = (μ b 5 - 12).toNat
                omega
              rw [e9]
              unfold tkV
              rw [← gR]
            · intro j j0 j1
              rw [ph j j0 j1, t4, s4, t5b, s5]
            · intro a q1 q2 q3 q4 q5 q6 q7 q8 q9
              rw [pf a q3 q5, iF a q3 q4]
              exact gF a q1 q2 q3 q4 q6 q7 q8 q9
          · skip
            refine a_aload_n C dX4_takeIn_83 1 rfl rfl ?_
            refine a_iload_n C dX4_takeIn_84 0 rfl rfl ?_
            refine a_aload_n C dX4_takeIn_85 1 rfl rfl ?_
            refine a_getf C hS.f0 hS.n0 (Cn := RX4) (T := TX4) (N := 7) rfl iX4 1 (by decide) k15 (w := .ref (vq v (b + 2))) rfl dX4_takeIn_86 ?_
            refine a_iload_n C dX4_takeIn_89 0 rfl rfl ?_
            refine a_iald C hS.f2 hS.n2 0 hS.tI (by omega) (by omega) (by decide) dX4_takeIn_90 (fun z90 e90 r90 => ?_)
            have q90 := iC k i1 (by omega)
            rw [if_neg (by omega)] at q90
            have g90 := l1_at (S := skV μ b) i1 (by show k < μ b 5; omega)
            rw [show (skV μ b).2.2.1 k = μ (b + 2) k from mkR_in i1 (by omega)] at g90
            refine a_aload_n C dX4_takeIn_91 2 rfl rfl ?_
            refine a_getf C hO.f0 hO.n0 (Cn := RX4) (T := TX4) (N := 7) rfl iX4 1 (by decide) k15 (w := .ref (vq v (o + 2))) rfl dX4_takeIn_92 ?_
            refine a_iload_n C dX4_takeIn_95 0 rfl rfl ?_
            refine a_iald C hO.f2 hO.n2 0 hO.tI (by omega) (by omega) (by decide) dX4_takeIn_96 (fun z96 e96 r96 => ?_)
            rw [iF (o + 2) (by omega) (by omega)] at e96
            have g96 := l1_at (S := skV μ o) i1 (by show k < μ o 5; omega)
            rw [show (skV μ o).2.2.1 k = μ (o + 2) k from mkR_in i1 (by omega)] at g96
            refine a_iadd C dX4_takeIn_97 ?_
            refine a_aload_n C dX4_takeIn_98 1 rfl rfl ?_
            refine a_getf C hS.f0 hS.n0 (Cn := RX4) (T := TX4) (N := 7) rfl iX4 2 (by decide) k18 (w := .ref (vq v (b + 3))) rfl dX4_takeIn_99 ?_
            refine a_iload_n C dX4_takeIn_102 0 rfl rfl ?_
            refine a_iald C hS.f3 hS.n3 0 hS.tI (by omega) (by omega) (by decide) dX4_takeIn_103 (fun z103 e103 r103 => ?_)
            have q103 := iD k i1 (by omega)
            rw [if_neg (by omega)] at q103
            have g103 := gP1.1 k i1 (by show k < μ b 5; omega)
            simp only [skV] at g103
            rw [mkR_in i1 (by omega)] at g103
            refine a_aload_n C dX4_takeIn_104 2 rfl rfl ?_
            refine a_getf C hO.f0 hO.n0 (Cn := RX4) (T := TX4) (N := 7) rfl iX4 2 (by decide) k18 (w := .ref (vq v (o + 3))) rfl dX4_takeIn_105 ?_
            refine a_iload_n C dX4_takeIn_108 0 rfl rfl ?_
            refine a_iald C hO.f3 hO.n3 0 hO.tI (by omega) (by omega) (by decide) dX4_takeIn_109 (fun z109 e109 r109 => ?_)
            rw [iF (o + 3) (by omega) (by omega)] at e109
            have g109 := gP2.1 k i1 (by show k < μ o 5; omega)
            simp only [skV] at g109
            rw [mkR_in i1 (by omega)] at g109
            refine a_iadd C dX4_takeIn_110 ?_
            refine a_cSI C (k0 := 1) (As := [vI (z103 + z109)]) (rest := [vI (z90 + z96), vI k, .ref (vq v b)]) (c_X4_limited x.2.1 v τ (z103 + z109) (by omega)) gX4_takeIn_X4_limited rfl (by decide +kernel) (by decide) rfl rfl (Nat.le_of_ble_eq_true rfl) dX4_takeIn_111 (fun z111 u111 r111 p111 => ?_)
            obtain ⟨e111, p111⟩ := p111
            subst u111
            refine a_cVV C (k0 := 3) (As := [vI k, vI (z90 + z96), vI z111]) (rest := []) (c_X4_setPiece x.2.1 v τ b hS k (z90 + z96) z111 (by omega) (by omega) r111) gX4_takeIn_X4_setPiece rfl (by decide +kernel) (by decide) hS.f0 rfl hS.n0 rfl rfl (Nat.le_of_ble_eq_true rfl) dX4_takeIn_114 (fun u114 p114 => ?_)
            subst u114
            refine a_iinc C (k + 1) [(2, vI (k + 1)), (0, .ref (vq v b)), (1, .ref (vq v o))] dX4_takeIn_117 0 rfl (by omega) (by decide) rfl ?_
            refine a_goto C 67 dX4_takeIn_120 (by decide) ?_
            refine ih _ (by omega) (k + 1) _ rfl (by omega) (by omega) ?_ ?_ ?_
            · intro j j0 j1
              by_cases hj : j = k
              · subst hj
                rw [sput_r (show b + 2 ≠ b + 3 by omega), sput_s, if_pos (by omega), e90, e96]
                rw [iC j j0 j1, if_neg (by omega)]
              · rw [sput_r (show b + 2 ≠ b + 3 by omega), sput_j _ _ _ _ _ hj, iC j j0 j1]
                by_cases q : j < k
                · rw [if_pos q, if_pos (by omega)]
                · rw [if_neg q, if_neg (by omega)]
            · intro j j0 j1
              by_cases hj : j = k
              · subst hj
                rw [sput_s, if_pos (by omega), e111, e103, e109]
                rw [iD j j0 j1, if_neg (by omega)]
              · rw [sput_j _ _ _ _ _ hj, sput_r (show b + 3 ≠ b + 2 by omega), iD j j0 j1]
                by_cases q : j < k
                · rw [if_pos q, if_pos (by omega)]
                · rw [if_neg q, if_neg (by omega)]
            · intro a q1 q2; rw [sput_r q2, sput_r q1]; exact iF a q1 q2
    exact lq _ 0 μ rfl (by omega) (by omega) (fun j j0 j1 => by rw [if_neg (by omega)]) (fun j j0 j1 => by rw [if_neg (by omega)]) (fun _ _ _ => rfl)
  have lp1 : ∀ (n : Nat) (w : Int) (τ : Mem) , (40 - w).toNat = n → 0 ≤ w → (w ≤ 39) → itrR (tkS (σ (b + 4)) (σ (o + 4))) w 39 (skV τ b, skV τ o) = itrR (tkS (σ (b + 4)) (σ (o + 4))) 0 39 (skV σ b, skV σ o) → tkI w (skV τ b, skV τ o) → tkP τ b → tkP τ o → (∀ a : Nat, (a ≠ b → a ≠ b + 1 → a ≠ b + 2 → a ≠ b + 3 → a ≠ o → a ≠ o + 1 → a ≠ o + 2 → a ≠ o + 3 → τ a = σ a)) → At x v A Q 5 2 [(2, vI w), (0, .ref (vq v b)), (1, .ref (vq v o))] [] τ := by
    intro n
    induction n using Nat.strongRecOn with
    | _ n ih =>
      intro w τ hn i1 i2 iR iI iP1 iP2 iF
      have in1 : 0 < τ b 5 := iI.1.1
      have in2 : 0 < τ o 5 := iI.2.1.1
      have in3 : τ b 5 ≤ 24 := iI.1.2.1
      have in4 : τ o 5 ≤ 24 := iI.2.1.2.1
      have hb1 := end_mk (τ := τ) (b := b) (v := w) in1
      have hb2 := end_mk (τ := τ) (b := o) (v := w) in2
      have hHb : hcB τ b := by intro j j0 j1; rw [iF (b + 5) (by omega) (by omega) (by omega) (by omega) (by omega) (by omega) (by omega) (by omega)]; have := hH j j0 j1; omega
      have hHo2 : hcB τ o := by intro j j0 j1; rw [iF (o + 5) (by omega) (by omega) (by omega) (by omega) (by omega) (by omega) (by omega) (by omega)]; have := hHo j j0 j1; omega
      refine a_iload_n C dX4_takeIn_2 0 rfl rfl ?_
      refine a_bipush C dX4_takeIn_3 ?_
      refine a_icmp_ge C 65 (by omega) (by decide) dX4_takeIn_5 (by decide) (fun c5 => ?_) (fun c5 => ?_)
      · skip
        refine a_iconst C dX4_takeIn_65 ?_
        refine a_istore_n C 2 [(2, vI 0), (0, .ref (vq v b)), (1, .ref (vq v o))] dX4_takeIn_66 rfl (by decide) rfl ?_
        have hw39 : w = 39 := by omega
        subst hw39
        exact lp2 τ (by rw [← iR, itrR_nil (by omega)]) iI iP1 iP2 iF
      · skip
        have rm := tkI_room (v := w) (by omega) i1 iI
        refine a_aload_n C dX4_takeIn_8 1 rfl rfl ?_
        refine a_iload_n C dX4_takeIn_9 0 rfl rfl ?_
        refine a_cVI C (k0 := 1) (As := [vI w]) (rest := []) (c_X4_endsAt x.2.1 v τ b hS w (by omega) ⟨skW_iff.mpr iI.1.W, in1⟩) gX4_takeIn_X4_endsAt rfl (by decide +kernel) (by decide) hS.f0 rfl hS.n0 rfl rfl (Nat.le_of_ble_eq_true rfl) dX4_takeIn_10 (fun z10 u10 r10 p10 => ?_)
        obtain ⟨e10, p10⟩ := p10
        subst u10
        refine a_istore_n C 3 [(3, vI z10), (2, vI w), (0, .ref (vq v b)), (1, .ref (vq v o))] dX4_takeIn_13 rfl (by decide) rfl ?_
        refine a_aload_n C dX4_takeIn_14 3 rfl rfl ?_
        refine a_iload_n C dX4_takeIn_15 1 rfl rfl ?_
        refine a_cVI C (k0 := 1) (As := [vI w]) (rest := []) (c_X4_endsAt x.2.1 v τ o hO w (by omega) ⟨skW_iff.mpr iI.2.1.W, in2⟩) gX4_takeIn_X4_endsAt rfl (by decide +kernel) (by decide) hO.f0 rfl hO.n0 rfl rfl (Nat.le_of_ble_eq_true rfl) dX4_takeIn_16 (fun z16 u16 r16 p16 => ?_)
        obtain ⟨e16, p16⟩ := p16
        subst u16
        have c10 : (z10 = 1 ∧ τ (b + 1) (spOf (τ (b + 1)) (τ b 5) w) = w) ∨ (z10 = 0 ∧ ¬ τ (b + 1) (spOf (τ (b + 1)) (τ b 5) w) = w) := by rw [e10]; split <;> simp_all
        have c16 : (z16 = 1 ∧ τ (o + 1) (spOf (τ (o + 1)) (τ o 5) w) = w) ∨ (z16 = 0 ∧ ¬ τ (o + 1) (spOf (τ (o + 1)) (τ o 5) w) = w) := by rw [e16]; split <;> simp_all
        refine a_istore C [(4, vI z16), (3, vI z10), (2, vI w), (0, .ref (vq v b)), (1, .ref (vq v o))] dX4_takeIn_19 (by decide) rfl ?_
        refine a_iload C dX4_takeIn_21 0 rfl ?_
        refine a_if_eq C 40 r16 dX4_takeIn_23 (by decide) (fun c23 => ?_) (fun c23 => ?_)
        · skip
          refine a_iload_n C dX4_takeIn_40 1 rfl rfl ?_
          refine a_if_eq C 59 r10 dX4_takeIn_41 (by decide) (fun c41 => ?_) (fun c41 => ?_)
          · skip
            refine a_iinc C (w + 1) [(2, vI (w + 1)), (4, vI z16), (3, vI z10), (0, .ref (vq v b)), (1, .ref (vq v o))] dX4_takeIn_59 2 rfl (by omega) (by decide) rfl ?_
            refine a_goto C 2 dX4_takeIn_62 (by decide) ?_
            refine a_sub [0, 3, 4] [(2, vI (w + 1)), (0, .ref (vq v b)), (1, .ref (vq v o))] rfl ?_
            have et : tkS (σ (b + 4)) (σ (o + 4)) w (skV τ b, skV τ o) = (skV τ b, skV τ o) := by
              simp only [tkS, hb1, hb2]
              rw [if_neg (by omega), if_neg (by omega)]
            refine ih _ (by omega) (w + 1) τ rfl (by omega) (by omega) ?_ ?_ iP1 iP2 iF
            · rw [itrR_step (by omega), et] at iR; exact iR
            · have := tkI_step (h := σ (b + 4)) (ho := σ (o + 4)) i1 (by omega) iI; rw [et] at this; exact this
          · skip
            refine a_iload C dX4_takeIn_44 0 rfl ?_
            refine a_if_ne C 59 r16 dX4_takeIn_46 (by decide) (fun c46 => ?_) (fun c46 => ?_)
            · skip
              exfalso; omega
            · skip
              refine a_aload_n C dX4_takeIn_49 4 rfl rfl ?_
              refine a_aload_n C dX4_takeIn_50 4 rfl rfl ?_
              refine a_iload_n C dX4_takeIn_51 2 rfl rfl ?_
              refine a_cVI C (k0 := 1) (As := [vI w]) (rest := [.ref (vq v o)]) (c_X4_spanOf x.2.1 v τ o hO w (by omega) (by omega)) gX4_takeIn_X4_spanOf rfl (by decide +kernel) (by decide) hO.f0 rfl hO.n0 rfl rfl (Nat.le_of_ble_eq_true rfl) dX4_takeIn_52 (fun z52 u52 r52 p52 => ?_)
              obtain ⟨e52, p52⟩ := p52
              subst u52
              have hb9 := spOf_bd (τ (o + 1)) (τ o 5) w
              rw [← e52] at hb9
              refine a_iload_n C dX4_takeIn_55 2 rfl rfl ?_
              refine a_cVV C (k0 := 2) (As := [vI z52, vI w]) (rest := []) (c_X4_cut x.2.1 v τ o hO z52 w (by omega) (rm.2 (by rw [hb1]; omega)) (by omega) (skW_iff.mpr iI.2.1.W) (iP2.B hHo2)) gX4_takeIn_X4_cut rfl (by decide +kernel) (by decide) hO.f0 rfl hO.n0 rfl rfl (Nat.le_of_ble_eq_true rfl) dX4_takeIn_56 (fun u56 p56 => ?_)
              refine a_iinc C (w + 1) [(2, vI (w + 1)), (4, vI z16), (3, vI z10), (0, .ref (vq v b)), (1, .ref (vq v o))] dX4_takeIn_59 2 rfl (by omega) (by decide) rfl ?_
              refine a_goto C 2 dX4_takeIn_62 (by decide) ?_
              refine a_sub [0, 3, 4] [(2, vI (w + 1)), (0, .ref (vq v b)), (1, .ref (vq v o))] rfl ?_
              have ev : skV u56 b = skV τ b := skV_other p56.1 (by omega)
              have et : tkS (σ (b + 4)) (σ (o + 4)) w (skV τ b, skV τ o) = (skV u56 b, skV u56 o) := by
                simp only [tkS, hb1, hb2]
                rw [if_neg (by omega), if_pos (by omega), sp_mk, ← e52, ev, p56.2, iF (o + 4) (by omega) (by omega) (by omega) (by omega) (by omega) (by omega) (by omega) (by omega)]
              refine ih _ (by omega) (w + 1) u56 rfl (by omega) (by omega) ?_ ?_ (by rw [tkP, ev]; exact iP1) ⟨by rw [p56.2]; exact svD_cut iP2.1 (by omega) (by show z52 < τ o 5; omega), by rw [p56.2]; have := l1_cut (h := τ (o + 4)) (S := skV τ o) (k := z52) (val := w) (by omega) (by show z52 < τ o 5; omega); have := iP2.2; omega⟩ ?_
              · rw [itrR_step (by omega), et] at iR; exact iR
              · have := tkI_step (h := σ (b + 4)) (ho := σ (o + 4)) i1 (by omega) iI; rw [et] at this; exact this
              · intro a q1 q2 q3 q4 q5 q6 q7 q8; rw [← iF a q1 q2 q3 q4 q5 q6 q7 q8]; funext j; exact p56.1 a j q6 q7 q8 (Or.inl q5)
        · skip
          refine a_iload_n C dX4_takeIn_26 1 rfl rfl ?_
          refine a_if_ne C 40 r10 dX4_takeIn_27 (by decide) (fun c27 => ?_) (fun c27 => ?_)
          · skip
            refine a_iload_n C dX4_takeIn_40 1 rfl rfl ?_
            refine a_if_eq C 59 r10 dX4_takeIn_41 (by decide) (fun c41 => ?_) (fun c41 => ?_)
            · skip
              exfalso; omega
            · skip
              refine a_iload C dX4_takeIn_44 0 rfl ?_
              refine a_if_ne C 59 r16 dX4_takeIn_46 (by decide) (fun c46 => ?_) (fun c46 => ?_)
              · skip
                refine a_iinc C (w + 1) [(2, vI (w + 1)), (4, vI z16), (3, vI z10), (0, .ref (vq v b)), (1, .ref (vq v o))] dX4_takeIn_59 2 rfl (by omega) (by decide) rfl ?_
                refine a_goto C 2 dX4_takeIn_62 (by decide) ?_
                refine a_sub [0, 3, 4] [(2, vI (w + 1)), (0, .ref (vq v b)), (1, .ref (vq v o))] rfl ?_
                have et : tkS (σ (b + 4)) (σ (o + 4)) w (skV τ b, skV τ o) = (skV τ b, skV τ o) := by
                  simp only [tkS, hb1, hb2]
                  rw [if_neg (by omega), if_neg (by omega)]
                refine ih _ (by omega) (w + 1) τ rfl (by omega) (by omega) ?_ ?_ iP1 iP2 iF
                · rw [itrR_step (by omega), et] at iR; exact iR
                · have := tkI_step (h := σ (b + 4)) (ho := σ (o + 4)) i1 (by omega) iI; rw [et] at this; exact this
              · skip
                exfalso; omega
          · skip
            refine a_aload_n C dX4_takeIn_30 3 rfl rfl ?_
            refine a_aload_n C dX4_takeIn_31 3 rfl rfl ?_
            refine a_iload_n C dX4_takeIn_32 2 rfl rfl ?_
            refine a_cVI C (k0 := 1) (As := [vI w]) (rest := [.ref (vq v b)]) (c_X4_spanOf x.2.1 v τ b hS w (by omega) (by omega)) gX4_takeIn_X4_spanOf rfl (by decide +kernel) (by decide) hS.f0 rfl hS.n0 rfl rfl (Nat.le_of_ble_eq_true rfl) dX4_takeIn_33 (fun z33 u33 r33 p33 => ?_)
            obtain ⟨e33, p33⟩ := p33
            subst u33
            have hb9 := spOf_bd (τ (b + 1)) (τ b 5) w
            rw [← e33] at hb9
            refine a_iload_n C dX4_takeIn_36 2 rfl rfl ?_
            refine a_cVV C (k0 := 2) (As := [vI z33, vI w]) (rest := []) (c_X4_cut x.2.1 v τ b hS z33 w (by omega) (rm.1 (by rw [hb2]; omega)) (by omega) (skW_iff.mpr iI.1.W) (iP1.B hHb)) gX4_takeIn_X4_cut rfl (by decide +kernel) (by decide) hS.f0 rfl hS.n0 rfl rfl (Nat.le_of_ble_eq_true rfl) dX4_takeIn_37 (fun u37 p37 => ?_)
            refine a_iload_n C dX4_takeIn_40 1 rfl rfl ?_
            refine a_if_eq C 59 r10 dX4_takeIn_41 (by decide) (fun c41 => ?_) (fun c41 => ?_)
            · skip
              refine a_iinc C (w + 1) [(2, vI (w + 1)), (4, vI z16), (3, vI z10), (0, .ref (vq v b)), (1, .ref (vq v o))] dX4_takeIn_59 2 rfl (by omega) (by decide) rfl ?_
              refine a_goto C 2 dX4_takeIn_62 (by decide) ?_
              refine a_sub [0, 3, 4] [(2, vI (w + 1)), (0, .ref (vq v b)), (1, .ref (vq v o))] rfl ?_
              have ev : skV u37 o = skV τ o := skV_other p37.1 (by omega)
              have et : tkS (σ (b + 4)) (σ (o + 4)) w (skV τ b, skV τ o) = (skV u37 b, skV u37 o) := by
                simp only [tkS, hb1, hb2]
                rw [if_pos (by omega), if_neg (by omega), sp_mk, ← e33, ev, p37.2, iF (b + 4) (by omega) (by omega) (by omega) (by omega) (by omega) (by omega) (by omega) (by omega)]
              refine ih _ (by omega) (w + 1) u37 rfl (by omega) (by omega) ?_ ?_ ⟨by rw [p37.2]; exact svD_cut iP1.1 (by omega) (by show z33 < τ b 5; omega), by rw [p37.2]; have := l1_cut (h := τ (b + 4)) (S := skV τ b) (k := z33) (val := w) (by omega) (by show z33 < τ b 5; omega); have := iP1.2; omega⟩ (by rw [tkP, ev]; exact iP2) ?_
              · rw [itrR_step (by omega), et] at iR; exact iR
              · have := tkI_step (h := σ (b + 4)) (ho := σ (o + 4)) i1 (by omega) iI; rw [et] at this; exact this
              · intro a q1 q2 q3 q4 q5 q6 q7 q8; rw [← iF a q1 q2 q3 q4 q5 q6 q7 q8]; funext j; exact p37.1 a j q2 q3 q4 (Or.inl q1)
            · skip
              exfalso; omega
  refine a_iconst C dX4_takeIn_0 ?_
  refine a_istore_n C 2 [(2, vI 0), (0, .ref (vq v b)), (1, .ref (vq v o))] dX4_takeIn_1 rfl (by decide) rfl ?_
  exact lp1 _ 0 σ rfl (by omega) (by omega) rfl hI0 hP1 hP2 (fun _ _ _ _ _ _ _ _ _ => rfl)
