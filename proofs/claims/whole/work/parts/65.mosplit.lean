/-! ===== the model's SPLIT and MELT ===== -/
def moV (σ : Mem) (b : Nat) (cl : Int) : SV := ((σ (b + 11) cl), mkR (σ (b + 11) cl) (shR (σ (b + 15)) (40 * cl)), mkR (σ (b + 11) cl) (shR (σ (b + 16)) (40 * cl)), mkR (σ (b + 11) cl) (shR (σ (b + 17)) (40 * cl)))
def hvFr (σ u : Mem) (b : Nat) : Prop := ∀ (a : Nat) (j : Int), (a ≠ b ∨ (j ≠ 23 ∧ j ≠ 24 ∧ j ≠ 25 ∧ j ≠ 26)) → u a j = σ a j
theorem hvFr.r {σ u : Mem} {b a : Nat} (h : hvFr σ u b) (q : a ≠ b) : u a = σ a := by funext j; exact h a j (Or.inl q)
/-- nothing but one column's sketch has changed, and the halves -/
def moFr (σ u : Mem) (b : Nat) (cl : Int) : Prop := (∀ a : Nat, a ≠ b → a ≠ b + 11 → a ≠ b + 15 → a ≠ b + 16 → a ≠ b + 17 → u a = σ a) ∧ (∀ j : Int, j ≠ 23 → j ≠ 24 → j ≠ 25 → j ≠ 26 → u b j = σ b j) ∧ (∀ j : Int, j ≠ cl → u (b + 11) j = σ (b + 11) j) ∧ ∀ j : Int, j < 40 * cl ∨ 40 * cl + 40 ≤ j → u (b + 15) j = σ (b + 15) j ∧ u (b + 16) j = σ (b + 16) j ∧ u (b + 17) j = σ (b + 17) j
theorem moFr.rf {σ : Mem} {b : Nat} {cl : Int} : moFr σ σ b cl := ⟨fun _ _ _ _ _ _ => rfl, fun _ _ _ _ _ => rfl, fun _ _ => rfl, fun _ _ => ⟨rfl, rfl, rfl⟩⟩
theorem moFr.tr {σ τ u : Mem} {b : Nat} {cl : Int} (h1 : moFr σ τ b cl) (h2 : moFr τ u b cl) : moFr σ u b cl := by
  refine ⟨fun a q0 q1 q2 q3 q4 => (h2.1 a q0 q1 q2 q3 q4).trans (h1.1 a q0 q1 q2 q3 q4), fun j q1 q2 q3 q4 => (h2.2.1 j q1 q2 q3 q4).trans (h1.2.1 j q1 q2 q3 q4), fun j q => (h2.2.2.1 j q).trans (h1.2.2.1 j q), fun j q => ?_⟩
  have g1 := h1.2.2.2 j q
  have g2 := h2.2.2.2 j q
  exact ⟨g2.1.trans g1.1, g2.2.1.trans g1.2.1, g2.2.2.trans g1.2.2⟩
/-- a row with a place doubled, within its stretch -/
theorem sh_ins {f g0 g : Int → Int} {o n k x y : Int} (hk : 0 ≤ k) (hk2 : k < n) (h0 : ∀ j : Int, g0 (o + j) = if k + 1 ≤ j ∧ j < n + 1 then f (o + (j - 1)) else f (o + j)) (h1 : ∀ j : Int, j ≠ k → j ≠ k + 1 → g (o + j) = g0 (o + j)) (hx : g (o + k) = x) (hy : g (o + (k + 1)) = y) : mkR (n + 1) (shR g o) = insR (mkR n (shR f o)) k x y :=
  mkR_ins hk hk2 (row_ins (f := shR f o) (g0 := shR g0 o) (g := shR g o) hk hk2 h0 h1 hx hy)
theorem sh_del {f g : Int → Int} {o n k x : Int} (hk : 0 ≤ k) (hk2 : k + 1 < n) (h0 : ∀ j : Int, g (o + j) = if j = k then x else if k + 1 ≤ j ∧ j < n - 1 then f (o + (j + 1)) else f (o + j)) : mkR (n - 1) (shR g o) = delR (mkR n (shR f o)) k x := by
  refine mkR_del hk hk2 (fun j j0 j1 => ?_)
  rw [shR_e, h0]
  rcases (by omega : j < k ∨ j = k ∨ k < j) with a | a | a
  · rw [delR_lt a, if_neg (by omega), if_neg (by omega)]; rfl
  · rw [a, delR_k, if_pos rfl]
  · rw [delR_gt a, if_neg (by omega), if_pos (by omega)]; rfl
set_option maxHeartbeats 4000000 in
set_option maxRecDepth 100000 in
theorem c_X7_halves (l : Launch) (v : VC) (σ : Mem) (b : Nat) (hM : shMo v b) (cx dx L R : Int) (hx : -20000000 ≤ cx ∧ cx ≤ 20000000) (hd : 0 ≤ dx ∧ dx ≤ 1000000) (hL : 0 ≤ L ∧ L ≤ 40) (hR : 0 ≤ R ∧ R ≤ 40) : CtV l yX7_halves wsX7_halves 2 43 v [.ref (vq v b), vI cx, vI dx, vI L, vI R] σ (fun u => u b 23 = (hvF cx dx L R).1.1 ∧ u b 24 = (hvF cx dx L R).1.2 ∧ u b 25 = (hvF cx dx L R).2.1 ∧ u b 26 = (hvF cx dx L R).2.2 ∧ hvFr σ u b) := by
  refine mkV (cc := cX7_halves) (n := 6) (by decide +kernel) rfl (Nat.le_of_ble_eq_true rfl) (fun x A Q hx C hret => ?_)
  subst hx
  show At x v A Q _ 0 [(0, .ref (vq v b)), (1, vI cx), (2, vI dx), (3, vI L), (4, vI R)] [] σ
  have iX7 : ∀ w ∈ wsX70, w ∈ wsX7_halves := by decide +kernel
  have k173 : Cond.fieldLink RX7 173 (TX7 23).1 (TX7 23).2.1 (TX7 23).2.2.1 ∈ wsX7_halves := by decide +kernel
  have k179 : Cond.fieldLink RX7 179 (TX7 24).1 (TX7 24).2.1 (TX7 24).2.2.1 ∈ wsX7_halves := by decide +kernel
  have k182 : Cond.fieldLink RX7 182 (TX7 25).1 (TX7 25).2.1 (TX7 25).2.2.1 ∈ wsX7_halves := by decide +kernel
  have k185 : Cond.fieldLink RX7 185 (TX7 26).1 (TX7 26).2.1 (TX7 26).2.2.1 ∈ wsX7_halves := by decide +kernel
  refine a_iload_n C dX7_halves_0 3 rfl rfl ?_
  refine a_if_eq C 9 (by omega) dX7_halves_1 (by decide) (fun c1 => ?_) (fun c1 => ?_)
  · skip
    refine a_iload_n C dX7_halves_9 3 rfl rfl ?_
    refine a_if_ne C 17 (by omega) dX7_halves_10 (by decide) (fun c10 => ?_) (fun c10 => ?_)
    · skip
      exfalso; omega
    · skip
      refine a_iconst C dX7_halves_13 ?_
      refine a_goto C 18 dX7_halves_14 (by decide) ?_
      refine a_istore C [(5, vI 1), (0, .ref (vq v b)), (1, vI cx), (2, vI dx), (3, vI L), (4, vI R)] dX7_halves_18 (by decide) rfl ?_
      refine a_aload_n C dX7_halves_20 1 rfl rfl ?_
      refine a_iload C dX7_halves_21 0 rfl ?_
      refine a_if_eq C 30 (by decide) dX7_halves_23 (by decide) (fun c23 => ?_) (fun c23 => ?_)
      · skip
        exfalso; omega
      · skip
        refine a_iconst C dX7_halves_26 ?_
        refine a_goto C 31 dX7_halves_27 (by decide) ?_
        refine a_puti C hM.f0 hM.n0 (Cn := RX7) (T := TX7) (N := 30) rfl iX7 tyX7_ok nmX7 23 (by decide) k173 rfl rfl 23 (by decide) (fun _ => Nat.le_of_ble_eq_true rfl) (fun _ => rfl) dX7_halves_31 ?_
        refine a_aload_n C dX7_halves_34 1 rfl rfl ?_
        refine a_iload C dX7_halves_35 0 rfl ?_
        refine a_if_eq C 44 (by decide) dX7_halves_37 (by decide) (fun c37 => ?_) (fun c37 => ?_)
        · skip
          exfalso; omega
        · skip
          refine a_iconst C dX7_halves_40 ?_
          refine a_goto C 48 dX7_halves_41 (by decide) ?_
          refine a_puti C hM.f0 hM.n0 (Cn := RX7) (T := TX7) (N := 30) rfl iX7 tyX7_ok nmX7 24 (by decide) k179 rfl rfl 24 (by decide) (fun _ => Nat.le_of_ble_eq_true rfl) (fun _ => rfl) dX7_halves_48 ?_
          refine a_aload_n C dX7_halves_51 1 rfl rfl ?_
          refine a_iload C dX7_halves_52 0 rfl ?_
          refine a_if_eq C 61 (by decide) dX7_halves_54 (by decide) (fun c54 => ?_) (fun c54 => ?_)
          · skip
            exfalso; omega
          · skip
            refine a_iload_n C dX7_halves_57 2 rfl rfl ?_
            refine a_goto C 62 dX7_halves_58 (by decide) ?_
            refine a_puti C hM.f0 hM.n0 (Cn := RX7) (T := TX7) (N := 30) rfl iX7 tyX7_ok nmX7 25 (by decide) k182 rfl rfl 25 (by omega) (fun _ => Nat.le_of_ble_eq_true rfl) (fun _ => rfl) dX7_halves_62 ?_
            refine a_aload_n C dX7_halves_65 1 rfl rfl ?_
            refine a_iload C dX7_halves_66 0 rfl ?_
            refine a_if_eq C 78 (by decide) dX7_halves_68 (by decide) (fun c68 => ?_) (fun c68 => ?_)
            · skip
              exfalso; omega
            · skip
              refine a_iload_n C dX7_halves_71 3 rfl rfl ?_
              refine a_cSI C (k0 := 1) (As := [vI dx]) (rest := [.ref (vq v b)]) (c_X7_capped x.2.1 v (sput (sput (sput σ b 23 0) b 24 0) b 25 cx) dx (by omega)) gX7_halves_X7_capped rfl (by decide +kernel) (by decide) rfl rfl (Nat.le_of_ble_eq_true rfl) dX7_halves_72 (fun z72 u72 r72 p72 => ?_)
              obtain ⟨e72, p72⟩ := p72
              subst u72
              try simp [sput_r, mset_n, sput, mset] at e72
              refine a_goto C 79 dX7_halves_75 (by decide) ?_
              refine a_puti C hM.f0 hM.n0 (Cn := RX7) (T := TX7) (N := 30) rfl iX7 tyX7_ok nmX7 26 (by decide) k185 rfl rfl 26 r72 (fun _ => Nat.le_of_ble_eq_true rfl) (fun _ => rfl) dX7_halves_79 ?_
              have hv : hvF cx dx L R = ((0, 0), (cx, z72)) := by
                unfold hvF
                (first | rw [if_pos (by omega)] | rw [if_neg (by omega), if_pos (by omega)])
                (first | rw [show z45 = dx by omega] | rw [show z72 = dx by omega])
              refine hret _ _ _ dX7_halves_82 ⟨?_, ?_, ?_, ?_, ?_⟩
              · rw [hv]; simp [sput]
              · rw [hv]; simp [sput]
              · rw [hv]; simp [sput]
              · rw [hv]; simp [sput]
              · intro a j q
                have q2 : ¬ (a = b ∧ j = 23) ∧ ¬ (a = b ∧ j = 24) ∧ ¬ (a = b ∧ j = 25) ∧ ¬ (a = b ∧ j = 26) := by omega
                simp only [sput, if_neg q2.1, if_neg q2.2.1, if_neg q2.2.2.1, if_neg q2.2.2.2]
  · skip
    refine a_iload C dX7_halves_4 4 rfl ?_
    refine a_if_ne C 83 (by omega) dX7_halves_6 (by decide) (fun c6 => ?_) (fun c6 => ?_)
    · skip
      refine a_aload_n C dX7_halves_83 0 rfl rfl ?_
      refine a_iload_n C dX7_halves_84 1 rfl rfl ?_
      refine a_iload_n C dX7_halves_85 3 rfl rfl ?_
      have hml := mul_bd (a := cx) (b := L) (A := 20000000) (B := 40) (by omega) (by omega) (by omega) (by omega) (by decide)
      have hml : -2147483646 ≤ cx * L ∧ cx * L ≤ 2147483646 := by omega
      refine a_imul C dX7_halves_86 ?_
      refine a_iload_n C dX7_halves_87 3 rfl rfl ?_
      refine a_iload C dX7_halves_88 4 rfl ?_
      refine a_iadd C dX7_halves_90 ?_
      refine a_cSI C (k0 := 2) (As := [vI (cx * L), vI (L + R)]) (rest := [.ref (vq v b)]) (c_J9_floorDiv_7cf53 x.2.1 v σ (cx * L) (L + R) (by omega) hml (by omega)) gX7_halves_J9_floorDiv_7cf53 rfl (by decide +kernel) (by decide) rfl rfl (Nat.le_of_ble_eq_true rfl) dX7_halves_91 (fun z91 u91 r91 p91 => ?_)
      obtain ⟨e91, p91⟩ := p91
      subst u91
      have q91 := share_bd (c := cx) hL.1 hR.1 (by omega)
      rw [← e91] at q91
      refine a_puti C hM.f0 hM.n0 (Cn := RX7) (T := TX7) (N := 30) rfl iX7 tyX7_ok nmX7 23 (by decide) k173 rfl rfl 23 r91 (fun _ => Nat.le_of_ble_eq_true rfl) (fun _ => rfl) dX7_halves_94 ?_
      refine a_aload_n C dX7_halves_97 0 rfl rfl ?_
      refine a_iload_n C dX7_halves_98 1 rfl rfl ?_
      refine a_aload_n C dX7_halves_99 0 rfl rfl ?_
      refine a_geti C hM.f0 hM.n0 (Cn := RX7) (T := TX7) (N := 30) rfl iX7 23 (by decide) k173 23 (by decide) rfl dX7_halves_100 (fun z100 e100 r100 => ?_)
      try simp [sput_r, mset_n, sput, mset] at e100
      refine a_isub C dX7_halves_103 ?_
      refine a_puti C hM.f0 hM.n0 (Cn := RX7) (T := TX7) (N := 30) rfl iX7 tyX7_ok nmX7 25 (by decide) k182 rfl rfl 25 (by omega) (fun _ => Nat.le_of_ble_eq_true rfl) (fun _ => rfl) dX7_halves_104 ?_
      refine a_aload_n C dX7_halves_107 0 rfl rfl ?_
      refine a_iconst C dX7_halves_108 ?_
      refine a_aload_n C dX7_halves_109 0 rfl rfl ?_
      refine a_geti C hM.f0 hM.n0 (Cn := RX7) (T := TX7) (N := 30) rfl iX7 23 (by decide) k173 23 (by decide) rfl dX7_halves_110 (fun z110 e110 r110 => ?_)
      try simp [sput_r, mset_n, sput, mset] at e110
      refine a_iload_n C dX7_halves_113 1 rfl rfl ?_
      refine a_iload_n C dX7_halves_114 2 rfl rfl ?_
      refine a_iadd C dX7_halves_115 ?_
      refine a_aload_n C dX7_halves_116 0 rfl rfl ?_
      refine a_geti C hM.f0 hM.n0 (Cn := RX7) (T := TX7) (N := 30) rfl iX7 23 (by decide) k173 23 (by decide) rfl dX7_halves_117 (fun z117 e117 r117 => ?_)
      try simp [sput_r, mset_n, sput, mset] at e117
      refine a_isub C dX7_halves_120 ?_
      refine a_mmax C r110 (by omega) (by decide +kernel) ⟨by decide, Nat.le_of_ble_eq_true rfl⟩ dX7_halves_121 ?_
      obtain ⟨z121, e121⟩ : ∃ w : Int, w = max z110 ((cx + dx) - z117) := ⟨_, rfl⟩
      rw [← e121]
      refine a_mmax C (by decide) (by omega) (by decide +kernel) ⟨by decide, Nat.le_of_ble_eq_true rfl⟩ dX7_halves_124 ?_
      obtain ⟨z124, e124⟩ : ∃ w : Int, w = max 0 z121 := ⟨_, rfl⟩
      rw [← e124]
      refine a_cSI C (k0 := 1) (As := [vI z124]) (rest := [.ref (vq v b)]) (c_X7_capped x.2.1 v (sput (sput σ b 23 z91) b 25 (cx - z100)) z124 (by omega)) gX7_halves_X7_capped rfl (by decide +kernel) (by decide) rfl rfl (Nat.le_of_ble_eq_true rfl) dX7_halves_127 (fun z127 u127 r127 p127 => ?_)
      obtain ⟨e127, p127⟩ := p127
      subst u127
      try simp [sput_r, mset_n, sput, mset] at e127
      refine a_puti C hM.f0 hM.n0 (Cn := RX7) (T := TX7) (N := 30) rfl iX7 tyX7_ok nmX7 24 (by decide) k179 rfl rfl 24 r127 (fun _ => Nat.le_of_ble_eq_true rfl) (fun _ => rfl) dX7_halves_130 ?_
      refine a_aload_n C dX7_halves_133 0 rfl rfl ?_
      refine a_iconst C dX7_halves_134 ?_
      refine a_aload_n C dX7_halves_135 0 rfl rfl ?_
      refine a_geti C hM.f0 hM.n0 (Cn := RX7) (T := TX7) (N := 30) rfl iX7 25 (by decide) k182 25 (by decide) rfl dX7_halves_136 (fun z136 e136 r136 => ?_)
      try simp [sput_r, mset_n, sput, mset] at e136
      refine a_iload_n C dX7_halves_139 1 rfl rfl ?_
      refine a_iload_n C dX7_halves_140 2 rfl rfl ?_
      refine a_iadd C dX7_halves_141 ?_
      refine a_aload_n C dX7_halves_142 0 rfl rfl ?_
      refine a_geti C hM.f0 hM.n0 (Cn := RX7) (T := TX7) (N := 30) rfl iX7 25 (by decide) k182 25 (by decide) rfl dX7_halves_143 (fun z143 e143 r143 => ?_)
      try simp [sput_r, mset_n, sput, mset] at e143
      refine a_isub C dX7_halves_146 ?_
      refine a_mmax C r136 (by omega) (by decide +kernel) ⟨by decide, Nat.le_of_ble_eq_true rfl⟩ dX7_halves_147 ?_
      obtain ⟨z147, e147⟩ : ∃ w : Int, w = max z136 ((cx + dx) - z143) := ⟨_, rfl⟩
      rw [← e147]
      refine a_mmax C (by decide) (by omega) (by decide +kernel) ⟨by decide, Nat.le_of_ble_eq_true rfl⟩ dX7_halves_150 ?_
      obtain ⟨z150, e150⟩ : ∃ w : Int, w = max 0 z147 := ⟨_, rfl⟩
      rw [← e150]
      refine a_cSI C (k0 := 1) (As := [vI z150]) (rest := [.ref (vq v b)]) (c_X7_capped x.2.1 v (sput (sput (sput σ b 23 z91) b 25 (cx - z100)) b 24 z127) z150 (by omega)) gX7_halves_X7_capped rfl (by decide +kernel) (by decide) rfl rfl (Nat.le_of_ble_eq_true rfl) dX7_halves_153 (fun z153 u153 r153 p153 => ?_)
      obtain ⟨e153, p153⟩ := p153
      subst u153
      try simp [sput_r, mset_n, sput, mset] at e153
      refine a_puti C hM.f0 hM.n0 (Cn := RX7) (T := TX7) (N := 30) rfl iX7 tyX7_ok nmX7 26 (by decide) k185 rfl rfl 26 r153 (fun _ => Nat.le_of_ble_eq_true rfl) (fun _ => rfl) dX7_halves_156 ?_
      have hv : hvF cx dx L R = ((z91, z127), (cx - z100, z153)) := by
        have p1 : z127 = pdF z91 cx dx := by unfold pdF; omega
        have p2 : z153 = pdF (cx - z91) cx dx := by unfold pdF; omega
        unfold hvF
        rw [if_neg (by omega), if_neg (by omega), ← e91, ← p1, ← p2, e100]
      refine hret _ _ _ dX7_halves_159 ⟨?_, ?_, ?_, ?_, ?_⟩
      · rw [hv]; simp [sput]
      · rw [hv]; simp [sput]
      · rw [hv]; simp [sput]
      · rw [hv]; simp [sput]
      · intro a j q
        have q2 : ¬ (a = b ∧ j = 23) ∧ ¬ (a = b ∧ j = 24) ∧ ¬ (a = b ∧ j = 25) ∧ ¬ (a = b ∧ j = 26) := by omega
        simp only [sput, if_neg q2.1, if_neg q2.2.1, if_neg q2.2.2.1, if_neg q2.2.2.2]
    · skip
      refine a_iload_n C dX7_halves_9 3 rfl rfl ?_
      refine a_if_ne C 17 (by omega) dX7_halves_10 (by decide) (fun c10 => ?_) (fun c10 => ?_)
      · skip
        refine a_iconst C dX7_halves_17 ?_
        refine a_istore C [(5, vI 0), (0, .ref (vq v b)), (1, vI cx), (2, vI dx), (3, vI L), (4, vI R)] dX7_halves_18 (by decide) rfl ?_
        refine a_aload_n C dX7_halves_20 1 rfl rfl ?_
        refine a_iload C dX7_halves_21 0 rfl ?_
        refine a_if_eq C 30 (by decide) dX7_halves_23 (by decide) (fun c23 => ?_) (fun c23 => ?_)
        · skip
          refine a_iload_n C dX7_halves_30 2 rfl rfl ?_
          refine a_puti C hM.f0 hM.n0 (Cn := RX7) (T := TX7) (N := 30) rfl iX7 tyX7_ok nmX7 23 (by decide) k173 rfl rfl 23 (by omega) (fun _ => Nat.le_of_ble_eq_true rfl) (fun _ => rfl) dX7_halves_31 ?_
          refine a_aload_n C dX7_halves_34 1 rfl rfl ?_
          refine a_iload C dX7_halves_35 0 rfl ?_
          refine a_if_eq C 44 (by decide) dX7_halves_37 (by decide) (fun c37 => ?_) (fun c37 => ?_)
          · skip
            refine a_iload_n C dX7_halves_44 3 rfl rfl ?_
            refine a_cSI C (k0 := 1) (As := [vI dx]) (rest := [.ref (vq v b)]) (c_X7_capped x.2.1 v (sput σ b 23 cx) dx (by omega)) gX7_halves_X7_capped rfl (by decide +kernel) (by decide) rfl rfl (Nat.le_of_ble_eq_true rfl) dX7_halves_45 (fun z45 u45 r45 p45 => ?_)
            obtain ⟨e45, p45⟩ := p45
            subst u45
            try simp [sput_r, mset_n, sput, mset] at e45
            refine a_puti C hM.f0 hM.n0 (Cn := RX7) (T := TX7) (N := 30) rfl iX7 tyX7_ok nmX7 24 (by decide) k179 rfl rfl 24 r45 (fun _ => Nat.le_of_ble_eq_true rfl) (fun _ => rfl) dX7_halves_48 ?_
            refine a_aload_n C dX7_halves_51 1 rfl rfl ?_
            refine a_iload C dX7_halves_52 0 rfl ?_
            refine a_if_eq C 61 (by decide) dX7_halves_54 (by decide) (fun c54 => ?_) (fun c54 => ?_)
            · skip
              refine a_iconst C dX7_halves_61 ?_
              refine a_puti C hM.f0 hM.n0 (Cn := RX7) (T := TX7) (N := 30) rfl iX7 tyX7_ok nmX7 25 (by decide) k182 rfl rfl 25 (by decide) (fun _ => Nat.le_of_ble_eq_true rfl) (fun _ => rfl) dX7_halves_62 ?_
              refine a_aload_n C dX7_halves_65 1 rfl rfl ?_
              refine a_iload C dX7_halves_66 0 rfl ?_
              refine a_if_eq C 78 (by decide) dX7_halves_68 (by decide) (fun c68 => ?_) (fun c68 => ?_)
              · skip
                refine a_iconst C dX7_halves_78 ?_
                refine a_puti C hM.f0 hM.n0 (Cn := RX7) (T := TX7) (N := 30) rfl iX7 tyX7_ok nmX7 26 (by decide) k185 rfl rfl 26 (by decide) (fun _ => Nat.le_of_ble_eq_true rfl) (fun _ => rfl) dX7_halves_79 ?_
                have hv : hvF cx dx L R = ((cx, z45), (0, 0)) := by
                  unfold hvF
                  (first | rw [if_pos (by omega)] | rw [if_neg (by omega), if_pos (by omega)])
                  (first | rw [show z45 = dx by omega] | rw [show z72 = dx by omega])
                refine hret _ _ _ dX7_halves_82 ⟨?_, ?_, ?_, ?_, ?_⟩
                · rw [hv]; simp [sput]
                · rw [hv]; simp [sput]
                · rw [hv]; simp [sput]
                · rw [hv]; simp [sput]
                · intro a j q
                  have q2 : ¬ (a = b ∧ j = 23) ∧ ¬ (a = b ∧ j = 24) ∧ ¬ (a = b ∧ j = 25) ∧ ¬ (a = b ∧ j = 26) := by omega
                  simp only [sput, if_neg q2.1, if_neg q2.2.1, if_neg q2.2.2.1, if_neg q2.2.2.2]
              · skip
                exfalso; omega
            · skip
              exfalso; omega
          · skip
            exfalso; omega
        · skip
          exfalso; omega
      · skip
        exfalso; omega
set_option maxHeartbeats 4000000 in
set_option maxRecDepth 100000 in
theorem c_X7_splits (l : Launch) (v : VC) (σ : Mem) (b : Nat) (hM : shMo v b) (cl k val : Int) (hc : 0 ≤ cl ∧ cl < 3) (hk : 0 ≤ k ∧ k < (σ (b + 11) cl)) (hn : (σ (b + 11) cl) < 24) (hv : 0 ≤ val ∧ val ≤ 39) (hE : svE (moE σ b cl)) (hB : -20000000 ≤ (shR (σ (b + 16)) (40 * cl)) k ∧ (shR (σ (b + 16)) (40 * cl)) k ≤ 20000000) (hD : 0 ≤ (shR (σ (b + 17)) (40 * cl)) k ∧ (shR (σ (b + 17)) (40 * cl)) k ≤ 1000000) : CtV l yX7_splits wsX7_splits 3 68 v [.ref (vq v b), vI cl, vI k, vI val] σ (fun u => moFr σ u b cl ∧ moV u b cl = cutV (shR (σ (b + 14)) (40 * cl)) (moV σ b cl) k val) := by
  refine mkV (cc := cX7_splits) (n := 6) (by decide +kernel) rfl (Nat.le_of_ble_eq_true rfl) (fun x A Q hx C hret => ?_)
  subst hx
  show At x v A Q _ 0 [(0, .ref (vq v b)), (1, vI cl), (2, vI k), (3, vI val)] [] σ
  have iX7 : ∀ w ∈ wsX70, w ∈ wsX7_splits := by decide +kernel
  have k58 : Cond.fieldLink RX7 58 (TX7 17).1 (TX7 17).2.1 (TX7 17).2.2.1 ∈ wsX7_splits := by decide +kernel
  have k61 : Cond.fieldLink RX7 61 (TX7 18).1 (TX7 18).2.1 (TX7 18).2.2.1 ∈ wsX7_splits := by decide +kernel
  have k64 : Cond.fieldLink RX7 64 (TX7 19).1 (TX7 19).2.1 (TX7 19).2.2.1 ∈ wsX7_splits := by decide +kernel
  have k45 : Cond.fieldLink RX7 45 (TX7 13).1 (TX7 13).2.1 (TX7 13).2.2.1 ∈ wsX7_splits := by decide +kernel
  have k173 : Cond.fieldLink RX7 173 (TX7 23).1 (TX7 23).2.1 (TX7 23).2.2.1 ∈ wsX7_splits := by decide +kernel
  have k179 : Cond.fieldLink RX7 179 (TX7 24).1 (TX7 24).2.1 (TX7 24).2.2.1 ∈ wsX7_splits := by decide +kernel
  have k182 : Cond.fieldLink RX7 182 (TX7 25).1 (TX7 25).2.1 (TX7 25).2.2.1 ∈ wsX7_splits := by decide +kernel
  have k185 : Cond.fieldLink RX7 185 (TX7 26).1 (TX7 26).2.1 (TX7 26).2.2.1 ∈ wsX7_splits := by decide +kernel
  have n1 : 1 ≤ (σ (b + 11) cl) := hE.1
  have n2 : (σ (b + 11) cl) ≤ 24 := hE.2.1
  have nE : ∀ j : Int, 0 ≤ j → j < (σ (b + 11) cl) → 0 ≤ (shR (σ (b + 15)) (40 * cl)) j ∧ (shR (σ (b + 15)) (40 * cl)) j ≤ 39 := hE.2.2.1
  refine a_aload_n C dX7_splits_0 0 rfl rfl ?_
  refine a_getf C hM.f0 hM.n0 (Cn := RX7) (T := TX7) (N := 30) rfl iX7 17 (by decide) k58 (w := .ref (vq v (b + 15))) rfl dX7_splits_1 ?_
  refine a_bipush C dX7_splits_4 ?_
  refine a_iload_n C dX7_splits_6 1 rfl rfl ?_
  refine a_imul C dX7_splits_7 ?_
  refine a_iload_n C dX7_splits_8 2 rfl rfl ?_
  refine a_iadd C dX7_splits_9 ?_
  refine a_iald C hM.f15 hM.n15 0 hM.tI (by omega) (by omega) (by decide) dX7_splits_10 (fun z10 e10 r10 => ?_)
  rw [shR_i (σ (b + 15)) (40 * cl) k _ rfl] at e10
  have q10 := nE k hk.1 hk.2
  refine a_istore C [(4, vI z10), (0, .ref (vq v b)), (1, vI cl), (2, vI k), (3, vI val)] dX7_splits_11 (by decide) rfl ?_
  refine a_aload_n C dX7_splits_13 1 rfl rfl ?_
  refine a_aload_n C dX7_splits_14 1 rfl rfl ?_
  refine a_getf C hM.f0 hM.n0 (Cn := RX7) (T := TX7) (N := 30) rfl iX7 18 (by decide) k61 (w := .ref (vq v (b + 16))) rfl dX7_splits_15 ?_
  refine a_bipush C dX7_splits_18 ?_
  refine a_iload_n C dX7_splits_20 2 rfl rfl ?_
  refine a_imul C dX7_splits_21 ?_
  refine a_iload_n C dX7_splits_22 3 rfl rfl ?_
  refine a_iadd C dX7_splits_23 ?_
  refine a_iald C hM.f16 hM.n16 0 hM.tI (by omega) (by omega) (by decide) dX7_splits_24 (fun z24 e24 r24 => ?_)
  rw [shR_i (σ (b + 16)) (40 * cl) k _ rfl] at e24
  refine a_aload_n C dX7_splits_25 1 rfl rfl ?_
  refine a_getf C hM.f0 hM.n0 (Cn := RX7) (T := TX7) (N := 30) rfl iX7 19 (by decide) k64 (w := .ref (vq v (b + 17))) rfl dX7_splits_26 ?_
  refine a_bipush C dX7_splits_29 ?_
  refine a_iload_n C dX7_splits_31 2 rfl rfl ?_
  refine a_imul C dX7_splits_32 ?_
  refine a_iload_n C dX7_splits_33 3 rfl rfl ?_
  refine a_iadd C dX7_splits_34 ?_
  refine a_iald C hM.f17 hM.n17 0 hM.tI (by omega) (by omega) (by decide) dX7_splits_35 (fun z35 e35 r35 => ?_)
  rw [shR_i (σ (b + 17)) (40 * cl) k _ rfl] at e35
  refine a_aload_n C dX7_splits_36 1 rfl rfl ?_
  refine a_iload_n C dX7_splits_37 2 rfl rfl ?_
  refine a_aload_n C dX7_splits_38 1 rfl rfl ?_
  refine a_iload_n C dX7_splits_39 2 rfl rfl ?_
  refine a_iload_n C dX7_splits_40 3 rfl rfl ?_
  refine a_cVI C (k0 := 2) (As := [vI cl, vI k]) (rest := [vI cl, .ref (vq v b), vI z35, vI z24, .ref (vq v b)]) (c_X7_begins x.2.1 v σ b hM cl k hc (by omega) (fun q => nE (k - 1) (by omega) (by omega))) gX7_splits_X7_begins rfl (by decide +kernel) (by decide) hM.f0 rfl hM.n0 rfl rfl (Nat.le_of_ble_eq_true rfl) dX7_splits_41 (fun z41 u41 r41 p41 => ?_)
  obtain ⟨e41, p41⟩ := p41
  subst u41
  have q41 : 0 ≤ foF (shR (σ (b + 15)) (40 * cl)) k ∧ foF (shR (σ (b + 15)) (40 * cl)) k ≤ 40 := by unfold foF; split; (have := nE (k - 1) (by omega) (by omega); omega); omega
  rw [← e41] at q41
  refine a_iload_n C dX7_splits_44 4 rfl rfl ?_
  refine a_cVI C (k0 := 3) (As := [vI cl, vI z41, vI val]) (rest := [vI z35, vI z24, .ref (vq v b)]) (c_X7_light x.2.1 v σ b hM cl z41 val hc q41 (by omega)) gX7_splits_X7_light rfl (by decide +kernel) (by decide) hM.f0 rfl hM.n0 rfl rfl (Nat.le_of_ble_eq_true rfl) dX7_splits_45 (fun z45 u45 r45 p45 => ?_)
  obtain ⟨e45, p45⟩ := p45
  subst u45
  have q45 := ltC_bd (shR (σ (b + 14)) (40 * cl)) z41 val
  rw [← e45] at q45
  refine a_aload_n C dX7_splits_48 1 rfl rfl ?_
  refine a_iload_n C dX7_splits_49 2 rfl rfl ?_
  refine a_iload_n C dX7_splits_50 4 rfl rfl ?_
  refine a_iconst C dX7_splits_51 ?_
  refine a_iadd C dX7_splits_52 ?_
  refine a_iload C dX7_splits_53 0 rfl ?_
  refine a_cVI C (k0 := 3) (As := [vI cl, vI (val + 1), vI z10]) (rest := [vI z45, vI z35, vI z24, .ref (vq v b)]) (c_X7_light x.2.1 v σ b hM cl (val + 1) z10 hc (by omega) (by omega)) gX7_splits_X7_light rfl (by decide +kernel) (by decide) hM.f0 rfl hM.n0 rfl rfl (Nat.le_of_ble_eq_true rfl) dX7_splits_55 (fun z55 u55 r55 p55 => ?_)
  obtain ⟨e55, p55⟩ := p55
  subst u55
  have q55 := ltC_bd (shR (σ (b + 14)) (40 * cl)) (val + 1) z10
  rw [← e55] at q55
  refine a_cVV C (k0 := 4) (As := [vI z24, vI z35, vI z45, vI z55]) (rest := []) (c_X7_halves x.2.1 v σ b hM z24 z35 z45 z55 (by omega) (by omega) (by omega) (by omega)) gX7_splits_X7_halves rfl (by decide +kernel) (by decide) hM.f0 rfl hM.n0 rfl rfl (Nat.le_of_ble_eq_true rfl) dX7_splits_58 (fun u58 p58 => ?_)
  rw [e24, e35, e45, e55, e41, e10] at p58
  refine a_aload_n C dX7_splits_61 1 rfl rfl ?_
  refine a_getf C hM.f0 hM.n0 (Cn := RX7) (T := TX7) (N := 30) rfl iX7 13 (by decide) k45 (w := .ref (vq v (b + 11))) rfl dX7_splits_62 ?_
  refine a_iload_n C dX7_splits_65 2 rfl rfl ?_
  refine a_iald C hM.f11 hM.n11 0 hM.tI (by omega) (by omega) (by decide) dX7_splits_66 (fun z66 e66 r66 => ?_)
  refine a_istore C [(5, vI z66), (4, vI z10), (0, .ref (vq v b)), (1, vI cl), (2, vI k), (3, vI val)] dX7_splits_67 (by decide) rfl ?_
  have lp : ∀ (n : Nat) (i : Int) (τ : Mem) , (i).toNat = n → k ≤ i ∧ i ≤ (σ (b + 11) cl) → (∀ j : Int, τ (b + 15) (40 * cl + j) = if i + 1 ≤ j ∧ j < (σ (b + 11) cl) + 1 then σ (b + 15) (40 * cl + (j - 1)) else σ (b + 15) (40 * cl + j)) → (∀ j : Int, τ (b + 16) (40 * cl + j) = if i + 1 ≤ j ∧ j < (σ (b + 11) cl) + 1 then σ (b + 16) (40 * cl + (j - 1)) else σ (b + 16) (40 * cl + j)) → (∀ j : Int, τ (b + 17) (40 * cl + j) = if i + 1 ≤ j ∧ j < (σ (b + 11) cl) + 1 then σ (b + 17) (40 * cl + (j - 1)) else σ (b + 17) (40 * cl + j)) → (∀ a : Nat, a ≠ b + 15 → a ≠ b + 16 → a ≠ b + 17 → τ a = u58 a) → At x v A Q 6 69 [(5, vI i), (4, vI z10), (0, .ref (vq v b)), (1, vI cl), (2, vI k), (3, vI val)] [] τ := by
    intro n
    induction n using Nat.strongRecOn with
    | _ n ih =>
      intro i τ hn i1 i15 i16 i17 iF
      refine a_iload C dX7_splits_69 0 rfl ?_
      refine a_iload_n C dX7_splits_71 4 rfl rfl ?_
      refine a_icmp_le C 159 (by omega) (by omega) dX7_splits_72 (by decide) (fun c72 => ?_) (fun c72 => ?_)
      · skip
        refine a_aload_n C dX7_splits_159 2 rfl rfl ?_
        refine a_getf C hM.f0 hM.n0 (Cn := RX7) (T := TX7) (N := 30) rfl iX7 13 (by decide) k45 (w := .ref (vq v (b + 11))) rfl dX7_splits_160 ?_
        refine a_iload_n C dX7_splits_163 3 rfl rfl ?_
        refine a_dup2 C dX7_splits_164 rfl rfl ?_
        refine a_iald C hM.f11 hM.n11 0 hM.tI (by omega) (by omega) (by decide) dX7_splits_165 (fun z165 e165 r165 => ?_)
        rw [iF (b + 11) (by omega) (by omega) (by omega), p58.2.2.2.2.r (by omega)] at e165
        refine a_iconst C dX7_splits_166 ?_
        refine a_iadd C dX7_splits_167 ?_
        refine a_iast C hM.f11 hM.n11 0 hM.tI (by omega) (by omega) (by decide) (by omega) dX7_splits_168 ?_
        refine a_aload_n C dX7_splits_169 2 rfl rfl ?_
        refine a_getf C hM.f0 hM.n0 (Cn := RX7) (T := TX7) (N := 30) rfl iX7 17 (by decide) k58 (w := .ref (vq v (b + 15))) rfl dX7_splits_170 ?_
        refine a_bipush C dX7_splits_173 ?_
        refine a_iload_n C dX7_splits_175 3 rfl rfl ?_
        refine a_imul C dX7_splits_176 ?_
        refine a_iload_n C dX7_splits_177 4 rfl rfl ?_
        refine a_iadd C dX7_splits_178 ?_
        refine a_iload_n C dX7_splits_179 5 rfl rfl ?_
        refine a_iast C hM.f15 hM.n15 0 hM.tI (by omega) (by omega) (by decide) (by omega) dX7_splits_180 ?_
        refine a_aload_n C dX7_splits_181 2 rfl rfl ?_
        refine a_getf C hM.f0 hM.n0 (Cn := RX7) (T := TX7) (N := 30) rfl iX7 18 (by decide) k61 (w := .ref (vq v (b + 16))) rfl dX7_splits_182 ?_
        refine a_bipush C dX7_splits_185 ?_
        refine a_iload_n C dX7_splits_187 3 rfl rfl ?_
        refine a_imul C dX7_splits_188 ?_
        refine a_iload_n C dX7_splits_189 4 rfl rfl ?_
        refine a_iadd C dX7_splits_190 ?_
        refine a_aload_n C dX7_splits_191 2 rfl rfl ?_
        refine a_geti C hM.f0 hM.n0 (Cn := RX7) (T := TX7) (N := 30) rfl iX7 23 (by decide) k173 23 (by decide) rfl dX7_splits_192 (fun z192 e192 r192 => ?_)
        try simp [sput_r, mset_n, sput, mset] at e192
        have b192 : z192 = u58 b 23 := by rw [e192, iF b (by omega) (by omega) (by omega)]
        refine a_iast C hM.f16 hM.n16 0 hM.tI (by omega) (by omega) (by decide) r192 dX7_splits_195 ?_
        refine a_aload_n C dX7_splits_196 2 rfl rfl ?_
        refine a_getf C hM.f0 hM.n0 (Cn := RX7) (T := TX7) (N := 30) rfl iX7 19 (by decide) k64 (w := .ref (vq v (b + 17))) rfl dX7_splits_197 ?_
        refine a_bipush C dX7_splits_200 ?_
        refine a_iload_n C dX7_splits_202 3 rfl rfl ?_
        refine a_imul C dX7_splits_203 ?_
        refine a_iload_n C dX7_splits_204 4 rfl rfl ?_
        refine a_iadd C dX7_splits_205 ?_
        refine a_aload_n C dX7_splits_206 2 rfl rfl ?_
        refine a_geti C hM.f0 hM.n0 (Cn := RX7) (T := TX7) (N := 30) rfl iX7 24 (by decide) k179 24 (by decide) rfl dX7_splits_207 (fun z207 e207 r207 => ?_)
        try simp [sput_r, mset_n, sput, mset] at e207
        have b207 : z207 = u58 b 24 := by rw [e207, iF b (by omega) (by omega) (by omega)]
        refine a_iast C hM.f17 hM.n17 0 hM.tI (by omega) (by omega) (by decide) r207 dX7_splits_210 ?_
        refine a_aload_n C dX7_splits_211 2 rfl rfl ?_
        refine a_getf C hM.f0 hM.n0 (Cn := RX7) (T := TX7) (N := 30) rfl iX7 18 (by decide) k61 (w := .ref (vq v (b + 16))) rfl dX7_splits_212 ?_
        refine a_bipush C dX7_splits_215 ?_
        refine a_iload_n C dX7_splits_217 3 rfl rfl ?_
        refine a_imul C dX7_splits_218 ?_
        refine a_iload_n C dX7_splits_219 4 rfl rfl ?_
        refine a_iadd C dX7_splits_220 ?_
        refine a_iconst C dX7_splits_221 ?_
        refine a_iadd C dX7_splits_222 ?_
        refine a_aload_n C dX7_splits_223 2 rfl rfl ?_
        refine a_geti C hM.f0 hM.n0 (Cn := RX7) (T := TX7) (N := 30) rfl iX7 25 (by decide) k182 25 (by decide) rfl dX7_splits_224 (fun z224 e224 r224 => ?_)
        try simp [sput_r, mset_n, sput, mset] at e224
        have b224 : z224 = u58 b 25 := by rw [e224, iF b (by omega) (by omega) (by omega)]
        refine a_iast C hM.f16 hM.n16 0 hM.tI (by omega) (by omega) (by decide) r224 dX7_splits_227 ?_
        refine a_aload_n C dX7_splits_228 2 rfl rfl ?_
        refine a_getf C hM.f0 hM.n0 (Cn := RX7) (T := TX7) (N := 30) rfl iX7 19 (by decide) k64 (w := .ref (vq v (b + 17))) rfl dX7_splits_229 ?_
        refine a_bipush C dX7_splits_232 ?_
        refine a_iload_n C dX7_splits_234 3 rfl rfl ?_
        refine a_imul C dX7_splits_235 ?_
        refine a_iload_n C dX7_splits_236 4 rfl rfl ?_
        refine a_iadd C dX7_splits_237 ?_
        refine a_iconst C dX7_splits_238 ?_
        refine a_iadd C dX7_splits_239 ?_
        refine a_aload_n C dX7_splits_240 2 rfl rfl ?_
        refine a_geti C hM.f0 hM.n0 (Cn := RX7) (T := TX7) (N := 30) rfl iX7 26 (by decide) k185 26 (by decide) rfl dX7_splits_241 (fun z241 e241 r241 => ?_)
        try simp [sput_r, mset_n, sput, mset] at e241
        have b241 : z241 = u58 b 26 := by rw [e241, iF b (by omega) (by omega) (by omega)]
        refine a_iast C hM.f17 hM.n17 0 hM.tI (by omega) (by omega) (by decide) r241 dX7_splits_244 ?_
        have hik : i = k := by omega
        subst hik
        obtain ⟨a1, a2, a3, a4, aF⟩ := p58
        refine hret _ _ _ dX7_splits_245 ⟨⟨?_, ?_, ?_, ?_⟩, ?_⟩
        · intro a q0 q11 q15 q16 q17; simp only [sput_r q17, sput_r q16, sput_r q15, sput_r q11]; rw [iF a q15 q16 q17, aF.r q0]
        · intro j q1 q2 q3 q4; simp only [sput_r (show b ≠ b + 17 by omega), sput_r (show b ≠ b + 16 by omega), sput_r (show b ≠ b + 15 by omega), sput_r (show b ≠ b + 11 by omega)]; rw [iF b (by omega) (by omega) (by omega)]; exact aF b j (Or.inr ⟨q1, q2, q3, q4⟩)
        · intro j q; simp only [sput_r (show b + 11 ≠ b + 17 by omega), sput_r (show b + 11 ≠ b + 16 by omega), sput_r (show b + 11 ≠ b + 15 by omega)]; rw [sput_j _ _ _ _ _ q, iF (b + 11) (by omega) (by omega) (by omega), aF.r (by omega)]
        · intro j q
          have g15 := i15 (j - 40 * cl)
          have g16 := i16 (j - 40 * cl)
          have g17 := i17 (j - 40 * cl)
          rw [if_neg (by omega), show 40 * cl + (j - 40 * cl) = j by omega] at g15 g16 g17
          refine ⟨?_, ?_, ?_⟩
          · simp only [sput_r (show b + 15 ≠ b + 17 by omega), sput_r (show b + 15 ≠ b + 16 by omega)]; rw [sput_j _ _ _ _ _ (by omega), sput_r (by omega)]; exact g15
          · simp only [sput_r (show b + 16 ≠ b + 17 by omega)]; rw [sput_j _ _ _ _ _ (by omega), sput_r (by omega), sput_j _ _ _ _ _ (by omega), sput_r (by omega), sput_r (by omega)]; exact g16
          · rw [sput_j _ _ _ _ _ (by omega), sput_r (by omega), sput_j _ _ _ _ _ (by omega), sput_r (by omega), sput_r (by omega), sput_r (by omega)]; exact g17
        · have hn : sput (sput (sput (sput (sput (sput τ (b + 11) cl (z165 + 1)) (b + 15) (40 * cl + i) val) (b + 16) (40 * cl + i) z192) (b + 17) (40 * cl + i) z207) (b + 16) (40 * cl + i + 1) z224) (b + 17) (40 * cl + i + 1) z241 (b + 11) cl = σ (b + 11) cl + 1 := by
            simp only [sput_r (show b + 11 ≠ b + 17 by omega), sput_r (show b + 11 ≠ b + 16 by omega), sput_r (show b + 11 ≠ b + 15 by omega)]; rw [sput_s, e165]
          unfold moV cutV
          rw [hn]
          simp only [mkR_in hk.1 hk.2, foF_mk (show i ≤ (σ (b + 11) cl) by omega)]
          refine Prod.ext rfl (Prod.ext ?_ (Prod.ext ?_ ?_))
          · refine sh_ins hk.1 hk.2 i15 (fun j q1 q2 => ?_) ?_ ?_
            · simp only [sput_r (show b + 15 ≠ b + 17 by omega), sput_r (show b + 15 ≠ b + 16 by omega)]; rw [sput_j _ _ _ _ _ (by omega), sput_r (by omega)]
            · simp only [sput_r (show b + 15 ≠ b + 17 by omega), sput_r (show b + 15 ≠ b + 16 by omega)]; rw [sput_s]
            · simp only [sput_r (show b + 15 ≠ b + 17 by omega), sput_r (show b + 15 ≠ b + 16 by omega)]; rw [sput_j _ _ _ _ _ (by omega), sput_r (by omega), i15, if_pos (by omega), show i + 1 - 1 = i by omega]; rfl
          · refine sh_ins hk.1 hk.2 i16 (fun j q1 q2 => ?_) ?_ ?_
            · rw [sput_r (by omega), sput_j _ _ _ _ _ (by omega), sput_r (by omega), sput_j _ _ _ _ _ (by omega), sput_r (by omega), sput_r (by omega)]
            · rw [sput_r (by omega), sput_j _ _ _ _ _ (by omega), sput_r (by omega), sput_s, b192, a1]
            · rw [show 40 * cl + (i + 1) = 40 * cl + i + 1 by omega, sput_r (by omega), sput_s, b224, a3]
          · refine sh_ins hk.1 hk.2 i17 (fun j q1 q2 => ?_) ?_ ?_
            · rw [sput_j _ _ _ _ _ (by omega), sput_r (by omega), sput_j _ _ _ _ _ (by omega), sput_r (by omega), sput_r (by omega), sput_r (by omega)]
            · rw [sput_j _ _ _ _ _ (by omega), sput_r (by omega), sput_s, b207, a2]
            · rw [show 40 * cl + (i + 1) = 40 * cl + i + 1 by omega, sput_s, b241, a4]
      · skip
        refine a_aload_n C dX7_splits_75 2 rfl rfl ?_
        refine a_getf C hM.f0 hM.n0 (Cn := RX7) (T := TX7) (N := 30) rfl iX7 17 (by decide) k58 (w := .ref (vq v (b + 15))) rfl dX7_splits_76 ?_
        refine a_bipush C dX7_splits_79 ?_
        refine a_iload_n C dX7_splits_81 3 rfl rfl ?_
        refine a_imul C dX7_splits_82 ?_
        refine a_iload C dX7_splits_83 0 rfl ?_
        refine a_iadd C dX7_splits_85 ?_
        refine a_aload_n C dX7_splits_86 2 rfl rfl ?_
        refine a_getf C hM.f0 hM.n0 (Cn := RX7) (T := TX7) (N := 30) rfl iX7 17 (by decide) k58 (w := .ref (vq v (b + 15))) rfl dX7_splits_87 ?_
        refine a_bipush C dX7_splits_90 ?_
        refine a_iload_n C dX7_splits_92 3 rfl rfl ?_
        refine a_imul C dX7_splits_93 ?_
        refine a_iload C dX7_splits_94 0 rfl ?_
        refine a_iadd C dX7_splits_96 ?_
        refine a_iconst C dX7_splits_97 ?_
        refine a_isub C dX7_splits_98 ?_
        refine a_iald C hM.f15 hM.n15 0 hM.tI (by omega) (by omega) (by decide) dX7_splits_99 (fun z99 e99 r99 => ?_)
        rw [show 40 * cl + i - 1 = 40 * cl + (i - 1) by omega] at e99
        refine a_iast C hM.f15 hM.n15 0 hM.tI (by omega) (by omega) (by decide) r99 dX7_splits_100 ?_
        refine a_aload_n C dX7_splits_101 2 rfl rfl ?_
        refine a_getf C hM.f0 hM.n0 (Cn := RX7) (T := TX7) (N := 30) rfl iX7 18 (by decide) k61 (w := .ref (vq v (b + 16))) rfl dX7_splits_102 ?_
        refine a_bipush C dX7_splits_105 ?_
        refine a_iload_n C dX7_splits_107 3 rfl rfl ?_
        refine a_imul C dX7_splits_108 ?_
        refine a_iload C dX7_splits_109 0 rfl ?_
        refine a_iadd C dX7_splits_111 ?_
        refine a_aload_n C dX7_splits_112 2 rfl rfl ?_
        refine a_getf C hM.f0 hM.n0 (Cn := RX7) (T := TX7) (N := 30) rfl iX7 18 (by decide) k61 (w := .ref (vq v (b + 16))) rfl dX7_splits_113 ?_
        refine a_bipush C dX7_splits_116 ?_
        refine a_iload_n C dX7_splits_118 3 rfl rfl ?_
        refine a_imul C dX7_splits_119 ?_
        refine a_iload C dX7_splits_120 0 rfl ?_
        refine a_iadd C dX7_splits_122 ?_
        refine a_iconst C dX7_splits_123 ?_
        refine a_isub C dX7_splits_124 ?_
        refine a_iald C hM.f16 hM.n16 0 hM.tI (by omega) (by omega) (by decide) dX7_splits_125 (fun z125 e125 r125 => ?_)
        try simp [sput_r, mset_n, sput, mset] at e125
        rw [show 40 * cl + i - 1 = 40 * cl + (i - 1) by omega] at e125
        refine a_iast C hM.f16 hM.n16 0 hM.tI (by omega) (by omega) (by decide) r125 dX7_splits_126 ?_
        refine a_aload_n C dX7_splits_127 2 rfl rfl ?_
        refine a_getf C hM.f0 hM.n0 (Cn := RX7) (T := TX7) (N := 30) rfl iX7 19 (by decide) k64 (w := .ref (vq v (b + 17))) rfl dX7_splits_128 ?_
        refine a_bipush C dX7_splits_131 ?_
        refine a_iload_n C dX7_splits_133 3 rfl rfl ?_
        refine a_imul C dX7_splits_134 ?_
        refine a_iload C dX7_splits_135 0 rfl ?_
        refine a_iadd C dX7_splits_137 ?_
        refine a_aload_n C dX7_splits_138 2 rfl rfl ?_
        refine a_getf C hM.f0 hM.n0 (Cn := RX7) (T := TX7) (N := 30) rfl iX7 19 (by decide) k64 (w := .ref (vq v (b + 17))) rfl dX7_splits_139 ?_
        refine a_bipush C dX7_splits_142 ?_
        refine a_iload_n C dX7_splits_144 3 rfl rfl ?_
        refine a_imul C dX7_splits_145 ?_
        refine a_iload C dX7_splits_146 0 rfl ?_
        refine a_iadd C dX7_splits_148 ?_
        refine a_iconst C dX7_splits_149 ?_
        refine a_isub C dX7_splits_150 ?_
        refine a_iald C hM.f17 hM.n17 0 hM.tI (by omega) (by omega) (by decide) dX7_splits_151 (fun z151 e151 r151 => ?_)
        try simp [sput_r, mset_n, sput, mset] at e151
        rw [show 40 * cl + i - 1 = 40 * cl + (i - 1) by omega] at e151
        refine a_iast C hM.f17 hM.n17 0 hM.tI (by omega) (by omega) (by decide) r151 dX7_splits_152 ?_
        refine a_iinc C (i - 1) [(5, vI (i - 1)), (4, vI z10), (0, .ref (vq v b)), (1, vI cl), (2, vI k), (3, vI val)] dX7_splits_153 0 rfl (by omega) (by decide) rfl ?_
        refine a_goto C 69 dX7_splits_156 (by decide) ?_
        refine ih _ (by omega) (i - 1) _ rfl (by omega) ?_ ?_ ?_ (fun a q1 q2 q3 => by rw [sput_r q3, sput_r q2, sput_r q1]; exact iF a q1 q2 q3)
        · intro j
          have h9 := i15 j
          have h8 := i15 (i - 1)
          rw [if_neg (by omega)] at h8
          rw [sput_r (show b + 15 ≠ b + 17 by omega), sput_r (show b + 15 ≠ b + 16 by omega)]
          by_cases hj : j = i
          · subst hj; rw [sput_s, if_pos (by omega), e99]; exact h8
          · rw [sput_j _ _ _ _ _ (by omega), h9]
            by_cases q : i + 1 ≤ j ∧ j < σ (b + 11) cl + 1
            · rw [if_pos q, if_pos (by omega)]
            · rw [if_neg q, if_neg (by omega)]
        · intro j
          have h9 := i16 j
          have h8 := i16 (i - 1)
          rw [if_neg (by omega)] at h8
          rw [sput_r (show b + 16 ≠ b + 17 by omega)]
          by_cases hj : j = i
          · subst hj; rw [sput_s, if_pos (by omega), e125]; exact h8
          · rw [sput_j _ _ _ _ _ (by omega), sput_r (show b + 16 ≠ b + 15 by omega), h9]
            by_cases q : i + 1 ≤ j ∧ j < σ (b + 11) cl + 1
            · rw [if_pos q, if_pos (by omega)]
            · rw [if_neg q, if_neg (by omega)]
        · intro j
          have h9 := i17 j
          have h8 := i17 (i - 1)
          rw [if_neg (by omega)] at h8
          skip
          by_cases hj : j = i
          · subst hj; rw [sput_s, if_pos (by omega), e151]; exact h8
          · rw [sput_j _ _ _ _ _ (by omega), sput_r (show b + 17 ≠ b + 16 by omega), sput_r (show b + 17 ≠ b + 15 by omega), h9]
            by_cases q : i + 1 ≤ j ∧ j < σ (b + 11) cl + 1
            · rw [if_pos q, if_pos (by omega)]
            · rw [if_neg q, if_neg (by omega)]
  have e66b : z66 = (σ (b + 11) cl) := by rw [e66, p58.2.2.2.2.r (by omega)]
  refine lp _ _ u58 rfl (by omega) (fun j => ?_) (fun j => ?_) (fun j => ?_) (fun _ _ _ _ => rfl)
  · rw [p58.2.2.2.2.r (by omega), if_neg (by omega)]
  · rw [p58.2.2.2.2.r (by omega), if_neg (by omega)]
  · rw [p58.2.2.2.2.r (by omega), if_neg (by omega)]
set_option maxHeartbeats 4000000 in
set_option maxRecDepth 100000 in
theorem c_X7_melts (l : Launch) (v : VC) (σ : Mem) (b : Nat) (hM : shMo v b) (cl k : Int) (hc : 0 ≤ cl ∧ cl < 3) (hk : 0 ≤ k ∧ k + 1 < (σ (b + 11) cl)) (hn : (σ (b + 11) cl) ≤ 24) (hB : ∀ j : Int, 0 ≤ j → j < (σ (b + 11) cl) → (-400000000 ≤ (shR (σ (b + 16)) (40 * cl)) j ∧ (shR (σ (b + 16)) (40 * cl)) j ≤ 400000000) ∧ 0 ≤ (shR (σ (b + 17)) (40 * cl)) j ∧ (shR (σ (b + 17)) (40 * cl)) j ≤ 1000000) : CtV l yX7_melts wsX7_melts 2 43 v [.ref (vq v b), vI cl, vI k] σ (fun u => moFr σ u b cl ∧ moV u b cl = fuseV (moV σ b cl) k) := by
  refine mkV (cc := cX7_melts) (n := 4) (by decide +kernel) rfl (Nat.le_of_ble_eq_true rfl) (fun x A Q hx C hret => ?_)
  subst hx
  show At x v A Q _ 0 [(0, .ref (vq v b)), (1, vI cl), (2, vI k)] [] σ
  have iX7 : ∀ w ∈ wsX70, w ∈ wsX7_melts := by decide +kernel
  have k61 : Cond.fieldLink RX7 61 (TX7 18).1 (TX7 18).2.1 (TX7 18).2.2.1 ∈ wsX7_melts := by decide +kernel
  have k64 : Cond.fieldLink RX7 64 (TX7 19).1 (TX7 19).2.1 (TX7 19).2.2.1 ∈ wsX7_melts := by decide +kernel
  have k58 : Cond.fieldLink RX7 58 (TX7 17).1 (TX7 17).2.1 (TX7 17).2.2.1 ∈ wsX7_melts := by decide +kernel
  have k45 : Cond.fieldLink RX7 45 (TX7 13).1 (TX7 13).2.1 (TX7 13).2.2.1 ∈ wsX7_melts := by decide +kernel
  have b0 := hB k hk.1 (by omega)
  have b1 := hB (k + 1) (by omega) hk.2
  simp only [shR_e] at b0 b1
  refine a_aload_n C dX7_melts_0 0 rfl rfl ?_
  refine a_getf C hM.f0 hM.n0 (Cn := RX7) (T := TX7) (N := 30) rfl iX7 18 (by decide) k61 (w := .ref (vq v (b + 16))) rfl dX7_melts_1 ?_
  refine a_bipush C dX7_melts_4 ?_
  refine a_iload_n C dX7_melts_6 1 rfl rfl ?_
  refine a_imul C dX7_melts_7 ?_
  refine a_iload_n C dX7_melts_8 2 rfl rfl ?_
  refine a_iadd C dX7_melts_9 ?_
  refine a_dup2 C dX7_melts_10 rfl rfl ?_
  refine a_iald C hM.f16 hM.n16 0 hM.tI (by omega) (by omega) (by decide) dX7_melts_11 (fun z11 e11 r11 => ?_)
  refine a_aload_n C dX7_melts_12 0 rfl rfl ?_
  refine a_getf C hM.f0 hM.n0 (Cn := RX7) (T := TX7) (N := 30) rfl iX7 18 (by decide) k61 (w := .ref (vq v (b + 16))) rfl dX7_melts_13 ?_
  refine a_bipush C dX7_melts_16 ?_
  refine a_iload_n C dX7_melts_18 1 rfl rfl ?_
  refine a_imul C dX7_melts_19 ?_
  refine a_iload_n C dX7_melts_20 2 rfl rfl ?_
  refine a_iadd C dX7_melts_21 ?_
  refine a_iconst C dX7_melts_22 ?_
  refine a_iadd C dX7_melts_23 ?_
  refine a_iald C hM.f16 hM.n16 0 hM.tI (by omega) (by omega) (by decide) dX7_melts_24 (fun z24 e24 r24 => ?_)
  rw [show 40 * cl + k + 1 = 40 * cl + (k + 1) by omega] at e24
  refine a_iadd C dX7_melts_25 ?_
  refine a_iast C hM.f16 hM.n16 0 hM.tI (by omega) (by omega) (by decide) (by omega) dX7_melts_26 ?_
  refine a_aload_n C dX7_melts_27 0 rfl rfl ?_
  refine a_getf C hM.f0 hM.n0 (Cn := RX7) (T := TX7) (N := 30) rfl iX7 19 (by decide) k64 (w := .ref (vq v (b + 17))) rfl dX7_melts_28 ?_
  refine a_bipush C dX7_melts_31 ?_
  refine a_iload_n C dX7_melts_33 1 rfl rfl ?_
  refine a_imul C dX7_melts_34 ?_
  refine a_iload_n C dX7_melts_35 2 rfl rfl ?_
  refine a_iadd C dX7_melts_36 ?_
  refine a_aload_n C dX7_melts_37 0 rfl rfl ?_
  refine a_getf C hM.f0 hM.n0 (Cn := RX7) (T := TX7) (N := 30) rfl iX7 19 (by decide) k64 (w := .ref (vq v (b + 17))) rfl dX7_melts_38 ?_
  refine a_bipush C dX7_melts_41 ?_
  refine a_iload_n C dX7_melts_43 1 rfl rfl ?_
  refine a_imul C dX7_melts_44 ?_
  refine a_iload_n C dX7_melts_45 2 rfl rfl ?_
  refine a_iadd C dX7_melts_46 ?_
  refine a_iald C hM.f17 hM.n17 0 hM.tI (by omega) (by omega) (by decide) dX7_melts_47 (fun z47 e47 r47 => ?_)
  try simp [sput_r, mset_n, sput, mset] at e47
  refine a_aload_n C dX7_melts_48 0 rfl rfl ?_
  refine a_getf C hM.f0 hM.n0 (Cn := RX7) (T := TX7) (N := 30) rfl iX7 19 (by decide) k64 (w := .ref (vq v (b + 17))) rfl dX7_melts_49 ?_
  refine a_bipush C dX7_melts_52 ?_
  refine a_iload_n C dX7_melts_54 1 rfl rfl ?_
  refine a_imul C dX7_melts_55 ?_
  refine a_iload_n C dX7_melts_56 2 rfl rfl ?_
  refine a_iadd C dX7_melts_57 ?_
  refine a_iconst C dX7_melts_58 ?_
  refine a_iadd C dX7_melts_59 ?_
  refine a_iald C hM.f17 hM.n17 0 hM.tI (by omega) (by omega) (by decide) dX7_melts_60 (fun z60 e60 r60 => ?_)
  try simp [sput_r, mset_n, sput, mset] at e60
  rw [show 40 * cl + k + 1 = 40 * cl + (k + 1) by omega] at e60
  refine a_iadd C dX7_melts_61 ?_
  refine a_cSI C (k0 := 1) (As := [vI (z47 + z60)]) (rest := [vI ((40 * cl) + k), .ref (vq v (b + 17))]) (c_X7_capped x.2.1 v (sput σ (b + 16) ((40 * cl) + k) (z11 + z24)) (z47 + z60) (by omega)) gX7_melts_X7_capped rfl (by decide +kernel) (by decide) rfl rfl (Nat.le_of_ble_eq_true rfl) dX7_melts_62 (fun z62 u62 r62 p62 => ?_)
  obtain ⟨e62, p62⟩ := p62
  subst u62
  try simp [sput_r, mset_n, sput, mset] at e62
  refine a_iast C hM.f17 hM.n17 0 hM.tI (by omega) (by omega) (by decide) r62 dX7_melts_65 ?_
  refine a_aload_n C dX7_melts_66 0 rfl rfl ?_
  refine a_getf C hM.f0 hM.n0 (Cn := RX7) (T := TX7) (N := 30) rfl iX7 17 (by decide) k58 (w := .ref (vq v (b + 15))) rfl dX7_melts_67 ?_
  refine a_bipush C dX7_melts_70 ?_
  refine a_iload_n C dX7_melts_72 1 rfl rfl ?_
  refine a_imul C dX7_melts_73 ?_
  refine a_iload_n C dX7_melts_74 2 rfl rfl ?_
  refine a_iadd C dX7_melts_75 ?_
  refine a_aload_n C dX7_melts_76 0 rfl rfl ?_
  refine a_getf C hM.f0 hM.n0 (Cn := RX7) (T := TX7) (N := 30) rfl iX7 17 (by decide) k58 (w := .ref (vq v (b + 15))) rfl dX7_melts_77 ?_
  refine a_bipush C dX7_melts_80 ?_
  refine a_iload_n C dX7_melts_82 1 rfl rfl ?_
  refine a_imul C dX7_melts_83 ?_
  refine a_iload_n C dX7_melts_84 2 rfl rfl ?_
  refine a_iadd C dX7_melts_85 ?_
  refine a_iconst C dX7_melts_86 ?_
  refine a_iadd C dX7_melts_87 ?_
  refine a_iald C hM.f15 hM.n15 0 hM.tI (by omega) (by omega) (by decide) dX7_melts_88 (fun z88 e88 r88 => ?_)
  try simp [sput_r, mset_n, sput, mset] at e88
  rw [show 40 * cl + k + 1 = 40 * cl + (k + 1) by omega] at e88
  refine a_iast C hM.f15 hM.n15 0 hM.tI (by omega) (by omega) (by decide) r88 dX7_melts_89 ?_
  refine a_aload_n C dX7_melts_90 0 rfl rfl ?_
  refine a_getf C hM.f0 hM.n0 (Cn := RX7) (T := TX7) (N := 30) rfl iX7 13 (by decide) k45 (w := .ref (vq v (b + 11))) rfl dX7_melts_91 ?_
  refine a_iload_n C dX7_melts_94 1 rfl rfl ?_
  refine a_dup2 C dX7_melts_95 rfl rfl ?_
  refine a_iald C hM.f11 hM.n11 0 hM.tI (by omega) (by omega) (by decide) dX7_melts_96 (fun z96 e96 r96 => ?_)
  try simp [sput_r, mset_n, sput, mset] at e96
  refine a_iconst C dX7_melts_97 ?_
  refine a_isub C dX7_melts_98 ?_
  refine a_iast C hM.f11 hM.n11 0 hM.tI (by omega) (by omega) (by decide) (by omega) dX7_melts_99 ?_
  refine a_iload_n C dX7_melts_100 2 rfl rfl ?_
  refine a_iconst C dX7_melts_101 ?_
  refine a_iadd C dX7_melts_102 ?_
  refine a_istore_n C 3 [(3, vI (k + 1)), (0, .ref (vq v b)), (1, vI cl), (2, vI k)] dX7_melts_103 rfl (by decide) rfl ?_
  have lp : ∀ (n : Nat) (i : Int) (τ : Mem) , ((σ (b + 11) cl) - i).toNat = n → k + 1 ≤ i ∧ i ≤ (σ (b + 11) cl) - 1 → (∀ j : Int, τ (b + 15) (40 * cl + j) = if j = k then (shR (σ (b + 15)) (40 * cl)) (k + 1) else if k + 1 ≤ j ∧ j < i then σ (b + 15) (40 * cl + (j + 1)) else σ (b + 15) (40 * cl + j)) → (∀ j : Int, τ (b + 16) (40 * cl + j) = if j = k then ((shR (σ (b + 16)) (40 * cl)) k + (shR (σ (b + 16)) (40 * cl)) (k + 1)) else if k + 1 ≤ j ∧ j < i then σ (b + 16) (40 * cl + (j + 1)) else σ (b + 16) (40 * cl + j)) → (∀ j : Int, τ (b + 17) (40 * cl + j) = if j = k then (min ((shR (σ (b + 17)) (40 * cl)) k + (shR (σ (b + 17)) (40 * cl)) (k + 1)) 1000000) else if k + 1 ≤ j ∧ j < i then σ (b + 17) (40 * cl + (j + 1)) else σ (b + 17) (40 * cl + j)) → τ (b + 11) = sput σ (b + 11) cl ((σ (b + 11) cl) - 1) (b + 11) → (∀ a : Nat, a ≠ b + 15 → a ≠ b + 16 → a ≠ b + 17 → a ≠ b + 11 → τ a = σ a) → At x v A Q 4 104 [(3, vI i), (0, .ref (vq v b)), (1, vI cl), (2, vI k)] [] τ := by
    intro n
    induction n using Nat.strongRecOn with
    | _ n ih =>
      intro i τ hn i1 i15 i16 i17 i11 iF
      refine a_iload_n C dX7_melts_104 0 rfl rfl ?_
      refine a_aload_n C dX7_melts_105 1 rfl rfl ?_
      refine a_getf C hM.f0 hM.n0 (Cn := RX7) (T := TX7) (N := 30) rfl iX7 13 (by decide) k45 (w := .ref (vq v (b + 11))) rfl dX7_melts_106 ?_
      refine a_iload_n C dX7_melts_109 2 rfl rfl ?_
      refine a_iald C hM.f11 hM.n11 0 hM.tI (by omega) (by omega) (by decide) dX7_melts_110 (fun z110 e110 r110 => ?_)
      rw [i11, sput_s] at e110
      refine a_icmp_ge C 192 (by omega) r110 dX7_melts_111 (by decide) (fun c111 => ?_) (fun c111 => ?_)
      · skip
        have hik : i = (σ (b + 11) cl) - 1 := by omega
        subst hik
        refine hret _ _ _ dX7_melts_192 ⟨⟨?_, ?_, ?_, ?_⟩, ?_⟩
        · intro a q0 q11 q15 q16 q17; exact iF a q15 q16 q17 q11
        · intro j q1 q2 q3 q4; rw [iF b (by omega) (by omega) (by omega) (by omega)]
        · intro j q; rw [i11, sput_j _ _ _ _ _ q]
        · intro j q
          have g15 := i15 (j - 40 * cl)
          have g16 := i16 (j - 40 * cl)
          have g17 := i17 (j - 40 * cl)
          rw [if_neg (by omega), if_neg (by omega), show 40 * cl + (j - 40 * cl) = j by omega] at g15 g16 g17
          exact ⟨g15, g16, g17⟩
        · have hn : τ (b + 11) cl = (σ (b + 11) cl) - 1 := by rw [i11, sput_s]
          unfold moV fuseV
          rw [hn]
          simp only [mkR_in hk.1 (show k < (σ (b + 11) cl) by omega), mkR_in (show 0 ≤ k + 1 by omega) hk.2]
          exact Prod.ext rfl (Prod.ext (sh_del hk.1 hk.2 i15) (Prod.ext (sh_del hk.1 hk.2 i16) (sh_del hk.1 hk.2 i17)))
      · skip
        refine a_aload_n C dX7_melts_114 1 rfl rfl ?_
        refine a_getf C hM.f0 hM.n0 (Cn := RX7) (T := TX7) (N := 30) rfl iX7 17 (by decide) k58 (w := .ref (vq v (b + 15))) rfl dX7_melts_115 ?_
        refine a_bipush C dX7_melts_118 ?_
        refine a_iload_n C dX7_melts_120 2 rfl rfl ?_
        refine a_imul C dX7_melts_121 ?_
        refine a_iload_n C dX7_melts_122 0 rfl rfl ?_
        refine a_iadd C dX7_melts_123 ?_
        refine a_aload_n C dX7_melts_124 1 rfl rfl ?_
        refine a_getf C hM.f0 hM.n0 (Cn := RX7) (T := TX7) (N := 30) rfl iX7 17 (by decide) k58 (w := .ref (vq v (b + 15))) rfl dX7_melts_125 ?_
        refine a_bipush C dX7_melts_128 ?_
        refine a_iload_n C dX7_melts_130 2 rfl rfl ?_
        refine a_imul C dX7_melts_131 ?_
        refine a_iload_n C dX7_melts_132 0 rfl rfl ?_
        refine a_iadd C dX7_melts_133 ?_
        refine a_iconst C dX7_melts_134 ?_
        refine a_iadd C dX7_melts_135 ?_
        refine a_iald C hM.f15 hM.n15 0 hM.tI (by omega) (by omega) (by decide) dX7_melts_136 (fun z136 e136 r136 => ?_)
        rw [show 40 * cl + i + 1 = 40 * cl + (i + 1) by omega] at e136
        refine a_iast C hM.f15 hM.n15 0 hM.tI (by omega) (by omega) (by decide) r136 dX7_melts_137 ?_
        refine a_aload_n C dX7_melts_138 1 rfl rfl ?_
        refine a_getf C hM.f0 hM.n0 (Cn := RX7) (T := TX7) (N := 30) rfl iX7 18 (by decide) k61 (w := .ref (vq v (b + 16))) rfl dX7_melts_139 ?_
        refine a_bipush C dX7_melts_142 ?_
        refine a_iload_n C dX7_melts_144 2 rfl rfl ?_
        refine a_imul C dX7_melts_145 ?_
        refine a_iload_n C dX7_melts_146 0 rfl rfl ?_
        refine a_iadd C dX7_melts_147 ?_
        refine a_aload_n C dX7_melts_148 1 rfl rfl ?_
        refine a_getf C hM.f0 hM.n0 (Cn := RX7) (T := TX7) (N := 30) rfl iX7 18 (by decide) k61 (w := .ref (vq v (b + 16))) rfl dX7_melts_149 ?_
        refine a_bipush C dX7_melts_152 ?_
        refine a_iload_n C dX7_melts_154 2 rfl rfl ?_
        refine a_imul C dX7_melts_155 ?_
        refine a_iload_n C dX7_melts_156 0 rfl rfl ?_
        refine a_iadd C dX7_melts_157 ?_
        refine a_iconst C dX7_melts_158 ?_
        refine a_iadd C dX7_melts_159 ?_
        refine a_iald C hM.f16 hM.n16 0 hM.tI (by omega) (by omega) (by decide) dX7_melts_160 (fun z160 e160 r160 => ?_)
        try simp [sput_r, mset_n, sput, mset] at e160
        rw [show 40 * cl + i + 1 = 40 * cl + (i + 1) by omega] at e160
        refine a_iast C hM.f16 hM.n16 0 hM.tI (by omega) (by omega) (by decide) r160 dX7_melts_161 ?_
        refine a_aload_n C dX7_melts_162 1 rfl rfl ?_
        refine a_getf C hM.f0 hM.n0 (Cn := RX7) (T := TX7) (N := 30) rfl iX7 19 (by decide) k64 (w := .ref (vq v (b + 17))) rfl dX7_melts_163 ?_
        refine a_bipush C dX7_melts_166 ?_
        refine a_iload_n C dX7_melts_168 2 rfl rfl ?_
        refine a_imul C dX7_melts_169 ?_
        refine a_iload_n C dX7_melts_170 0 rfl rfl ?_
        refine a_iadd C dX7_melts_171 ?_
        refine a_aload_n C dX7_melts_172 1 rfl rfl ?_
        refine a_getf C hM.f0 hM.n0 (Cn := RX7) (T := TX7) (N := 30) rfl iX7 19 (by decide) k64 (w := .ref (vq v (b + 17))) rfl dX7_melts_173 ?_
        refine a_bipush C dX7_melts_176 ?_
        refine a_iload_n C dX7_melts_178 2 rfl rfl ?_
        refine a_imul C dX7_melts_179 ?_
        refine a_iload_n C dX7_melts_180 0 rfl rfl ?_
        refine a_iadd C dX7_melts_181 ?_
        refine a_iconst C dX7_melts_182 ?_
        refine a_iadd C dX7_melts_183 ?_
        refine a_iald C hM.f17 hM.n17 0 hM.tI (by omega) (by omega) (by decide) dX7_melts_184 (fun z184 e184 r184 => ?_)
        try simp [sput_r, mset_n, sput, mset] at e184
        rw [show 40 * cl + i + 1 = 40 * cl + (i + 1) by omega] at e184
        refine a_iast C hM.f17 hM.n17 0 hM.tI (by omega) (by omega) (by decide) r184 dX7_melts_185 ?_
        refine a_iinc C (i + 1) [(3, vI (i + 1)), (0, .ref (vq v b)), (1, vI cl), (2, vI k)] dX7_melts_186 0 rfl (by omega) (by decide) rfl ?_
        refine a_goto C 104 dX7_melts_189 (by decide) ?_
        refine ih _ (by omega) (i + 1) _ rfl (by omega) ?_ ?_ ?_ ?_ (fun a q1 q2 q3 q4 => by rw [sput_r q3, sput_r q2, sput_r q1]; exact iF a q1 q2 q3 q4)
        · intro j
          have h9 := i15 j
          have h8 := i15 (i + 1)
          rw [if_neg (by omega), if_neg (by omega)] at h8
          rw [sput_r (show b + 15 ≠ b + 17 by omega), sput_r (show b + 15 ≠ b + 16 by omega)]
          by_cases hj : j = i
          · subst hj; rw [sput_s, if_neg (by omega), if_pos (by omega), e136]; exact h8
          · rw [sput_j _ _ _ _ _ (by omega), h9]
            by_cases qk : j = k
            · rw [if_pos qk, if_pos qk]
            · rw [if_neg qk, if_neg qk]
              by_cases q : k + 1 ≤ j ∧ j < i
              · rw [if_pos q, if_pos (by omega)]
              · rw [if_neg q, if_neg (by omega)]
        · intro j
          have h9 := i16 j
          have h8 := i16 (i + 1)
          rw [if_neg (by omega), if_neg (by omega)] at h8
          rw [sput_r (show b + 16 ≠ b + 17 by omega)]
          by_cases hj : j = i
          · subst hj; rw [sput_s, if_neg (by omega), if_pos (by omega), e160]; exact h8
          · rw [sput_j _ _ _ _ _ (by omega), sput_r (show b + 16 ≠ b + 15 by omega), h9]
            by_cases qk : j = k
            · rw [if_pos qk, if_pos qk]
            · rw [if_neg qk, if_neg qk]
              by_cases q : k + 1 ≤ j ∧ j < i
              · rw [if_pos q, if_pos (by omega)]
              · rw [if_neg q, if_neg (by omega)]
        · intro j
          have h9 := i17 j
          have h8 := i17 (i + 1)
          rw [if_neg (by omega), if_neg (by omega)] at h8
          skip
          by_cases hj : j = i
          · subst hj; rw [sput_s, if_neg (by omega), if_pos (by omega), e184]; exact h8
          · rw [sput_j _ _ _ _ _ (by omega), sput_r (show b + 17 ≠ b + 16 by omega), sput_r (show b + 17 ≠ b + 15 by omega), h9]
            by_cases qk : j = k
            · rw [if_pos qk, if_pos qk]
            · rw [if_neg qk, if_neg qk]
              by_cases q : k + 1 ≤ j ∧ j < i
              · rw [if_pos q, if_pos (by omega)]
              · rw [if_neg q, if_neg (by omega)]
        · rw [sput_r (by omega), sput_r (by omega), sput_r (by omega)]; exact i11
  refine lp _ (k + 1) _ rfl (by omega) (fun j => ?_) (fun j => ?_) (fun j => ?_) ?_ (fun a q1 q2 q3 q4 => by rw [sput_r q4, sput_r q1, sput_r q3, sput_r q2])
  · rw [sput_r (show b + 15 ≠ b + 11 by omega)]
    by_cases hj : j = k
    · rw [if_pos hj, hj, sput_s]; rw [e88]; rfl
    · rw [if_neg hj, if_neg (by omega), sput_j _ _ _ _ _ (by omega), sput_r (by omega), sput_r (by omega)]
  · rw [sput_r (show b + 16 ≠ b + 11 by omega), sput_r (show b + 16 ≠ b + 15 by omega), sput_r (show b + 16 ≠ b + 17 by omega)]
    by_cases hj : j = k
    · rw [if_pos hj, hj, sput_s]; rw [e11, e24]; rfl
    · rw [if_neg hj, if_neg (by omega), sput_j _ _ _ _ _ (by omega)]
  · rw [sput_r (show b + 17 ≠ b + 11 by omega), sput_r (show b + 17 ≠ b + 15 by omega)]
    by_cases hj : j = k
    · rw [if_pos hj, hj, sput_s]; rw [e62, e47, e60]; rfl
    · rw [if_neg hj, if_neg (by omega), sput_j _ _ _ _ _ (by omega), sput_r (by omega)]
  · rw [e96]; funext j; by_cases hj : j = cl
    · subst hj; rw [sput_s, sput_s]
    · rw [sput_j _ _ _ _ _ hj, sput_j _ _ _ _ _ hj, sput_r (by omega), sput_r (by omega), sput_r (by omega)]
