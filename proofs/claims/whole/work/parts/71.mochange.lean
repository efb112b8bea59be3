/-! ===== the model's ROWS ===== -/
/-- so many rows of a value more, or less -/
def mcM (σ : Mem) (b : Nat) (cl val m : Int) : Mem :=
  if val = -1 then sput σ (b + 5) cl (σ (b + 5) cl + m)
  else if σ (b + 11) cl = 0 then sput (sput σ (b + 4) (40 * cl + val) (σ (b + 4) (40 * cl + val) + m)) (b + 6) cl (σ (b + 6) cl + m)
  else if σ (b + 14) (40 * cl + val) = 0 then sput (sput (sput (sput σ (b + 4) (40 * cl + val) (σ (b + 4) (40 * cl + val) + m)) (b + 6) cl (σ (b + 6) cl + m)) (b + 12) cl (σ (b + 12) cl + 1)) (b + 16) (40 * cl + spOf (shR (σ (b + 15)) (40 * cl)) (σ (b + 11) cl) val) (σ (b + 16) (40 * cl + spOf (shR (σ (b + 15)) (40 * cl)) (σ (b + 11) cl) val) + m)
  else sput (sput (sput (sput σ (b + 4) (40 * cl + val) (σ (b + 4) (40 * cl + val) + m)) (b + 6) cl (σ (b + 6) cl + m)) (b + 12) cl (σ (b + 12) cl + 1)) (b + 13) (40 * cl + val) (σ (b + 13) (40 * cl + val) + m)
/-- a sample takes one row more -/
def mdOne (σ : Mem) (b : Nat) (cl val : Int) : Mem :=
  if σ (b + 7) cl = 0 then σ
  else if σ (b + 8) cl + 1 ≤ σ (b + 7) cl then sput (sput σ (b + 8) cl (σ (b + 8) cl + 1)) (b + 9) (16 * cl + (σ (b + 8) cl + 1) - 1) val
  else if (1103515245 * σ (b + 10) (100000 + cl) + 12345) % 2147483648 / 65536 % (σ (b + 8) cl + 1) < σ (b + 7) cl then sput (sput (sput σ (b + 8) cl (σ (b + 8) cl + 1)) (b + 10) (100000 + cl) ((1103515245 * σ (b + 10) (100000 + cl) + 12345) % 2147483648)) (b + 9) (16 * cl + (1103515245 * σ (b + 10) (100000 + cl) + 12345) % 2147483648 / 65536 % (σ (b + 8) cl + 1)) val
  else sput (sput σ (b + 8) cl (σ (b + 8) cl + 1)) (b + 10) (100000 + cl) ((1103515245 * σ (b + 10) (100000 + cl) + 12345) % 2147483648)
/-- a column's numbers stay below a bound -/
def mrB (σ : Mem) (b : Nat) (cl M : Int) : Prop := (∀ j : Int, 0 ≤ j → j < 40 → (-M ≤ σ (b + 4) (40 * cl + j) ∧ σ (b + 4) (40 * cl + j) ≤ M) ∧ -M ≤ σ (b + 13) (40 * cl + j) ∧ σ (b + 13) (40 * cl + j) ≤ M) ∧ (∀ j : Int, 0 ≤ j → j < (σ (b + 11) cl) → -M ≤ σ (b + 16) (40 * cl + j) ∧ σ (b + 16) (40 * cl + j) ≤ M) ∧ (-M ≤ σ (b + 5) cl ∧ σ (b + 5) cl ≤ M) ∧ (-M ≤ σ (b + 6) cl ∧ σ (b + 6) cl ≤ M) ∧ (-M ≤ σ (b + 12) cl ∧ σ (b + 12) cl ≤ M) ∧ (0 ≤ (σ (b + 11) cl) ∧ (σ (b + 11) cl) ≤ 12) ∧ ((σ (b + 11) cl) ≠ 0 → svE (moE σ b cl))
def msB (σ : Mem) (b : Nat) (cl M : Int) : Prop := (0 ≤ σ (b + 7) cl ∧ σ (b + 7) cl ≤ 16) ∧ (0 ≤ σ (b + 8) cl ∧ σ (b + 8) cl ≤ M) ∧ 0 ≤ σ (b + 10) (100000 + cl) ∧ σ (b + 10) (100000 + cl) < 2147483648
theorem mcM_fr {σ : Mem} {b : Nat} {cl val m : Int} (a : Nat) (h4 : a ≠ b + 4) (h5 : a ≠ b + 5) (h6 : a ≠ b + 6) (h12 : a ≠ b + 12) (h13 : a ≠ b + 13) (h16 : a ≠ b + 16) : mcM σ b cl val m a = σ a := by
  unfold mcM
  split
  · rw [sput_r h5]
  · split
    · rw [sput_r h6, sput_r h4]
    · split
      · rw [sput_r h16, sput_r h12, sput_r h6, sput_r h4]
      · rw [sput_r h13, sput_r h12, sput_r h6, sput_r h4]
theorem mdOne_fr {σ : Mem} {b : Nat} {cl val : Int} (a : Nat) (h8 : a ≠ b + 8) (h9 : a ≠ b + 9) (h10 : a ≠ b + 10) : mdOne σ b cl val a = σ a := by
  unfold mdOne
  split
  · rfl
  · split
    · rw [sput_r h9, sput_r h8]
    · split
      · rw [sput_r h9, sput_r h10, sput_r h8]
      · rw [sput_r h10, sput_r h8]
theorem sput_le {σ : Mem} {k a : Nat} {i j m M : Int} (h1 : -M ≤ σ a j) (h2 : σ a j ≤ M) (hm : m = 1 ∨ m = -1) : -(M + 1) ≤ sput σ k i (σ k i + m) a j ∧ sput σ k i (σ k i + m) a j ≤ M + 1 := by
  by_cases q : a = k ∧ j = i
  · rw [q.1, q.2] at h1 h2 ⊢
    rw [sput_s]; omega
  · simp only [sput, if_neg q]; omega
theorem mrB_mc {σ : Mem} {b : Nat} {cl val m M : Int} (hv : -1 ≤ val ∧ val ≤ 39) (hm : m = 1 ∨ m = -1) (h : mrB σ b cl M) : mrB (mcM σ b cl val m) b cl (M + 1) := by
  obtain ⟨k1, k2, k3, k4, k5, k6, k7⟩ := h
  have r11 : mcM σ b cl val m (b + 11) = σ (b + 11) := mcM_fr _ (by omega) (by omega) (by omega) (by omega) (by omega) (by omega)
  have r15 : mcM σ b cl val m (b + 15) = σ (b + 15) := mcM_fr _ (by omega) (by omega) (by omega) (by omega) (by omega) (by omega)
  have rE : ((mcM σ b cl val m) (b + 11) cl ≠ 0 → svE (moE (mcM σ b cl val m) b cl)) := by
    rw [r11]
    intro q
    obtain ⟨g1, g2, g3, g4, g5⟩ := k7 q
    unfold moE
    rw [r11, r15]
    exact ⟨g1, g2, g3, g4, g5⟩
  refine ⟨fun j j0 j1 => ?_, fun j j0 j1 => ?_, ?_, ?_, ?_, by rw [r11]; exact k6, rE⟩
  · have g := k1 j j0 j1
    unfold mcM
    split
    · rw [sput_r (by omega), sput_r (by omega)]; omega
    · have s4 := sput_le (k := b + 4) (i := 40 * cl + val) (m := m) g.1.1 g.1.2 hm
      split
      · rw [sput_r (show b + 4 ≠ b + 6 by omega), sput_r (show b + 13 ≠ b + 6 by omega), sput_r (show b + 13 ≠ b + 4 by omega)]; omega
      · split
        · rw [sput_r (show b + 4 ≠ b + 16 by omega), sput_r (show b + 4 ≠ b + 12 by omega), sput_r (show b + 4 ≠ b + 6 by omega), sput_r (show b + 13 ≠ b + 16 by omega), sput_r (show b + 13 ≠ b + 12 by omega), sput_r (show b + 13 ≠ b + 6 by omega), sput_r (show b + 13 ≠ b + 4 by omega)]; omega
        · rw [sput_r (show b + 4 ≠ b + 13 by omega), sput_r (show b + 4 ≠ b + 12 by omega), sput_r (show b + 4 ≠ b + 6 by omega)]
          refine ⟨s4, ?_⟩
          by_cases q : j = val
          · subst q; rw [sput_s]; omega
          · rw [sput_j _ _ _ _ _ (by omega), sput_r (by omega), sput_r (by omega), sput_r (by omega)]; omega
  · rw [r11] at j1
    have g := k2 j j0 j1
    unfold mcM
    split
    · rw [sput_r (by omega)]; omega
    · split
      · rw [sput_r (by omega), sput_r (by omega)]; omega
      · split
        · by_cases q : 40 * cl + j = 40 * cl + spOf (shR (σ (b + 15)) (40 * cl)) (σ (b + 11) cl) val
          · rw [← q, sput_s]; omega
          · rw [sput_j _ _ _ _ _ q, sput_r (by omega), sput_r (by omega), sput_r (by omega)]; omega
        · rw [sput_r (by omega), sput_r (by omega), sput_r (by omega), sput_r (by omega)]; omega
  · unfold mcM
    split
    · rw [sput_s]; omega
    · split
      · rw [sput_r (by omega), sput_r (by omega)]; omega
      · split <;> (rw [sput_r (by omega), sput_r (by omega), sput_r (by omega), sput_r (by omega)]; omega)
  · unfold mcM
    split
    · rw [sput_r (by omega)]; omega
    · split
      · rw [sput_s]; omega
      · split <;> (rw [sput_r (by omega), sput_r (by omega), sput_s]; omega)
  · unfold mcM
    split
    · rw [sput_r (by omega)]; omega
    · split
      · rw [sput_r (by omega), sput_r (by omega)]; omega
      · split <;> (rw [sput_r (by omega), sput_s]; omega)
theorem mrB_row {σ τ : Mem} {b : Nat} {cl M : Int} (h : ∀ a : Nat, a ≠ b + 8 → a ≠ b + 9 → a ≠ b + 10 → τ a = σ a) (k : mrB σ b cl M) : mrB τ b cl M := by
  unfold mrB moE at *
  rw [h (b + 4) (by omega) (by omega) (by omega), h (b + 13) (by omega) (by omega) (by omega), h (b + 16) (by omega) (by omega) (by omega), h (b + 5) (by omega) (by omega) (by omega), h (b + 6) (by omega) (by omega) (by omega), h (b + 12) (by omega) (by omega) (by omega), h (b + 11) (by omega) (by omega) (by omega), h (b + 15) (by omega) (by omega) (by omega), h (b + 17) (by omega) (by omega) (by omega)]
  exact k
theorem msB_row {σ τ : Mem} {b : Nat} {cl M : Int} (h7 : τ (b + 7) = σ (b + 7)) (h8 : τ (b + 8) = σ (b + 8)) (h10 : τ (b + 10) = σ (b + 10)) (k : msB σ b cl M) : msB τ b cl M := by unfold msB at *; rw [h7, h8, h10]; exact k
theorem msB_md {σ : Mem} {b : Nat} {cl val M : Int} (h : msB σ b cl M) : msB (mdOne σ b cl val) b cl (M + 1) := by
  obtain ⟨k1, k2, k3⟩ := h
  have r7 : mdOne σ b cl val (b + 7) = σ (b + 7) := mdOne_fr _ (by omega) (by omega) (by omega)
  refine ⟨by rw [r7]; exact k1, ?_, ?_⟩
  · unfold mdOne
    split
    · omega
    · split
      · rw [sput_r (by omega), sput_s]; omega
      · split
        · rw [sput_r (by omega), sput_r (by omega), sput_s]; omega
        · rw [sput_r (by omega), sput_s]; omega
  · unfold mdOne
    split
    · omega
    · split
      · rw [sput_r (by omega), sput_r (by omega)]; omega
      · split
        · rw [sput_r (by omega), sput_s]; omega
        · rw [sput_s]; omega
/-- one row put -/
def mpS (b : Nat) (cl val : Int) (τ : Mem) : Mem := mdOne (mcM τ b cl val 1) b cl val
theorem mpS_B {τ : Mem} {b : Nat} {cl val M N : Int} (hv : -1 ≤ val ∧ val ≤ 39) (h1 : mrB τ b cl M) (h2 : msB τ b cl N) : mrB (mpS b cl val τ) b cl (M + 1) ∧ msB (mpS b cl val τ) b cl (N + 1) :=
  ⟨mrB_row (fun a q8 q9 q10 => mdOne_fr a q8 q9 q10) (mrB_mc hv (Or.inl rfl) h1), msB_md (msB_row (mcM_fr _ (by omega) (by omega) (by omega) (by omega) (by omega) (by omega)) (mcM_fr _ (by omega) (by omega) (by omega) (by omega) (by omega) (by omega)) (mcM_fr _ (by omega) (by omega) (by omega) (by omega) (by omega) (by omega)) h2)⟩
theorem mpS_fr {τ : Mem} {b : Nat} {cl val : Int} (a : Nat) (h : a < b + 4 ∨ b + 16 < a) : mpS b cl val τ a = τ a := by
  unfold mpS
  rw [mdOne_fr a (by omega) (by omega) (by omega), mcM_fr a (by omega) (by omega) (by omega) (by omega) (by omega) (by omega)]
set_option maxHeartbeats 4000000 in
set_option maxRecDepth 100000 in
theorem c_X7_changes (l : Launch) (v : VC) (σ : Mem) (b : Nat) (hM : shMo v b) (cl val m M : Int) (hc : 0 ≤ cl ∧ cl < 3) (hv : -1 ≤ val ∧ val ≤ 39) (hm : m = 1 ∨ m = -1) (hMM : M ≤ 1000000000) (hB : mrB σ b cl M) : CtV l yX7_changes wsX7_changes 1 23 v [.ref (vq v b), vI cl, vI val, vI m] σ (fun u => u = mcM σ b cl val m) := by
  refine mkV (cc := cX7_changes) (n := 4) (by decide +kernel) rfl (Nat.le_of_ble_eq_true rfl) (fun x A Q hx C hret => ?_)
  subst hx
  show At x v A Q _ 0 [(0, .ref (vq v b)), (1, vI cl), (2, vI val), (3, vI m)] [] σ
  have iX7 : ∀ w ∈ wsX70, w ∈ wsX7_changes := by decide +kernel
  have k24 : Cond.fieldLink RX7 24 (TX7 6).1 (TX7 6).2.1 (TX7 6).2.2.1 ∈ wsX7_changes := by decide +kernel
  have k30 : Cond.fieldLink RX7 30 (TX7 8).1 (TX7 8).2.1 (TX7 8).2.2.1 ∈ wsX7_changes := by decide +kernel
  have k45 : Cond.fieldLink RX7 45 (TX7 13).1 (TX7 13).2.1 (TX7 13).2.2.1 ∈ wsX7_changes := by decide +kernel
  have k48 : Cond.fieldLink RX7 48 (TX7 14).1 (TX7 14).2.1 (TX7 14).2.2.1 ∈ wsX7_changes := by decide +kernel
  have k54 : Cond.fieldLink RX7 54 (TX7 16).1 (TX7 16).2.1 (TX7 16).2.2.1 ∈ wsX7_changes := by decide +kernel
  have k61 : Cond.fieldLink RX7 61 (TX7 18).1 (TX7 18).2.1 (TX7 18).2.2.1 ∈ wsX7_changes := by decide +kernel
  have k51 : Cond.fieldLink RX7 51 (TX7 15).1 (TX7 15).2.1 (TX7 15).2.2.1 ∈ wsX7_changes := by decide +kernel
  have k27 : Cond.fieldLink RX7 27 (TX7 7).1 (TX7 7).2.1 (TX7 7).2.2.1 ∈ wsX7_changes := by decide +kernel
  obtain ⟨k1, k2, k3, k4, k5, k6, k7⟩ := hB
  refine a_iload_n C dX7_changes_0 2 rfl rfl ?_
  refine a_iconst C dX7_changes_1 ?_
  refine a_icmp_ne C 16 (by omega) (by decide) dX7_changes_2 (by decide) (fun c2 => ?_) (fun c2 => ?_)
  · skip
    have b1 := k1 val (by omega) (by omega)
    refine a_aload_n C dX7_changes_16 0 rfl rfl ?_
    refine a_getf C hM.f0 hM.n0 (Cn := RX7) (T := TX7) (N := 30) rfl iX7 6 (by decide) k24 (w := .ref (vq v (b + 4))) rfl dX7_changes_17 ?_
    refine a_bipush C dX7_changes_20 ?_
    refine a_iload_n C dX7_changes_22 1 rfl rfl ?_
    refine a_imul C dX7_changes_23 ?_
    refine a_iload_n C dX7_changes_24 2 rfl rfl ?_
    refine a_iadd C dX7_changes_25 ?_
    refine a_dup2 C dX7_changes_26 rfl rfl ?_
    refine a_iald C hM.f4 hM.n4 0 hM.tI (by omega) (by omega) (by decide) dX7_changes_27 (fun z27 e27 r27 => ?_)
    refine a_iload_n C dX7_changes_28 3 rfl rfl ?_
    refine a_iadd C dX7_changes_29 ?_
    refine a_iast C hM.f4 hM.n4 0 hM.tI (by omega) (by omega) (by decide) (by omega) dX7_changes_30 ?_
    refine a_aload_n C dX7_changes_31 0 rfl rfl ?_
    refine a_getf C hM.f0 hM.n0 (Cn := RX7) (T := TX7) (N := 30) rfl iX7 8 (by decide) k30 (w := .ref (vq v (b + 6))) rfl dX7_changes_32 ?_
    refine a_iload_n C dX7_changes_35 1 rfl rfl ?_
    refine a_dup2 C dX7_changes_36 rfl rfl ?_
    refine a_iald C hM.f6 hM.n6 0 hM.tI (by omega) (by omega) (by decide) dX7_changes_37 (fun z37 e37 r37 => ?_)
    try simp [sput_r, mset_n, sput, mset] at e37
    refine a_iload_n C dX7_changes_38 3 rfl rfl ?_
    refine a_iadd C dX7_changes_39 ?_
    refine a_iast C hM.f6 hM.n6 0 hM.tI (by omega) (by omega) (by decide) (by omega) dX7_changes_40 ?_
    refine a_aload_n C dX7_changes_41 0 rfl rfl ?_
    refine a_getf C hM.f0 hM.n0 (Cn := RX7) (T := TX7) (N := 30) rfl iX7 13 (by decide) k45 (w := .ref (vq v (b + 11))) rfl dX7_changes_42 ?_
    refine a_iload_n C dX7_changes_45 1 rfl rfl ?_
    refine a_iald C hM.f11 hM.n11 0 hM.tI (by omega) (by omega) (by decide) dX7_changes_46 (fun z46 e46 r46 => ?_)
    try simp [sput_r, mset_n, sput, mset] at e46
    refine a_if_ne C 51 r46 dX7_changes_47 (by decide) (fun c47 => ?_) (fun c47 => ?_)
    · skip
      have kE := k7 (by omega)
      refine a_aload_n C dX7_changes_51 0 rfl rfl ?_
      refine a_getf C hM.f0 hM.n0 (Cn := RX7) (T := TX7) (N := 30) rfl iX7 14 (by decide) k48 (w := .ref (vq v (b + 12))) rfl dX7_changes_52 ?_
      refine a_iload_n C dX7_changes_55 1 rfl rfl ?_
      refine a_dup2 C dX7_changes_56 rfl rfl ?_
      refine a_iald C hM.f12 hM.n12 0 hM.tI (by omega) (by omega) (by decide) dX7_changes_57 (fun z57 e57 r57 => ?_)
      try simp [sput_r, mset_n, sput, mset] at e57
      refine a_iconst C dX7_changes_58 ?_
      refine a_iadd C dX7_changes_59 ?_
      refine a_iast C hM.f12 hM.n12 0 hM.tI (by omega) (by omega) (by decide) (by omega) dX7_changes_60 ?_
      refine a_aload_n C dX7_changes_61 0 rfl rfl ?_
      refine a_getf C hM.f0 hM.n0 (Cn := RX7) (T := TX7) (N := 30) rfl iX7 16 (by decide) k54 (w := .ref (vq v (b + 14))) rfl dX7_changes_62 ?_
      refine a_bipush C dX7_changes_65 ?_
      refine a_iload_n C dX7_changes_67 1 rfl rfl ?_
      refine a_imul C dX7_changes_68 ?_
      refine a_iload_n C dX7_changes_69 2 rfl rfl ?_
      refine a_iadd C dX7_changes_70 ?_
      refine a_zald C hM.f14 hM.n14 2 hM.tB (by omega) (by omega) (by decide) dX7_changes_71 (fun z71 e71 r71 => ?_)
      try simp [sput_r, mset_n, sput, mset] at e71
      refine a_if_eq C 93 r71 dX7_changes_72 (by decide) (fun c72 => ?_) (fun c72 => ?_)
      · skip
        refine a_aload_n C dX7_changes_93 0 rfl rfl ?_
        refine a_getf C hM.f0 hM.n0 (Cn := RX7) (T := TX7) (N := 30) rfl iX7 18 (by decide) k61 (w := .ref (vq v (b + 16))) rfl dX7_changes_94 ?_
        refine a_bipush C dX7_changes_97 ?_
        refine a_iload_n C dX7_changes_99 1 rfl rfl ?_
        refine a_imul C dX7_changes_100 ?_
        refine a_aload_n C dX7_changes_101 0 rfl rfl ?_
        refine a_iload_n C dX7_changes_102 1 rfl rfl ?_
        refine a_iload_n C dX7_changes_103 2 rfl rfl ?_
        refine a_cVI C (k0 := 2) (As := [vI cl, vI val]) (rest := [vI (40 * cl), .ref (vq v (b + 16))]) (c_X7_spanOf x.2.1 v (sput (sput (sput σ (b + 4) ((40 * cl) + val) (z27 + m)) (b + 6) cl (z37 + m)) (b + 12) cl (z57 + 1)) b hM cl val (by omega) (by omega) (by simp only [moE, sput_r (show b + 11 ≠ b + 4 by omega), sput_r (show b + 11 ≠ b + 6 by omega), sput_r (show b + 11 ≠ b + 12 by omega), sput_r (show b + 15 ≠ b + 4 by omega), sput_r (show b + 15 ≠ b + 6 by omega), sput_r (show b + 15 ≠ b + 12 by omega)]; exact kE)) gX7_changes_X7_spanOf rfl (by decide +kernel) (by decide) hM.f0 rfl hM.n0 rfl rfl (Nat.le_of_ble_eq_true rfl) dX7_changes_104 (fun z104 u104 r104 p104 => ?_)
        obtain ⟨e104, p104⟩ := p104
        subst u104
        try simp [sput_r, mset_n, sput, mset] at e104
        have b104 := (spOf_in (S := moE σ b cl) kE (v := val) (by omega))
        rw [show spOf (moE σ b cl).2.1 (moE σ b cl).1 val = z104 from e104.symm] at b104
        have b105 : z104 < σ (b + 11) cl := b104.2.1
        have b106 := k2 z104 (by omega) b105
        refine a_iadd C dX7_changes_107 ?_
        refine a_dup2 C dX7_changes_108 rfl rfl ?_
        refine a_iald C hM.f16 hM.n16 0 hM.tI (by omega) (by omega) (by decide) dX7_changes_109 (fun z109 e109 r109 => ?_)
        try simp [sput_r, mset_n, sput, mset] at e109
        refine a_iload_n C dX7_changes_110 3 rfl rfl ?_
        refine a_iadd C dX7_changes_111 ?_
        refine a_iast C hM.f16 hM.n16 0 hM.tI (by omega) (by omega) (by decide) (by omega) dX7_changes_112 ?_
        refine hret _ _ _ dX7_changes_113 ?_
        unfold mcM
        (repeat (first | rw [if_pos (by omega)] | rw [if_neg (by omega)]))
        (first | (rw [e11]; done) | (rw [e27, e37]; done) | (rw [e27, e37, e57, e86]; done) | (rw [e27, e37, e57, e109, e104]; done) | (simp only [e11, e27, e37]))
      · skip
        refine a_aload_n C dX7_changes_75 0 rfl rfl ?_
        refine a_getf C hM.f0 hM.n0 (Cn := RX7) (T := TX7) (N := 30) rfl iX7 15 (by decide) k51 (w := .ref (vq v (b + 13))) rfl dX7_changes_76 ?_
        refine a_bipush C dX7_changes_79 ?_
        refine a_iload_n C dX7_changes_81 1 rfl rfl ?_
        refine a_imul C dX7_changes_82 ?_
        refine a_iload_n C dX7_changes_83 2 rfl rfl ?_
        refine a_iadd C dX7_changes_84 ?_
        refine a_dup2 C dX7_changes_85 rfl rfl ?_
        refine a_iald C hM.f13 hM.n13 0 hM.tI (by omega) (by omega) (by decide) dX7_changes_86 (fun z86 e86 r86 => ?_)
        try simp [sput_r, mset_n, sput, mset] at e86
        refine a_iload_n C dX7_changes_87 3 rfl rfl ?_
        refine a_iadd C dX7_changes_88 ?_
        refine a_iast C hM.f13 hM.n13 0 hM.tI (by omega) (by omega) (by decide) (by omega) dX7_changes_89 ?_
        refine a_goto C 113 dX7_changes_90 (by decide) ?_
        refine hret _ _ _ dX7_changes_113 ?_
        unfold mcM
        (repeat (first | rw [if_pos (by omega)] | rw [if_neg (by omega)]))
        (first | (rw [e11]; done) | (rw [e27, e37]; done) | (rw [e27, e37, e57, e86]; done) | (rw [e27, e37, e57, e109, e104]; done) | (simp only [e11, e27, e37]))
    · skip
      refine hret _ _ _ dX7_changes_50 ?_
      unfold mcM
      (repeat (first | rw [if_pos (by omega)] | rw [if_neg (by omega)]))
      (first | (rw [e11]; done) | (rw [e27, e37]; done) | (rw [e27, e37, e57, e86]; done) | (rw [e27, e37, e57, e109, e104]; done) | (simp only [e11, e27, e37]))
  · skip
    refine a_aload_n C dX7_changes_5 0 rfl rfl ?_
    refine a_getf C hM.f0 hM.n0 (Cn := RX7) (T := TX7) (N := 30) rfl iX7 7 (by decide) k27 (w := .ref (vq v (b + 5))) rfl dX7_changes_6 ?_
    refine a_iload_n C dX7_changes_9 1 rfl rfl ?_
    refine a_dup2 C dX7_changes_10 rfl rfl ?_
    refine a_iald C hM.f5 hM.n5 0 hM.tI (by omega) (by omega) (by decide) dX7_changes_11 (fun z11 e11 r11 => ?_)
    refine a_iload_n C dX7_changes_12 3 rfl rfl ?_
    refine a_iadd C dX7_changes_13 ?_
    refine a_iast C hM.f5 hM.n5 0 hM.tI (by omega) (by omega) (by decide) (by omega) dX7_changes_14 ?_
    refine hret _ _ _ dX7_changes_15 ?_
    unfold mcM
    (repeat (first | rw [if_pos (by omega)] | rw [if_neg (by omega)]))
    (first | (rw [e11]; done) | (rw [e27, e37]; done) | (rw [e27, e37, e57, e86]; done) | (rw [e27, e37, e57, e109, e104]; done) | (simp only [e11, e27, e37]))
set_option maxHeartbeats 4000000 in
set_option maxRecDepth 100000 in
theorem c_X7_draw (l : Launch) (v : VC) (σ : Mem) (b : Nat) (hM : shMo v b) (cl val M : Int) (hc : 0 ≤ cl ∧ cl < 3) (hv : -1 ≤ val ∧ val ≤ 39) (hMM : M ≤ 1000000000) (hB : msB σ b cl M) : CtV l yX7_draw wsX7_draw 0 0 v [.ref (vq v b), vI cl, vI val] σ (fun u => u = mdOne σ b cl val) := by
  refine mkV (cc := cX7_draw) (n := 5) (by decide +kernel) rfl (Nat.le_of_ble_eq_true rfl) (fun x A Q hx C hret => ?_)
  subst hx
  show At x v A Q _ 0 [(0, .ref (vq v b)), (1, vI cl), (2, vI val)] [] σ
  have iX7 : ∀ w ∈ wsX70, w ∈ wsX7_draw := by decide +kernel
  have k33 : Cond.fieldLink RX7 33 (TX7 9).1 (TX7 9).2.1 (TX7 9).2.2.1 ∈ wsX7_draw := by decide +kernel
  have k36 : Cond.fieldLink RX7 36 (TX7 10).1 (TX7 10).2.1 (TX7 10).2.2.1 ∈ wsX7_draw := by decide +kernel
  have k42 : Cond.fieldLink RX7 42 (TX7 12).1 (TX7 12).2.1 (TX7 12).2.2.1 ∈ wsX7_draw := by decide +kernel
  have k39 : Cond.fieldLink RX7 39 (TX7 11).1 (TX7 11).2.1 (TX7 11).2.2.1 ∈ wsX7_draw := by decide +kernel
  obtain ⟨k1, k2, k3⟩ := hB
  refine a_aload_n C dX7_draw_0 0 rfl rfl ?_
  refine a_getf C hM.f0 hM.n0 (Cn := RX7) (T := TX7) (N := 30) rfl iX7 9 (by decide) k33 (w := .ref (vq v (b + 7))) rfl dX7_draw_1 ?_
  refine a_iload_n C dX7_draw_4 1 rfl rfl ?_
  refine a_iald C hM.f7 hM.n7 0 hM.tI (by omega) (by omega) (by decide) dX7_draw_5 (fun z5 e5 r5 => ?_)
  refine a_if_ne C 10 r5 dX7_draw_6 (by decide) (fun c6 => ?_) (fun c6 => ?_)
  · skip
    refine a_aload_n C dX7_draw_10 0 rfl rfl ?_
    refine a_getf C hM.f0 hM.n0 (Cn := RX7) (T := TX7) (N := 30) rfl iX7 10 (by decide) k36 (w := .ref (vq v (b + 8))) rfl dX7_draw_11 ?_
    refine a_iload_n C dX7_draw_14 1 rfl rfl ?_
    refine a_dup2 C dX7_draw_15 rfl rfl ?_
    refine a_iald C hM.f8 hM.n8 0 hM.tI (by omega) (by omega) (by decide) dX7_draw_16 (fun z16 e16 r16 => ?_)
    refine a_iconst C dX7_draw_17 ?_
    refine a_iadd C dX7_draw_18 ?_
    refine a_iast C hM.f8 hM.n8 0 hM.tI (by omega) (by omega) (by decide) (by omega) dX7_draw_19 ?_
    refine a_aload_n C dX7_draw_20 0 rfl rfl ?_
    refine a_getf C hM.f0 hM.n0 (Cn := RX7) (T := TX7) (N := 30) rfl iX7 10 (by decide) k36 (w := .ref (vq v (b + 8))) rfl dX7_draw_21 ?_
    refine a_iload_n C dX7_draw_24 1 rfl rfl ?_
    refine a_iald C hM.f8 hM.n8 0 hM.tI (by omega) (by omega) (by decide) dX7_draw_25 (fun z25 e25 r25 => ?_)
    try simp [sput_r, mset_n, sput, mset] at e25
    refine a_istore_n C 3 [(3, vI z25), (0, .ref (vq v b)), (1, vI cl), (2, vI val)] dX7_draw_26 rfl (by decide) rfl ?_
    refine a_iload_n C dX7_draw_27 0 rfl rfl ?_
    refine a_aload_n C dX7_draw_28 1 rfl rfl ?_
    refine a_getf C hM.f0 hM.n0 (Cn := RX7) (T := TX7) (N := 30) rfl iX7 9 (by decide) k33 (w := .ref (vq v (b + 7))) rfl dX7_draw_29 ?_
    refine a_iload_n C dX7_draw_32 2 rfl rfl ?_
    refine a_iald C hM.f7 hM.n7 0 hM.tI (by omega) (by omega) (by decide) dX7_draw_33 (fun z33 e33 r33 => ?_)
    try simp [sput_r, mset_n, sput, mset] at e33
    refine a_icmp_gt C 52 r25 r33 dX7_draw_34 (by decide) (fun c34 => ?_) (fun c34 => ?_)
    · skip
      refine a_aload_n C dX7_draw_52 1 rfl rfl ?_
      refine a_getf C hM.f0 hM.n0 (Cn := RX7) (T := TX7) (N := 30) rfl iX7 12 (by decide) k42 (w := .ref (vq v (b + 10))) rfl dX7_draw_53 ?_
      refine a_iload_n C dX7_draw_56 2 rfl rfl ?_
      refine a_ldc2 C 1103515245 (w := 1103515245) (by decide +kernel) rfl dX7_draw_57 ?_
      refine a_aload_n C dX7_draw_60 1 rfl rfl ?_
      refine a_getf C hM.f0 hM.n0 (Cn := RX7) (T := TX7) (N := 30) rfl iX7 12 (by decide) k42 (w := .ref (vq v (b + 10))) rfl dX7_draw_61 ?_
      refine a_iload_n C dX7_draw_64 2 rfl rfl ?_
      refine a_lald C hM.f10 hM.n10 1 hM.tL (by omega) (by omega) (by decide) dX7_draw_65 (fun z65 e65 r65 => ?_)
      try simp [sput_r, mset_n, sput, mset] at e65
      refine a_lmul C dX7_draw_66 ?_
      refine a_ldc2 C 12345 (w := 12345) (by decide +kernel) rfl dX7_draw_67 ?_
      refine a_ladd C dX7_draw_70 ?_
      refine a_ldc2 C 2147483647 (w := 2147483647) (by decide +kernel) rfl dX7_draw_71 ?_
      refine a_landM C (by omega) (by omega) dX7_draw_74 ?_
      have es : (1103515245 * z65 + 12345) % 2147483648 = (1103515245 * σ (b + 10) (100000 + cl) + 12345) % 2147483648 := by rw [e65]
      refine a_last C hM.f10 hM.n10 1 hM.tL (by omega) (by omega) (by decide) (by omega) dX7_draw_75 ?_
      refine a_aload_n C dX7_draw_76 1 rfl rfl ?_
      refine a_getf C hM.f0 hM.n0 (Cn := RX7) (T := TX7) (N := 30) rfl iX7 12 (by decide) k42 (w := .ref (vq v (b + 10))) rfl dX7_draw_77 ?_
      refine a_iload_n C dX7_draw_80 2 rfl rfl ?_
      refine a_lald C hM.f10 hM.n10 1 hM.tL (by omega) (by omega) (by decide) dX7_draw_81 (fun z81 e81 r81 => ?_)
      try simp [sput_r, mset_n, sput, mset] at e81
      have q81 : z81.tdiv 65536 = z81 / 65536 := Int.tdiv_eq_ediv_of_nonneg (by omega)
      refine a_ldc2 C 65536 (w := 65536) (by decide +kernel) rfl dX7_draw_82 ?_
      refine a_ldiv C r81 (by decide) (by omega) dX7_draw_85 ?_
      refine a_iload_n C dX7_draw_86 0 rfl rfl ?_
      refine a_i2l C r25 dX7_draw_87 ?_
      have q88 : (z81.tdiv 65536).tmod z25 = z81 / 65536 % z25 := by rw [q81]; exact Int.tmod_eq_emod_of_nonneg (by omega)
      have q89 := Int.emod_nonneg (z81 / 65536) (show z25 ≠ 0 by omega)
      have q90 := Int.emod_lt_of_pos (z81 / 65536) (show 0 < z25 by omega)
      refine a_lrem C (by omega) (by omega) (by omega) dX7_draw_88 ?_
      refine a_l2i C dX7_draw_89 ?_
      have el : z81 / 65536 % z25 = (1103515245 * σ (b + 10) (100000 + cl) + 12345) % 2147483648 / 65536 % (σ (b + 8) cl + 1) := by rw [e81, e25, e16, es]
      rw [q88]
      refine a_istore C [(4, vI (z81 / 65536 % z25)), (3, vI z25), (0, .ref (vq v b)), (1, vI cl), (2, vI val)] dX7_draw_90 (by decide) rfl ?_
      refine a_iload C dX7_draw_92 0 rfl ?_
      refine a_aload_n C dX7_draw_94 2 rfl rfl ?_
      refine a_getf C hM.f0 hM.n0 (Cn := RX7) (T := TX7) (N := 30) rfl iX7 9 (by decide) k33 (w := .ref (vq v (b + 7))) rfl dX7_draw_95 ?_
      refine a_iload_n C dX7_draw_98 3 rfl rfl ?_
      refine a_iald C hM.f7 hM.n7 0 hM.tI (by omega) (by omega) (by decide) dX7_draw_99 (fun z99 e99 r99 => ?_)
      try simp [sput_r, mset_n, sput, mset] at e99
      refine a_icmp_ge C 116 (by omega) r99 dX7_draw_100 (by decide) (fun c100 => ?_) (fun c100 => ?_)
      · skip
        refine hret _ _ _ dX7_draw_116 ?_
        unfold mdOne
        rw [if_neg (by omega), if_neg (by omega)]
        rw [if_neg (by rw [← el]; omega), ← es, e16]
      · skip
        refine a_aload_n C dX7_draw_103 2 rfl rfl ?_
        refine a_getf C hM.f0 hM.n0 (Cn := RX7) (T := TX7) (N := 30) rfl iX7 11 (by decide) k39 (w := .ref (vq v (b + 9))) rfl dX7_draw_104 ?_
        refine a_bipush C dX7_draw_107 ?_
        refine a_iload_n C dX7_draw_109 3 rfl rfl ?_
        refine a_imul C dX7_draw_110 ?_
        refine a_iload C dX7_draw_111 0 rfl ?_
        refine a_iadd C dX7_draw_113 ?_
        refine a_iload_n C dX7_draw_114 4 rfl rfl ?_
        refine a_iast C hM.f9 hM.n9 0 hM.tI (by omega) (by omega) (by decide) (by omega) dX7_draw_115 ?_
        refine hret _ _ _ dX7_draw_116 ?_
        unfold mdOne
        rw [if_neg (by omega), if_neg (by omega)]
        rw [if_pos (by rw [← el]; omega), ← el, ← es, e16]
    · skip
      refine a_aload_n C dX7_draw_37 1 rfl rfl ?_
      refine a_getf C hM.f0 hM.n0 (Cn := RX7) (T := TX7) (N := 30) rfl iX7 11 (by decide) k39 (w := .ref (vq v (b + 9))) rfl dX7_draw_38 ?_
      refine a_bipush C dX7_draw_41 ?_
      refine a_iload_n C dX7_draw_43 2 rfl rfl ?_
      refine a_imul C dX7_draw_44 ?_
      refine a_iload_n C dX7_draw_45 0 rfl rfl ?_
      refine a_iadd C dX7_draw_46 ?_
      refine a_iconst C dX7_draw_47 ?_
      refine a_isub C dX7_draw_48 ?_
      refine a_iload_n C dX7_draw_49 3 rfl rfl ?_
      refine a_iast C hM.f9 hM.n9 0 hM.tI (by omega) (by omega) (by decide) (by omega) dX7_draw_50 ?_
      refine hret _ _ _ dX7_draw_51 ?_
      unfold mdOne
      rw [if_neg (by omega), if_pos (by omega)]
      rw [e25, e16]
  · skip
    refine hret _ _ _ dX7_draw_9 ?_
    unfold mdOne
    rw [if_pos (by omega)]
