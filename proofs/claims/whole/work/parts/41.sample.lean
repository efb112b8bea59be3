set_option maxHeartbeats 4000000 in
set_option maxRecDepth 100000 in
theorem c_X6_within (l : Launch) (v : VC) (σ : Mem) (x1 lo1 hi1 : Int) (h1 : rgL x1) (h2 : rgL lo1) (h3 : rgL hi1) : CtI l yX6_within wsX6_within 0 0 v [vJ x1, vJ lo1, vJ hi1] σ (fun z u => z = (if lo1 ≤ x1 ∧ x1 ≤ hi1 then 1 else 0) ∧ u = σ) := by
  refine mkZ (cc := cX6_within) (n := 6) (by decide +kernel) rfl (Nat.le_of_ble_eq_true rfl) (fun x A Q hx C hret => ?_)
  subst hx
  show At x v A Q _ 0 [(0, vJ x1), (2, vJ lo1), (4, vJ hi1)] [] σ
  refine a_lload_n C dX6_within_0 0 rfl rfl ?_
  refine a_lload_n C dX6_within_1 1 rfl rfl ?_
  refine a_lcmp C (by omega) (by omega) dX6_within_2 (fun z2 e2 r2 => ?_)
  refine a_if_lt C 17 r2 dX6_within_3 (by decide) (fun c3 => ?_) (fun c3 => ?_)
  · skip
    refine a_iconst C dX6_within_17 ?_
    exact hret _ _ _ _ dX6_within_18 (by decide) ⟨by (first | rw [if_pos (by omega)] | rw [if_neg (by omega)]), rfl⟩
  · skip
    refine a_lload_n C dX6_within_6 0 rfl rfl ?_
    refine a_lload C dX6_within_7 2 rfl ?_
    refine a_lcmp C (by omega) (by omega) dX6_within_9 (fun z9 e9 r9 => ?_)
    refine a_if_gt C 17 r9 dX6_within_10 (by decide) (fun c10 => ?_) (fun c10 => ?_)
    · skip
      refine a_iconst C dX6_within_17 ?_
      exact hret _ _ _ _ dX6_within_18 (by decide) ⟨by (first | rw [if_pos (by omega)] | rw [if_neg (by omega)]), rfl⟩
    · skip
      refine a_iconst C dX6_within_13 ?_
      refine a_goto C 18 dX6_within_14 (by decide) ?_
      exact hret _ _ _ _ dX6_within_18 (by decide) ⟨by (first | rw [if_pos (by omega)] | rw [if_neg (by omega)]), rfl⟩
set_option maxHeartbeats 4000000 in
set_option maxRecDepth 100000 in
theorem c_X6_isValue (l : Launch) (v : VC) (σ : Mem) (a1 : Int) (h1 : rg a1) : CtI l yX6_isValue wsX6_isValue 1 25 v [vI a1] σ (fun z u => z = (if 0 ≤ a1 ∧ a1 ≤ 39 then 1 else 0) ∧ u = σ) := by
  refine mkZ (cc := cX6_isValue) (n := 1) (by decide +kernel) rfl (Nat.le_of_ble_eq_true rfl) (fun x A Q hx C hret => ?_)
  subst hx
  show At x v A Q _ 0 [(0, vI a1)] [] σ
  refine a_iload_n C dX6_isValue_0 0 rfl rfl ?_
  refine a_i2l C (by omega) dX6_isValue_1 ?_
  refine a_lconst C 0 dX6_isValue_2 rfl ?_
  refine a_ldc2 C 39 (w := 39) (by decide +kernel) rfl dX6_isValue_3 ?_
  refine a_cSI C (k0 := 3) (As := [vJ a1, vJ 0, vJ 39]) (rest := []) (c_X6_within x.2.1 v σ a1 0 39 (by omega) (by omega) (by omega)) gX6_isValue_X6_within rfl (by decide +kernel) (by decide) rfl rfl (Nat.le_of_ble_eq_true rfl) dX6_isValue_6 (fun z6 u6 r6 p6 => ?_)
  obtain ⟨e6, p6⟩ := p6
  subst u6
  exact hret _ _ _ _ dX6_isValue_9 (by rw [e6]; split <;> omega) ⟨e6, rfl⟩
set_option maxHeartbeats 4000000 in
set_option maxRecDepth 100000 in
theorem c_X6_isValueOrNone (l : Launch) (v : VC) (σ : Mem) (a1 : Int) (h1 : rgL a1) : CtI l yX6_isValueOrNone wsX6_isValueOrNone 1 25 v [vJ a1] σ (fun z u => z = (if -1 ≤ a1 ∧ a1 ≤ 39 then 1 else 0) ∧ u = σ) := by
  refine mkZ (cc := cX6_isValueOrNone) (n := 2) (by decide +kernel) rfl (Nat.le_of_ble_eq_true rfl) (fun x A Q hx C hret => ?_)
  subst hx
  show At x v A Q _ 0 [(0, vJ a1)] [] σ
  refine a_lload_n C dX6_isValueOrNone_0 0 rfl rfl ?_
  refine a_ldc2 C (-1) (w := (-1)) (by decide +kernel) rfl dX6_isValueOrNone_1 ?_
  refine a_ldc2 C 39 (w := 39) (by decide +kernel) rfl dX6_isValueOrNone_4 ?_
  refine a_cSI C (k0 := 3) (As := [vJ a1, vJ (-1), vJ 39]) (rest := []) (c_X6_within x.2.1 v σ a1 (-1) 39 (by omega) (by omega) (by omega)) gX6_isValueOrNone_X6_within rfl (by decide +kernel) (by decide) rfl rfl (Nat.le_of_ble_eq_true rfl) dX6_isValueOrNone_7 (fun z7 u7 r7 p7 => ?_)
  obtain ⟨e7, p7⟩ := p7
  subst u7
  exact hret _ _ _ _ dX6_isValueOrNone_10 (by rw [e7]; split <;> omega) ⟨e7, rfl⟩
set_option maxHeartbeats 4000000 in
set_option maxRecDepth 100000 in
theorem c_X6_isQuestion (l : Launch) (v : VC) (σ : Mem) (a1 b1 : Int) (h1 : rg a1) (h2 : rg b1) : CtI l yX6_isQuestion wsX6_isQuestion 2 45 v [vI a1, vI b1] σ (fun z u => z = (if 0 ≤ a1 ∧ a1 ≤ b1 ∧ b1 ≤ 39 then 1 else 0) ∧ u = σ) := by
  refine mkZ (cc := cX6_isQuestion) (n := 2) (by decide +kernel) rfl (Nat.le_of_ble_eq_true rfl) (fun x A Q hx C hret => ?_)
  subst hx
  show At x v A Q _ 0 [(0, vI a1), (1, vI b1)] [] σ
  refine a_iload_n C dX6_isQuestion_0 0 rfl rfl ?_
  refine a_cSI C (k0 := 1) (As := [vI a1]) (rest := []) (c_X6_isValue x.2.1 v σ a1 (by omega)) gX6_isQuestion_X6_isValue rfl (by decide +kernel) (by decide) rfl rfl (Nat.le_of_ble_eq_true rfl) dX6_isQuestion_1 (fun z1 u1 r1 p1 => ?_)
  obtain ⟨e1, p1⟩ := p1
  subst u1
  have q1 : (z1 = 1 ∧ 0 ≤ a1 ∧ a1 ≤ 39) ∨ (z1 = 0 ∧ ¬ (0 ≤ a1 ∧ a1 ≤ 39)) := by rw [e1]; split <;> omega
  refine a_if_eq C 23 r1 dX6_isQuestion_4 (by decide) (fun c4 => ?_) (fun c4 => ?_)
  · skip
    refine a_iconst C dX6_isQuestion_23 ?_
    exact hret _ _ _ _ dX6_isQuestion_24 (by decide) ⟨by (first | rw [if_pos (by omega)] | rw [if_neg (by omega)]), rfl⟩
  · skip
    refine a_iload_n C dX6_isQuestion_7 1 rfl rfl ?_
    refine a_cSI C (k0 := 1) (As := [vI b1]) (rest := []) (c_X6_isValue x.2.1 v σ b1 (by omega)) gX6_isQuestion_X6_isValue rfl (by decide +kernel) (by decide) rfl rfl (Nat.le_of_ble_eq_true rfl) dX6_isQuestion_8 (fun z8 u8 r8 p8 => ?_)
    obtain ⟨e8, p8⟩ := p8
    subst u8
    have q8 : (z8 = 1 ∧ 0 ≤ b1 ∧ b1 ≤ 39) ∨ (z8 = 0 ∧ ¬ (0 ≤ b1 ∧ b1 ≤ 39)) := by rw [e8]; split <;> omega
    refine a_if_eq C 23 r8 dX6_isQuestion_11 (by decide) (fun c11 => ?_) (fun c11 => ?_)
    · skip
      refine a_iconst C dX6_isQuestion_23 ?_
      exact hret _ _ _ _ dX6_isQuestion_24 (by decide) ⟨by (first | rw [if_pos (by omega)] | rw [if_neg (by omega)]), rfl⟩
    · skip
      refine a_iload_n C dX6_isQuestion_14 0 rfl rfl ?_
      refine a_iload_n C dX6_isQuestion_15 1 rfl rfl ?_
      refine a_icmp_gt C 23 (by omega) (by omega) dX6_isQuestion_16 (by decide) (fun c16 => ?_) (fun c16 => ?_)
      · skip
        refine a_iconst C dX6_isQuestion_23 ?_
        exact hret _ _ _ _ dX6_isQuestion_24 (by decide) ⟨by (first | rw [if_pos (by omega)] | rw [if_neg (by omega)]), rfl⟩
      · skip
        refine a_iconst C dX6_isQuestion_19 ?_
        refine a_goto C 24 dX6_isQuestion_20 (by decide) ?_
        exact hret _ _ _ _ dX6_isQuestion_24 (by decide) ⟨by (first | rw [if_pos (by omega)] | rw [if_neg (by omega)]), rfl⟩
set_option maxHeartbeats 4000000 in
set_option maxRecDepth 100000 in
theorem c_J7_fill_d0a16 (l : Launch) (v : VC) (σ : Mem) (t len : Nat) (ht : vF v t = eL (kL v) len) (htn : t < vN v) (hty : (vT v)[1]? = some (kL v, .long)) (z1 : Int) (hl : len ≤ 50000) (hz : rgL z1) : CtV l yJ7_fill_d0a16 wsJ7_fill_d0a16 0 0 v [.ref (vq v t), vJ z1] σ (fun u => (∀ a : Nat, a ≠ t → u a = σ a) ∧ (∀ j : Int, 0 ≤ j → j < len → u t (100000 + j) = z1) ∧ (∀ j : Int, j < 100000 + 0 ∨ 100000 + len ≤ j → u t j = σ t j)) := by
  refine mkVF (cc := cJ7_fill_d0a16) (n := 5) (by decide +kernel) rfl (Nat.le_of_ble_eq_true rfl) (fun x A Q hx C hret => ?_)
  subst hx
  show At x v A Q _ 0 [(0, .ref (vq v t)), (1, vJ z1)] [] σ
  have lp : ∀ (n : Nat) (k : Int) (τ : Mem) , (len - k).toNat = n → 0 ≤ k ∧ k ≤ len → (∀ j : Int, 0 ≤ j → j < k → τ t (100000 + j) = z1) → (∀ j : Int, j < 100000 + 0 ∨ 100000 + len ≤ j → τ t j = σ t j) → (∀ a : Nat, a ≠ t → τ a = σ a) → At x v A Q 5 6 [(3, vI k), (4, vI ((len : Int))), (0, .ref (vq v t)), (1, vJ z1)] [] τ := by
    intro n
    induction n using Nat.strongRecOn with
    | _ n ih =>
      intro k τ hn i1 iD iO iF
      refine a_iload_n C dJ7_fill_d0a16_6 0 rfl rfl ?_
      refine a_iload C dJ7_fill_d0a16_7 1 rfl ?_
      refine a_icmp_ge C 22 (by omega) (by omega) dJ7_fill_d0a16_9 (by decide) (fun c9 => ?_) (fun c9 => ?_)
      · skip
        have hk : k = len := by omega
        subst hk
        exact hret _ _ _ dJ7_fill_d0a16_22 ⟨iF, iD, iO⟩
      · skip
        refine a_aload_n C dJ7_fill_d0a16_12 2 rfl rfl ?_
        refine a_iload_n C dJ7_fill_d0a16_13 0 rfl rfl ?_
        refine a_lload_n C dJ7_fill_d0a16_14 3 rfl rfl ?_
        refine a_last C ht htn 1 hty (by omega) (by omega) hl (by omega) dJ7_fill_d0a16_15 ?_
        refine a_iinc C (k + 1) [(3, vI (k + 1)), (4, vI ((len : Int))), (0, .ref (vq v t)), (1, vJ z1)] dJ7_fill_d0a16_16 0 rfl (by omega) (by decide) rfl ?_
        refine a_goto C 6 dJ7_fill_d0a16_19 (by decide) ?_
        refine ih _ (by omega) (k + 1) _ rfl (by omega) ?_ ?_ (fun a q => by rw [sput_r q]; exact iF a q)
        · intro j j0 j1
          by_cases hj : j = k
          · subst hj; rw [sput_s]
          · rw [sput_j _ _ _ _ _ (by omega)]; exact iD j j0 (by omega)
        · intro j j0
          rw [sput_j _ _ _ _ _ (by omega)]; exact iO j j0
  refine a_iconst C dJ7_fill_d0a16_0 ?_
  refine a_istore_n C 3 [(3, vI 0), (0, .ref (vq v t)), (1, vJ z1)] dJ7_fill_d0a16_1 rfl (by decide) rfl ?_
  refine a_aload_n C dJ7_fill_d0a16_2 1 rfl rfl ?_
  refine a_alenL C ht htn 1 hty dJ7_fill_d0a16_3 ?_
  refine a_istore C [(4, vI ((len : Int))), (3, vI 0), (0, .ref (vq v t)), (1, vJ z1)] dJ7_fill_d0a16_4 (by decide) rfl ?_
  refine a_sub [1, 0, 2, 3] [(3, vI 0), (4, vI ((len : Int))), (0, .ref (vq v t)), (1, vJ z1)] rfl ?_
  exact lp _ 0 σ rfl (by omega) (fun j q1 q2 => by omega) (fun _ _ => rfl) (fun _ _ => rfl)
set_option maxHeartbeats 4000000 in
set_option maxRecDepth 100000 in
theorem c_J7_fill_53178 (l : Launch) (v : VC) (σ : Mem) (t len : Nat) (ht : vF v t = eI (kI v) len) (htn : t < vN v) (hty : (vT v)[0]? = some (kI v, .int)) (z1 : Int) (hl : len ≤ 50000) (hz : rg z1) : CtV l yJ7_fill_53178 wsJ7_fill_53178 0 0 v [.ref (vq v t), vI z1] σ (fun u => (∀ a : Nat, a ≠ t → u a = σ a) ∧ (∀ j : Int, 0 ≤ j → j < len → u t (j) = z1) ∧ (∀ j : Int, j < 0 ∨ len ≤ j → u t j = σ t j)) := by
  refine mkVF (cc := cJ7_fill_53178) (n := 4) (by decide +kernel) rfl (Nat.le_of_ble_eq_true rfl) (fun x A Q hx C hret => ?_)
  subst hx
  show At x v A Q _ 0 [(0, .ref (vq v t)), (1, vI z1)] [] σ
  have lp : ∀ (n : Nat) (k : Int) (τ : Mem) , (len - k).toNat = n → 0 ≤ k ∧ k ≤ len → (∀ j : Int, 0 ≤ j → j < k → τ t (j) = z1) → (∀ j : Int, j < 0 ∨ len ≤ j → τ t j = σ t j) → (∀ a : Nat, a ≠ t → τ a = σ a) → At x v A Q 4 5 [(2, vI k), (3, vI ((len : Int))), (0, .ref (vq v t)), (1, vI z1)] [] τ := by
    intro n
    induction n using Nat.strongRecOn with
    | _ n ih =>
      intro k τ hn i1 iD iO iF
      refine a_iload_n C dJ7_fill_53178_5 0 rfl rfl ?_
      refine a_iload_n C dJ7_fill_53178_6 1 rfl rfl ?_
      refine a_icmp_ge C 20 (by omega) (by omega) dJ7_fill_53178_7 (by decide) (fun c7 => ?_) (fun c7 => ?_)
      · skip
        have hk : k = len := by omega
        subst hk
        exact hret _ _ _ dJ7_fill_53178_20 ⟨iF, iD, iO⟩
      · skip
        refine a_aload_n C dJ7_fill_53178_10 2 rfl rfl ?_
        refine a_iload_n C dJ7_fill_53178_11 0 rfl rfl ?_
        refine a_iload_n C dJ7_fill_53178_12 3 rfl rfl ?_
        refine a_iast C ht htn 0 hty (by omega) (by omega) hl (by omega) dJ7_fill_53178_13 ?_
        refine a_iinc C (k + 1) [(2, vI (k + 1)), (3, vI ((len : Int))), (0, .ref (vq v t)), (1, vI z1)] dJ7_fill_53178_14 0 rfl (by omega) (by decide) rfl ?_
        refine a_goto C 5 dJ7_fill_53178_17 (by decide) ?_
        refine ih _ (by omega) (k + 1) _ rfl (by omega) ?_ ?_ (fun a q => by rw [sput_r q]; exact iF a q)
        · intro j j0 j1
          by_cases hj : j = k
          · subst hj; rw [sput_s]
          · rw [sput_j _ _ _ _ _ (by omega)]; exact iD j j0 (by omega)
        · intro j j0
          rw [sput_j _ _ _ _ _ (by omega)]; exact iO j j0
  refine a_iconst C dJ7_fill_53178_0 ?_
  refine a_istore_n C 2 [(2, vI 0), (0, .ref (vq v t)), (1, vI z1)] dJ7_fill_53178_1 rfl (by decide) rfl ?_
  refine a_aload_n C dJ7_fill_53178_2 1 rfl rfl ?_
  refine a_alenI C ht htn 0 hty dJ7_fill_53178_3 ?_
  refine a_istore_n C 3 [(3, vI ((len : Int))), (2, vI 0), (0, .ref (vq v t)), (1, vI z1)] dJ7_fill_53178_4 rfl (by decide) rfl ?_
  refine a_sub [1, 0, 2, 3] [(2, vI 0), (3, vI ((len : Int))), (0, .ref (vq v t)), (1, vI z1)] rfl ?_
  exact lp _ 0 σ rfl (by omega) (fun j q1 q2 => by omega) (fun _ _ => rfl) (fun _ _ => rfl)
/-- a sample at s takes one row more -/
def smOne (σ : Mem) (s : Nat) (val : Int) : Mem :=
  if σ s 3 + 1 ≤ σ s 1 then sput (sput σ s 3 (σ s 3 + 1)) (s + 1) (σ s 3) val
  else if (1103515245 * σ s 2 + 12345) % 2147483648 / 65536 % (σ s 3 + 1) < σ s 1 then sput (sput (sput σ s 3 (σ s 3 + 1)) s 2 ((1103515245 * σ s 2 + 12345) % 2147483648)) (s + 1) ((1103515245 * σ s 2 + 12345) % 2147483648 / 65536 % (σ s 3 + 1)) val
  else sput (sput σ s 3 (σ s 3 + 1)) s 2 ((1103515245 * σ s 2 + 12345) % 2147483648)
def smT (s : Nat) (val : Int) : Nat → Mem → Mem
  | 0, σ => σ
  | n + 1, σ => smT s val n (smOne σ s val)
/-- a sample's numbers are sound, so many rows at most were seen -/
def smW (σ : Mem) (s : Nat) (M : Int) : Prop := 0 ≤ σ s 1 ∧ σ s 1 ≤ 16 ∧ 0 ≤ σ s 2 ∧ σ s 2 < 2147483648 ∧ 0 ≤ σ s 3 ∧ σ s 3 ≤ M
theorem smOne_1 {σ : Mem} {s : Nat} {val : Int} : smOne σ s val s 1 = σ s 1 ∧ smOne σ s val s 3 = σ s 3 + 1 ∧ (smOne σ s val s 2 = σ s 2 ∨ smOne σ s val s 2 = (1103515245 * σ s 2 + 12345) % 2147483648) ∧ ∀ a : Nat, a ≠ s → a ≠ s + 1 → smOne σ s val a = σ a := by
  unfold smOne
  split
  · refine ⟨by simp [sput], by simp [sput], Or.inl (by simp [sput]), fun a q1 q2 => by rw [sput_r q2, sput_r q1]⟩
  · split
    · refine ⟨by simp [sput], by simp [sput], Or.inr (by simp [sput]), fun a q1 q2 => by rw [sput_r q2, sput_r q1, sput_r q1]⟩
    · refine ⟨by simp [sput], by simp [sput], Or.inr (by simp [sput]), fun a q1 q2 => by rw [sput_r q1, sput_r q1]⟩
theorem smOne_W {σ : Mem} {s : Nat} {val M : Int} (h : smW σ s M) : smW (smOne σ s val) s (M + 1) := by
  obtain ⟨e1, e3, e2, -⟩ := smOne_1 (σ := σ) (s := s) (val := val)
  obtain ⟨h1, h2, h3, h4, h5, h6⟩ := h
  refine ⟨by omega, by omega, ?_, ?_, by omega, by omega⟩ <;> (rcases e2 with q | q <;> omega)
set_option maxHeartbeats 4000000 in
set_option maxRecDepth 100000 in
theorem c_X3_begin (l : Launch) (v : VC) (σ : Mem) (b : Nat) (hS : shSa v b) (k s1 : Int) (hk : rg k) (hs : rg s1) : CtV l yX3_begin wsX3_begin 0 0 v [.ref (vq v b), vI k, vI s1] σ (fun u => u = sput (sput (sput σ b 1 k) b 2 s1) b 3 0) := by
  refine mkV (cc := cX3_begin) (n := 3) (by decide +kernel) rfl (Nat.le_of_ble_eq_true rfl) (fun x A Q hx C hret => ?_)
  subst hx
  show At x v A Q _ 0 [(0, .ref (vq v b)), (1, vI k), (2, vI s1)] [] σ
  have iX3 : ∀ w ∈ wsX30, w ∈ wsX3_begin := by decide +kernel
  have k15 : Cond.fieldLink RX3 15 (TX3 1).1 (TX3 1).2.1 (TX3 1).2.2.1 ∈ wsX3_begin := by decide +kernel
  have k19 : Cond.fieldLink RX3 19 (TX3 2).1 (TX3 2).2.1 (TX3 2).2.2.1 ∈ wsX3_begin := by decide +kernel
  have k22 : Cond.fieldLink RX3 22 (TX3 3).1 (TX3 3).2.1 (TX3 3).2.2.1 ∈ wsX3_begin := by decide +kernel
  refine a_aload_n C dX3_begin_0 0 rfl rfl ?_
  refine a_iload_n C dX3_begin_1 1 rfl rfl ?_
  refine a_puti C hS.f0 hS.n0 (Cn := RX3) (T := TX3) (N := 4) rfl iX3 tyX3_ok nmX3 1 (by decide) k15 rfl rfl 1 (by omega) (fun _ => Nat.le_of_ble_eq_true rfl) (fun _ => rfl) dX3_begin_2 ?_
  refine a_aload_n C dX3_begin_5 0 rfl rfl ?_
  refine a_iload_n C dX3_begin_6 2 rfl rfl ?_
  refine a_puti C hS.f0 hS.n0 (Cn := RX3) (T := TX3) (N := 4) rfl iX3 tyX3_ok nmX3 2 (by decide) k19 rfl rfl 2 (by omega) (fun _ => Nat.le_of_ble_eq_true rfl) (fun _ => rfl) dX3_begin_7 ?_
  refine a_aload_n C dX3_begin_10 0 rfl rfl ?_
  refine a_iconst C dX3_begin_11 ?_
  refine a_puti C hS.f0 hS.n0 (Cn := RX3) (T := TX3) (N := 4) rfl iX3 tyX3_ok nmX3 3 (by decide) k22 rfl rfl 3 (by decide) (fun _ => Nat.le_of_ble_eq_true rfl) (fun _ => rfl) dX3_begin_12 ?_
  exact hret _ _ _ dX3_begin_15 rfl
set_option maxHeartbeats 4000000 in
set_option maxRecDepth 100000 in
theorem c_X3_held (l : Launch) (v : VC) (σ : Mem) (b : Nat) (hS : shSa v b)  : CtI l yX3_held wsX3_held 1 23 v [.ref (vq v b)] σ (fun z u => z = min (σ b 3) (σ b 1) ∧ u = σ) := by
  refine mkI (cc := cX3_held) (n := 1) (by decide +kernel) rfl (Nat.le_of_ble_eq_true rfl) (fun x A Q hx C hret => ?_)
  subst hx
  show At x v A Q _ 0 [(0, .ref (vq v b))] [] σ
  have iX3 : ∀ w ∈ wsX30, w ∈ wsX3_held := by decide +kernel
  have k22 : Cond.fieldLink RX3 22 (TX3 3).1 (TX3 3).2.1 (TX3 3).2.2.1 ∈ wsX3_held := by decide +kernel
  have k15 : Cond.fieldLink RX3 15 (TX3 1).1 (TX3 1).2.1 (TX3 1).2.2.1 ∈ wsX3_held := by decide +kernel
  refine a_aload_n C dX3_held_0 0 rfl rfl ?_
  refine a_geti C hS.f0 hS.n0 (Cn := RX3) (T := TX3) (N := 4) rfl iX3 3 (by decide) k22 3 (by decide) rfl dX3_held_1 (fun z1 e1 r1 => ?_)
  refine a_aload_n C dX3_held_4 0 rfl rfl ?_
  refine a_geti C hS.f0 hS.n0 (Cn := RX3) (T := TX3) (N := 4) rfl iX3 1 (by decide) k15 1 (by decide) rfl dX3_held_5 (fun z5 e5 r5 => ?_)
  refine a_mmin C r1 r5 (by decide +kernel) ⟨by decide, Nat.le_of_ble_eq_true rfl⟩ dX3_held_8 ?_
  obtain ⟨z8, e8⟩ : ∃ w : Int, w = min z1 z5 := ⟨_, rfl⟩
  rw [← e8]
  exact hret _ _ _ _ dX3_held_11 (by omega) ⟨by rw [e8, e1, e5], rfl⟩
set_option maxHeartbeats 4000000 in
set_option maxRecDepth 100000 in
theorem c_X3_nextLot (l : Launch) (v : VC) (σ : Mem) (b : Nat) (hS : shSa v b) (h2 : 0 ≤ σ b 2 ∧ σ b 2 < 2147483648) (h3 : 0 < σ b 3) : CtI l yX3_nextLot wsX3_nextLot 0 0 v [.ref (vq v b)] σ (fun z u => z = (1103515245 * σ b 2 + 12345) % 2147483648 / 65536 % σ b 3 ∧ u = sput σ b 2 ((1103515245 * σ b 2 + 12345) % 2147483648)) := by
  refine mkI (cc := cX3_nextLot) (n := 1) (by decide +kernel) rfl (Nat.le_of_ble_eq_true rfl) (fun x A Q hx C hret => ?_)
  subst hx
  show At x v A Q _ 0 [(0, .ref (vq v b))] [] σ
  have iX3 : ∀ w ∈ wsX30, w ∈ wsX3_nextLot := by decide +kernel
  have k19 : Cond.fieldLink RX3 19 (TX3 2).1 (TX3 2).2.1 (TX3 2).2.2.1 ∈ wsX3_nextLot := by decide +kernel
  have k22 : Cond.fieldLink RX3 22 (TX3 3).1 (TX3 3).2.1 (TX3 3).2.2.1 ∈ wsX3_nextLot := by decide +kernel
  refine a_aload_n C dX3_nextLot_0 0 rfl rfl ?_
  refine a_ldc2 C 1103515245 (w := 1103515245) (by decide +kernel) rfl dX3_nextLot_1 ?_
  refine a_aload_n C dX3_nextLot_4 0 rfl rfl ?_
  refine a_geti C hS.f0 hS.n0 (Cn := RX3) (T := TX3) (N := 4) rfl iX3 2 (by decide) k19 2 (by decide) rfl dX3_nextLot_5 (fun z5 e5 r5 => ?_)
  refine a_i2l C r5 dX3_nextLot_8 ?_
  refine a_lmul C dX3_nextLot_9 ?_
  refine a_ldc2 C 12345 (w := 12345) (by decide +kernel) rfl dX3_nextLot_10 ?_
  refine a_ladd C dX3_nextLot_13 ?_
  refine a_ldc2 C 2147483647 (w := 2147483647) (by decide +kernel) rfl dX3_nextLot_14 ?_
  refine a_landM C (by omega) (by omega) dX3_nextLot_17 ?_
  refine a_l2i C dX3_nextLot_18 ?_
  refine a_puti C hS.f0 hS.n0 (Cn := RX3) (T := TX3) (N := 4) rfl iX3 tyX3_ok nmX3 2 (by decide) k19 rfl rfl 2 (by omega) (fun _ => Nat.le_of_ble_eq_true rfl) (fun _ => rfl) dX3_nextLot_19 ?_
  refine a_aload_n C dX3_nextLot_22 0 rfl rfl ?_
  refine a_geti C hS.f0 hS.n0 (Cn := RX3) (T := TX3) (N := 4) rfl iX3 3 (by decide) k22 3 (by decide) rfl dX3_nextLot_23 (fun z23 e23 r23 => ?_)
  try simp [sput_r, mset_n, sput, mset] at e23
  refine a_if_le C 44 r23 dX3_nextLot_26 (by decide) (fun c26 => ?_) (fun c26 => ?_)
  · skip
    exfalso; omega
  · skip
    refine a_aload_n C dX3_nextLot_29 0 rfl rfl ?_
    refine a_geti C hS.f0 hS.n0 (Cn := RX3) (T := TX3) (N := 4) rfl iX3 2 (by decide) k19 2 (by decide) rfl dX3_nextLot_30 (fun z30 e30 r30 => ?_)
    try simp [sput_r, mset_n, sput, mset] at e30
    refine a_ldc C 65536 (w := 65536) (by decide +kernel) rfl dX3_nextLot_33 ?_
    refine a_idiv C r30 (by decide) (by omega) dX3_nextLot_35 ?_
    have q2 : z30.tdiv 65536 = z30 / 65536 := Int.tdiv_eq_ediv_of_nonneg (by omega)
    refine a_aload_n C dX3_nextLot_36 0 rfl rfl ?_
    refine a_geti C hS.f0 hS.n0 (Cn := RX3) (T := TX3) (N := 4) rfl iX3 3 (by decide) k22 3 (by decide) rfl dX3_nextLot_37 (fun z37 e37 r37 => ?_)
    try simp [sput_r, mset_n, sput, mset] at e37
    refine a_irem C (by omega) r37 (by omega) dX3_nextLot_40 ?_
    refine a_goto C 45 dX3_nextLot_41 (by decide) ?_
    have q1 : z30 = (1103515245 * σ b 2 + 12345) % 2147483648 := by rw [e30, e5]
    have q3 : (z30.tdiv 65536).tmod z37 = z30.tdiv 65536 % z37 := Int.tmod_eq_emod_of_nonneg (by omega)
    have q4 := Int.emod_nonneg (z30.tdiv 65536) (show z37 ≠ 0 by omega)
    have q5 := Int.emod_lt_of_pos (z30.tdiv 65536) (show 0 < z37 by omega)
    exact hret _ _ _ _ dX3_nextLot_45 (by rw [q3]; omega) ⟨by rw [q3, q2, q1, e37], by rw [e5]⟩
set_option maxHeartbeats 4000000 in
set_option maxRecDepth 100000 in
theorem c_X3_takeOne (l : Launch) (v : VC) (σ : Mem) (b : Nat) (hS : shSa v b) (val : Int) (hv : rg val) (hs : smW σ b 999999999) : CtV l yX3_takeOne wsX3_takeOne 1 20 v [.ref (vq v b), vI val] σ (fun u => u = smOne σ b val) := by
  refine mkV (cc := cX3_takeOne) (n := 3) (by decide +kernel) rfl (Nat.le_of_ble_eq_true rfl) (fun x A Q hx C hret => ?_)
  subst hx
  show At x v A Q _ 0 [(0, .ref (vq v b)), (1, vI val)] [] σ
  have iX3 : ∀ w ∈ wsX30, w ∈ wsX3_takeOne := by decide +kernel
  have k22 : Cond.fieldLink RX3 22 (TX3 3).1 (TX3 3).2.1 (TX3 3).2.2.1 ∈ wsX3_takeOne := by decide +kernel
  have k15 : Cond.fieldLink RX3 15 (TX3 1).1 (TX3 1).2.1 (TX3 1).2.2.1 ∈ wsX3_takeOne := by decide +kernel
  have k9 : Cond.fieldLink RX3 9 (TX3 0).1 (TX3 0).2.1 (TX3 0).2.2.1 ∈ wsX3_takeOne := by decide +kernel
  obtain ⟨s1, s2, s3, s4, s5, s6⟩ := hs
  have sl1 := Int.emod_nonneg ((1103515245 * σ b 2 + 12345) % 2147483648 / 65536) (show σ b 3 + 1 ≠ 0 by omega)
  have sl2 := Int.emod_lt_of_pos ((1103515245 * σ b 2 + 12345) % 2147483648 / 65536) (show 0 < σ b 3 + 1 by omega)
  refine a_aload_n C dX3_takeOne_0 0 rfl rfl ?_
  refine a_geti C hS.f0 hS.n0 (Cn := RX3) (T := TX3) (N := 4) rfl iX3 3 (by decide) k22 3 (by decide) rfl dX3_takeOne_1 (fun z1 e1 r1 => ?_)
  refine a_ldc C 1000000000 (w := 1000000000) (by decide +kernel) rfl dX3_takeOne_4 ?_
  refine a_icmp_ge C 19 r1 (by decide) dX3_takeOne_6 (by decide) (fun c6 => ?_) (fun c6 => ?_)
  · skip
    exfalso; omega
  · skip
    refine a_aload_n C dX3_takeOne_9 0 rfl rfl ?_
    refine a_dup C dX3_takeOne_10 rfl ?_
    refine a_geti C hS.f0 hS.n0 (Cn := RX3) (T := TX3) (N := 4) rfl iX3 3 (by decide) k22 3 (by decide) rfl dX3_takeOne_11 (fun z11 e11 r11 => ?_)
    refine a_iconst C dX3_takeOne_14 ?_
    refine a_iadd C dX3_takeOne_15 ?_
    refine a_puti C hS.f0 hS.n0 (Cn := RX3) (T := TX3) (N := 4) rfl iX3 tyX3_ok nmX3 3 (by decide) k22 rfl rfl 3 (by omega) (fun _ => Nat.le_of_ble_eq_true rfl) (fun _ => rfl) dX3_takeOne_16 ?_
    refine a_aload_n C dX3_takeOne_19 0 rfl rfl ?_
    refine a_geti C hS.f0 hS.n0 (Cn := RX3) (T := TX3) (N := 4) rfl iX3 3 (by decide) k22 3 (by decide) rfl dX3_takeOne_20 (fun z20 e20 r20 => ?_)
    try simp [sput_r, mset_n, sput, mset] at e20
    refine a_aload_n C dX3_takeOne_23 0 rfl rfl ?_
    refine a_geti C hS.f0 hS.n0 (Cn := RX3) (T := TX3) (N := 4) rfl iX3 1 (by decide) k15 1 (by decide) rfl dX3_takeOne_24 (fun z24 e24 r24 => ?_)
    try simp [sput_r, mset_n, sput, mset] at e24
    refine a_icmp_gt C 39 r20 r24 dX3_takeOne_27 (by decide) (fun c27 => ?_) (fun c27 => ?_)
    · skip
      refine a_aload_n C dX3_takeOne_39 0 rfl rfl ?_
      refine a_cVI C (k0 := 0) (As := []) (rest := []) (c_X3_nextLot x.2.1 v (sput σ b 3 (z11 + 1)) b hS (by simp [sput]; omega) (by simp [sput]; omega)) gX3_takeOne_X3_nextLot rfl (by decide +kernel) (by decide) hS.f0 rfl hS.n0 rfl rfl (Nat.le_of_ble_eq_true rfl) dX3_takeOne_40 (fun z40 u40 r40 p40 => ?_)
      obtain ⟨e40, p40⟩ := p40
      subst u40
      have el : z40 = (1103515245 * σ b 2 + 12345) % 2147483648 / 65536 % (σ b 3 + 1) := by rw [e40]; simp [sput]; rw [e11]
      have es : sput σ b 3 (z11 + 1) b 2 = σ b 2 := sput_j _ _ _ _ _ (by decide)
      refine a_istore_n C 2 [(2, vI z40), (0, .ref (vq v b)), (1, vI val)] dX3_takeOne_43 rfl (by decide) rfl ?_
      refine a_iload_n C dX3_takeOne_44 0 rfl rfl ?_
      refine a_if_lt C 69 r40 dX3_takeOne_45 (by decide) (fun c45 => ?_) (fun c45 => ?_)
      · skip
        exfalso; omega
      · skip
        refine a_iload_n C dX3_takeOne_48 0 rfl rfl ?_
        refine a_aload_n C dX3_takeOne_49 1 rfl rfl ?_
        refine a_geti C hS.f0 hS.n0 (Cn := RX3) (T := TX3) (N := 4) rfl iX3 1 (by decide) k15 1 (by decide) rfl dX3_takeOne_50 (fun z50 e50 r50 => ?_)
        try simp [sput_r, mset_n, sput, mset] at e50
        refine a_icmp_ge C 69 r40 r50 dX3_takeOne_53 (by decide) (fun c53 => ?_) (fun c53 => ?_)
        · skip
          refine hret _ _ _ dX3_takeOne_69 ?_
          unfold smOne
          rw [if_neg (by omega), if_neg (by omega), es, e11]
        · skip
          refine a_iload_n C dX3_takeOne_56 0 rfl rfl ?_
          refine a_bipush C dX3_takeOne_57 ?_
          refine a_icmp_ge C 69 r40 (by decide) dX3_takeOne_59 (by decide) (fun c59 => ?_) (fun c59 => ?_)
          · skip
            exfalso; omega
          · skip
            refine a_aload_n C dX3_takeOne_62 1 rfl rfl ?_
            refine a_getf C hS.f0 hS.n0 (Cn := RX3) (T := TX3) (N := 4) rfl iX3 0 (by decide) k9 (w := .ref (vq v (b + 1))) rfl dX3_takeOne_63 ?_
            refine a_iload_n C dX3_takeOne_66 0 rfl rfl ?_
            refine a_iload_n C dX3_takeOne_67 2 rfl rfl ?_
            refine a_iast C hS.f1 hS.n1 0 hS.tI (by omega) (by omega) (by decide) (by omega) dX3_takeOne_68 ?_
            refine hret _ _ _ dX3_takeOne_69 ?_
            unfold smOne
            rw [if_neg (by omega), if_pos (by omega), es, ← el, e11]
    · skip
      refine a_aload_n C dX3_takeOne_30 0 rfl rfl ?_
      refine a_geti C hS.f0 hS.n0 (Cn := RX3) (T := TX3) (N := 4) rfl iX3 3 (by decide) k22 3 (by decide) rfl dX3_takeOne_31 (fun z31 e31 r31 => ?_)
      try simp [sput_r, mset_n, sput, mset] at e31
      refine a_iconst C dX3_takeOne_34 ?_
      refine a_isub C dX3_takeOne_35 ?_
      refine a_goto C 43 dX3_takeOne_36 (by decide) ?_
      refine a_istore_n C 2 [(2, vI (z31 - 1)), (0, .ref (vq v b)), (1, vI val)] dX3_takeOne_43 rfl (by decide) rfl ?_
      refine a_iload_n C dX3_takeOne_44 0 rfl rfl ?_
      refine a_if_lt C 69 (by omega) dX3_takeOne_45 (by decide) (fun c45 => ?_) (fun c45 => ?_)
      · skip
        exfalso; omega
      · skip
        refine a_iload_n C dX3_takeOne_48 0 rfl rfl ?_
        refine a_aload_n C dX3_takeOne_49 1 rfl rfl ?_
        refine a_geti C hS.f0 hS.n0 (Cn := RX3) (T := TX3) (N := 4) rfl iX3 1 (by decide) k15 1 (by decide) rfl dX3_takeOne_50 (fun z50 e50 r50 => ?_)
        try simp [sput_r, mset_n, sput, mset] at e50
        refine a_icmp_ge C 69 (by omega) r50 dX3_takeOne_53 (by decide) (fun c53 => ?_) (fun c53 => ?_)
        · skip
          exfalso; omega
        · skip
          refine a_iload_n C dX3_takeOne_56 0 rfl rfl ?_
          refine a_bipush C dX3_takeOne_57 ?_
          refine a_icmp_ge C 69 (by omega) (by decide) dX3_takeOne_59 (by decide) (fun c59 => ?_) (fun c59 => ?_)
          · skip
            exfalso; omega
          · skip
            refine a_aload_n C dX3_takeOne_62 1 rfl rfl ?_
            refine a_getf C hS.f0 hS.n0 (Cn := RX3) (T := TX3) (N := 4) rfl iX3 0 (by decide) k9 (w := .ref (vq v (b + 1))) rfl dX3_takeOne_63 ?_
            refine a_iload_n C dX3_takeOne_66 0 rfl rfl ?_
            refine a_iload_n C dX3_takeOne_67 2 rfl rfl ?_
            refine a_iast C hS.f1 hS.n1 0 hS.tI (by omega) (by omega) (by decide) (by omega) dX3_takeOne_68 ?_
            refine hret _ _ _ dX3_takeOne_69 ?_
            unfold smOne
            rw [if_pos (by omega), show z31 - 1 = σ b 3 by omega, e11]
set_option maxHeartbeats 4000000 in
set_option maxRecDepth 100000 in
theorem c_X3_take (l : Launch) (v : VC) (σ : Mem) (b : Nat) (hS : shSa v b) (val many : Int) (hv : rg val) (hm : 0 ≤ many ∧ many ≤ 1000) (hs : smW σ b 999999000) : CtV l yX3_take wsX3_take 2 42 v [.ref (vq v b), vI val, vI many] σ (fun u => u = (if σ b 1 = 0 then σ else smT b val many.toNat σ)) := by
  refine mkV (cc := cX3_take) (n := 4) (by decide +kernel) rfl (Nat.le_of_ble_eq_true rfl) (fun x A Q hx C hret => ?_)
  subst hx
  show At x v A Q _ 0 [(0, .ref (vq v b)), (1, vI val), (2, vI many)] [] σ
  have iX3 : ∀ w ∈ wsX30, w ∈ wsX3_take := by decide +kernel
  have k15 : Cond.fieldLink RX3 15 (TX3 1).1 (TX3 1).2.1 (TX3 1).2.2.1 ∈ wsX3_take := by decide +kernel
  have lp : ∀ (n : Nat) (k : Int) (τ : Mem) , (many - k).toNat = n → 0 ≤ k ∧ k ≤ many → smW τ b (999999000 + k) → smT b val (many - k).toNat τ = smT b val many.toNat σ → ¬ σ b 1 = 0 → At x v A Q 4 10 [(3, vI k), (0, .ref (vq v b)), (1, vI val), (2, vI many)] [] τ := by
    intro n
    induction n using Nat.strongRecOn with
    | _ n ih =>
      intro k τ hn i1 iW iR hne
      refine a_iload_n C dX3_take_10 0 rfl rfl ?_
      refine a_iload_n C dX3_take_11 3 rfl rfl ?_
      refine a_icmp_ge C 26 (by omega) (by omega) dX3_take_12 (by decide) (fun c12 => ?_) (fun c12 => ?_)
      · skip
        exact hret _ _ _ dX3_take_26 (by rw [if_neg (by omega), ← iR, show (many - k).toNat = 0 by omega]; rfl)
      · skip
        refine a_aload_n C dX3_take_15 1 rfl rfl ?_
        refine a_iload_n C dX3_take_16 2 rfl rfl ?_
        refine a_cVV C (k0 := 1) (As := [vI val]) (rest := []) (c_X3_takeOne x.2.1 v τ b hS val hv (by obtain ⟨q1, q2, q3, q4, q5, q6⟩ := iW; exact ⟨q1, q2, q3, q4, q5, by omega⟩)) gX3_take_X3_takeOne rfl (by decide +kernel) (by decide) hS.f0 rfl hS.n0 rfl rfl (Nat.le_of_ble_eq_true rfl) dX3_take_17 (fun u17 p17 => ?_)
        subst u17
        refine a_iinc C (k + 1) [(3, vI (k + 1)), (0, .ref (vq v b)), (1, vI val), (2, vI many)] dX3_take_20 0 rfl (by omega) (by decide) rfl ?_
        refine a_goto C 10 dX3_take_23 (by decide) ?_
        refine ih _ (by omega) (k + 1) _ rfl (by omega) ?_ ?_ ?_
        · have := smOne_W (val := val) iW; rw [show (999999000 : Int) + (k + 1) = 999999000 + k + 1 by omega]; exact this
        · rw [← iR, show (many - k).toNat = (many - (k + 1)).toNat + 1 by omega]; rfl
        · exact hne
  refine a_aload_n C dX3_take_0 0 rfl rfl ?_
  refine a_geti C hS.f0 hS.n0 (Cn := RX3) (T := TX3) (N := 4) rfl iX3 1 (by decide) k15 1 (by decide) rfl dX3_take_1 (fun z1 e1 r1 => ?_)
  refine a_if_ne C 8 r1 dX3_take_4 (by decide) (fun c4 => ?_) (fun c4 => ?_)
  · skip
    refine a_iconst C dX3_take_8 ?_
    refine a_istore_n C 3 [(3, vI 0), (0, .ref (vq v b)), (1, vI val), (2, vI many)] dX3_take_9 rfl (by decide) rfl ?_
    exact lp _ 0 σ rfl (by omega) (by simpa using hs) (by simp) (by omega)
  · skip
    exact hret _ _ _ dX3_take_7 (by rw [if_pos (by omega)])
