/-! ===== the model's errors ===== -/
theorem pe_ord {lv : Int → Int} {a : Int} : ∀ (n : Nat) (w : Int), w = a + n → (itrR (peF lv) a w pe0).2 = -1 ∨ (itrR (peF lv) a w pe0).1 ≤ (itrR (peF lv) a w pe0).2 := by
  intro n
  induction n with
  | zero => intro w h; rw [itrR_nil (by omega)]; exact Or.inl rfl
  | succ n ih =>
    intro w h
    rw [show w = (w - 1) + 1 by omega, itrR_right (by omega)]
    have := ih (w - 1) (by omega)
    unfold peF
    split
    · exact this
    · right; dsimp only; omega
set_option maxHeartbeats 4000000 in
set_option maxRecDepth 100000 in
theorem c_X7_errors (l : Launch) (v : VC) (σ : Mem) (b : Nat) (hM : shMo v b) (cl : Int) (hc : 0 ≤ cl ∧ cl < 3) (lv : Int → Int) (hlv : ∀ j : Int, 0 ≤ j → j < 40 → lv j = if (shR (σ (b + 14)) (40 * cl)) j = 0 then (shR (σ (b + 4)) (40 * cl)) j else -1) (hT : ∀ j : Int, 0 ≤ j → j < 40 → 0 ≤ (shR (σ (b + 4)) (40 * cl)) j ∧ (shR (σ (b + 4)) (40 * cl)) j ≤ 10000) : CtV l yX7_errors wsX7_errors 1 23 v [.ref (vq v b), vI cl] σ (fun u => (∀ a9 b9 : Int, 0 ≤ a9 → a9 ≤ b9 → b9 < 40 → u (b + 18) (40 * a9 + b9) = erI lv a9 b9) ∧ (∀ a : Nat, a ≠ b + 18 → u a = σ a)) := by
  refine mkV (cc := cX7_errors) (n := 6) (by decide +kernel) rfl (Nat.le_of_ble_eq_true rfl) (fun x A Q hx C hret => ?_)
  subst hx
  show At x v A Q _ 0 [(0, .ref (vq v b)), (1, vI cl)] [] σ
  have iX7 : ∀ w ∈ wsX70, w ∈ wsX7_errors := by decide +kernel
  have k54 : Cond.fieldLink RX7 54 (TX7 16).1 (TX7 16).2.1 (TX7 16).2.2.1 ∈ wsX7_errors := by decide +kernel
  have k67 : Cond.fieldLink RX7 67 (TX7 20).1 (TX7 20).2.1 (TX7 20).2.2.1 ∈ wsX7_errors := by decide +kernel
  have k24 : Cond.fieldLink RX7 24 (TX7 6).1 (TX7 6).2.1 (TX7 6).2.2.1 ∈ wsX7_errors := by decide +kernel
  have hl9 : ∀ j : Int, 0 ≤ j → j < 40 → -1 ≤ lv j ∧ lv j ≤ 10000 := fun j q1 q2 => by have := hT j q1 q2; rw [hlv j q1 q2]; split <;> omega
  have lpA : ∀ (n : Nat) (a1 : Int) (τ : Mem) , (40 - a1).toNat = n → (0 ≤ a1 ∧ a1 ≤ 40) → (∀ a9 b9 : Int, 0 ≤ a9 → a9 < a1 → a9 ≤ b9 → b9 < 40 → τ (b + 18) (40 * a9 + b9) = erI lv a9 b9) → (∀ a : Nat, a ≠ b + 18 → τ a = σ a) → At x v A Q 6 2 [(2, vI a1), (0, .ref (vq v b)), (1, vI cl)] [] τ := by
    intro n
    induction n using Nat.strongRecOn with
    | _ n ih =>
      intro a1 τ hn ia iD iF
      refine a_iload_n C dX7_errors_2 0 rfl rfl ?_
      refine a_bipush C dX7_errors_3 ?_
      refine a_icmp_ge C 113 (by omega) (by decide) dX7_errors_5 (by decide) (fun c5 => ?_) (fun c5 => ?_)
      · skip
        have ha40 : a1 = 40 := by omega
        subst ha40
        exact hret _ _ _ dX7_errors_113 ⟨fun a9 b9 q1 q2 q3 => iD a9 b9 q1 (by omega) q2 q3, iF⟩
      · skip
        refine a_ldc C 1000000000 (w := 1000000000) (by decide +kernel) rfl dX7_errors_8 ?_
        refine a_istore_n C 3 [(3, vI 1000000000), (2, vI a1), (0, .ref (vq v b)), (1, vI cl)] dX7_errors_10 rfl (by decide) rfl ?_
        refine a_iconst C dX7_errors_11 ?_
        refine a_istore C [(4, vI (-1)), (3, vI 1000000000), (2, vI a1), (0, .ref (vq v b)), (1, vI cl)] dX7_errors_12 (by decide) rfl ?_
        refine a_iload_n C dX7_errors_14 2 rfl rfl ?_
        refine a_istore C [(5, vI a1), (4, vI (-1)), (3, vI 1000000000), (2, vI a1), (0, .ref (vq v b)), (1, vI cl)] dX7_errors_15 (by decide) rfl ?_
        have ihA := ih
        have lpB : ∀ (n : Nat) (w1 lo hi : Int) (τ : Mem) , (40 - w1).toNat = n → (a1 ≤ w1 ∧ w1 ≤ 40) → (lo, hi) = itrR (peF lv) a1 w1 pe0 → (0 ≤ lo ∧ lo ≤ 1000000000) → (-1 ≤ hi ∧ hi ≤ 10000) → (∀ b9 : Int, a1 ≤ b9 → b9 < w1 → τ (b + 18) (40 * a1 + b9) = erI lv a1 b9) → (∀ a9 b9 : Int, 0 ≤ a9 → a9 < a1 → a9 ≤ b9 → b9 < 40 → τ (b + 18) (40 * a9 + b9) = erI lv a9 b9) → (∀ a : Nat, a ≠ b + 18 → τ a = σ a) → At x v A Q 6 17 [(5, vI w1), (4, vI hi), (3, vI lo), (2, vI a1), (0, .ref (vq v b)), (1, vI cl)] [] τ := by
          intro n
          induction n using Nat.strongRecOn with
          | _ n ih =>
            intro w1 lo hi τ hn jw jP jlo jhi jX iD iF
            refine a_iload C dX7_errors_17 0 rfl ?_
            refine a_bipush C dX7_errors_19 ?_
            refine a_icmp_ge C 107 (by omega) (by decide) dX7_errors_21 (by decide) (fun c21 => ?_) (fun c21 => ?_)
            · skip
              have hw40 : w1 = 40 := by omega
              refine a_iinc C (a1 + 1) [(2, vI (a1 + 1)), (5, vI w1), (4, vI hi), (3, vI lo), (0, .ref (vq v b)), (1, vI cl)] dX7_errors_107 3 rfl (by omega) (by decide) rfl ?_
              refine a_goto C 2 dX7_errors_110 (by decide) ?_
              refine a_sub [0, 4, 5] [(2, vI (a1 + 1)), (0, .ref (vq v b)), (1, vI cl)] rfl ?_
              refine ihA _ (by omega) (a1 + 1) τ rfl (by omega) (fun a9 b9 q1 q2 q3 q4 => ?_) iF
              by_cases z : a9 = a1
              · rw [z]; exact jX b9 (by omega) (by omega)
              · exact iD a9 b9 q1 (by omega) q3 q4
            · skip
              refine a_aload_n C dX7_errors_24 4 rfl rfl ?_
              refine a_getf C hM.f0 hM.n0 (Cn := RX7) (T := TX7) (N := 30) rfl iX7 16 (by decide) k54 (w := .ref (vq v (b + 14))) rfl dX7_errors_25 ?_
              refine a_bipush C dX7_errors_28 ?_
              refine a_iload_n C dX7_errors_30 5 rfl rfl ?_
              refine a_imul C dX7_errors_31 ?_
              refine a_iload C dX7_errors_32 0 rfl ?_
              refine a_iadd C dX7_errors_34 ?_
              refine a_zald C hM.f14 hM.n14 2 hM.tB (by omega) (by omega) (by decide) dX7_errors_35 (fun z35 e35 r35 => ?_)
              rw [iF (b + 14) (by omega), shR_i (σ (b + 14)) (40 * cl) w1 _ rfl] at e35
              have hl8 := hlv w1 (by omega) (by omega)
              have hT8 := hT w1 (by omega) (by omega)
              rw [← e35] at hl8
              refine a_if_ne C 75 r35 dX7_errors_36 (by decide) (fun c36 => ?_) (fun c36 => ?_)
              · skip
                have hl7 : (z35 = 0 ∧ lv w1 = (shR (σ (b + 4)) (40 * cl)) w1) ∨ (z35 ≠ 0 ∧ lv w1 = -1) := by rw [hlv w1 (by omega) (by omega), ← e35]; by_cases z : z35 = 0; (rw [if_pos z]; exact Or.inl ⟨z, rfl⟩); (rw [if_neg z]; exact Or.inr ⟨z, rfl⟩)
                refine a_aload_n C dX7_errors_75 4 rfl rfl ?_
                refine a_getf C hM.f0 hM.n0 (Cn := RX7) (T := TX7) (N := 30) rfl iX7 20 (by decide) k67 (w := .ref (vq v (b + 18))) rfl dX7_errors_76 ?_
                refine a_bipush C dX7_errors_79 ?_
                refine a_iload_n C dX7_errors_81 3 rfl rfl ?_
                refine a_imul C dX7_errors_82 ?_
                refine a_iload C dX7_errors_83 0 rfl ?_
                refine a_iadd C dX7_errors_85 ?_
                refine a_iload C dX7_errors_86 1 rfl ?_
                refine a_iconst C dX7_errors_88 ?_
                refine a_icmp_ne C 96 (by omega) (by decide) dX7_errors_89 (by decide) (fun c89 => ?_) (fun c89 => ?_)
                · skip
                  refine a_iload C dX7_errors_96 1 rfl ?_
                  refine a_iload_n C dX7_errors_98 2 rfl rfl ?_
                  refine a_isub C dX7_errors_99 ?_
                  refine a_iast C hM.f18 hM.n18 0 hM.tI (by omega) (by omega) (by decide) (by omega) dX7_errors_100 ?_
                  refine a_iinc C (w1 + 1) [(5, vI (w1 + 1)), (4, vI hi), (3, vI lo), (2, vI a1), (0, .ref (vq v b)), (1, vI cl)] dX7_errors_101 0 rfl (by omega) (by decide) rfl ?_
                  refine a_goto C 17 dX7_errors_104 (by decide) ?_
                  have hp9 : (lo, hi) = itrR (peF lv) a1 (w1 + 1) pe0 := by
                    rw [itrR_right (by omega), ← jP]
                    unfold peF
                    first | (rw [if_neg (by omega)]; refine Prod.ext ?_ ?_ <;> (dsimp only; omega)) | (rw [if_pos (by omega)])
                  have hv9 : erI lv a1 w1 = plD (lo, hi) := by rw [hp9]; rfl
                  unfold plD at hv9
                  dsimp only at hv9
                  have ho9 := pe_ord (lv := lv) (a := a1) (w1 + 1 - a1).toNat (w1 + 1) (by omega)
                  rw [← hp9] at ho9
                  dsimp only at ho9
                  have hw9 := pe_W hl9 (a := a1) (by omega) (w1 + 1 - a1).toNat (w1 + 1) (by omega) (by omega)
                  rw [← hp9] at hw9
                  unfold peW at hw9
                  dsimp only at hw9
                  refine ih _ (by omega) (w1 + 1) _ _ _ rfl (by omega) hp9 (by omega) (by omega) (fun b9 q1 q2 => ?_) (fun a9 b9 q1 q2 q3 q4 => by rw [sput_j _ _ _ _ _ (by omega)]; exact iD a9 b9 q1 q2 q3 q4) (fun a q => by rw [sput_r q]; exact iF a q)
                  by_cases z : b9 = w1
                  · rw [z, sput_s, hv9]; omega
                  · rw [sput_j _ _ _ _ _ (by omega)]; exact jX b9 q1 (by omega)
                · skip
                  refine a_iconst C dX7_errors_92 ?_
                  refine a_goto C 100 dX7_errors_93 (by decide) ?_
                  refine a_iast C hM.f18 hM.n18 0 hM.tI (by omega) (by omega) (by decide) (by decide) dX7_errors_100 ?_
                  refine a_iinc C (w1 + 1) [(5, vI (w1 + 1)), (4, vI hi), (3, vI lo), (2, vI a1), (0, .ref (vq v b)), (1, vI cl)] dX7_errors_101 0 rfl (by omega) (by decide) rfl ?_
                  refine a_goto C 17 dX7_errors_104 (by decide) ?_
                  have hp9 : (lo, hi) = itrR (peF lv) a1 (w1 + 1) pe0 := by
                    rw [itrR_right (by omega), ← jP]
                    unfold peF
                    first | (rw [if_neg (by omega)]; refine Prod.ext ?_ ?_ <;> (dsimp only; omega)) | (rw [if_pos (by omega)])
                  have hv9 : erI lv a1 w1 = plD (lo, hi) := by rw [hp9]; rfl
                  unfold plD at hv9
                  dsimp only at hv9
                  have ho9 := pe_ord (lv := lv) (a := a1) (w1 + 1 - a1).toNat (w1 + 1) (by omega)
                  rw [← hp9] at ho9
                  dsimp only at ho9
                  have hw9 := pe_W hl9 (a := a1) (by omega) (w1 + 1 - a1).toNat (w1 + 1) (by omega) (by omega)
                  rw [← hp9] at hw9
                  unfold peW at hw9
                  dsimp only at hw9
                  refine ih _ (by omega) (w1 + 1) _ _ _ rfl (by omega) hp9 (by omega) (by omega) (fun b9 q1 q2 => ?_) (fun a9 b9 q1 q2 q3 q4 => by rw [sput_j _ _ _ _ _ (by omega)]; exact iD a9 b9 q1 q2 q3 q4) (fun a q => by rw [sput_r q]; exact iF a q)
                  by_cases z : b9 = w1
                  · rw [z, sput_s, hv9]; omega
                  · rw [sput_j _ _ _ _ _ (by omega)]; exact jX b9 q1 (by omega)
              · skip
                refine a_iload_n C dX7_errors_39 2 rfl rfl ?_
                refine a_aload_n C dX7_errors_40 4 rfl rfl ?_
                refine a_getf C hM.f0 hM.n0 (Cn := RX7) (T := TX7) (N := 30) rfl iX7 6 (by decide) k24 (w := .ref (vq v (b + 4))) rfl dX7_errors_41 ?_
                refine a_bipush C dX7_errors_44 ?_
                refine a_iload_n C dX7_errors_46 5 rfl rfl ?_
                refine a_imul C dX7_errors_47 ?_
                refine a_iload C dX7_errors_48 0 rfl ?_
                refine a_iadd C dX7_errors_50 ?_
                refine a_iald C hM.f4 hM.n4 0 hM.tI (by omega) (by omega) (by decide) dX7_errors_51 (fun z51 e51 r51 => ?_)
                rw [if_pos (by omega)] at hl8
                rw [iF (b + 4) (by omega), shR_i (σ (b + 4)) (40 * cl) w1 _ rfl, ← hl8] at e51
                refine a_mmin C (by omega) r51 (by decide +kernel) ⟨by decide, Nat.le_of_ble_eq_true rfl⟩ dX7_errors_52 ?_
                obtain ⟨z52, e52⟩ : ∃ w : Int, w = min lo z51 := ⟨_, rfl⟩
                rw [← e52]
                refine a_istore_n C 3 [(3, vI z52), (5, vI w1), (4, vI hi), (2, vI a1), (0, .ref (vq v b)), (1, vI cl)] dX7_errors_55 rfl (by decide) rfl ?_
                refine a_iload C dX7_errors_56 2 rfl ?_
                refine a_aload_n C dX7_errors_58 4 rfl rfl ?_
                refine a_getf C hM.f0 hM.n0 (Cn := RX7) (T := TX7) (N := 30) rfl iX7 6 (by decide) k24 (w := .ref (vq v (b + 4))) rfl dX7_errors_59 ?_
                refine a_bipush C dX7_errors_62 ?_
                refine a_iload_n C dX7_errors_64 5 rfl rfl ?_
                refine a_imul C dX7_errors_65 ?_
                refine a_iload C dX7_errors_66 1 rfl ?_
                refine a_iadd C dX7_errors_68 ?_
                refine a_iald C hM.f4 hM.n4 0 hM.tI (by omega) (by omega) (by decide) dX7_errors_69 (fun z69 e69 r69 => ?_)
                rw [iF (b + 4) (by omega), shR_i (σ (b + 4)) (40 * cl) w1 _ rfl, ← hl8] at e69
                refine a_mmax C (by omega) r69 (by decide +kernel) ⟨by decide, Nat.le_of_ble_eq_true rfl⟩ dX7_errors_70 ?_
                obtain ⟨z70, e70⟩ : ∃ w : Int, w = max hi z69 := ⟨_, rfl⟩
                rw [← e70]
                refine a_istore C [(4, vI z70), (3, vI z52), (5, vI w1), (2, vI a1), (0, .ref (vq v b)), (1, vI cl)] dX7_errors_73 (by decide) rfl ?_
                have hl7 : (z35 = 0 ∧ lv w1 = (shR (σ (b + 4)) (40 * cl)) w1) ∨ (z35 ≠ 0 ∧ lv w1 = -1) := by rw [hlv w1 (by omega) (by omega), ← e35]; by_cases z : z35 = 0; (rw [if_pos z]; exact Or.inl ⟨z, rfl⟩); (rw [if_neg z]; exact Or.inr ⟨z, rfl⟩)
                refine a_aload_n C dX7_errors_75 4 rfl rfl ?_
                refine a_getf C hM.f0 hM.n0 (Cn := RX7) (T := TX7) (N := 30) rfl iX7 20 (by decide) k67 (w := .ref (vq v (b + 18))) rfl dX7_errors_76 ?_
                refine a_bipush C dX7_errors_79 ?_
                refine a_iload_n C dX7_errors_81 3 rfl rfl ?_
                refine a_imul C dX7_errors_82 ?_
                refine a_iload C dX7_errors_83 2 rfl ?_
                refine a_iadd C dX7_errors_85 ?_
                refine a_iload C dX7_errors_86 0 rfl ?_
                refine a_iconst C dX7_errors_88 ?_
                refine a_icmp_ne C 96 (by omega) (by decide) dX7_errors_89 (by decide) (fun c89 => ?_) (fun c89 => ?_)
                · skip
                  refine a_iload C dX7_errors_96 0 rfl ?_
                  refine a_iload_n C dX7_errors_98 1 rfl rfl ?_
                  refine a_isub C dX7_errors_99 ?_
                  refine a_iast C hM.f18 hM.n18 0 hM.tI (by omega) (by omega) (by decide) (by omega) dX7_errors_100 ?_
                  refine a_iinc C (w1 + 1) [(5, vI (w1 + 1)), (4, vI z70), (3, vI z52), (2, vI a1), (0, .ref (vq v b)), (1, vI cl)] dX7_errors_101 2 rfl (by omega) (by decide) rfl ?_
                  refine a_goto C 17 dX7_errors_104 (by decide) ?_
                  have hp9 : (z52, z70) = itrR (peF lv) a1 (w1 + 1) pe0 := by
                    rw [itrR_right (by omega), ← jP]
                    unfold peF
                    first | (rw [if_neg (by omega)]; refine Prod.ext ?_ ?_ <;> (dsimp only; omega)) | (rw [if_pos (by omega)])
                  have hv9 : erI lv a1 w1 = plD (z52, z70) := by rw [hp9]; rfl
                  unfold plD at hv9
                  dsimp only at hv9
                  have ho9 := pe_ord (lv := lv) (a := a1) (w1 + 1 - a1).toNat (w1 + 1) (by omega)
                  rw [← hp9] at ho9
                  dsimp only at ho9
                  have hw9 := pe_W hl9 (a := a1) (by omega) (w1 + 1 - a1).toNat (w1 + 1) (by omega) (by omega)
                  rw [← hp9] at hw9
                  unfold peW at hw9
                  dsimp only at hw9
                  refine ih _ (by omega) (w1 + 1) _ _ _ rfl (by omega) hp9 (by omega) (by omega) (fun b9 q1 q2 => ?_) (fun a9 b9 q1 q2 q3 q4 => by rw [sput_j _ _ _ _ _ (by omega)]; exact iD a9 b9 q1 q2 q3 q4) (fun a q => by rw [sput_r q]; exact iF a q)
                  by_cases z : b9 = w1
                  · rw [z, sput_s, hv9]; omega
                  · rw [sput_j _ _ _ _ _ (by omega)]; exact jX b9 q1 (by omega)
                · skip
                  refine a_iconst C dX7_errors_92 ?_
                  refine a_goto C 100 dX7_errors_93 (by decide) ?_
                  refine a_iast C hM.f18 hM.n18 0 hM.tI (by omega) (by omega) (by decide) (by decide) dX7_errors_100 ?_
                  refine a_iinc C (w1 + 1) [(5, vI (w1 + 1)), (4, vI z70), (3, vI z52), (2, vI a1), (0, .ref (vq v b)), (1, vI cl)] dX7_errors_101 2 rfl (by omega) (by decide) rfl ?_
                  refine a_goto C 17 dX7_errors_104 (by decide) ?_
                  have hp9 : (z52, z70) = itrR (peF lv) a1 (w1 + 1) pe0 := by
                    rw [itrR_right (by omega), ← jP]
                    unfold peF
                    first | (rw [if_neg (by omega)]; refine Prod.ext ?_ ?_ <;> (dsimp only; omega)) | (rw [if_pos (by omega)])
                  have hv9 : erI lv a1 w1 = plD (z52, z70) := by rw [hp9]; rfl
                  unfold plD at hv9
                  dsimp only at hv9
                  have ho9 := pe_ord (lv := lv) (a := a1) (w1 + 1 - a1).toNat (w1 + 1) (by omega)
                  rw [← hp9] at ho9
                  dsimp only at ho9
                  have hw9 := pe_W hl9 (a := a1) (by omega) (w1 + 1 - a1).toNat (w1 + 1) (by omega) (by omega)
                  rw [← hp9] at hw9
                  unfold peW at hw9
                  dsimp only at hw9
                  refine ih _ (by omega) (w1 + 1) _ _ _ rfl (by omega) hp9 (by omega) (by omega) (fun b9 q1 q2 => ?_) (fun a9 b9 q1 q2 q3 q4 => by rw [sput_j _ _ _ _ _ (by omega)]; exact iD a9 b9 q1 q2 q3 q4) (fun a q => by rw [sput_r q]; exact iF a q)
                  by_cases z : b9 = w1
                  · rw [z, sput_s, hv9]; omega
                  · rw [sput_j _ _ _ _ _ (by omega)]; exact jX b9 q1 (by omega)
        exact lpB _ a1 1000000000 (-1) τ rfl (by omega) (by rw [itrR_nil (by omega)]; rfl) (by omega) (by omega) (fun b9 q1 q2 => by omega) iD iF
  refine a_iconst C dX7_errors_0 ?_
  refine a_istore_n C 2 [(2, vI 0), (0, .ref (vq v b)), (1, vI cl)] dX7_errors_1 rfl (by decide) rfl ?_
  exact lpA _ 0 σ rfl (by omega) (fun a9 b9 q1 q2 q3 q4 => by omega) (fun _ _ => rfl)
