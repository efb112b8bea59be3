/-! ===== the model's TOGETHER ===== -/
/-- the cuts so far: below v, in order, and every end below v is one of them -/
def kvI (K E : Int → Int) (n v p : Int) : Prop := (∀ j : Int, 0 ≤ j → j < p → 0 ≤ K j ∧ K j < v) ∧ (∀ i j : Int, 0 ≤ i → i < j → j < p → K i < K j) ∧ ∀ k : Int, 0 ≤ k → k < n → E k < v → ∃ j : Int, 0 ≤ j ∧ j < p ∧ K j = E k
theorem kv_skip {K E C D : Int → Int} {n v p : Int} (hE : svE (n, E, C, D)) (hv : v ≤ 39) (h : kvI K E n v p) (a : ¬ E (spOf E n v) = v) : kvI K E n (v + 1) p := by
  refine ⟨fun j q1 q2 => by have := h.1 j q1 q2; omega, h.2.1, fun k k0 k1 k2 => ?_⟩
  by_cases q : E k < v
  · exact h.2.2 k k0 k1 q
  · exfalso
    obtain ⟨b0, b1, b2, b3⟩ := spOf_in hE (v := v) hv
    dsimp only at b0 b1 b2 b3
    rcases Int.lt_trichotomy k (spOf E n v) with z | z | z
    · have := b2 k k0 z; omega
    · rw [← z] at a; omega
    · have h4 := hE.2.2.2.1 (spOf E n v) k b0 z k1
      dsimp only at h4
      omega
theorem kv_cut {K K' E C D : Int → Int} {n v p : Int} (hE : svE (n, E, C, D)) (hv0 : 0 ≤ v) (hp : 0 ≤ p) (h : kvI K E n v p) (hK : ∀ j : Int, 0 ≤ j → j < p → K' j = K j) (hKp : K' p = v) : kvI K' E n (v + 1) (p + 1) := by
  refine ⟨fun j q1 q2 => ?_, fun i j q1 q2 q3 => ?_, fun k k0 k1 k2 => ?_⟩
  · by_cases z : j = p
    · rw [z, hKp]; omega
    · rw [hK j q1 (by omega)]; have := h.1 j q1 (by omega); omega
  · by_cases z : j = p
    · rw [z, hKp, hK i q1 (by omega)]; exact (h.1 i q1 (by omega)).2
    · rw [hK i q1 (by omega), hK j (by omega) (by omega)]; exact h.2.1 i j q1 q2 (by omega)
  · by_cases q : E k < v
    · obtain ⟨j, j0, j1, j2⟩ := h.2.2 k k0 k1 q
      exact ⟨j, j0, by omega, by rw [hK j j0 j1]; exact j2⟩
    · exact ⟨p, hp, by omega, by rw [hKp]; omega⟩
theorem kv_ku {K E C D : Int → Int} {n P : Int} (hE : svE (n, E, C, D)) (h : kvI K E n 40 P) (hP : 1 ≤ P ∧ P ≤ 24) (hl : K (P - 1) = 39) : kuI K E n P :=
  ⟨hP, fun j q1 q2 => by have := h.1 j q1 q2; omega, h.2.1, hl, fun k k0 k1 => h.2.2 k k0 k1 (by have h3 := hE.2.2.1 k k0 k1; dsimp only at h3; omega)⟩
/-- the walk's end: the last cut is the last value -/
def enI (h ho K : Int → Int) (S So : SV) (p : Int) : Prop := ∃ p0 : Int, p = p0 + 1 ∧ 0 ≤ p0 ∧ ∃ κ : Int → Int, wkI h ho κ S So 39 p0 ∧ (∀ j : Int, 0 ≤ j → j < p0 → K j = κ j) ∧ K p0 = 39
theorem l1_tk {h ho : Int → Int} {S So : SV} (hI0 : tkI 0 (S, So)) (h1 : svD S) (h2 : svD So) : ∀ n : Nat, n ≤ 39 → tkI n (itrR (tkS h ho) 0 n (S, So)) ∧ (l1 (itrR (tkS h ho) 0 n (S, So)).1 ≤ l1 S ∧ svD (itrR (tkS h ho) 0 n (S, So)).1) ∧ l1 (itrR (tkS h ho) 0 n (S, So)).2 ≤ l1 So ∧ svD (itrR (tkS h ho) 0 n (S, So)).2 := by
  intro n
  induction n with
  | zero => intro _; rw [itrR_nil (by omega)]; exact ⟨hI0, ⟨Int.le_refl _, h1⟩, Int.le_refl _, h2⟩
  | succ n ih =>
    intro hn
    obtain ⟨i1, i2, i3⟩ := ih (by omega)
    rw [show ((n + 1 : Nat) : Int) = (n : Int) + 1 by omega, itrR_right (by omega)]
    generalize itrR (tkS h ho) 0 n (S, So) = st at *
    obtain ⟨k0, k1, k2, k3⟩ := spOf_in i1.1 (v := n) (by omega)
    obtain ⟨q0, q1, q2, q3⟩ := spOf_in i1.2.1 (v := n) (by omega)
    refine ⟨tkI_step (by omega) (by omega) i1, ?_, ?_⟩
    · unfold tkS
      dsimp only
      split
      · exact ⟨by have := l1_cut (h := h) (val := n) k0 k1; omega, svD_cut i2.2 k0 k1⟩
      · exact i2
    · unfold tkS
      dsimp only
      split
      · exact ⟨by have := l1_cut (h := ho) (val := n) q0 q1; omega, svD_cut i3.2 q0 q1⟩
      · exact i3
set_option maxHeartbeats 4000000 in
set_option maxRecDepth 100000 in
theorem c_X7_together (l : Launch) (v : VC) (σ : Mem) (b : Nat) (hM : shMo v b) (i1 i2 : Int) (h1 : rg i1) (h2 : rg i2) (hK : ∀ c : Int, 0 ≤ c → c < 3 → moK σ b c) (hG : (0 ≤ i1 ∧ i1 < 3) → (0 ≤ i2 ∧ i2 < 3) → i1 ≠ i2 → (σ (b + 11) i1) ≠ 0 → (σ (b + 11) i2) ≠ 0 → (hvS (shR (σ (b + 14)) (40 * i1)) (shR (σ (b + 13)) (40 * i1)) 0 39 + (smR (shR (σ (b + 16)) (40 * i1)) 0 (σ (b + 11) i1) + smR (shR (σ (b + 17)) (40 * i1)) 0 (σ (b + 11) i1))) + (hvS (shR (σ (b + 14)) (40 * i2)) (shR (σ (b + 13)) (40 * i2)) 0 39 + (smR (shR (σ (b + 16)) (40 * i2)) 0 (σ (b + 11) i2) + smR (shR (σ (b + 17)) (40 * i2)) 0 (σ (b + 11) i2))) ≤ 100000 → l1 (moV σ b i1) ≤ 2000000 ∧ l1 (moV σ b i2) ≤ 2000000 ∧ ∀ j : Int, 0 ≤ j → j < 40 → (shR (σ (b + 14)) (40 * i2)) j ≠ 0 → -200000 ≤ (shR (σ (b + 13)) (40 * i2)) j ∧ (shR (σ (b + 13)) (40 * i2)) j ≤ 200000) : CtI l yX7_together wsX7_together 4 96 v [.ref (vq v b), vI i1, vI i2] σ (fun z u => (if ¬ ((0 ≤ i1 ∧ i1 < 3) ∧ (0 ≤ i2 ∧ i2 < 3) ∧ i1 ≠ i2) then (z = -1 ∧ u = sput σ b 0 1) else (if (σ (b + 11) i1) = 0 ∨ (σ (b + 11) i2) = 0 then (z = -1 ∧ u = sput σ b 0 5) else (if 100000 < (hvS (shR (σ (b + 14)) (40 * i1)) (shR (σ (b + 13)) (40 * i1)) 0 39 + (smR (shR (σ (b + 16)) (40 * i1)) 0 (σ (b + 11) i1) + smR (shR (σ (b + 17)) (40 * i1)) 0 (σ (b + 11) i1))) + (hvS (shR (σ (b + 14)) (40 * i2)) (shR (σ (b + 13)) (40 * i2)) 0 39 + (smR (shR (σ (b + 16)) (40 * i2)) 0 (σ (b + 11) i2) + smR (shR (σ (b + 17)) (40 * i2)) 0 (σ (b + 11) i2))) then (z = -1 ∧ u = sput σ b 0 4) else (z = u (b + 11) i1 ∧ moV u b i1 = (tkV (shR (σ (b + 14)) (40 * i1)) (shR (σ (b + 14)) (40 * i2)) (shR (σ (b + 13)) (40 * i2)) (moV σ b i1) (moV σ b i2)) ∧ (∀ j : Int, 0 ≤ j → j < 40 → u (b + 13) (40 * i1 + j) = if (shR (σ (b + 14)) (40 * i1)) j ≠ 0 ∧ (shR (σ (b + 14)) (40 * i2)) j ≠ 0 then σ (b + 13) (40 * i1 + j) + (shR (σ (b + 13)) (40 * i2)) j else σ (b + 13) (40 * i1 + j)) ∧ u (b + 12) i1 = 0 ∧ u b 0 = 0 ∧ (∀ a : Nat, a ≠ b → a ≠ b + 11 → a ≠ b + 12 → a ≠ b + 13 → a ≠ b + 15 → a ≠ b + 16 → a ≠ b + 17 → a ≠ b + 21 → a ≠ b + 22 → a ≠ b + 23 → u a = σ a) ∧ (∀ j : Int, j ≠ 0 → j ≠ 23 → j ≠ 24 → j ≠ 25 → j ≠ 26 → u b j = σ b j) ∧ (∀ j : Int, j ≠ i1 → u (b + 11) j = σ (b + 11) j ∧ u (b + 12) j = σ (b + 12) j) ∧ ∀ j : Int, j < 40 * i1 ∨ 40 * i1 + 40 ≤ j → u (b + 13) j = σ (b + 13) j ∧ u (b + 15) j = σ (b + 15) j ∧ u (b + 16) j = σ (b + 16) j ∧ u (b + 17) j = σ (b + 17) j))))) := by
  refine mkI (cc := cX7_together) (n := 7) (by decide +kernel) rfl (Nat.le_of_ble_eq_true rfl) (fun x A Q hx C hret => ?_)
  subst hx
  show At x v A Q _ 0 [(0, .ref (vq v b)), (1, vI i1), (2, vI i2)] [] σ
  have iX7 : ∀ w ∈ wsX70, w ∈ wsX7_together := by decide +kernel
  have k45 : Cond.fieldLink RX7 45 (TX7 13).1 (TX7 13).2.1 (TX7 13).2.2.1 ∈ wsX7_together := by decide +kernel
  have k58 : Cond.fieldLink RX7 58 (TX7 17).1 (TX7 17).2.1 (TX7 17).2.2.1 ∈ wsX7_together := by decide +kernel
  have k76 : Cond.fieldLink RX7 76 (TX7 27).1 (TX7 27).2.1 (TX7 27).2.2.1 ∈ wsX7_together := by decide +kernel
  have k79 : Cond.fieldLink RX7 79 (TX7 28).1 (TX7 28).2.1 (TX7 28).2.2.1 ∈ wsX7_together := by decide +kernel
  have k82 : Cond.fieldLink RX7 82 (TX7 29).1 (TX7 29).2.1 (TX7 29).2.2.1 ∈ wsX7_together := by decide +kernel
  have k48 : Cond.fieldLink RX7 48 (TX7 14).1 (TX7 14).2.1 (TX7 14).2.2.1 ∈ wsX7_together := by decide +kernel
  have k85 : Cond.fieldLink RX7 85 (TX7 0).1 (TX7 0).2.1 (TX7 0).2.2.1 ∈ wsX7_together := by decide +kernel
  have k61 : Cond.fieldLink RX7 61 (TX7 18).1 (TX7 18).2.1 (TX7 18).2.2.1 ∈ wsX7_together := by decide +kernel
  have k64 : Cond.fieldLink RX7 64 (TX7 19).1 (TX7 19).2.1 (TX7 19).2.2.1 ∈ wsX7_together := by decide +kernel
  have k54 : Cond.fieldLink RX7 54 (TX7 16).1 (TX7 16).2.1 (TX7 16).2.2.1 ∈ wsX7_together := by decide +kernel
  have k51 : Cond.fieldLink RX7 51 (TX7 15).1 (TX7 15).2.1 (TX7 15).2.2.1 ∈ wsX7_together := by decide +kernel
  refine a_iload_n C dX7_together_0 1 rfl rfl ?_
  refine a_cSI C (k0 := 1) (As := [vI i1]) (rest := []) (c_X7_isColumn x.2.1 v σ i1 (by omega)) gX7_together_X7_isColumn rfl (by decide +kernel) (by decide) rfl rfl (Nat.le_of_ble_eq_true rfl) dX7_together_1 (fun z1 u1 r1 p1 => ?_)
  obtain ⟨e1, p1⟩ := p1
  subst u1
  have q1 := zz e1
  refine a_if_eq C 19 r1 dX7_together_4 (by decide) (fun c4 => ?_) (fun c4 => ?_)
  · skip
    refine a_aload_n C dX7_together_19 0 rfl rfl ?_
    refine a_iconst C dX7_together_20 ?_
    refine a_cVI C (k0 := 1) (As := [vI 1]) (rest := []) (c_X7_refuse x.2.1 v σ b hM 1 (by omega)) gX7_together_X7_refuse rfl (by decide +kernel) (by decide) hM.f0 rfl hM.n0 rfl rfl (Nat.le_of_ble_eq_true rfl) dX7_together_21 (fun z21 u21 r21 p21 => ?_)
    obtain ⟨e21, p21⟩ := p21
    subst u21
    refine hret _ _ _ _ dX7_together_24 (by omega) ?_
    (repeat (first | rw [if_pos (by omega)] | rw [if_neg (by omega)]))
    exact ⟨by omega, rfl⟩
  · skip
    refine a_iload_n C dX7_together_7 2 rfl rfl ?_
    refine a_cSI C (k0 := 1) (As := [vI i2]) (rest := []) (c_X7_isColumn x.2.1 v σ i2 (by omega)) gX7_together_X7_isColumn rfl (by decide +kernel) (by decide) rfl rfl (Nat.le_of_ble_eq_true rfl) dX7_together_8 (fun z8 u8 r8 p8 => ?_)
    obtain ⟨e8, p8⟩ := p8
    subst u8
    have q8 := zz e8
    refine a_if_eq C 19 r8 dX7_together_11 (by decide) (fun c11 => ?_) (fun c11 => ?_)
    · skip
      refine a_aload_n C dX7_together_19 0 rfl rfl ?_
      refine a_iconst C dX7_together_20 ?_
      refine a_cVI C (k0 := 1) (As := [vI 1]) (rest := []) (c_X7_refuse x.2.1 v σ b hM 1 (by omega)) gX7_together_X7_refuse rfl (by decide +kernel) (by decide) hM.f0 rfl hM.n0 rfl rfl (Nat.le_of_ble_eq_true rfl) dX7_together_21 (fun z21 u21 r21 p21 => ?_)
      obtain ⟨e21, p21⟩ := p21
      subst u21
      refine hret _ _ _ _ dX7_together_24 (by omega) ?_
      (repeat (first | rw [if_pos (by omega)] | rw [if_neg (by omega)]))
      exact ⟨by omega, rfl⟩
    · skip
      refine a_iload_n C dX7_together_14 1 rfl rfl ?_
      refine a_iload_n C dX7_together_15 2 rfl rfl ?_
      refine a_icmp_ne C 25 (by omega) (by omega) dX7_together_16 (by decide) (fun c16 => ?_) (fun c16 => ?_)
      · skip
        refine a_aload_n C dX7_together_25 0 rfl rfl ?_
        refine a_getf C hM.f0 hM.n0 (Cn := RX7) (T := TX7) (N := 30) rfl iX7 13 (by decide) k45 (w := .ref (vq v (b + 11))) rfl dX7_together_26 ?_
        refine a_iload_n C dX7_together_29 1 rfl rfl ?_
        refine a_iald C hM.f11 hM.n11 0 hM.tI (by omega) (by omega) (by decide) dX7_together_30 (fun z30 e30 r30 => ?_)
        refine a_if_eq C 43 r30 dX7_together_31 (by decide) (fun c31 => ?_) (fun c31 => ?_)
        · skip
          refine a_aload_n C dX7_together_43 0 rfl rfl ?_
          refine a_iconst C dX7_together_44 ?_
          refine a_cVI C (k0 := 1) (As := [vI 5]) (rest := []) (c_X7_refuse x.2.1 v σ b hM 5 (by omega)) gX7_together_X7_refuse rfl (by decide +kernel) (by decide) hM.f0 rfl hM.n0 rfl rfl (Nat.le_of_ble_eq_true rfl) dX7_together_45 (fun z45 u45 r45 p45 => ?_)
          obtain ⟨e45, p45⟩ := p45
          subst u45
          refine hret _ _ _ _ dX7_together_48 (by omega) ?_
          (repeat (first | rw [if_pos (by omega)] | rw [if_neg (by omega)]))
          exact ⟨by omega, rfl⟩
        · skip
          refine a_aload_n C dX7_together_34 0 rfl rfl ?_
          refine a_getf C hM.f0 hM.n0 (Cn := RX7) (T := TX7) (N := 30) rfl iX7 13 (by decide) k45 (w := .ref (vq v (b + 11))) rfl dX7_together_35 ?_
          refine a_iload_n C dX7_together_38 2 rfl rfl ?_
          refine a_iald C hM.f11 hM.n11 0 hM.tI (by omega) (by omega) (by decide) dX7_together_39 (fun z39 e39 r39 => ?_)
          refine a_if_ne C 49 r39 dX7_together_40 (by decide) (fun c40 => ?_) (fun c40 => ?_)
          · skip
            have k1_ := hK i1 (by omega) (by omega)
            have k2_ := hK i2 (by omega) (by omega)
            obtain ⟨kN1, kE1, kB1, kH1, -, -, -⟩ := k1_
            obtain ⟨kN2, kE2, kB2, kH2_, -, -, -⟩ := k2_
            have kE1 := kE1 (by omega)
            have kE2 := kE2 (by omega)
            refine a_aload_n C dX7_together_49 0 rfl rfl ?_
            refine a_iload_n C dX7_together_50 1 rfl rfl ?_
            refine a_cVI C (k0 := 1) (As := [vI i1]) (rest := []) (c_X7_load x.2.1 v σ b hM i1 (by omega) kE1 (fun j q1 q2 => by have := kB1 j q1 q2; omega) (fun j q1 q2 => by have := kH1 j q1 q2; omega)) gX7_together_X7_load rfl (by decide +kernel) (by decide) hM.f0 rfl hM.n0 rfl rfl (Nat.le_of_ble_eq_true rfl) dX7_together_51 (fun z51 u51 r51 p51 => ?_)
            obtain ⟨e51, p51⟩ := p51
            subst u51
            have b51 : -1000000000 ≤ z51 ∧ z51 ≤ 1000000000 := by have g1 := smR_bd (f := (shR (σ (b + 16)) (40 * i1))) (a := 0) (b := (σ (b + 11) i1)) (fun j q1 q2 => (kB1 j q1 q2).1) (by omega); have g2 := smR_bd (f := (shR (σ (b + 17)) (40 * i1))) (a := 0) (b := (σ (b + 11) i1)) (fun j q1 q2 => (kB1 j q1 q2).2) (by omega); have g3 := hvS_bd (h := (shR (σ (b + 14)) (40 * i1))) (M := 4000000) (by decide) kH1 0 39; omega
            refine a_aload_n C dX7_together_54 0 rfl rfl ?_
            refine a_iload_n C dX7_together_55 2 rfl rfl ?_
            refine a_cVI C (k0 := 1) (As := [vI i2]) (rest := [vI z51]) (c_X7_load x.2.1 v σ b hM i2 (by omega) kE2 (fun j q1 q2 => by have := kB2 j q1 q2; omega) (fun j q1 q2 => by have := kH2_ j q1 q2; omega)) gX7_together_X7_load rfl (by decide +kernel) (by decide) hM.f0 rfl hM.n0 rfl rfl (Nat.le_of_ble_eq_true rfl) dX7_together_56 (fun z56 u56 r56 p56 => ?_)
            obtain ⟨e56, p56⟩ := p56
            subst u56
            have b56 : -1000000000 ≤ z56 ∧ z56 ≤ 1000000000 := by have g1 := smR_bd (f := (shR (σ (b + 16)) (40 * i2))) (a := 0) (b := (σ (b + 11) i2)) (fun j q1 q2 => (kB2 j q1 q2).1) (by omega); have g2 := smR_bd (f := (shR (σ (b + 17)) (40 * i2))) (a := 0) (b := (σ (b + 11) i2)) (fun j q1 q2 => (kB2 j q1 q2).2) (by omega); have g3 := hvS_bd (h := (shR (σ (b + 14)) (40 * i2))) (M := 4000000) (by decide) kH2_ 0 39; omega
            refine a_iadd C dX7_together_59 ?_
            refine a_ldc C 100000 (w := 100000) (by decide +kernel) rfl dX7_together_60 ?_
            refine a_icmp_le C 71 (by omega) (by decide) dX7_together_62 (by decide) (fun c62 => ?_) (fun c62 => ?_)
            · skip
              obtain ⟨gl1, gl2, kH2⟩ := hG (by omega) (by omega) (by omega) (by omega) (by omega) (by omega)
              have gS1 : svE (moV σ b i1) := svE_mo.mpr kE1
              have gS2 : svE (moV σ b i2) := svE_mo.mpr kE2
              have gD1 : svD (moV σ b i1) := fun j q1 q2 => by simp only [moV]; rw [mkR_in q1 (show j < (σ (b + 11) i1) from q2)]; exact (kB1 j q1 q2).2
              have gD2 : svD (moV σ b i2) := fun j q1 q2 => by simp only [moV]; rw [mkR_in q1 (show j < (σ (b + 11) i2) from q2)]; exact (kB2 j q1 q2).2
              refine a_iconst C dX7_together_71 ?_
              refine a_istore_n C 3 [(3, vI 0), (0, .ref (vq v b)), (1, vI i1), (2, vI i2)] dX7_together_72 rfl (by decide) rfl ?_
              refine a_iconst C dX7_together_73 ?_
              refine a_istore C [(4, vI 0), (3, vI 0), (0, .ref (vq v b)), (1, vI i1), (2, vI i2)] dX7_together_74 (by decide) rfl ?_
              have l161 : ∀ (P p0 : Int) (κ0 : Int → Int) (τ : Mem), P = p0 + 1 → 0 ≤ p0 → wkI (shR (σ (b + 14)) (40 * i1)) (shR (σ (b + 14)) (40 * i2)) κ0 (moV σ b i1) (moV σ b i2) 39 p0 → (∀ j : Int, 0 ≤ j → j < p0 → τ (b + 21) j = κ0 j) → τ (b + 21) p0 = 39 → kvI (τ (b + 21)) (shR (σ (b + 15)) (40 * i1)) (σ (b + 11) i1) 40 P → kvI (τ (b + 21)) (shR (σ (b + 15)) (40 * i2)) (σ (b + 11) i2) 40 P → (∀ j : Int, 0 ≤ j → j < P → τ (b + 22) j = 0 ∧ τ (b + 23) j = 0) → (∀ a : Nat, a ≠ b + 21 → a ≠ b + 22 → a ≠ b + 23 → τ a = σ a) → At x v A Q 7 161 [(4, vI 40), (3, vI P), (0, .ref (vq v b)), (1, vI i1), (2, vI i2)] [] τ := by
                intro P p0 κ0 τ hp0 hp1 hw hk1 hk2 iK1 iK2 iZ iF
                obtain ⟨κ, hκ⟩ : ∃ f : Int → Int, f = τ (b + 21) := ⟨_, rfl⟩
                have hend := wkI_end (K' := κ) gS1 gS2 hp1 hw (fun j q1 q2 => by rw [hκ]; exact hk1 j q1 q2) (by rw [hκ]; exact hk2)
                rw [← hp0] at hend
                obtain ⟨w1_, w2_, w3_, w4_, w5_, w6_⟩ := hend
                have hku1 : kuI κ (shR (σ (b + 15)) (40 * i1)) (σ (b + 11) i1) P := kv_ku kE1 (by rw [hκ]; exact iK1) (by omega) (by rw [hκ, show P - 1 = p0 by omega]; exact hk2)
                have hku2 : kuI κ (shR (σ (b + 15)) (40 * i2)) (σ (b + 11) i2) P := kv_ku kE2 (by rw [hκ]; exact iK2) (by omega) (by rw [hκ, show P - 1 = p0 by omega]; exact hk2)
                have hI0 : tkI 0 ((moV σ b i1), (moV σ b i2)) := (wkI_0 (h := (shR (σ (b + 14)) (40 * i1))) (ho := (shR (σ (b + 14)) (40 * i2))) (K := κ) gS1 gS2 cnS_mk cnS_mk (by show σ (b + 11) i1 + σ (b + 11) i2 ≤ 24; omega)).2.1
                have hl := (l1_tk (h := (shR (σ (b + 14)) (40 * i1))) (ho := (shR (σ (b + 14)) (40 * i2))) hI0 gD1 gD2 39 (by omega)).2
                rw [show ((39 : Nat) : Int) = 39 from rfl, w1_] at hl
                dsimp only at hl
                have hl1 := hl.1
                have hl2 := hl.2
                have hT1 : ∀ j : Int, 0 ≤ j → j < P → (-2000000 ≤ (itrR (rfS (shR (σ (b + 14)) (40 * i1)) κ) 0 P (moV σ b i1)).2.2.1 j ∧ (itrR (rfS (shR (σ (b + 14)) (40 * i1)) κ) 0 P (moV σ b i1)).2.2.1 j ≤ 2000000) ∧ 0 ≤ (itrR (rfS (shR (σ (b + 14)) (40 * i1)) κ) 0 P (moV σ b i1)).2.2.2 j ∧ (itrR (rfS (shR (σ (b + 14)) (40 * i1)) κ) 0 P (moV σ b i1)).2.2.2 j ≤ 1000000 := fun j j0 j1 => ⟨by have := l1_at (S := (itrR (rfS (shR (σ (b + 14)) (40 * i1)) κ) 0 P (moV σ b i1))) j0 (by omega); omega, hl1.2 j j0 (by omega)⟩
                have hT2 : ∀ j : Int, 0 ≤ j → j < P → (-2000000 ≤ (itrR (rfS (shR (σ (b + 14)) (40 * i2)) κ) 0 P (moV σ b i2)).2.2.1 j ∧ (itrR (rfS (shR (σ (b + 14)) (40 * i2)) κ) 0 P (moV σ b i2)).2.2.1 j ≤ 2000000) ∧ 0 ≤ (itrR (rfS (shR (σ (b + 14)) (40 * i2)) κ) 0 P (moV σ b i2)).2.2.2 j ∧ (itrR (rfS (shR (σ (b + 14)) (40 * i2)) κ) 0 P (moV σ b i2)).2.2.2 j ≤ 1000000 := fun j j0 j1 => ⟨by have := l1_at (S := (itrR (rfS (shR (σ (b + 14)) (40 * i2)) κ) 0 P (moV σ b i2))) j0 (by omega); omega, hl2.2 j j0 (by omega)⟩
                refine a_aload_n C dX7_together_161 2 rfl rfl ?_
                refine a_iload_n C dX7_together_162 3 rfl rfl ?_
                refine a_iload_n C dX7_together_163 1 rfl rfl ?_
                refine a_cVV C (k0 := 2) (As := [vI i1, vI P]) (rest := []) (c_X7_gives x.2.1 v τ b hM i1 P (by omega) (by rw [show moE τ b i1 = moE σ b i1 from by unfold moE; rw [iF (b + 11) (by omega) (by omega) (by omega), iF (b + 15) (by omega) (by omega) (by omega), iF (b + 16) (by omega) (by omega) (by omega), iF (b + 17) (by omega) (by omega) (by omega)]]; exact kE1) (by rw [← hκ, iF (b + 15) (by omega) (by omega) (by omega), iF (b + 11) (by omega) (by omega) (by omega)]; exact hku1) (by rw [iF (b + 11) (by omega) (by omega) (by omega), iF (b + 16) (by omega) (by omega) (by omega), iF (b + 17) (by omega) (by omega) (by omega)]; exact fun j q1 q2 => by have := kB1 j q1 q2; omega) (fun j j0 j1 => by have := iZ j j0 j1; omega)) gX7_together_X7_gives rfl (by decide +kernel) (by decide) hM.f0 rfl hM.n0 rfl rfl (Nat.le_of_ble_eq_true rfl) dX7_together_164 (fun u164 p164 => ?_)
                have mv1 : moV τ b i1 = (moV σ b i1) := by unfold moV; rw [iF (b + 11) (by omega) (by omega) (by omega), iF (b + 15) (by omega) (by omega) (by omega), iF (b + 16) (by omega) (by omega) (by omega), iF (b + 17) (by omega) (by omega) (by omega)]
                rw [mv1, ← hκ, iF (b + 14) (by omega) (by omega) (by omega)] at p164
                refine a_aload_n C dX7_together_167 2 rfl rfl ?_
                refine a_iload_n C dX7_together_168 4 rfl rfl ?_
                refine a_iload_n C dX7_together_169 1 rfl rfl ?_
                refine a_cVV C (k0 := 2) (As := [vI i2, vI P]) (rest := []) (c_X7_gives x.2.1 v u164 b hM i2 P (by omega) (by rw [show moE u164 b i2 = moE σ b i2 from by unfold moE; rw [p164.2.1 (b + 11) (by omega) (by omega) (by omega), iF (b + 11) (by omega) (by omega) (by omega), p164.2.1 (b + 15) (by omega) (by omega) (by omega), iF (b + 15) (by omega) (by omega) (by omega), p164.2.1 (b + 16) (by omega) (by omega) (by omega), iF (b + 16) (by omega) (by omega) (by omega), p164.2.1 (b + 17) (by omega) (by omega) (by omega), iF (b + 17) (by omega) (by omega) (by omega)]]; exact kE2) (by rw [p164.2.1 (b + 21) (by omega) (by omega) (by omega), ← hκ, p164.2.1 (b + 15) (by omega) (by omega) (by omega), iF (b + 15) (by omega) (by omega) (by omega), p164.2.1 (b + 11) (by omega) (by omega) (by omega), iF (b + 11) (by omega) (by omega) (by omega)]; exact hku2) (by rw [p164.2.1 (b + 11) (by omega) (by omega) (by omega), iF (b + 11) (by omega) (by omega) (by omega), p164.2.1 (b + 16) (by omega) (by omega) (by omega), iF (b + 16) (by omega) (by omega) (by omega), p164.2.1 (b + 17) (by omega) (by omega) (by omega), iF (b + 17) (by omega) (by omega) (by omega)]; exact fun j q1 q2 => by have := kB2 j q1 q2; omega) (fun j j0 j1 => by have h8 := (p164.1 j j0 j1); rw [(iZ j j0 j1).1, (iZ j j0 j1).2] at h8; have := hT1 j j0 j1; omega)) gX7_together_X7_gives rfl (by decide +kernel) (by decide) hM.f0 rfl hM.n0 rfl rfl (Nat.le_of_ble_eq_true rfl) dX7_together_170 (fun u170 p170 => ?_)
                have mv2 : moV u164 b i2 = (moV σ b i2) := by unfold moV; rw [p164.2.1 (b + 11) (by omega) (by omega) (by omega), iF (b + 11) (by omega) (by omega) (by omega), p164.2.1 (b + 15) (by omega) (by omega) (by omega), iF (b + 15) (by omega) (by omega) (by omega), p164.2.1 (b + 16) (by omega) (by omega) (by omega), iF (b + 16) (by omega) (by omega) (by omega), p164.2.1 (b + 17) (by omega) (by omega) (by omega), iF (b + 17) (by omega) (by omega) (by omega)]
                rw [mv2, p164.2.1 (b + 21) (by omega) (by omega) (by omega), ← hκ, p164.2.1 (b + 14) (by omega) (by omega) (by omega), iF (b + 14) (by omega) (by omega) (by omega)] at p170
                have hF : ∀ a : Nat, a ≠ b → a ≠ b + 21 → a ≠ b + 22 → a ≠ b + 23 → u170 a = σ a := fun a q0 q1 q2 q3 => by rw [p170.2.1 a q0 q2 q3, p164.2.1 a q0 q2 q3, iF a q1 q2 q3]
                have hFb : ∀ j : Int, j ≠ 23 → j ≠ 24 → j ≠ 25 → j ≠ 26 → u170 b j = σ b j := fun j q1 q2 q3 q4 => by rw [p170.2.2 j q1 q2 q3 q4, p164.2.2 j q1 q2 q3 q4, iF b (by omega) (by omega) (by omega)]
                have hK : u170 (b + 21) = κ := by rw [p170.2.1 (b + 21) (by omega) (by omega) (by omega), p164.2.1 (b + 21) (by omega) (by omega) (by omega), hκ]
                have hG : ∀ j : Int, 0 ≤ j → j < P → u170 (b + 22) j = (itrR (rfS (shR (σ (b + 14)) (40 * i1)) κ) 0 P (moV σ b i1)).2.2.1 j + (itrR (rfS (shR (σ (b + 14)) (40 * i2)) κ) 0 P (moV σ b i2)).2.2.1 j ∧ u170 (b + 23) j = min ((itrR (rfS (shR (σ (b + 14)) (40 * i1)) κ) 0 P (moV σ b i1)).2.2.2 j + (itrR (rfS (shR (σ (b + 14)) (40 * i2)) κ) 0 P (moV σ b i2)).2.2.2 j) 1000000 := by
                  intro j j0 j1
                  have h8 := p164.1 j j0 j1
                  have h9 := p170.1 j j0 j1
                  rw [(iZ j j0 j1).1, (iZ j j0 j1).2] at h8
                  rw [h8.1, h8.2] at h9
                  have a1 := hT1 j j0 j1
                  have a2 := hT2 j j0 j1
                  exact ⟨by rw [h9.1]; omega, by rw [h9.2]; omega⟩
                refine a_iconst C dX7_together_173 ?_
                refine a_istore C [(4, vI 0), (3, vI P), (0, .ref (vq v b)), (1, vI i1), (2, vI i2)] dX7_together_174 (by decide) rfl ?_
                have hth : ∀ j w9 : Int, 0 ≤ w9 ∧ w9 ≤ 40 → -8000000 ≤ smR (thF (shR (σ (b + 14)) (40 * i1)) (shR (σ (b + 14)) (40 * i2)) (shR (σ (b + 13)) (40 * i2)) κ P j) 0 w9 ∧ smR (thF (shR (σ (b + 14)) (40 * i1)) (shR (σ (b + 14)) (40 * i2)) (shR (σ (b + 13)) (40 * i2)) κ P j) 0 w9 ≤ 8000000 := by
                  intro j w9 hw9
                  have q := smR_bd (f := thF (shR (σ (b + 14)) (40 * i1)) (shR (σ (b + 14)) (40 * i2)) (shR (σ (b + 13)) (40 * i2)) κ P j) (a := 0) (b := w9) (lo := -200000) (hi := 200000) (fun w q1 q2 => by have k9 := kH2 w (by omega) (by omega); unfold thF; split; (next y => have := k9 y.1; omega); omega) hw9.1
                  omega
                have hku1_ := hku1.2.2.2.1
                have lpC : ∀ (n : Nat) (w9 : Int) (μ : Mem) , (40 - w9).toNat = n → (0 ≤ w9 ∧ w9 ≤ 40) → (∀ j : Int, 0 ≤ j → j < 40 → μ (b + 13) (40 * i1 + j) = if j < w9 ∧ (shR (σ (b + 14)) (40 * i1)) j ≠ 0 ∧ (shR (σ (b + 14)) (40 * i2)) j ≠ 0 then σ (b + 13) (40 * i1 + j) + (shR (σ (b + 13)) (40 * i2)) j else σ (b + 13) (40 * i1 + j)) → (∀ j : Int, j < 40 * i1 ∨ 40 * i1 + 40 ≤ j → μ (b + 13) j = σ (b + 13) j) → (∀ j : Int, 0 ≤ j → j < P → μ (b + 22) j = u170 (b + 22) j + smR (thF (shR (σ (b + 14)) (40 * i1)) (shR (σ (b + 14)) (40 * i2)) (shR (σ (b + 13)) (40 * i2)) κ P j) 0 w9) → (∀ a : Nat, a ≠ b + 13 → a ≠ b + 22 → μ a = u170 a) → At x v A Q 7 176 [(4, vI w9), (3, vI P), (0, .ref (vq v b)), (1, vI i1), (2, vI i2)] [] μ := by
                  intro n
                  induction n using Nat.strongRecOn with
                  | _ n ih =>
                    intro w9 μ hn iv1 iH iO iN iG
                    refine a_iload C dX7_together_176 0 rfl ?_
                    refine a_bipush C dX7_together_178 ?_
                    refine a_icmp_ge C 290 (by omega) (by decide) dX7_together_180 (by decide) (fun c180 => ?_) (fun c180 => ?_)
                    · skip
                      have hw40 : w9 = 40 := by omega
                      subst hw40
                      refine a_sub [1, 2, 3, 4] [(3, vI P), (0, .ref (vq v b)), (1, vI i1), (2, vI i2)] rfl ?_
                      have lpE : ∀ (n : Nat) (ρ : Mem) , (ρ (b + 11) i1 - 12).toNat = n → (1 ≤ ρ (b + 11) i1 ∧ ρ (b + 11) i1 ≤ 24) → svE (moV ρ b i1) → svD (moV ρ b i1) → l1 (moV ρ b i1) ≤ 288000000 → fzV (ρ (b + 11) i1 - 12).toNat (moV ρ b i1) = (tkV (shR (σ (b + 14)) (40 * i1)) (shR (σ (b + 14)) (40 * i2)) (shR (σ (b + 13)) (40 * i2)) (moV σ b i1) (moV σ b i2)) → moFr μ ρ b i1 → At x v A Q 7 369 [(3, vI P), (0, .ref (vq v b)), (1, vI i1), (2, vI i2)] [] ρ := by
                        intro n
                        induction n using Nat.strongRecOn with
                        | _ n ihE =>
                          intro  ρ hn jn jE jD jL jZ jM
                          refine a_aload_n C dX7_together_369 1 rfl rfl ?_
                          refine a_getf C hM.f0 hM.n0 (Cn := RX7) (T := TX7) (N := 30) rfl iX7 13 (by decide) k45 (w := .ref (vq v (b + 11))) rfl dX7_together_370 ?_
                          refine a_iload_n C dX7_together_373 2 rfl rfl ?_
                          refine a_iald C hM.f11 hM.n11 0 hM.tI (by omega) (by omega) (by decide) dX7_together_374 (fun z374 e374 r374 => ?_)
                          refine a_bipush C dX7_together_375 ?_
                          refine a_icmp_le C 394 r374 (by decide) dX7_together_377 (by decide) (fun c377 => ?_) (fun c377 => ?_)
                          · skip
                            refine a_aload_n C dX7_together_394 1 rfl rfl ?_
                            refine a_getf C hM.f0 hM.n0 (Cn := RX7) (T := TX7) (N := 30) rfl iX7 14 (by decide) k48 (w := .ref (vq v (b + 12))) rfl dX7_together_395 ?_
                            refine a_iload_n C dX7_together_398 2 rfl rfl ?_
                            refine a_iconst C dX7_together_399 ?_
                            refine a_iast C hM.f12 hM.n12 0 hM.tI (by omega) (by omega) (by decide) (by decide) dX7_together_400 ?_
                            refine a_aload_n C dX7_together_401 1 rfl rfl ?_
                            refine a_iconst C dX7_together_402 ?_
                            refine a_puti C hM.f0 hM.n0 (Cn := RX7) (T := TX7) (N := 30) rfl iX7 tyX7_ok nmX7 0 (by decide) k85 rfl rfl 0 (by decide) (fun _ => Nat.le_of_ble_eq_true rfl) (fun _ => rfl) dX7_together_403 ?_
                            refine a_aload_n C dX7_together_406 1 rfl rfl ?_
                            refine a_getf C hM.f0 hM.n0 (Cn := RX7) (T := TX7) (N := 30) rfl iX7 13 (by decide) k45 (w := .ref (vq v (b + 11))) rfl dX7_together_407 ?_
                            refine a_iload_n C dX7_together_410 2 rfl rfl ?_
                            refine a_iald C hM.f11 hM.n11 0 hM.tI (by omega) (by omega) (by decide) dX7_together_411 (fun z411 e411 r411 => ?_)
                            try simp [sput_r, mset_n, sput, mset] at e411
                            refine hret _ _ _ _ dX7_together_412 r411 ?_
                            (repeat (first | rw [if_pos (by omega)] | rw [if_neg (by omega)]))
                            refine ⟨?_, ?_, ?_, ?_, ?_, ?_, ?_, ?_, ?_⟩
                            · rw [sput_r (show b + 11 ≠ b by omega), sput_r (show b + 11 ≠ b + 12 by omega)]; exact e411
                            · have h9 : moV (sput (sput ρ (b + 12) i1 0) b 0 0) b i1 = moV ρ b i1 := by
                                unfold moV
                                rw [sput_r (show b + 11 ≠ b by omega), sput_r (show b + 11 ≠ b + 12 by omega), sput_r (show b + 15 ≠ b by omega), sput_r (show b + 15 ≠ b + 12 by omega), sput_r (show b + 16 ≠ b by omega), sput_r (show b + 16 ≠ b + 12 by omega), sput_r (show b + 17 ≠ b by omega), sput_r (show b + 17 ≠ b + 12 by omega)]
                              rw [h9, ← jZ, show (ρ (b + 11) i1 - 12).toNat = 0 by omega]
                              rfl
                            · intro j j0 j1
                              rw [sput_r (show b + 13 ≠ b by omega), sput_r (show b + 13 ≠ b + 12 by omega), jM.1 (b + 13) (by omega) (by omega) (by omega) (by omega) (by omega), iH j j0 j1]
                              by_cases y : (shR (σ (b + 14)) (40 * i1)) j ≠ 0 ∧ (shR (σ (b + 14)) (40 * i2)) j ≠ 0
                              · rw [if_pos y, if_pos ⟨j1, y⟩]
                              · rw [if_neg y, if_neg (fun z => y z.2)]
                            · rw [sput_r (show b + 12 ≠ b by omega), sput_s]
                            · rw [sput_s]
                            · intro a q0 q1 q2 q3 q4 q5 q6 q7 q8 q9; rw [sput_r q0, sput_r q2, jM.1 a q0 q1 q4 q5 q6, iG a q3 q8, hF a q0 q7 q8 q9]
                            · intro j q1 q2 q3 q4 q5; rw [sput_j _ _ _ _ _ q1, sput_r (show b ≠ b + 12 by omega), jM.2.1 j q2 q3 q4 q5, iG b (by omega) (by omega), hFb j q2 q3 q4 q5]
                            · intro j q
                              refine ⟨?_, ?_⟩
                              · rw [sput_r (show b + 11 ≠ b by omega), sput_r (show b + 11 ≠ b + 12 by omega), jM.2.2.1 j q, iG (b + 11) (by omega) (by omega), hF (b + 11) (by omega) (by omega) (by omega) (by omega)]
                              · rw [sput_r (show b + 12 ≠ b by omega), sput_j _ _ _ _ _ q, jM.1 (b + 12) (by omega) (by omega) (by omega) (by omega) (by omega), iG (b + 12) (by omega) (by omega), hF (b + 12) (by omega) (by omega) (by omega) (by omega)]
                            · intro j q
                              have h9 := jM.2.2.2 j q
                              refine ⟨?_, ?_, ?_, ?_⟩
                              · rw [sput_r (show b + 13 ≠ b by omega), sput_r (show b + 13 ≠ b + 12 by omega), jM.1 (b + 13) (by omega) (by omega) (by omega) (by omega) (by omega)]; exact iO j q
                              · rw [sput_r (show b + 15 ≠ b by omega), sput_r (show b + 15 ≠ b + 12 by omega), h9.1, iG (b + 15) (by omega) (by omega), hF (b + 15) (by omega) (by omega) (by omega) (by omega)]
                              · rw [sput_r (show b + 16 ≠ b by omega), sput_r (show b + 16 ≠ b + 12 by omega), h9.2.1, iG (b + 16) (by omega) (by omega), hF (b + 16) (by omega) (by omega) (by omega) (by omega)]
                              · rw [sput_r (show b + 17 ≠ b by omega), sput_r (show b + 17 ≠ b + 12 by omega), h9.2.2, iG (b + 17) (by omega) (by omega), hF (b + 17) (by omega) (by omega) (by omega) (by omega)]
                          · skip
                            refine a_aload_n C dX7_together_380 1 rfl rfl ?_
                            refine a_iload_n C dX7_together_381 2 rfl rfl ?_
                            refine a_aload_n C dX7_together_382 1 rfl rfl ?_
                            refine a_iload_n C dX7_together_383 2 rfl rfl ?_
                            refine a_iconst C dX7_together_384 ?_
                            refine a_cVI C (k0 := 2) (As := [vI i1, vI (-1)]) (rest := [vI i1, .ref (vq v b)]) (c_X7_pair x.2.1 v ρ b hM i1 (-1) (by omega) (by decide) (by omega) (fun j q1 q2 => by have h9 := l1_at (S := moV ρ b i1) q1 (show j < (moV ρ b i1).1 from q2); rw [show (moV ρ b i1).2.2.1 j = shR (ρ (b + 16)) (40 * i1) j from mkR_in q1 q2] at h9; omega)) gX7_together_X7_pair rfl (by decide +kernel) (by decide) hM.f0 rfl hM.n0 rfl rfl (Nat.le_of_ble_eq_true rfl) dX7_together_385 (fun z385 u385 r385 p385 => ?_)
                            obtain ⟨e385, p385⟩ := p385
                            subst u385
                            have b385 := lp_some (n := ρ (b + 11) i1) (c := shR (ρ (b + 16)) (40 * i1)) (by omega)
                            have b386 := lp_bd (n := ρ (b + 11) i1) (w := -1) (c := shR (ρ (b + 16)) (40 * i1)) (by omega)
                            rw [← e385] at b385 b386
                            refine a_cVV C (k0 := 2) (As := [vI i1, vI z385]) (rest := []) (c_X7_melts x.2.1 v ρ b hM i1 z385 (by omega) (by omega) (by omega) (fun j q1 q2 => by have h9 := l1_at (S := moV ρ b i1) q1 (show j < (moV ρ b i1).1 from q2); have h8 := jD j q1 (show j < (moV ρ b i1).1 from q2); rw [show (moV ρ b i1).2.2.1 j = shR (ρ (b + 16)) (40 * i1) j from mkR_in q1 q2] at h9; rw [show (moV ρ b i1).2.2.2 j = shR (ρ (b + 17)) (40 * i1) j from mkR_in q1 q2] at h8; omega)) gX7_together_X7_melts rfl (by decide +kernel) (by decide) hM.f0 rfl hM.n0 rfl rfl (Nat.le_of_ble_eq_true rfl) dX7_together_388 (fun u388 p388 => ?_)
                            refine a_goto C 369 dX7_together_391 (by decide) ?_
                            have h5 : u388 (b + 11) i1 = ρ (b + 11) i1 - 1 := congrArg Prod.fst p388.2
                            refine ihE _ (by omega) u388 rfl (by omega) (by rw [p388.2]; exact svE_fuse jE (by omega) (by show z385 + 1 < ρ (b + 11) i1; omega)) (by rw [p388.2]; exact svD_fuse jD (by omega) (by show z385 + 1 < ρ (b + 11) i1; omega)) (by rw [p388.2]; have := l1_fuse (S := moV ρ b i1) (k := z385) (by omega) (by show z385 + 1 < ρ (b + 11) i1; omega); omega) ?_ (jM.tr p388.1)
                            · rw [p388.2, h5]
                              have e9 : (ρ (b + 11) i1 - 12).toNat = (ρ (b + 11) i1 - 1 - 12).toNat + 1 := by omega
                              rw [e9] at jZ
                              rw [← jZ]
                              show fzV _ _ = fzV _ (fuseV (moV ρ b i1) (itrR (lpF (mkR (ρ (b + 11) i1) (shR (ρ (b + 16)) (40 * i1))) (-1)) 0 (ρ (b + 11) i1 - 1) (-1)))
                              rw [lp_mk, ← e385]
                      have lpD : ∀ (n : Nat) (k9 : Int) (ρ : Mem) , (24 - k9).toNat = n → (0 ≤ k9 ∧ k9 ≤ P) → ρ (b + 11) i1 = P → (∀ j : Int, 0 ≤ j → j < k9 → ρ (b + 15) (40 * i1 + j) = κ j ∧ ρ (b + 16) (40 * i1 + j) = μ (b + 22) j ∧ ρ (b + 17) (40 * i1 + j) = μ (b + 23) j) → moFr μ ρ b i1 → At x v A Q 7 300 [(4, vI k9), (3, vI P), (0, .ref (vq v b)), (1, vI i1), (2, vI i2)] [] ρ := by
                        intro n
                        induction n using Nat.strongRecOn with
                        | _ n ihD =>
                          intro k9 ρ hn jk jP jX jM
                          refine a_iload C dX7_together_300 0 rfl ?_
                          refine a_iload_n C dX7_together_302 1 rfl rfl ?_
                          refine a_icmp_ge C 369 (by omega) (by omega) dX7_together_303 (by decide) (fun c303 => ?_) (fun c303 => ?_)
                          · skip
                            refine a_sub [1, 2, 3, 4] [(3, vI P), (0, .ref (vq v b)), (1, vI i1), (2, vI i2)] rfl ?_
                            have hkP : k9 = P := by omega
                            subst hkP
                            have mv : moV ρ b i1 = (thV (shR (σ (b + 14)) (40 * i1)) (shR (σ (b + 14)) (40 * i2)) (shR (σ (b + 13)) (40 * i2)) (addV (itrR (rfS (shR (σ (b + 14)) (40 * i1)) κ) 0 k9 (moV σ b i1)) (itrR (rfS (shR (σ (b + 14)) (40 * i2)) κ) 0 k9 (moV σ b i2)))) := by
                              show (ρ (b + 11) i1, mkR (ρ (b + 11) i1) (shR (ρ (b + 15)) (40 * i1)), mkR (ρ (b + 11) i1) (shR (ρ (b + 16)) (40 * i1)), mkR (ρ (b + 11) i1) (shR (ρ (b + 17)) (40 * i1))) = _
                              unfold thV addV
                              dsimp only
                              rw [jP, w2_]
                              have x1 : mkR k9 (shR (ρ (b + 15)) (40 * i1)) = (itrR (rfS (shR (σ (b + 14)) (40 * i1)) κ) 0 k9 (moV σ b i1)).2.1 := by
                                rw [w6_.1, w2_]
                                exact mkR_congr fun j j0 j1 => by rw [w5_ j j0 j1]; exact (jX j j0 j1).1
                              have spk : ∀ x : Int, x ≤ 39 → spOf (itrR (rfS (shR (σ (b + 14)) (40 * i1)) κ) 0 k9 (moV σ b i1)).2.1 k9 x = spOf κ k9 x := fun x hx => by
                                rw [← spOf_mk (e := κ), w6_.1, w2_]
                                exact congrArg (fun f => spOf f k9 x) (mkR_congr fun j j0 j1 => w5_ j j0 j1)
                              refine Prod.ext rfl (Prod.ext x1 (Prod.ext ?_ ?_))
                              · refine mkR_congr fun j j0 j1 => ?_
                                rw [mkR_in j0 j1, ← (hG j j0 j1).1]
                                have h9 := (jX j j0 j1).2.1
                                rw [iN j j0 j1] at h9
                                rw [show shR (ρ (b + 16)) (40 * i1) j = _ from h9]
                                congr 1
                                refine smR_congr fun x q1 q2 => ?_
                                unfold thF
                                rw [spk x (by omega)]
                              · refine mkR_congr fun j j0 j1 => ?_
                                rw [← (hG j j0 j1).2]
                                have h9 := (jX j j0 j1).2.2
                                rw [iG (b + 23) (by omega) (by omega)] at h9
                                exact h9
                            have svW0 : svE (thV (shR (σ (b + 14)) (40 * i1)) (shR (σ (b + 14)) (40 * i2)) (shR (σ (b + 13)) (40 * i2)) (addV (itrR (rfS (shR (σ (b + 14)) (40 * i1)) κ) 0 k9 (moV σ b i1)) (itrR (rfS (shR (σ (b + 14)) (40 * i2)) κ) 0 k9 (moV σ b i2)))) := by
                              have h9 := (l1_tk (h := (shR (σ (b + 14)) (40 * i1))) (ho := (shR (σ (b + 14)) (40 * i2))) hI0 gD1 gD2 39 (by omega)).1.1
                              rw [show ((39 : Nat) : Int) = 39 from rfl, w1_] at h9
                              exact h9
                            have svD0 : svD (moV ρ b i1) := by
                              intro j q1 q2
                              have q3 : j < k9 := by rw [← jP]; exact q2
                              show 0 ≤ mkR _ _ j ∧ mkR _ _ j ≤ 1000000
                              rw [mkR_in q1 (by rw [jP]; exact q3)]
                              have h9 := (jX j q1 q3).2.2
                              rw [iG (b + 23) (by omega) (by omega), (hG j q1 q3).2] at h9
                              rw [show shR (ρ (b + 17)) (40 * i1) j = _ from h9]
                              have := (hT1 j q1 q3).2
                              have := (hT2 j q1 q3).2
                              omega
                            have l10 : l1 (moV ρ b i1) ≤ 288000000 := by
                              have q := l1_max (S := moV ρ b i1) (M := 12000000) (by decide) (by show 0 ≤ ρ (b + 11) i1 ∧ ρ (b + 11) i1 ≤ 24; omega) (fun j q1 q2 => by
                                have q3 : j < k9 := by rw [← jP]; exact q2
                                show _ ≤ mkR _ _ j ∧ mkR _ _ j ≤ _
                                rw [mkR_in q1 (by rw [jP]; exact q3)]
                                have h9 := (jX j q1 q3).2.1
                                rw [iN j q1 q3, (hG j q1 q3).1] at h9
                                rw [show shR (ρ (b + 16)) (40 * i1) j = _ from h9]
                                have := (hT1 j q1 q3).1
                                have := (hT2 j q1 q3).1
                                have := hth j 40 (by omega)
                                omega)
                              omega
                            refine lpE _ ρ rfl (by omega) (by rw [mv]; exact svW0) svD0 l10 ?_ jM
                            rw [mv, jP]
                            unfold tkV
                            rw [w1_]
                            show fzV (k9 - 12).toNat _ = fzV ((itrR (rfS (shR (σ (b + 14)) (40 * i1)) κ) 0 k9 (moV σ b i1)).1 - 12).toNat _
                            rw [w2_]
                          · skip
                            refine a_aload_n C dX7_together_306 2 rfl rfl ?_
                            refine a_getf C hM.f0 hM.n0 (Cn := RX7) (T := TX7) (N := 30) rfl iX7 17 (by decide) k58 (w := .ref (vq v (b + 15))) rfl dX7_together_307 ?_
                            refine a_bipush C dX7_together_310 ?_
                            refine a_iload_n C dX7_together_312 3 rfl rfl ?_
                            refine a_imul C dX7_together_313 ?_
                            refine a_iload C dX7_together_314 0 rfl ?_
                            refine a_iadd C dX7_together_316 ?_
                            refine a_aload_n C dX7_together_317 2 rfl rfl ?_
                            refine a_getf C hM.f0 hM.n0 (Cn := RX7) (T := TX7) (N := 30) rfl iX7 27 (by decide) k76 (w := .ref (vq v (b + 21))) rfl dX7_together_318 ?_
                            refine a_iload C dX7_together_321 0 rfl ?_
                            refine a_iald C hM.f21 hM.n21 0 hM.tI (by omega) (by omega) (by decide) dX7_together_323 (fun z323 e323 r323 => ?_)
                            rw [jM.1 (b + 21) (by omega) (by omega) (by omega) (by omega) (by omega), iG (b + 21) (by omega) (by omega), hK] at e323
                            refine a_iast C hM.f15 hM.n15 0 hM.tI (by omega) (by omega) (by decide) r323 dX7_together_324 ?_
                            refine a_aload_n C dX7_together_325 2 rfl rfl ?_
                            refine a_getf C hM.f0 hM.n0 (Cn := RX7) (T := TX7) (N := 30) rfl iX7 18 (by decide) k61 (w := .ref (vq v (b + 16))) rfl dX7_together_326 ?_
                            refine a_bipush C dX7_together_329 ?_
                            refine a_iload_n C dX7_together_331 3 rfl rfl ?_
                            refine a_imul C dX7_together_332 ?_
                            refine a_iload C dX7_together_333 0 rfl ?_
                            refine a_iadd C dX7_together_335 ?_
                            refine a_aload_n C dX7_together_336 2 rfl rfl ?_
                            refine a_getf C hM.f0 hM.n0 (Cn := RX7) (T := TX7) (N := 30) rfl iX7 28 (by decide) k79 (w := .ref (vq v (b + 22))) rfl dX7_together_337 ?_
                            refine a_iload C dX7_together_340 0 rfl ?_
                            refine a_iald C hM.f22 hM.n22 0 hM.tI (by omega) (by omega) (by decide) dX7_together_342 (fun z342 e342 r342 => ?_)
                            try simp [sput_r, mset_n, sput, mset] at e342
                            rw [jM.1 (b + 22) (by omega) (by omega) (by omega) (by omega) (by omega)] at e342
                            have b342 := iN k9 (by omega) (by omega)
                            rw [← e342] at b342
                            refine a_iast C hM.f16 hM.n16 0 hM.tI (by omega) (by omega) (by decide) r342 dX7_together_343 ?_
                            refine a_aload_n C dX7_together_344 2 rfl rfl ?_
                            refine a_getf C hM.f0 hM.n0 (Cn := RX7) (T := TX7) (N := 30) rfl iX7 19 (by decide) k64 (w := .ref (vq v (b + 17))) rfl dX7_together_345 ?_
                            refine a_bipush C dX7_together_348 ?_
                            refine a_iload_n C dX7_together_350 3 rfl rfl ?_
                            refine a_imul C dX7_together_351 ?_
                            refine a_iload C dX7_together_352 0 rfl ?_
                            refine a_iadd C dX7_together_354 ?_
                            refine a_aload_n C dX7_together_355 2 rfl rfl ?_
                            refine a_getf C hM.f0 hM.n0 (Cn := RX7) (T := TX7) (N := 30) rfl iX7 29 (by decide) k82 (w := .ref (vq v (b + 23))) rfl dX7_together_356 ?_
                            refine a_iload C dX7_together_359 0 rfl ?_
                            refine a_iald C hM.f23 hM.n23 0 hM.tI (by omega) (by omega) (by decide) dX7_together_361 (fun z361 e361 r361 => ?_)
                            try simp [sput_r, mset_n, sput, mset] at e361
                            rw [jM.1 (b + 23) (by omega) (by omega) (by omega) (by omega) (by omega)] at e361
                            refine a_iast C hM.f17 hM.n17 0 hM.tI (by omega) (by omega) (by decide) r361 dX7_together_362 ?_
                            refine a_iinc C (k9 + 1) [(4, vI (k9 + 1)), (3, vI P), (0, .ref (vq v b)), (1, vI i1), (2, vI i2)] dX7_together_363 0 rfl (by omega) (by decide) rfl ?_
                            refine a_goto C 300 dX7_together_366 (by decide) ?_
                            refine ihD _ (by omega) (k9 + 1) _ rfl (by omega) ?_ ?_ ?_
                            · rw [sput_r (show b + 11 ≠ b + 17 by omega), sput_r (show b + 11 ≠ b + 16 by omega), sput_r (show b + 11 ≠ b + 15 by omega)]; exact jP
                            · intro j j0 j1
                              rw [sput_r (show b + 15 ≠ b + 17 by omega), sput_r (show b + 15 ≠ b + 16 by omega), sput_r (show b + 16 ≠ b + 17 by omega)]
                              by_cases q : j = k9
                              · subst q; rw [sput_s, sput_s, sput_s]; exact ⟨e323, e342, e361⟩
                              · rw [sput_j _ _ _ _ _ (by omega), sput_j _ _ _ _ _ (by omega), sput_j _ _ _ _ _ (by omega), sput_r (show b + 16 ≠ b + 15 by omega), sput_r (show b + 17 ≠ b + 16 by omega), sput_r (show b + 17 ≠ b + 15 by omega)]; exact jX j j0 (by omega)
                            · refine jM.tr ⟨fun a q0 q1 q2 q3 q4 => by rw [sput_r q4, sput_r q3, sput_r q2], fun j _ _ _ _ => by rw [sput_r (by omega), sput_r (by omega), sput_r (by omega)], fun j _ => by rw [sput_r (by omega), sput_r (by omega), sput_r (by omega)], fun j q => ?_⟩
                              rw [sput_r (show b + 15 ≠ b + 17 by omega), sput_r (show b + 15 ≠ b + 16 by omega), sput_r (show b + 16 ≠ b + 17 by omega), sput_j _ _ _ _ _ (by omega), sput_j _ _ _ _ _ (by omega), sput_j _ _ _ _ _ (by omega), sput_r (show b + 16 ≠ b + 15 by omega), sput_r (show b + 17 ≠ b + 16 by omega), sput_r (show b + 17 ≠ b + 15 by omega)]
                              exact ⟨rfl, rfl, rfl⟩
                      refine a_aload_n C dX7_together_290 1 rfl rfl ?_
                      refine a_getf C hM.f0 hM.n0 (Cn := RX7) (T := TX7) (N := 30) rfl iX7 13 (by decide) k45 (w := .ref (vq v (b + 11))) rfl dX7_together_291 ?_
                      refine a_iload_n C dX7_together_294 2 rfl rfl ?_
                      refine a_iload_n C dX7_together_295 0 rfl rfl ?_
                      refine a_iast C hM.f11 hM.n11 0 hM.tI (by omega) (by omega) (by decide) (by omega) dX7_together_296 ?_
                      refine a_iconst C dX7_together_297 ?_
                      refine a_istore C [(4, vI 0), (3, vI P), (0, .ref (vq v b)), (1, vI i1), (2, vI i2)] dX7_together_298 (by decide) rfl ?_
                      refine lpD _ 0 _ rfl (by omega) (by rw [sput_s]) (fun j q1 q2 => by omega) ⟨fun a _ q1 _ _ _ => by rw [sput_r q1], fun j _ _ _ _ => by rw [sput_r (by omega)], fun j q => by rw [sput_j _ _ _ _ _ q], fun j _ => by rw [sput_r (by omega), sput_r (by omega), sput_r (by omega)]; exact ⟨rfl, rfl, rfl⟩⟩
                    · skip
                      refine a_aload_n C dX7_together_183 2 rfl rfl ?_
                      refine a_getf C hM.f0 hM.n0 (Cn := RX7) (T := TX7) (N := 30) rfl iX7 16 (by decide) k54 (w := .ref (vq v (b + 14))) rfl dX7_together_184 ?_
                      refine a_bipush C dX7_together_187 ?_
                      refine a_iload_n C dX7_together_189 4 rfl rfl ?_
                      refine a_imul C dX7_together_190 ?_
                      refine a_iload C dX7_together_191 0 rfl ?_
                      refine a_iadd C dX7_together_193 ?_
                      refine a_zald C hM.f14 hM.n14 2 hM.tB (by omega) (by omega) (by decide) dX7_together_194 (fun z194 e194 r194 => ?_)
                      rw [iG (b + 14) (by omega) (by omega), hF (b + 14) (by omega) (by omega) (by omega) (by omega), shR_i (σ (b + 14)) (40 * i2) w9 _ rfl] at e194
                      refine a_if_eq C 213 r194 dX7_together_195 (by decide) (fun c195 => ?_) (fun c195 => ?_)
                      · skip
                        refine a_iconst C dX7_together_213 ?_
                        refine a_istore C [(5, vI 0), (4, vI w9), (3, vI P), (0, .ref (vq v b)), (1, vI i1), (2, vI i2)] dX7_together_214 (by decide) rfl ?_
                        refine a_aload_n C dX7_together_216 3 rfl rfl ?_
                        refine a_getf C hM.f0 hM.n0 (Cn := RX7) (T := TX7) (N := 30) rfl iX7 16 (by decide) k54 (w := .ref (vq v (b + 14))) rfl dX7_together_217 ?_
                        refine a_bipush C dX7_together_220 ?_
                        refine a_iload_n C dX7_together_222 4 rfl rfl ?_
                        refine a_imul C dX7_together_223 ?_
                        refine a_iload C dX7_together_224 1 rfl ?_
                        refine a_iadd C dX7_together_226 ?_
                        refine a_zald C hM.f14 hM.n14 2 hM.tB (by omega) (by omega) (by decide) dX7_together_227 (fun z227 e227 r227 => ?_)
                        rw [iG (b + 14) (by omega) (by omega), hF (b + 14) (by omega) (by omega) (by omega) (by omega), shR_i (σ (b + 14)) (40 * i1) w9 _ rfl] at e227
                        refine a_if_eq C 251 r227 dX7_together_228 (by decide) (fun c228 => ?_) (fun c228 => ?_)
                        · skip
                          refine a_iconst C dX7_together_251 ?_
                          refine a_istore C [(6, vI 0), (5, vI 0), (4, vI w9), (3, vI P), (0, .ref (vq v b)), (1, vI i1), (2, vI i2)] dX7_together_252 (by decide) rfl ?_
                          have ih9 := ih
                          have lpP : ∀ (n : Nat) (pc9 : Int) , (40 - pc9).toNat = n → (0 ≤ pc9 ∧ pc9 < P) → (∀ j : Int, 0 ≤ j → j < pc9 → κ j < w9) → At x v A Q 7 254 [(6, vI pc9), (5, vI 0), (4, vI w9), (3, vI P), (0, .ref (vq v b)), (1, vI i1), (2, vI i2)] [] μ := by
                            intro n
                            induction n using Nat.strongRecOn with
                            | _ n ihP =>
                              intro pc9 hn ip1 ip3
                              refine a_aload_n C dX7_together_254 4 rfl rfl ?_
                              refine a_getf C hM.f0 hM.n0 (Cn := RX7) (T := TX7) (N := 30) rfl iX7 27 (by decide) k76 (w := .ref (vq v (b + 21))) rfl dX7_together_255 ?_
                              refine a_iload C dX7_together_258 0 rfl ?_
                              refine a_iald C hM.f21 hM.n21 0 hM.tI (by omega) (by omega) (by decide) dX7_together_260 (fun z260 e260 r260 => ?_)
                              rw [iG (b + 21) (by omega) (by omega), hK] at e260
                              refine a_iload C dX7_together_261 2 rfl ?_
                              refine a_icmp_ge C 272 r260 (by omega) dX7_together_263 (by decide) (fun c263 => ?_) (fun c263 => ?_)
                              · skip
                                have hsp : pc9 = spOf κ P w9 := (spOf_eq (by omega) (by omega) ip3 (by omega)).symm
                                subst hsp
                                refine a_aload_n C dX7_together_272 4 rfl rfl ?_
                                refine a_getf C hM.f0 hM.n0 (Cn := RX7) (T := TX7) (N := 30) rfl iX7 28 (by decide) k79 (w := .ref (vq v (b + 22))) rfl dX7_together_273 ?_
                                refine a_iload C dX7_together_276 0 rfl ?_
                                refine a_dup2 C dX7_together_278 rfl rfl ?_
                                refine a_iald C hM.f22 hM.n22 0 hM.tI (by omega) (by omega) (by decide) dX7_together_279 (fun z279 e279 r279 => ?_)
                                have b279 := iN (spOf κ P w9) (by omega) (by omega)
                                rw [← e279] at b279
                                have b280 := hG (spOf κ P w9) (by omega) (by omega)
                                have b281 := hT1 (spOf κ P w9) (by omega) (by omega)
                                have b282 := hT2 (spOf κ P w9) (by omega) (by omega)
                                have b283 := hth (spOf κ P w9) w9 (by omega)
                                refine a_iload C dX7_together_280 1 rfl ?_
                                refine a_iadd C dX7_together_282 ?_
                                refine a_iast C hM.f22 hM.n22 0 hM.tI (by omega) (by omega) (by decide) (by omega) dX7_together_283 ?_
                                refine a_iinc C (w9 + 1) [(4, vI (w9 + 1)), (6, vI ((spOf κ P w9))), (5, vI 0), (3, vI P), (0, .ref (vq v b)), (1, vI i1), (2, vI i2)] dX7_together_284 2 rfl (by omega) (by decide) rfl ?_
                                refine a_goto C 176 dX7_together_287 (by decide) ?_
                                refine a_sub [0, 3, 4, 5, 6] [(4, vI (w9 + 1)), (3, vI P), (0, .ref (vq v b)), (1, vI i1), (2, vI i2)] rfl ?_
                                refine ih _ (by omega) (w9 + 1) _ rfl (by omega) ?_ ?_ ?_ (fun a q1 q2 => by rw [sput_r q2]; exact iG a q1 q2)
                                · intro j j0 j1; rw [sput_r (show b + 13 ≠ b + 22 by omega), iH j j0 j1]
                                  by_cases q : j = w9
                                  · subst q; rw [if_neg (by omega), if_neg (by omega)]
                                  · by_cases y : j < w9 ∧ (shR (σ (b + 14)) (40 * i1)) j ≠ 0 ∧ (shR (σ (b + 14)) (40 * i2)) j ≠ 0
                                    · rw [if_pos y, if_pos ⟨by omega, y.2⟩]
                                    · rw [if_neg y, if_neg (fun z => y ⟨by omega, z.2⟩)]
                                · intro j q; rw [sput_r (show b + 13 ≠ b + 22 by omega)]; exact iO j q
                                · intro j j0 j1
                                  rw [smR_last (by omega)]
                                  have h6 : thF (shR (σ (b + 14)) (40 * i1)) (shR (σ (b + 14)) (40 * i2)) (shR (σ (b + 13)) (40 * i2)) κ P j w9 = if spOf κ P w9 = j then 0 else 0 := by unfold thF; (by_cases y : spOf κ P w9 = j); (rw [if_pos y]; (first | (rw [if_pos (by omega), ← e209]) | rw [if_neg (by omega)])); (rw [if_neg y, if_neg (by omega)])
                                  rw [h6]
                                  by_cases q : j = spOf κ P w9
                                  · rw [q, sput_s, e279, if_pos rfl, iN _ (by omega) (by omega)]; omega
                                  · rw [sput_j _ _ _ _ _ q, if_neg (by omega), iN j j0 j1]; omega
                              · skip
                                have hlt : pc9 < P - 1 := by rcases Int.lt_or_le pc9 (P - 1) with z | z; exact z; (have e9 : pc9 = P - 1 := by omega); rw [e9, hku1.2.2.2.1] at e260; omega
                                refine a_iinc C (pc9 + 1) [(6, vI (pc9 + 1)), (5, vI 0), (4, vI w9), (3, vI P), (0, .ref (vq v b)), (1, vI i1), (2, vI i2)] dX7_together_266 0 rfl (by omega) (by decide) rfl ?_
                                refine a_goto C 254 dX7_together_269 (by decide) ?_
                                exact ihP _ (by omega) (pc9 + 1) rfl (by omega) (fun j q1 q2 => by by_cases z : j = pc9; (rw [z]; omega); exact ip3 j q1 (by omega))
                          exact lpP _ 0 rfl (by omega) (fun j q1 q2 => by omega)
                        · skip
                          refine a_aload_n C dX7_together_231 3 rfl rfl ?_
                          refine a_getf C hM.f0 hM.n0 (Cn := RX7) (T := TX7) (N := 30) rfl iX7 15 (by decide) k51 (w := .ref (vq v (b + 13))) rfl dX7_together_232 ?_
                          refine a_bipush C dX7_together_235 ?_
                          refine a_iload_n C dX7_together_237 4 rfl rfl ?_
                          refine a_imul C dX7_together_238 ?_
                          refine a_iload C dX7_together_239 1 rfl ?_
                          refine a_iadd C dX7_together_241 ?_
                          refine a_dup2 C dX7_together_242 rfl rfl ?_
                          refine a_iald C hM.f13 hM.n13 0 hM.tI (by omega) (by omega) (by decide) dX7_together_243 (fun z243 e243 r243 => ?_)
                          have b243 := iH w9 (by omega) (by omega)
                          rw [if_neg (by omega), ← e243] at b243
                          have b244 := kH1 w9 (by omega) (by omega)
                          simp only [shR_e] at b244
                          refine a_iload C dX7_together_244 0 rfl ?_
                          refine a_iadd C dX7_together_246 ?_
                          refine a_iast C hM.f13 hM.n13 0 hM.tI (by omega) (by omega) (by decide) (by omega) dX7_together_247 ?_
                          refine a_goto C 284 dX7_together_248 (by decide) ?_
                          refine a_iinc C (w9 + 1) [(4, vI (w9 + 1)), (5, vI 0), (3, vI P), (0, .ref (vq v b)), (1, vI i1), (2, vI i2)] dX7_together_284 1 rfl (by omega) (by decide) rfl ?_
                          refine a_goto C 176 dX7_together_287 (by decide) ?_
                          refine a_sub [0, 2, 3, 4, 5] [(4, vI (w9 + 1)), (3, vI P), (0, .ref (vq v b)), (1, vI i1), (2, vI i2)] rfl ?_
                          refine ih _ (by omega) (w9 + 1) _ rfl (by omega) ?_ ?_ ?_ (fun a q1 q2 => by rw [sput_r q1]; exact iG a q1 q2)
                          · intro j j0 j1
                            by_cases q : j = w9
                            · subst q; rw [sput_s, e243]; have h8 := iH j j0 j1; rw [if_neg (by omega)] at h8; rw [h8]; (first | (rw [if_pos (by omega), ← e209]) | (rw [if_neg (by omega)]; omega))
                            · rw [sput_j _ _ _ _ _ (by omega), iH j j0 j1]
                              by_cases y : j < w9 ∧ (shR (σ (b + 14)) (40 * i1)) j ≠ 0 ∧ (shR (σ (b + 14)) (40 * i2)) j ≠ 0
                              · rw [if_pos y, if_pos ⟨by omega, y.2⟩]
                              · rw [if_neg y, if_neg (fun z => y ⟨by omega, z.2⟩)]
                          · intro j q; rw [sput_j _ _ _ _ _ (by omega)]; exact iO j q
                          · intro j j0 j1; rw [sput_r (show b + 22 ≠ b + 13 by omega), smR_last (by omega), iN j j0 j1]; have h7 : thF (shR (σ (b + 14)) (40 * i1)) (shR (σ (b + 14)) (40 * i2)) (shR (σ (b + 13)) (40 * i2)) κ P j w9 = 0 := by unfold thF; rw [if_neg (by omega)]
                            omega
                      · skip
                        refine a_aload_n C dX7_together_198 2 rfl rfl ?_
                        refine a_getf C hM.f0 hM.n0 (Cn := RX7) (T := TX7) (N := 30) rfl iX7 15 (by decide) k51 (w := .ref (vq v (b + 13))) rfl dX7_together_199 ?_
                        refine a_bipush C dX7_together_202 ?_
                        refine a_iload_n C dX7_together_204 4 rfl rfl ?_
                        refine a_imul C dX7_together_205 ?_
                        refine a_iload C dX7_together_206 0 rfl ?_
                        refine a_iadd C dX7_together_208 ?_
                        refine a_iald C hM.f13 hM.n13 0 hM.tI (by omega) (by omega) (by decide) dX7_together_209 (fun z209 e209 r209 => ?_)
                        rw [iO (40 * i2 + w9) (by omega), shR_i (σ (b + 13)) (40 * i2) w9 _ rfl] at e209
                        have b209 := kH2 w9 (by omega) (by omega) (by rw [← e194]; omega)
                        refine a_goto C 214 dX7_together_210 (by decide) ?_
                        refine a_istore C [(5, vI z209), (4, vI w9), (3, vI P), (0, .ref (vq v b)), (1, vI i1), (2, vI i2)] dX7_together_214 (by decide) rfl ?_
                        refine a_aload_n C dX7_together_216 3 rfl rfl ?_
                        refine a_getf C hM.f0 hM.n0 (Cn := RX7) (T := TX7) (N := 30) rfl iX7 16 (by decide) k54 (w := .ref (vq v (b + 14))) rfl dX7_together_217 ?_
                        refine a_bipush C dX7_together_220 ?_
                        refine a_iload_n C dX7_together_222 4 rfl rfl ?_
                        refine a_imul C dX7_together_223 ?_
                        refine a_iload C dX7_together_224 1 rfl ?_
                        refine a_iadd C dX7_together_226 ?_
                        refine a_zald C hM.f14 hM.n14 2 hM.tB (by omega) (by omega) (by decide) dX7_together_227 (fun z227 e227 r227 => ?_)
                        rw [iG (b + 14) (by omega) (by omega), hF (b + 14) (by omega) (by omega) (by omega) (by omega), shR_i (σ (b + 14)) (40 * i1) w9 _ rfl] at e227
                        refine a_if_eq C 251 r227 dX7_together_228 (by decide) (fun c228 => ?_) (fun c228 => ?_)
                        · skip
                          refine a_iconst C dX7_together_251 ?_
                          refine a_istore C [(6, vI 0), (5, vI z209), (4, vI w9), (3, vI P), (0, .ref (vq v b)), (1, vI i1), (2, vI i2)] dX7_together_252 (by decide) rfl ?_
                          have ih9 := ih
                          have lpP : ∀ (n : Nat) (pc9 : Int) , (40 - pc9).toNat = n → (0 ≤ pc9 ∧ pc9 < P) → (∀ j : Int, 0 ≤ j → j < pc9 → κ j < w9) → At x v A Q 7 254 [(6, vI pc9), (5, vI z209), (4, vI w9), (3, vI P), (0, .ref (vq v b)), (1, vI i1), (2, vI i2)] [] μ := by
                            intro n
                            induction n using Nat.strongRecOn with
                            | _ n ihP =>
                              intro pc9 hn ip1 ip3
                              refine a_aload_n C dX7_together_254 4 rfl rfl ?_
                              refine a_getf C hM.f0 hM.n0 (Cn := RX7) (T := TX7) (N := 30) rfl iX7 27 (by decide) k76 (w := .ref (vq v (b + 21))) rfl dX7_together_255 ?_
                              refine a_iload C dX7_together_258 0 rfl ?_
                              refine a_iald C hM.f21 hM.n21 0 hM.tI (by omega) (by omega) (by decide) dX7_together_260 (fun z260 e260 r260 => ?_)
                              rw [iG (b + 21) (by omega) (by omega), hK] at e260
                              refine a_iload C dX7_together_261 2 rfl ?_
                              refine a_icmp_ge C 272 r260 (by omega) dX7_together_263 (by decide) (fun c263 => ?_) (fun c263 => ?_)
                              · skip
                                have hsp : pc9 = spOf κ P w9 := (spOf_eq (by omega) (by omega) ip3 (by omega)).symm
                                subst hsp
                                refine a_aload_n C dX7_together_272 4 rfl rfl ?_
                                refine a_getf C hM.f0 hM.n0 (Cn := RX7) (T := TX7) (N := 30) rfl iX7 28 (by decide) k79 (w := .ref (vq v (b + 22))) rfl dX7_together_273 ?_
                                refine a_iload C dX7_together_276 0 rfl ?_
                                refine a_dup2 C dX7_together_278 rfl rfl ?_
                                refine a_iald C hM.f22 hM.n22 0 hM.tI (by omega) (by omega) (by decide) dX7_together_279 (fun z279 e279 r279 => ?_)
                                have b279 := iN (spOf κ P w9) (by omega) (by omega)
                                rw [← e279] at b279
                                have b280 := hG (spOf κ P w9) (by omega) (by omega)
                                have b281 := hT1 (spOf κ P w9) (by omega) (by omega)
                                have b282 := hT2 (spOf κ P w9) (by omega) (by omega)
                                have b283 := hth (spOf κ P w9) w9 (by omega)
                                refine a_iload C dX7_together_280 1 rfl ?_
                                refine a_iadd C dX7_together_282 ?_
                                refine a_iast C hM.f22 hM.n22 0 hM.tI (by omega) (by omega) (by decide) (by omega) dX7_together_283 ?_
                                refine a_iinc C (w9 + 1) [(4, vI (w9 + 1)), (6, vI ((spOf κ P w9))), (5, vI z209), (3, vI P), (0, .ref (vq v b)), (1, vI i1), (2, vI i2)] dX7_together_284 2 rfl (by omega) (by decide) rfl ?_
                                refine a_goto C 176 dX7_together_287 (by decide) ?_
                                refine a_sub [0, 3, 4, 5, 6] [(4, vI (w9 + 1)), (3, vI P), (0, .ref (vq v b)), (1, vI i1), (2, vI i2)] rfl ?_
                                refine ih _ (by omega) (w9 + 1) _ rfl (by omega) ?_ ?_ ?_ (fun a q1 q2 => by rw [sput_r q2]; exact iG a q1 q2)
                                · intro j j0 j1; rw [sput_r (show b + 13 ≠ b + 22 by omega), iH j j0 j1]
                                  by_cases q : j = w9
                                  · subst q; rw [if_neg (by omega), if_neg (by omega)]
                                  · by_cases y : j < w9 ∧ (shR (σ (b + 14)) (40 * i1)) j ≠ 0 ∧ (shR (σ (b + 14)) (40 * i2)) j ≠ 0
                                    · rw [if_pos y, if_pos ⟨by omega, y.2⟩]
                                    · rw [if_neg y, if_neg (fun z => y ⟨by omega, z.2⟩)]
                                · intro j q; rw [sput_r (show b + 13 ≠ b + 22 by omega)]; exact iO j q
                                · intro j j0 j1
                                  rw [smR_last (by omega)]
                                  have h6 : thF (shR (σ (b + 14)) (40 * i1)) (shR (σ (b + 14)) (40 * i2)) (shR (σ (b + 13)) (40 * i2)) κ P j w9 = if spOf κ P w9 = j then z209 else 0 := by unfold thF; (by_cases y : spOf κ P w9 = j); (rw [if_pos y]; (first | (rw [if_pos (by omega), ← e209]) | rw [if_neg (by omega)])); (rw [if_neg y, if_neg (by omega)])
                                  rw [h6]
                                  by_cases q : j = spOf κ P w9
                                  · rw [q, sput_s, e279, if_pos rfl, iN _ (by omega) (by omega)]; omega
                                  · rw [sput_j _ _ _ _ _ q, if_neg (by omega), iN j j0 j1]; omega
                              · skip
                                have hlt : pc9 < P - 1 := by rcases Int.lt_or_le pc9 (P - 1) with z | z; exact z; (have e9 : pc9 = P - 1 := by omega); rw [e9, hku1.2.2.2.1] at e260; omega
                                refine a_iinc C (pc9 + 1) [(6, vI (pc9 + 1)), (5, vI z209), (4, vI w9), (3, vI P), (0, .ref (vq v b)), (1, vI i1), (2, vI i2)] dX7_together_266 0 rfl (by omega) (by decide) rfl ?_
                                refine a_goto C 254 dX7_together_269 (by decide) ?_
                                exact ihP _ (by omega) (pc9 + 1) rfl (by omega) (fun j q1 q2 => by by_cases z : j = pc9; (rw [z]; omega); exact ip3 j q1 (by omega))
                          exact lpP _ 0 rfl (by omega) (fun j q1 q2 => by omega)
                        · skip
                          refine a_aload_n C dX7_together_231 3 rfl rfl ?_
                          refine a_getf C hM.f0 hM.n0 (Cn := RX7) (T := TX7) (N := 30) rfl iX7 15 (by decide) k51 (w := .ref (vq v (b + 13))) rfl dX7_together_232 ?_
                          refine a_bipush C dX7_together_235 ?_
                          refine a_iload_n C dX7_together_237 4 rfl rfl ?_
                          refine a_imul C dX7_together_238 ?_
                          refine a_iload C dX7_together_239 1 rfl ?_
                          refine a_iadd C dX7_together_241 ?_
                          refine a_dup2 C dX7_together_242 rfl rfl ?_
                          refine a_iald C hM.f13 hM.n13 0 hM.tI (by omega) (by omega) (by decide) dX7_together_243 (fun z243 e243 r243 => ?_)
                          have b243 := iH w9 (by omega) (by omega)
                          rw [if_neg (by omega), ← e243] at b243
                          have b244 := kH1 w9 (by omega) (by omega)
                          simp only [shR_e] at b244
                          refine a_iload C dX7_together_244 0 rfl ?_
                          refine a_iadd C dX7_together_246 ?_
                          refine a_iast C hM.f13 hM.n13 0 hM.tI (by omega) (by omega) (by decide) (by omega) dX7_together_247 ?_
                          refine a_goto C 284 dX7_together_248 (by decide) ?_
                          refine a_iinc C (w9 + 1) [(4, vI (w9 + 1)), (5, vI z209), (3, vI P), (0, .ref (vq v b)), (1, vI i1), (2, vI i2)] dX7_together_284 1 rfl (by omega) (by decide) rfl ?_
                          refine a_goto C 176 dX7_together_287 (by decide) ?_
                          refine a_sub [0, 2, 3, 4, 5] [(4, vI (w9 + 1)), (3, vI P), (0, .ref (vq v b)), (1, vI i1), (2, vI i2)] rfl ?_
                          refine ih _ (by omega) (w9 + 1) _ rfl (by omega) ?_ ?_ ?_ (fun a q1 q2 => by rw [sput_r q1]; exact iG a q1 q2)
                          · intro j j0 j1
                            by_cases q : j = w9
                            · subst q; rw [sput_s, e243]; have h8 := iH j j0 j1; rw [if_neg (by omega)] at h8; rw [h8]; (first | (rw [if_pos (by omega), ← e209]) | (rw [if_neg (by omega)]; omega))
                            · rw [sput_j _ _ _ _ _ (by omega), iH j j0 j1]
                              by_cases y : j < w9 ∧ (shR (σ (b + 14)) (40 * i1)) j ≠ 0 ∧ (shR (σ (b + 14)) (40 * i2)) j ≠ 0
                              · rw [if_pos y, if_pos ⟨by omega, y.2⟩]
                              · rw [if_neg y, if_neg (fun z => y ⟨by omega, z.2⟩)]
                          · intro j q; rw [sput_j _ _ _ _ _ (by omega)]; exact iO j q
                          · intro j j0 j1; rw [sput_r (show b + 22 ≠ b + 13 by omega), smR_last (by omega), iN j j0 j1]; have h7 : thF (shR (σ (b + 14)) (40 * i1)) (shR (σ (b + 14)) (40 * i2)) (shR (σ (b + 13)) (40 * i2)) κ P j w9 = 0 := by unfold thF; rw [if_neg (by omega)]
                            omega
                exact lpC _ 0 u170 rfl (by omega) (fun j j0 j1 => by rw [if_neg (by omega), hF (b + 13) (by omega) (by omega) (by omega) (by omega)]) (fun j q => by rw [hF (b + 13) (by omega) (by omega) (by omega) (by omega)]) (fun j j0 j1 => by rw [smR_nil (by omega), Int.add_zero]) (fun a q1 q2 => rfl)
              have lpA : ∀ (n : Nat) (w9 p : Int) (τ : Mem) , (40 - w9).toNat = n → (0 ≤ w9 ∧ 0 ≤ p ∧ p ≤ w9) → (w9 ≤ 40) → (w9 ≤ 39 → wkI (shR (σ (b + 14)) (40 * i1)) (shR (σ (b + 14)) (40 * i2)) (τ (b + 21)) (moV σ b i1) (moV σ b i2) w9 p) → (w9 = 40 → enI (shR (σ (b + 14)) (40 * i1)) (shR (σ (b + 14)) (40 * i2)) (τ (b + 21)) (moV σ b i1) (moV σ b i2) p) → kvI (τ (b + 21)) (shR (σ (b + 15)) (40 * i1)) (σ (b + 11) i1) w9 p → kvI (τ (b + 21)) (shR (σ (b + 15)) (40 * i2)) (σ (b + 11) i2) w9 p → (∀ j : Int, 0 ≤ j → j < p → τ (b + 22) j = 0 ∧ τ (b + 23) j = 0) → (∀ a : Nat, a ≠ b + 21 → a ≠ b + 22 → a ≠ b + 23 → τ a = σ a) → At x v A Q 7 76 [(4, vI w9), (3, vI p), (0, .ref (vq v b)), (1, vI i1), (2, vI i2)] [] τ := by
                intro n
                induction n using Nat.strongRecOn with
                | _ n ih =>
                  intro w9 p τ hn iv1 iv2 iW iE iK1 iK2 iZ iF
                  refine a_iload C dX7_together_76 0 rfl ?_
                  refine a_bipush C dX7_together_78 ?_
                  refine a_icmp_ge C 161 (by omega) (by decide) dX7_together_80 (by decide) (fun c80 => ?_) (fun c80 => ?_)
                  · skip
                    have hw40 : w9 = 40 := by omega
                    subst hw40
                    obtain ⟨p0, hp0, hp1, κ, hw, hk1, hk2⟩ := iE rfl
                    exact l161 p p0 κ τ hp0 hp1 hw hk1 hk2 iK1 iK2 iZ iF
                  · skip
                    have gA1 : ((moV σ b i1).2.1 (spOf (moV σ b i1).2.1 (moV σ b i1).1 w9)) = (shR (σ (b + 15)) (40 * i1)) (spOf (shR (σ (b + 15)) (40 * i1)) (σ (b + 11) i1) w9) := by have g9 := spOf_in (S := moE σ b i1) kE1 (v := w9) (by omega); show mkR (σ (b + 11) i1) (shR (σ (b + 15)) (40 * i1)) (spOf (mkR (σ (b + 11) i1) (shR (σ (b + 15)) (40 * i1))) (σ (b + 11) i1) w9) = _; rw [spOf_mk]; exact mkR_in g9.1 g9.2.1
                    have gA2 : ((moV σ b i2).2.1 (spOf (moV σ b i2).2.1 (moV σ b i2).1 w9)) = (shR (σ (b + 15)) (40 * i2)) (spOf (shR (σ (b + 15)) (40 * i2)) (σ (b + 11) i2) w9) := by have g9 := spOf_in (S := moE σ b i2) kE2 (v := w9) (by omega); show mkR (σ (b + 11) i2) (shR (σ (b + 15)) (40 * i2)) (spOf (mkR (σ (b + 11) i2) (shR (σ (b + 15)) (40 * i2))) (σ (b + 11) i2) w9) = _; rw [spOf_mk]; exact mkR_in g9.1 g9.2.1
                    have g39 : (shR (σ (b + 15)) (40 * i1)) (spOf (shR (σ (b + 15)) (40 * i1)) (σ (b + 11) i1) 39) = 39 := by have g9 := spOf_in (S := moE σ b i1) kE1 (v := 39) (by omega); have g8 : 39 ≤ (shR (σ (b + 15)) (40 * i1)) (spOf (shR (σ (b + 15)) (40 * i1)) (σ (b + 11) i1) 39) := g9.2.2.2; have g7 := kE1.2.2.1 (spOf (shR (σ (b + 15)) (40 * i1)) (σ (b + 11) i1) 39) g9.1 g9.2.1; have g6 : (shR (σ (b + 15)) (40 * i1)) (spOf (shR (σ (b + 15)) (40 * i1)) (σ (b + 11) i1) 39) ≤ 39 := g7.2; omega
                    refine a_aload_n C dX7_together_83 2 rfl rfl ?_
                    refine a_getf C hM.f0 hM.n0 (Cn := RX7) (T := TX7) (N := 30) rfl iX7 17 (by decide) k58 (w := .ref (vq v (b + 15))) rfl dX7_together_84 ?_
                    refine a_bipush C dX7_together_87 ?_
                    refine a_iload_n C dX7_together_89 3 rfl rfl ?_
                    refine a_imul C dX7_together_90 ?_
                    refine a_aload_n C dX7_together_91 2 rfl rfl ?_
                    refine a_iload_n C dX7_together_92 3 rfl rfl ?_
                    refine a_iload C dX7_together_93 0 rfl ?_
                    refine a_cVI C (k0 := 2) (As := [vI i1, vI w9]) (rest := [vI (40 * i1), .ref (vq v (b + 15))]) (c_X7_spanOf x.2.1 v τ b hM i1 w9 (by omega) (by omega) (by unfold moE; rw [iF (b + 11) (by omega) (by omega) (by omega), iF (b + 15) (by omega) (by omega) (by omega), iF (b + 16) (by omega) (by omega) (by omega), iF (b + 17) (by omega) (by omega) (by omega)]; exact kE1)) gX7_together_X7_spanOf rfl (by decide +kernel) (by decide) hM.f0 rfl hM.n0 rfl rfl (Nat.le_of_ble_eq_true rfl) dX7_together_95 (fun z95 u95 r95 p95 => ?_)
                    obtain ⟨e95, p95⟩ := p95
                    subst u95
                    rw [iF (b + 15) (by omega) (by omega) (by omega), iF (b + 11) (by omega) (by omega) (by omega)] at e95
                    have s95 := (spOf_in (S := moE σ b i1) kE1 (v := w9) (by omega))
                    rw [show spOf (moE σ b i1).2.1 (moE σ b i1).1 w9 = z95 from e95.symm] at s95
                    have t95 : z95 < (σ (b + 11) i1) := s95.2.1
                    refine a_iadd C dX7_together_98 ?_
                    refine a_iald C hM.f15 hM.n15 0 hM.tI (by omega) (by omega) (by decide) dX7_together_99 (fun z99 e99 r99 => ?_)
                    rw [iF (b + 15) (by omega) (by omega) (by omega), shR_i (σ (b + 15)) (40 * i1) z95 _ rfl, e95] at e99
                    refine a_iload C dX7_together_100 0 rfl ?_
                    refine a_icmp_eq C 130 r99 (by omega) dX7_together_102 (by decide) (fun c102 => ?_) (fun c102 => ?_)
                    · skip
                      refine a_aload_n C dX7_together_130 2 rfl rfl ?_
                      refine a_getf C hM.f0 hM.n0 (Cn := RX7) (T := TX7) (N := 30) rfl iX7 27 (by decide) k76 (w := .ref (vq v (b + 21))) rfl dX7_together_131 ?_
                      refine a_iload_n C dX7_together_134 1 rfl rfl ?_
                      refine a_iload C dX7_together_135 0 rfl ?_
                      refine a_iast C hM.f21 hM.n21 0 hM.tI (by omega) (by omega) (by decide) (by omega) dX7_together_137 ?_
                      refine a_aload_n C dX7_together_138 2 rfl rfl ?_
                      refine a_getf C hM.f0 hM.n0 (Cn := RX7) (T := TX7) (N := 30) rfl iX7 28 (by decide) k79 (w := .ref (vq v (b + 22))) rfl dX7_together_139 ?_
                      refine a_iload_n C dX7_together_142 1 rfl rfl ?_
                      refine a_iconst C dX7_together_143 ?_
                      refine a_iast C hM.f22 hM.n22 0 hM.tI (by omega) (by omega) (by decide) (by decide) dX7_together_144 ?_
                      refine a_aload_n C dX7_together_145 2 rfl rfl ?_
                      refine a_getf C hM.f0 hM.n0 (Cn := RX7) (T := TX7) (N := 30) rfl iX7 29 (by decide) k82 (w := .ref (vq v (b + 23))) rfl dX7_together_146 ?_
                      refine a_iload_n C dX7_together_149 1 rfl rfl ?_
                      refine a_iconst C dX7_together_150 ?_
                      refine a_iast C hM.f23 hM.n23 0 hM.tI (by omega) (by omega) (by decide) (by decide) dX7_together_151 ?_
                      refine a_iinc C (p + 1) [(3, vI (p + 1)), (4, vI w9), (0, .ref (vq v b)), (1, vI i1), (2, vI i2)] dX7_together_152 1 rfl (by omega) (by decide) rfl ?_
                      refine a_iinc C (w9 + 1) [(4, vI (w9 + 1)), (3, vI (p + 1)), (0, .ref (vq v b)), (1, vI i1), (2, vI i2)] dX7_together_155 1 rfl (by omega) (by decide) rfl ?_
                      refine a_goto C 76 dX7_together_158 (by decide) ?_
                      refine ih _ (by omega) (w9 + 1) (p + 1) _ rfl (by omega) (by omega) ?_ ?_ ?_ ?_ ?_ ?_
                      · intro q; exact wkI_cut gS1 gS2 (by omega) (by omega) (by omega) (iW (by omega)) (by rw [gA1, gA2]; omega) (fun j q1 q2 => by rw [sput_r (show b + 21 ≠ b + 23 by omega), sput_r (show b + 21 ≠ b + 22 by omega), sput_j _ _ _ _ _ (by omega)]) (by rw [sput_r (show b + 21 ≠ b + 23 by omega), sput_r (show b + 21 ≠ b + 22 by omega), sput_s])
                      · intro q
                        have e39 : w9 = 39 := by omega
                        have h9 := iW (by omega)
                        rw [e39] at h9
                        exact ⟨p, rfl, iv1.2.1, τ (b + 21), h9, (fun j q1 q2 => by rw [sput_r (show b + 21 ≠ b + 23 by omega), sput_r (show b + 21 ≠ b + 22 by omega), sput_j _ _ _ _ _ (by omega)]), by rw [sput_r (show b + 21 ≠ b + 23 by omega), sput_r (show b + 21 ≠ b + 22 by omega), sput_s]; exact e39⟩
                      · exact kv_cut kE1 (by omega) (by omega) iK1 (fun j q1 q2 => by rw [sput_r (show b + 21 ≠ b + 23 by omega), sput_r (show b + 21 ≠ b + 22 by omega), sput_j _ _ _ _ _ (by omega)]) (by rw [sput_r (show b + 21 ≠ b + 23 by omega), sput_r (show b + 21 ≠ b + 22 by omega), sput_s])
                      · exact kv_cut kE2 (by omega) (by omega) iK2 (fun j q1 q2 => by rw [sput_r (show b + 21 ≠ b + 23 by omega), sput_r (show b + 21 ≠ b + 22 by omega), sput_j _ _ _ _ _ (by omega)]) (by rw [sput_r (show b + 21 ≠ b + 23 by omega), sput_r (show b + 21 ≠ b + 22 by omega), sput_s])
                      · intro j j0 j1
                        by_cases q : j = p
                        · subst q; rw [sput_r (show b + 22 ≠ b + 23 by omega), sput_s, sput_s]; exact ⟨rfl, rfl⟩
                        · rw [sput_r (show b + 22 ≠ b + 23 by omega), sput_j _ _ _ _ _ q, sput_j _ _ _ _ _ q, sput_r (show b + 22 ≠ b + 21 by omega), sput_r (show b + 23 ≠ b + 22 by omega), sput_r (show b + 23 ≠ b + 21 by omega)]; exact iZ j j0 (by omega)
                      · intro a q1 q2 q3; rw [sput_r q3, sput_r q2, sput_r q1]; exact iF a q1 q2 q3
                    · skip
                      refine a_aload_n C dX7_together_105 2 rfl rfl ?_
                      refine a_getf C hM.f0 hM.n0 (Cn := RX7) (T := TX7) (N := 30) rfl iX7 17 (by decide) k58 (w := .ref (vq v (b + 15))) rfl dX7_together_106 ?_
                      refine a_bipush C dX7_together_109 ?_
                      refine a_iload_n C dX7_together_111 4 rfl rfl ?_
                      refine a_imul C dX7_together_112 ?_
                      refine a_aload_n C dX7_together_113 2 rfl rfl ?_
                      refine a_iload_n C dX7_together_114 4 rfl rfl ?_
                      refine a_iload C dX7_together_115 0 rfl ?_
                      refine a_cVI C (k0 := 2) (As := [vI i2, vI w9]) (rest := [vI (40 * i2), .ref (vq v (b + 15))]) (c_X7_spanOf x.2.1 v τ b hM i2 w9 (by omega) (by omega) (by unfold moE; rw [iF (b + 11) (by omega) (by omega) (by omega), iF (b + 15) (by omega) (by omega) (by omega), iF (b + 16) (by omega) (by omega) (by omega), iF (b + 17) (by omega) (by omega) (by omega)]; exact kE2)) gX7_together_X7_spanOf rfl (by decide +kernel) (by decide) hM.f0 rfl hM.n0 rfl rfl (Nat.le_of_ble_eq_true rfl) dX7_together_117 (fun z117 u117 r117 p117 => ?_)
                      obtain ⟨e117, p117⟩ := p117
                      subst u117
                      rw [iF (b + 15) (by omega) (by omega) (by omega), iF (b + 11) (by omega) (by omega) (by omega)] at e117
                      have s117 := (spOf_in (S := moE σ b i2) kE2 (v := w9) (by omega))
                      rw [show spOf (moE σ b i2).2.1 (moE σ b i2).1 w9 = z117 from e117.symm] at s117
                      have t117 : z117 < (σ (b + 11) i2) := s117.2.1
                      refine a_iadd C dX7_together_120 ?_
                      refine a_iald C hM.f15 hM.n15 0 hM.tI (by omega) (by omega) (by decide) dX7_together_121 (fun z121 e121 r121 => ?_)
                      rw [iF (b + 15) (by omega) (by omega) (by omega), shR_i (σ (b + 15)) (40 * i2) z117 _ rfl, e117] at e121
                      refine a_iload C dX7_together_122 0 rfl ?_
                      refine a_icmp_eq C 130 r121 (by omega) dX7_together_124 (by decide) (fun c124 => ?_) (fun c124 => ?_)
                      · skip
                        refine a_aload_n C dX7_together_130 2 rfl rfl ?_
                        refine a_getf C hM.f0 hM.n0 (Cn := RX7) (T := TX7) (N := 30) rfl iX7 27 (by decide) k76 (w := .ref (vq v (b + 21))) rfl dX7_together_131 ?_
                        refine a_iload_n C dX7_together_134 1 rfl rfl ?_
                        refine a_iload C dX7_together_135 0 rfl ?_
                        refine a_iast C hM.f21 hM.n21 0 hM.tI (by omega) (by omega) (by decide) (by omega) dX7_together_137 ?_
                        refine a_aload_n C dX7_together_138 2 rfl rfl ?_
                        refine a_getf C hM.f0 hM.n0 (Cn := RX7) (T := TX7) (N := 30) rfl iX7 28 (by decide) k79 (w := .ref (vq v (b + 22))) rfl dX7_together_139 ?_
                        refine a_iload_n C dX7_together_142 1 rfl rfl ?_
                        refine a_iconst C dX7_together_143 ?_
                        refine a_iast C hM.f22 hM.n22 0 hM.tI (by omega) (by omega) (by decide) (by decide) dX7_together_144 ?_
                        refine a_aload_n C dX7_together_145 2 rfl rfl ?_
                        refine a_getf C hM.f0 hM.n0 (Cn := RX7) (T := TX7) (N := 30) rfl iX7 29 (by decide) k82 (w := .ref (vq v (b + 23))) rfl dX7_together_146 ?_
                        refine a_iload_n C dX7_together_149 1 rfl rfl ?_
                        refine a_iconst C dX7_together_150 ?_
                        refine a_iast C hM.f23 hM.n23 0 hM.tI (by omega) (by omega) (by decide) (by decide) dX7_together_151 ?_
                        refine a_iinc C (p + 1) [(3, vI (p + 1)), (4, vI w9), (0, .ref (vq v b)), (1, vI i1), (2, vI i2)] dX7_together_152 1 rfl (by omega) (by decide) rfl ?_
                        refine a_iinc C (w9 + 1) [(4, vI (w9 + 1)), (3, vI (p + 1)), (0, .ref (vq v b)), (1, vI i1), (2, vI i2)] dX7_together_155 1 rfl (by omega) (by decide) rfl ?_
                        refine a_goto C 76 dX7_together_158 (by decide) ?_
                        refine ih _ (by omega) (w9 + 1) (p + 1) _ rfl (by omega) (by omega) ?_ ?_ ?_ ?_ ?_ ?_
                        · intro q; exact wkI_cut gS1 gS2 (by omega) (by omega) (by omega) (iW (by omega)) (by rw [gA1, gA2]; omega) (fun j q1 q2 => by rw [sput_r (show b + 21 ≠ b + 23 by omega), sput_r (show b + 21 ≠ b + 22 by omega), sput_j _ _ _ _ _ (by omega)]) (by rw [sput_r (show b + 21 ≠ b + 23 by omega), sput_r (show b + 21 ≠ b + 22 by omega), sput_s])
                        · intro q
                          have e39 : w9 = 39 := by omega
                          have h9 := iW (by omega)
                          rw [e39] at h9
                          exact ⟨p, rfl, iv1.2.1, τ (b + 21), h9, (fun j q1 q2 => by rw [sput_r (show b + 21 ≠ b + 23 by omega), sput_r (show b + 21 ≠ b + 22 by omega), sput_j _ _ _ _ _ (by omega)]), by rw [sput_r (show b + 21 ≠ b + 23 by omega), sput_r (show b + 21 ≠ b + 22 by omega), sput_s]; exact e39⟩
                        · exact kv_cut kE1 (by omega) (by omega) iK1 (fun j q1 q2 => by rw [sput_r (show b + 21 ≠ b + 23 by omega), sput_r (show b + 21 ≠ b + 22 by omega), sput_j _ _ _ _ _ (by omega)]) (by rw [sput_r (show b + 21 ≠ b + 23 by omega), sput_r (show b + 21 ≠ b + 22 by omega), sput_s])
                        · exact kv_cut kE2 (by omega) (by omega) iK2 (fun j q1 q2 => by rw [sput_r (show b + 21 ≠ b + 23 by omega), sput_r (show b + 21 ≠ b + 22 by omega), sput_j _ _ _ _ _ (by omega)]) (by rw [sput_r (show b + 21 ≠ b + 23 by omega), sput_r (show b + 21 ≠ b + 22 by omega), sput_s])
                        · intro j j0 j1
                          by_cases q : j = p
                          · subst q; rw [sput_r (show b + 22 ≠ b + 23 by omega), sput_s, sput_s]; exact ⟨rfl, rfl⟩
                          · rw [sput_r (show b + 22 ≠ b + 23 by omega), sput_j _ _ _ _ _ q, sput_j _ _ _ _ _ q, sput_r (show b + 22 ≠ b + 21 by omega), sput_r (show b + 23 ≠ b + 22 by omega), sput_r (show b + 23 ≠ b + 21 by omega)]; exact iZ j j0 (by omega)
                        · intro a q1 q2 q3; rw [sput_r q3, sput_r q2, sput_r q1]; exact iF a q1 q2 q3
                      · skip
                        refine a_goto C 155 dX7_together_127 (by decide) ?_
                        refine a_iinc C (w9 + 1) [(4, vI (w9 + 1)), (3, vI p), (0, .ref (vq v b)), (1, vI i1), (2, vI i2)] dX7_together_155 0 rfl (by omega) (by decide) rfl ?_
                        refine a_goto C 76 dX7_together_158 (by decide) ?_
                        refine ih _ (by omega) (w9 + 1) p τ rfl (by omega) (by omega) ?_ ?_ ?_ ?_ iZ iF
                        · intro q; exact wkI_skip gS1 gS2 (by omega) (by omega) (iW (by omega)) (by rw [gA1]; omega) (by rw [gA2]; omega)
                        · intro q; exfalso
                          have e39 : w9 = 39 := by omega
                          subst e39
                          have := g39
                          omega
                        · exact kv_skip kE1 (by omega) iK1 (by omega)
                        · exact kv_skip kE2 (by omega) iK2 (by omega)
              exact lpA _ 0 0 σ rfl (by omega) (by omega) (fun _ => wkI_0 gS1 gS2 cnS_mk cnS_mk (by show σ (b + 11) i1 + σ (b + 11) i2 ≤ 24; omega)) (fun q => by omega) ⟨fun j q1 q2 => by omega, fun i j q1 q2 q3 => by omega, fun k k0 k1 k2 => by exfalso; have h9 := kE1.2.2.1 k k0 k1; have h8 : 0 ≤ (shR (σ (b + 15)) (40 * i1)) k := h9.1; omega⟩ ⟨fun j q1 q2 => by omega, fun i j q1 q2 q3 => by omega, fun k k0 k1 k2 => by exfalso; have h9 := kE2.2.2.1 k k0 k1; have h8 : 0 ≤ (shR (σ (b + 15)) (40 * i2)) k := h9.1; omega⟩ (fun j q1 q2 => by omega) (fun _ _ _ _ => rfl)
            · skip
              refine a_aload_n C dX7_together_65 0 rfl rfl ?_
              refine a_iconst C dX7_together_66 ?_
              refine a_cVI C (k0 := 1) (As := [vI 4]) (rest := []) (c_X7_refuse x.2.1 v σ b hM 4 (by omega)) gX7_together_X7_refuse rfl (by decide +kernel) (by decide) hM.f0 rfl hM.n0 rfl rfl (Nat.le_of_ble_eq_true rfl) dX7_together_67 (fun z67 u67 r67 p67 => ?_)
              obtain ⟨e67, p67⟩ := p67
              subst u67
              refine hret _ _ _ _ dX7_together_70 (by omega) ?_
              (repeat (first | rw [if_pos (by omega)] | rw [if_neg (by omega)]))
              exact ⟨by omega, rfl⟩
          · skip
            refine a_aload_n C dX7_together_43 0 rfl rfl ?_
            refine a_iconst C dX7_together_44 ?_
            refine a_cVI C (k0 := 1) (As := [vI 5]) (rest := []) (c_X7_refuse x.2.1 v σ b hM 5 (by omega)) gX7_together_X7_refuse rfl (by decide +kernel) (by decide) hM.f0 rfl hM.n0 rfl rfl (Nat.le_of_ble_eq_true rfl) dX7_together_45 (fun z45 u45 r45 p45 => ?_)
            obtain ⟨e45, p45⟩ := p45
            subst u45
            refine hret _ _ _ _ dX7_together_48 (by omega) ?_
            (repeat (first | rw [if_pos (by omega)] | rw [if_neg (by omega)]))
            exact ⟨by omega, rfl⟩
      · skip
        refine a_aload_n C dX7_together_19 0 rfl rfl ?_
        refine a_iconst C dX7_together_20 ?_
        refine a_cVI C (k0 := 1) (As := [vI 1]) (rest := []) (c_X7_refuse x.2.1 v σ b hM 1 (by omega)) gX7_together_X7_refuse rfl (by decide +kernel) (by decide) hM.f0 rfl hM.n0 rfl rfl (Nat.le_of_ble_eq_true rfl) dX7_together_21 (fun z21 u21 r21 p21 => ?_)
        obtain ⟨e21, p21⟩ := p21
        subst u21
        refine hret _ _ _ _ dX7_together_24 (by omega) ?_
        (repeat (first | rw [if_pos (by omega)] | rw [if_neg (by omega)]))
        exact ⟨by omega, rfl⟩
