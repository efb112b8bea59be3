/-! ===== a sketch refined at given cuts, piece by piece ===== -/
def rfS (h K : Int → Int) (p : Int) (T : SV) : SV := if T.2.1 p = K p then T else cutV h T p (K p)
def gvI (h K E C D : Int → Int) (n k p fr c d : Int) : Prop :=
  (itrR (rfS h K) 0 p (n, mkR n E, mkR n C, mkR n D)).1 = p + (n - k) ∧ (k < n → (itrR (rfS h K) 0 p (n, mkR n E, mkR n C, mkR n D)).2.1 p = E k ∧ (itrR (rfS h K) 0 p (n, mkR n E, mkR n C, mkR n D)).2.2.1 p = c ∧ (itrR (rfS h K) 0 p (n, mkR n E, mkR n C, mkR n D)).2.2.2 p = d ∧ fr ≤ E k) ∧ (∀ j : Int, 0 < j → k + j < n → (itrR (rfS h K) 0 p (n, mkR n E, mkR n C, mkR n D)).2.1 (p + j) = E (k + j) ∧ (itrR (rfS h K) 0 p (n, mkR n E, mkR n C, mkR n D)).2.2.1 (p + j) = C (k + j) ∧ (itrR (rfS h K) 0 p (n, mkR n E, mkR n C, mkR n D)).2.2.2 (p + j) = D (k + j)) ∧ foF (itrR (rfS h K) 0 p (n, mkR n E, mkR n C, mkR n D)).2.1 p = fr ∧ ∀ j : Int, 0 ≤ j → j < p → K j < fr
theorem gvI_0 {h K E C D : Int → Int} {n : Int} (hn : 0 < n) (hE : 0 ≤ E 0) : gvI h K E C D n 0 0 0 (C 0) (D 0) := by
  unfold gvI
  rw [itrR_nil (by omega)]
  refine ⟨by dsimp only; omega, fun _ => ⟨mkR_in (by omega) hn, mkR_in (by omega) hn, mkR_in (by omega) hn, hE⟩, fun j j0 j1 => ?_, rfl, fun j q1 q2 => by omega⟩
  dsimp only
  rw [show (0 : Int) + j = j by omega, mkR_in (by omega) (by omega), mkR_in (by omega) (by omega), mkR_in (by omega) (by omega)]
  exact ⟨rfl, rfl, rfl⟩
/-- inside of a span: a cut -/
theorem gvI_in {h K E C D : Int → Int} {n k p fr c d : Int} (hp : 0 ≤ p) (hk : k < n) (hI : gvI h K E C D n k p fr c d) (hK : K p < E k) (hm : ∀ j : Int, 0 ≤ j → j < p → K j < K p) :
    gvI h K E C D n k (p + 1) (K p + 1) (hvF c d (ltC h fr (K p)) (ltC h (K p + 1) (E k))).2.1 (hvF c d (ltC h fr (K p)) (ltC h (K p + 1) (E k))).2.2 ∧ (itrR (rfS h K) 0 (p + 1) (n, mkR n E, mkR n C, mkR n D)).2.2.1 p = (hvF c d (ltC h fr (K p)) (ltC h (K p + 1) (E k))).1.1 ∧ (itrR (rfS h K) 0 (p + 1) (n, mkR n E, mkR n C, mkR n D)).2.2.2 p = (hvF c d (ltC h fr (K p)) (ltC h (K p + 1) (E k))).1.2 ∧ ∀ j : Int, j < p → (itrR (rfS h K) 0 (p + 1) (n, mkR n E, mkR n C, mkR n D)).2.2.1 j = (itrR (rfS h K) 0 p (n, mkR n E, mkR n C, mkR n D)).2.2.1 j ∧ (itrR (rfS h K) 0 (p + 1) (n, mkR n E, mkR n C, mkR n D)).2.2.2 j = (itrR (rfS h K) 0 p (n, mkR n E, mkR n C, mkR n D)).2.2.2 j := by
  unfold gvI at *
  rw [itrR_right hp]
  generalize (itrR (rfS h K) 0 p (n, mkR n E, mkR n C, mkR n D)) = T at *
  obtain ⟨h1, h2, h3, h4, h5⟩ := hI
  obtain ⟨a1, a2, a3, a4⟩ := h2 hk
  have e : rfS h K p T = cutV h T p (K p) := by unfold rfS; rw [if_neg (by omega)]
  rw [e]
  simp only [cutV]
  rw [a1, a2, a3, h4]
  refine ⟨⟨by omega, fun _ => ⟨insR_k1 rfl, insR_k1 rfl, insR_k1 rfl, by omega⟩, fun j j0 j1 => ?_, ?_, fun j q1 q2 => ?_⟩, insR_k, insR_k, fun j q => ⟨insR_lt q, insR_lt q⟩⟩
  · rw [insR_gt (by omega), insR_gt (by omega), insR_gt (by omega), show p + 1 + j - 1 = p + j by omega]
    exact h3 j j0 j1
  · unfold foF
    rw [if_pos (by omega), show p + 1 - 1 = p by omega, insR_k]
  · by_cases q : j = p
    · rw [q]; omega
    · have := hm j q1 (by omega); omega
/-- at a span's end: no cut -/
theorem gvI_out {h K E C D : Int → Int} {n k p fr c d : Int} (hp : 0 ≤ p) (hk : k < n) (hk0 : 0 ≤ k) (hI : gvI h K E C D n k p fr c d) (hK : K p = E k) (hE : k + 1 < n → E k < E (k + 1)) (hm : ∀ j : Int, 0 ≤ j → j < p → K j < K p) :
    gvI h K E C D n (k + 1) (p + 1) (E k + 1) (C (k + 1)) (D (k + 1)) ∧ (itrR (rfS h K) 0 (p + 1) (n, mkR n E, mkR n C, mkR n D)) = (itrR (rfS h K) 0 p (n, mkR n E, mkR n C, mkR n D)) ∧ (itrR (rfS h K) 0 p (n, mkR n E, mkR n C, mkR n D)).2.2.1 p = c ∧ (itrR (rfS h K) 0 p (n, mkR n E, mkR n C, mkR n D)).2.2.2 p = d := by
  unfold gvI at *
  rw [itrR_right hp]
  generalize (itrR (rfS h K) 0 p (n, mkR n E, mkR n C, mkR n D)) = T at *
  obtain ⟨h1, h2, h3, h4, h5⟩ := hI
  obtain ⟨a1, a2, a3, a4⟩ := h2 hk
  have e : rfS h K p T = T := by unfold rfS; rw [if_pos (by omega)]
  rw [e]
  refine ⟨⟨by omega, fun q => ?_, fun j j0 j1 => ?_, ?_, fun j q1 q2 => ?_⟩, rfl, a2, a3⟩
  · have := h3 1 (by omega) q
    have := hE q
    exact ⟨by omega, by omega, by omega, by omega⟩
  · have := h3 (j + 1) (by omega) (by omega)
    rw [show p + (j + 1) = p + 1 + j by omega, show k + (j + 1) = k + 1 + j by omega] at this
    exact this
  · unfold foF
    rw [if_pos (by omega), show p + 1 - 1 = p by omega, a1]
  · by_cases q : j = p
    · rw [q]; omega
    · have := hm j q1 (by omega); omega
/-- the cuts: in order, up to the last value, and every end is one of them -/
def kuI (K E : Int → Int) (n P : Int) : Prop := (1 ≤ P ∧ P ≤ 24) ∧ (∀ j : Int, 0 ≤ j → j < P → 0 ≤ K j ∧ K j ≤ 39) ∧ (∀ i j : Int, 0 ≤ i → i < j → j < P → K i < K j) ∧ K (P - 1) = 39 ∧ ∀ k : Int, 0 ≤ k → k < n → ∃ j : Int, 0 ≤ j ∧ j < P ∧ K j = E k
theorem gvI_at {h K E C D : Int → Int} {n k p fr c d P : Int} (hK : kuI K E n P) (hI : gvI h K E C D n k p fr c d) (hk0 : 0 ≤ k) (hk : k < n) (hp : 0 ≤ p) : p < P ∧ K p ≤ E k := by
  obtain ⟨j, j0, j1, j2⟩ := hK.2.2.2.2 k hk0 hk
  have a := (hI.2.1 hk).2.2.2
  have q : p ≤ j := by
    rcases Int.lt_or_le j p with z | z
    · have := hI.2.2.2.2 j j0 z; omega
    · exact z
  refine ⟨by omega, ?_⟩
  by_cases z : p = j
  · rw [z]; omega
  · have := hK.2.2.1 p j hp (by omega) j1; omega
set_option maxHeartbeats 4000000 in
set_option maxRecDepth 100000 in
theorem c_X7_gives (l : Launch) (v : VC) (σ : Mem) (b : Nat) (hM : shMo v b) (cl P : Int) (hc : 0 ≤ cl ∧ cl < 3) (hE : svE (moE σ b cl)) (hKu : kuI (σ (b + 21)) (shR (σ (b + 15)) (40 * cl)) (σ (b + 11) cl) P) (hB : ∀ j : Int, 0 ≤ j → j < (σ (b + 11) cl) → (-20000000 ≤ (shR (σ (b + 16)) (40 * cl)) j ∧ (shR (σ (b + 16)) (40 * cl)) j ≤ 20000000) ∧ 0 ≤ (shR (σ (b + 17)) (40 * cl)) j ∧ (shR (σ (b + 17)) (40 * cl)) j ≤ 1000000) (hN : ∀ j : Int, 0 ≤ j → j < P → (-40000000 ≤ σ (b + 22) j ∧ σ (b + 22) j ≤ 40000000) ∧ 0 ≤ σ (b + 23) j ∧ σ (b + 23) j ≤ 1000000) : CtV l yX7_gives wsX7_gives 3 68 v [.ref (vq v b), vI cl, vI P] σ (fun u => (∀ j : Int, 0 ≤ j → j < P → u (b + 22) j = σ (b + 22) j + (itrR (rfS (shR (σ (b + 14)) (40 * cl)) (σ (b + 21))) 0 P (moV σ b cl)).2.2.1 j ∧ u (b + 23) j = min (σ (b + 23) j + (itrR (rfS (shR (σ (b + 14)) (40 * cl)) (σ (b + 21))) 0 P (moV σ b cl)).2.2.2 j) 1000000) ∧ (∀ a : Nat, a ≠ b → a ≠ b + 22 → a ≠ b + 23 → u a = σ a) ∧ (∀ j : Int, j ≠ 23 → j ≠ 24 → j ≠ 25 → j ≠ 26 → u b j = σ b j)) := by
  refine mkV (cc := cX7_gives) (n := 9) (by decide +kernel) rfl (Nat.le_of_ble_eq_true rfl) (fun x A Q hx C hret => ?_)
  subst hx
  show At x v A Q _ 0 [(0, .ref (vq v b)), (1, vI cl), (2, vI P)] [] σ
  have iX7 : ∀ w ∈ wsX70, w ∈ wsX7_gives := by decide +kernel
  have k45 : Cond.fieldLink RX7 45 (TX7 13).1 (TX7 13).2.1 (TX7 13).2.2.1 ∈ wsX7_gives := by decide +kernel
  have k58 : Cond.fieldLink RX7 58 (TX7 17).1 (TX7 17).2.1 (TX7 17).2.2.1 ∈ wsX7_gives := by decide +kernel
  have k61 : Cond.fieldLink RX7 61 (TX7 18).1 (TX7 18).2.1 (TX7 18).2.2.1 ∈ wsX7_gives := by decide +kernel
  have k64 : Cond.fieldLink RX7 64 (TX7 19).1 (TX7 19).2.1 (TX7 19).2.2.1 ∈ wsX7_gives := by decide +kernel
  have k76 : Cond.fieldLink RX7 76 (TX7 27).1 (TX7 27).2.1 (TX7 27).2.2.1 ∈ wsX7_gives := by decide +kernel
  have k79 : Cond.fieldLink RX7 79 (TX7 28).1 (TX7 28).2.1 (TX7 28).2.2.1 ∈ wsX7_gives := by decide +kernel
  have k82 : Cond.fieldLink RX7 82 (TX7 29).1 (TX7 29).2.1 (TX7 29).2.2.1 ∈ wsX7_gives := by decide +kernel
  have k173 : Cond.fieldLink RX7 173 (TX7 23).1 (TX7 23).2.1 (TX7 23).2.2.1 ∈ wsX7_gives := by decide +kernel
  have k179 : Cond.fieldLink RX7 179 (TX7 24).1 (TX7 24).2.1 (TX7 24).2.2.1 ∈ wsX7_gives := by decide +kernel
  have k182 : Cond.fieldLink RX7 182 (TX7 25).1 (TX7 25).2.1 (TX7 25).2.2.1 ∈ wsX7_gives := by decide +kernel
  have k185 : Cond.fieldLink RX7 185 (TX7 26).1 (TX7 26).2.1 (TX7 26).2.2.1 ∈ wsX7_gives := by decide +kernel
  have n1 : 1 ≤ (σ (b + 11) cl) := hE.1
  have n2 : (σ (b + 11) cl) ≤ 24 := hE.2.1
  have nE : ∀ j : Int, 0 ≤ j → j < (σ (b + 11) cl) → 0 ≤ (shR (σ (b + 15)) (40 * cl)) j ∧ (shR (σ (b + 15)) (40 * cl)) j ≤ 39 := hE.2.2.1
  have P1 := hKu.1
  have lp : ∀ (n : Nat) (k p : Int) (τ : Mem) , (24 - k).toNat = n → 0 ≤ k ∧ k ≤ (σ (b + 11) cl) → (0 ≤ p ∧ p ≤ 39) → gvI (shR (σ (b + 14)) (40 * cl)) (σ (b + 21)) (shR (σ (b + 15)) (40 * cl)) (shR (σ (b + 16)) (40 * cl)) (shR (σ (b + 17)) (40 * cl)) (σ (b + 11) cl) k p (foF (shR (σ (b + 15)) (40 * cl)) k) ((shR (σ (b + 16)) (40 * cl)) k) ((shR (σ (b + 17)) (40 * cl)) k) → (0 < k → 0 < p ∧ σ (b + 21) (p - 1) = (shR (σ (b + 15)) (40 * cl)) (k - 1)) → (∀ j : Int, 0 ≤ j → j < p → τ (b + 22) j = σ (b + 22) j + (itrR (rfS (shR (σ (b + 14)) (40 * cl)) (σ (b + 21))) 0 p (moV σ b cl)).2.2.1 j ∧ τ (b + 23) j = min (σ (b + 23) j + (itrR (rfS (shR (σ (b + 14)) (40 * cl)) (σ (b + 21))) 0 p (moV σ b cl)).2.2.2 j) 1000000) → (∀ j : Int, p ≤ j → τ (b + 22) j = σ (b + 22) j ∧ τ (b + 23) j = σ (b + 23) j) → ((∀ a : Nat, a ≠ b → a ≠ b + 22 → a ≠ b + 23 → τ a = σ a) ∧ (∀ j : Int, j ≠ 23 → j ≠ 24 → j ≠ 25 → j ≠ 26 → τ b j = σ b j)) → p ≤ P → At x v A Q 9 5 [(4, vI k), (3, vI p), (0, .ref (vq v b)), (1, vI cl), (2, vI P)] [] τ := by
    intro n
    induction n using Nat.strongRecOn with
    | _ n ih =>
      intro k p τ hn ivk ivp iI iL iD iU iF iPp
      refine a_iload C dX7_gives_5 0 rfl ?_
      refine a_aload_n C dX7_gives_7 2 rfl rfl ?_
      refine a_getf C hM.f0 hM.n0 (Cn := RX7) (T := TX7) (N := 30) rfl iX7 13 (by decide) k45 (w := .ref (vq v (b + 11))) rfl dX7_gives_8 ?_
      refine a_iload_n C dX7_gives_11 3 rfl rfl ?_
      refine a_iald C hM.f11 hM.n11 0 hM.tI (by omega) (by omega) (by decide) dX7_gives_12 (fun z12 e12 r12 => ?_)
      rw [iF.1 (b + 11) (by omega) (by omega) (by omega)] at e12
      refine a_icmp_ge C 213 (by omega) r12 dX7_gives_13 (by decide) (fun c13 => ?_) (fun c13 => ?_)
      · skip
        have hkn : k = (σ (b + 11) cl) := by omega
        have hl := iL (by omega)
        have hpP : p = P := by
          have hl2 : σ (b + 21) (p - 1) = 39 := by rw [hl.2, hkn]; exact hE.2.2.2.2
          rcases Int.lt_trichotomy (p - 1) (P - 1) with z | z | z
          · have := hKu.2.2.1 (p - 1) (P - 1) (by omega) z (by omega); have := hKu.2.2.2.1; omega
          · omega
          · omega
        subst hpP
        exact hret _ _ _ dX7_gives_213 ⟨iD, iF.1, iF.2⟩
      · skip
        refine a_aload_n C dX7_gives_16 2 rfl rfl ?_
        refine a_iload_n C dX7_gives_17 3 rfl rfl ?_
        refine a_iload C dX7_gives_18 0 rfl ?_
        refine a_cVI C (k0 := 2) (As := [vI cl, vI k]) (rest := []) (c_X7_begins x.2.1 v τ b hM cl k hc (by omega) (by rw [iF.1 (b + 15) (by omega) (by omega) (by omega)]; exact fun q => nE (k - 1) (by omega) (by omega))) gX7_gives_X7_begins rfl (by decide +kernel) (by decide) hM.f0 rfl hM.n0 rfl rfl (Nat.le_of_ble_eq_true rfl) dX7_gives_20 (fun z20 u20 r20 p20 => ?_)
        obtain ⟨e20, p20⟩ := p20
        subst u20
        rw [iF.1 (b + 15) (by omega) (by omega) (by omega)] at e20
        have q20 : 0 ≤ foF (shR (σ (b + 15)) (40 * cl)) k ∧ foF (shR (σ (b + 15)) (40 * cl)) k ≤ 40 := by unfold foF; split; (have := nE (k - 1) (by omega) (by omega); omega); omega
        rw [← e20] at q20
        refine a_istore C [(5, vI z20), (4, vI k), (3, vI p), (0, .ref (vq v b)), (1, vI cl), (2, vI P)] dX7_gives_23 (by decide) rfl ?_
        refine a_aload_n C dX7_gives_25 3 rfl rfl ?_
        refine a_getf C hM.f0 hM.n0 (Cn := RX7) (T := TX7) (N := 30) rfl iX7 17 (by decide) k58 (w := .ref (vq v (b + 15))) rfl dX7_gives_26 ?_
        refine a_bipush C dX7_gives_29 ?_
        refine a_iload_n C dX7_gives_31 4 rfl rfl ?_
        refine a_imul C dX7_gives_32 ?_
        refine a_iload C dX7_gives_33 1 rfl ?_
        refine a_iadd C dX7_gives_35 ?_
        refine a_iald C hM.f15 hM.n15 0 hM.tI (by omega) (by omega) (by decide) dX7_gives_36 (fun z36 e36 r36 => ?_)
        rw [iF.1 (b + 15) (by omega) (by omega) (by omega), shR_i (σ (b + 15)) (40 * cl) k _ rfl] at e36
        have q36 := nE k (by omega) (by omega)
        refine a_istore C [(6, vI z36), (5, vI z20), (4, vI k), (3, vI p), (0, .ref (vq v b)), (1, vI cl), (2, vI P)] dX7_gives_37 (by decide) rfl ?_
        refine a_aload_n C dX7_gives_39 4 rfl rfl ?_
        refine a_getf C hM.f0 hM.n0 (Cn := RX7) (T := TX7) (N := 30) rfl iX7 18 (by decide) k61 (w := .ref (vq v (b + 16))) rfl dX7_gives_40 ?_
        refine a_bipush C dX7_gives_43 ?_
        refine a_iload_n C dX7_gives_45 5 rfl rfl ?_
        refine a_imul C dX7_gives_46 ?_
        refine a_iload C dX7_gives_47 2 rfl ?_
        refine a_iadd C dX7_gives_49 ?_
        refine a_iald C hM.f16 hM.n16 0 hM.tI (by omega) (by omega) (by decide) dX7_gives_50 (fun z50 e50 r50 => ?_)
        rw [iF.1 (b + 16) (by omega) (by omega) (by omega), shR_i (σ (b + 16)) (40 * cl) k _ rfl] at e50
        have q50 := hB k (by omega) (by omega)
        refine a_istore C [(7, vI z50), (6, vI z36), (5, vI z20), (4, vI k), (3, vI p), (0, .ref (vq v b)), (1, vI cl), (2, vI P)] dX7_gives_51 (by decide) rfl ?_
        refine a_aload_n C dX7_gives_53 5 rfl rfl ?_
        refine a_getf C hM.f0 hM.n0 (Cn := RX7) (T := TX7) (N := 30) rfl iX7 19 (by decide) k64 (w := .ref (vq v (b + 17))) rfl dX7_gives_54 ?_
        refine a_bipush C dX7_gives_57 ?_
        refine a_iload_n C dX7_gives_59 6 rfl rfl ?_
        refine a_imul C dX7_gives_60 ?_
        refine a_iload C dX7_gives_61 3 rfl ?_
        refine a_iadd C dX7_gives_63 ?_
        refine a_iald C hM.f17 hM.n17 0 hM.tI (by omega) (by omega) (by decide) dX7_gives_64 (fun z64 e64 r64 => ?_)
        rw [iF.1 (b + 17) (by omega) (by omega) (by omega), shR_i (σ (b + 17)) (40 * cl) k _ rfl] at e64
        refine a_istore C [(8, vI z64), (7, vI z50), (6, vI z36), (5, vI z20), (4, vI k), (3, vI p), (0, .ref (vq v b)), (1, vI cl), (2, vI P)] dX7_gives_65 (by decide) rfl ?_
        have ihO := ih
        have lpi : ∀ (n : Nat) (p fr c d : Int) (τ : Mem) , (40 - p).toNat = n → 0 ≤ p ∧ p ≤ 39 → gvI (shR (σ (b + 14)) (40 * cl)) (σ (b + 21)) (shR (σ (b + 15)) (40 * cl)) (shR (σ (b + 16)) (40 * cl)) (shR (σ (b + 17)) (40 * cl)) (σ (b + 11) cl) k p fr c d → (0 ≤ fr ∧ fr ≤ 40) → (-20000000 ≤ c ∧ c ≤ 20000000) → (0 ≤ d ∧ d ≤ 1000000) → (∀ j : Int, 0 ≤ j → j < p → τ (b + 22) j = σ (b + 22) j + (itrR (rfS (shR (σ (b + 14)) (40 * cl)) (σ (b + 21))) 0 p (moV σ b cl)).2.2.1 j ∧ τ (b + 23) j = min (σ (b + 23) j + (itrR (rfS (shR (σ (b + 14)) (40 * cl)) (σ (b + 21))) 0 p (moV σ b cl)).2.2.2 j) 1000000) → (∀ j : Int, p ≤ j → τ (b + 22) j = σ (b + 22) j ∧ τ (b + 23) j = σ (b + 23) j) → ((∀ a : Nat, a ≠ b → a ≠ b + 22 → a ≠ b + 23 → τ a = σ a) ∧ (∀ j : Int, j ≠ 23 → j ≠ 24 → j ≠ 25 → j ≠ 26 → τ b j = σ b j)) → At x v A Q 9 67 [(8, vI d), (7, vI c), (6, vI z36), (5, vI fr), (4, vI k), (3, vI p), (0, .ref (vq v b)), (1, vI cl), (2, vI P)] [] τ := by
          intro n
          induction n using Nat.strongRecOn with
          | _ n ih =>
            intro p fr c d τ hn ivp iI ifr icb idb iD iU iF
            refine a_aload_n C dX7_gives_67 6 rfl rfl ?_
            refine a_getf C hM.f0 hM.n0 (Cn := RX7) (T := TX7) (N := 30) rfl iX7 27 (by decide) k76 (w := .ref (vq v (b + 21))) rfl dX7_gives_68 ?_
            refine a_iload_n C dX7_gives_71 5 rfl rfl ?_
            have hat := gvI_at hKu iI (by omega) (by omega) (by omega)
            have hkb := hKu.2.1 p (by omega) hat.1
            refine a_iald C hM.f21 hM.n21 0 hM.tI (by omega) (by omega) (by decide) dX7_gives_72 (fun z72 e72 r72 => ?_)
            rw [iF.1 (b + 21) (by omega) (by omega) (by omega)] at e72
            refine a_iload C dX7_gives_73 2 rfl ?_
            refine a_icmp_ge C 175 r72 r36 dX7_gives_75 (by decide) (fun c75 => ?_) (fun c75 => ?_)
            · skip
              refine a_aload_n C dX7_gives_175 6 rfl rfl ?_
              refine a_getf C hM.f0 hM.n0 (Cn := RX7) (T := TX7) (N := 30) rfl iX7 28 (by decide) k79 (w := .ref (vq v (b + 22))) rfl dX7_gives_176 ?_
              refine a_iload_n C dX7_gives_179 5 rfl rfl ?_
              refine a_dup2 C dX7_gives_180 rfl rfl ?_
              have hat := gvI_at hKu iI (by omega) (by omega) (by omega)
              have hnb := hN p (by omega) hat.1
              refine a_iald C hM.f22 hM.n22 0 hM.tI (by omega) (by omega) (by decide) dX7_gives_181 (fun z181 e181 r181 => ?_)
              have b181 := (iU p (by omega)).1
              refine a_iload C dX7_gives_182 1 rfl ?_
              refine a_iadd C dX7_gives_184 ?_
              refine a_iast C hM.f22 hM.n22 0 hM.tI (by omega) (by omega) (by decide) (by omega) dX7_gives_185 ?_
              refine a_aload_n C dX7_gives_186 6 rfl rfl ?_
              refine a_getf C hM.f0 hM.n0 (Cn := RX7) (T := TX7) (N := 30) rfl iX7 29 (by decide) k82 (w := .ref (vq v (b + 23))) rfl dX7_gives_187 ?_
              refine a_iload_n C dX7_gives_190 5 rfl rfl ?_
              refine a_aload_n C dX7_gives_191 6 rfl rfl ?_
              refine a_getf C hM.f0 hM.n0 (Cn := RX7) (T := TX7) (N := 30) rfl iX7 29 (by decide) k82 (w := .ref (vq v (b + 23))) rfl dX7_gives_192 ?_
              refine a_iload_n C dX7_gives_195 5 rfl rfl ?_
              refine a_iald C hM.f23 hM.n23 0 hM.tI (by omega) (by omega) (by decide) dX7_gives_196 (fun z196 e196 r196 => ?_)
              try simp [sput_r, mset_n, sput, mset] at e196
              have b196 := (iU p (by omega)).2
              refine a_iload C dX7_gives_197 0 rfl ?_
              refine a_iadd C dX7_gives_199 ?_
              refine a_cSI C (k0 := 1) (As := [vI (z196 + d)]) (rest := [vI p, .ref (vq v (b + 23))]) (c_X7_capped x.2.1 v (sput τ (b + 22) p (z181 + c)) (z196 + d) (by omega)) gX7_gives_X7_capped rfl (by decide +kernel) (by decide) rfl rfl (Nat.le_of_ble_eq_true rfl) dX7_gives_200 (fun z200 u200 r200 p200 => ?_)
              obtain ⟨e200, p200⟩ := p200
              subst u200
              try simp [sput_r, mset_n, sput, mset] at e200
              refine a_iast C hM.f23 hM.n23 0 hM.tI (by omega) (by omega) (by decide) r200 dX7_gives_203 ?_
              refine a_iinc C (p + 1) [(3, vI (p + 1)), (8, vI d), (7, vI c), (6, vI z36), (5, vI fr), (4, vI k), (0, .ref (vq v b)), (1, vI cl), (2, vI P)] dX7_gives_204 5 rfl (by omega) (by decide) rfl ?_
              refine a_iinc C (k + 1) [(4, vI (k + 1)), (3, vI (p + 1)), (8, vI d), (7, vI c), (6, vI z36), (5, vI fr), (0, .ref (vq v b)), (1, vI cl), (2, vI P)] dX7_gives_207 5 rfl (by omega) (by decide) rfl ?_
              refine a_goto C 5 dX7_gives_210 (by decide) ?_
              refine a_sub [0, 1, 6, 7, 8] [(4, vI (k + 1)), (3, vI (p + 1)), (0, .ref (vq v b)), (1, vI cl), (2, vI P)] rfl ?_
              have hKe : σ (b + 21) p = shR (σ (b + 15)) (40 * cl) k := by omega
              have go := gvI_out (by omega) (by omega) (by omega) iI hKe (fun q => hE.2.2.2.1 k (k + 1) (by omega) (by omega) q) (fun j q1 q2 => hKu.2.2.1 j p q1 q2 (by omega))
              obtain ⟨go1, go2, go3, go4⟩ := go
              have go3 : (itrR (rfS (shR (σ (b + 14)) (40 * cl)) (σ (b + 21))) 0 p (moV σ b cl)).2.2.1 p = c := go3
              have go4 : (itrR (rfS (shR (σ (b + 14)) (40 * cl)) (σ (b + 21))) 0 p (moV σ b cl)).2.2.2 p = d := go4
              have go2 : (itrR (rfS (shR (σ (b + 14)) (40 * cl)) (σ (b + 21))) 0 (p + 1) (moV σ b cl)) = (itrR (rfS (shR (σ (b + 14)) (40 * cl)) (σ (b + 21))) 0 p (moV σ b cl)) := go2
              refine ihO _ (by omega) (k + 1) (p + 1) _ rfl (by omega) (by omega) ?_ (fun _ => ⟨by omega, by rw [show p + 1 - 1 = p by omega, show k + 1 - 1 = k by omega]; exact hKe⟩) ?_ ?_ ⟨fun a q0 q1 q2 => by rw [sput_r q2, sput_r q1]; exact iF.1 a q0 q1 q2, fun j q1 q2 q3 q4 => by rw [sput_r (by omega), sput_r (by omega)]; exact iF.2 j q1 q2 q3 q4⟩ (by omega)
              · rw [show foF (shR (σ (b + 15)) (40 * cl)) (k + 1) = (shR (σ (b + 15)) (40 * cl)) k + 1 by unfold foF; rw [if_pos (by omega), show k + 1 - 1 = k by omega]]; exact go1
              · intro j j0 j1
                rw [go2]
                by_cases q : j = p
                · subst q; rw [sput_r (show b + 22 ≠ b + 23 by omega), sput_s, sput_s, go3, go4, e181, e200, e196, (iU j (by omega)).1, (iU j (by omega)).2]; exact ⟨rfl, rfl⟩
                · rw [sput_r (show b + 22 ≠ b + 23 by omega), sput_j _ _ _ _ _ q, sput_j _ _ _ _ _ q, sput_r (by omega)]; exact iD j j0 (by omega)
              · intro j j0
                rw [sput_r (show b + 22 ≠ b + 23 by omega), sput_j _ _ _ _ _ (by omega), sput_j _ _ _ _ _ (by omega), sput_r (by omega)]; exact iU j (by omega)
            · skip
              refine a_aload_n C dX7_gives_78 6 rfl rfl ?_
              refine a_iload C dX7_gives_79 1 rfl ?_
              refine a_iload C dX7_gives_81 0 rfl ?_
              refine a_aload_n C dX7_gives_83 6 rfl rfl ?_
              refine a_iload_n C dX7_gives_84 7 rfl rfl ?_
              refine a_iload C dX7_gives_85 3 rfl ?_
              refine a_aload_n C dX7_gives_87 6 rfl rfl ?_
              refine a_getf C hM.f0 hM.n0 (Cn := RX7) (T := TX7) (N := 30) rfl iX7 27 (by decide) k76 (w := .ref (vq v (b + 21))) rfl dX7_gives_88 ?_
              refine a_iload_n C dX7_gives_91 5 rfl rfl ?_
              refine a_iald C hM.f21 hM.n21 0 hM.tI (by omega) (by omega) (by decide) dX7_gives_92 (fun z92 e92 r92 => ?_)
              rw [iF.1 (b + 21) (by omega) (by omega) (by omega)] at e92
              refine a_cVI C (k0 := 3) (As := [vI cl, vI fr, vI z92]) (rest := [vI d, vI c, .ref (vq v b)]) (c_X7_light x.2.1 v τ b hM cl fr z92 hc (by omega) (by omega)) gX7_gives_X7_light rfl (by decide +kernel) (by decide) hM.f0 rfl hM.n0 rfl rfl (Nat.le_of_ble_eq_true rfl) dX7_gives_93 (fun z93 u93 r93 p93 => ?_)
              obtain ⟨e93, p93⟩ := p93
              subst u93
              rw [iF.1 (b + 14) (by omega) (by omega) (by omega), e92] at e93
              have q93 := ltC_bd (shR (σ (b + 14)) (40 * cl)) fr (σ (b + 21) p)
              rw [← e93] at q93
              refine a_aload_n C dX7_gives_96 6 rfl rfl ?_
              refine a_iload_n C dX7_gives_97 7 rfl rfl ?_
              refine a_aload_n C dX7_gives_98 6 rfl rfl ?_
              refine a_getf C hM.f0 hM.n0 (Cn := RX7) (T := TX7) (N := 30) rfl iX7 27 (by decide) k76 (w := .ref (vq v (b + 21))) rfl dX7_gives_99 ?_
              refine a_iload_n C dX7_gives_102 5 rfl rfl ?_
              refine a_iald C hM.f21 hM.n21 0 hM.tI (by omega) (by omega) (by decide) dX7_gives_103 (fun z103 e103 r103 => ?_)
              rw [iF.1 (b + 21) (by omega) (by omega) (by omega)] at e103
              refine a_iconst C dX7_gives_104 ?_
              refine a_iadd C dX7_gives_105 ?_
              refine a_iload C dX7_gives_106 2 rfl ?_
              refine a_cVI C (k0 := 3) (As := [vI cl, vI (z103 + 1), vI z36]) (rest := [vI z93, vI d, vI c, .ref (vq v b)]) (c_X7_light x.2.1 v τ b hM cl (z103 + 1) z36 hc (by omega) (by omega)) gX7_gives_X7_light rfl (by decide +kernel) (by decide) hM.f0 rfl hM.n0 rfl rfl (Nat.le_of_ble_eq_true rfl) dX7_gives_108 (fun z108 u108 r108 p108 => ?_)
              obtain ⟨e108, p108⟩ := p108
              subst u108
              rw [iF.1 (b + 14) (by omega) (by omega) (by omega), e103, e36] at e108
              have q108 := ltC_bd (shR (σ (b + 14)) (40 * cl)) (σ (b + 21) p + 1) ((shR (σ (b + 15)) (40 * cl)) k)
              rw [← e108] at q108
              refine a_cVV C (k0 := 4) (As := [vI c, vI d, vI z93, vI z108]) (rest := []) (c_X7_halves x.2.1 v τ b hM c d z93 z108 icb idb q93 q108) gX7_gives_X7_halves rfl (by decide +kernel) (by decide) hM.f0 rfl hM.n0 rfl rfl (Nat.le_of_ble_eq_true rfl) dX7_gives_111 (fun u111 p111 => ?_)
              rw [e93, e108] at p111
              have hvb := hvF_bd (c := c) (d := d) (L := ltC (shR (σ (b + 14)) (40 * cl)) fr (σ (b + 21) p)) (R := ltC (shR (σ (b + 14)) (40 * cl)) (σ (b + 21) p + 1) ((shR (σ (b + 15)) (40 * cl)) k)) icb idb (by omega) (by omega) (by decide)
              rw [← p111.1, ← p111.2.1, ← p111.2.2.1, ← p111.2.2.2.1] at hvb
              have hnb := hN p (by omega) hat.1
              have g22 : u111 (b + 22) p = σ (b + 22) p := by rw [p111.2.2.2.2.r (by omega)]; exact (iU p (by omega)).1
              have g23 : u111 (b + 23) p = σ (b + 23) p := by rw [p111.2.2.2.2.r (by omega)]; exact (iU p (by omega)).2
              refine a_aload_n C dX7_gives_114 6 rfl rfl ?_
              refine a_getf C hM.f0 hM.n0 (Cn := RX7) (T := TX7) (N := 30) rfl iX7 28 (by decide) k79 (w := .ref (vq v (b + 22))) rfl dX7_gives_115 ?_
              refine a_iload_n C dX7_gives_118 5 rfl rfl ?_
              refine a_dup2 C dX7_gives_119 rfl rfl ?_
              refine a_iald C hM.f22 hM.n22 0 hM.tI (by omega) (by omega) (by decide) dX7_gives_120 (fun z120 e120 r120 => ?_)
              refine a_aload_n C dX7_gives_121 6 rfl rfl ?_
              refine a_geti C hM.f0 hM.n0 (Cn := RX7) (T := TX7) (N := 30) rfl iX7 23 (by decide) k173 23 (by decide) rfl dX7_gives_122 (fun z122 e122 r122 => ?_)
              refine a_iadd C dX7_gives_125 ?_
              have b120 : z120 + z122 = σ (b + 22) p + (hvF c d (ltC (shR (σ (b + 14)) (40 * cl)) fr (σ (b + 21) p)) (ltC (shR (σ (b + 14)) (40 * cl)) (σ (b + 21) p + 1) (shR (σ (b + 15)) (40 * cl) k))).1.1 := by rw [e120, e122, g22, p111.1]
              refine a_iast C hM.f22 hM.n22 0 hM.tI (by omega) (by omega) (by decide) (by omega) dX7_gives_126 ?_
              refine a_aload_n C dX7_gives_127 6 rfl rfl ?_
              refine a_getf C hM.f0 hM.n0 (Cn := RX7) (T := TX7) (N := 30) rfl iX7 29 (by decide) k82 (w := .ref (vq v (b + 23))) rfl dX7_gives_128 ?_
              refine a_iload_n C dX7_gives_131 5 rfl rfl ?_
              refine a_aload_n C dX7_gives_132 6 rfl rfl ?_
              refine a_getf C hM.f0 hM.n0 (Cn := RX7) (T := TX7) (N := 30) rfl iX7 29 (by decide) k82 (w := .ref (vq v (b + 23))) rfl dX7_gives_133 ?_
              refine a_iload_n C dX7_gives_136 5 rfl rfl ?_
              refine a_iald C hM.f23 hM.n23 0 hM.tI (by omega) (by omega) (by decide) dX7_gives_137 (fun z137 e137 r137 => ?_)
              try simp [sput_r, mset_n, sput, mset] at e137
              refine a_aload_n C dX7_gives_138 6 rfl rfl ?_
              refine a_geti C hM.f0 hM.n0 (Cn := RX7) (T := TX7) (N := 30) rfl iX7 24 (by decide) k179 24 (by decide) rfl dX7_gives_139 (fun z139 e139 r139 => ?_)
              try simp [sput_r, mset_n, sput, mset] at e139
              refine a_iadd C dX7_gives_142 ?_
              refine a_cSI C (k0 := 1) (As := [vI (z137 + z139)]) (rest := [vI p, .ref (vq v (b + 23))]) (c_X7_capped x.2.1 v (sput u111 (b + 22) p (z120 + z122)) (z137 + z139) (by omega)) gX7_gives_X7_capped rfl (by decide +kernel) (by decide) rfl rfl (Nat.le_of_ble_eq_true rfl) dX7_gives_143 (fun z143 u143 r143 p143 => ?_)
              obtain ⟨e143, p143⟩ := p143
              subst u143
              try simp [sput_r, mset_n, sput, mset] at e143
              have b143 : z143 = min (σ (b + 23) p + (hvF c d (ltC (shR (σ (b + 14)) (40 * cl)) fr (σ (b + 21) p)) (ltC (shR (σ (b + 14)) (40 * cl)) (σ (b + 21) p + 1) (shR (σ (b + 15)) (40 * cl) k))).1.2) 1000000 := by rw [e143, e137, e139, g23, p111.2.1]
              refine a_iast C hM.f23 hM.n23 0 hM.tI (by omega) (by omega) (by decide) r143 dX7_gives_146 ?_
              refine a_aload_n C dX7_gives_147 6 rfl rfl ?_
              refine a_geti C hM.f0 hM.n0 (Cn := RX7) (T := TX7) (N := 30) rfl iX7 25 (by decide) k182 25 (by decide) rfl dX7_gives_148 (fun z148 e148 r148 => ?_)
              try simp [sput_r, mset_n, sput, mset] at e148
              have e148b := e148
              rw [p111.2.2.1] at e148b
              refine a_istore C [(7, vI z148), (8, vI d), (6, vI z36), (5, vI fr), (4, vI k), (3, vI p), (0, .ref (vq v b)), (1, vI cl), (2, vI P)] dX7_gives_151 (by decide) rfl ?_
              refine a_aload_n C dX7_gives_153 6 rfl rfl ?_
              refine a_geti C hM.f0 hM.n0 (Cn := RX7) (T := TX7) (N := 30) rfl iX7 26 (by decide) k185 26 (by decide) rfl dX7_gives_154 (fun z154 e154 r154 => ?_)
              try simp [sput_r, mset_n, sput, mset] at e154
              have e154b := e154
              rw [p111.2.2.2.1] at e154b
              refine a_istore C [(8, vI z154), (7, vI z148), (6, vI z36), (5, vI fr), (4, vI k), (3, vI p), (0, .ref (vq v b)), (1, vI cl), (2, vI P)] dX7_gives_157 (by decide) rfl ?_
              refine a_aload_n C dX7_gives_159 6 rfl rfl ?_
              refine a_getf C hM.f0 hM.n0 (Cn := RX7) (T := TX7) (N := 30) rfl iX7 27 (by decide) k76 (w := .ref (vq v (b + 21))) rfl dX7_gives_160 ?_
              refine a_iload_n C dX7_gives_163 5 rfl rfl ?_
              refine a_iald C hM.f21 hM.n21 0 hM.tI (by omega) (by omega) (by decide) dX7_gives_164 (fun z164 e164 r164 => ?_)
              try simp [sput_r, mset_n, sput, mset] at e164
              rw [p111.2.2.2.2.r (by omega), iF.1 (b + 21) (by omega) (by omega) (by omega)] at e164
              refine a_iconst C dX7_gives_165 ?_
              refine a_iadd C dX7_gives_166 ?_
              refine a_istore C [(5, vI (z164 + 1)), (8, vI z154), (7, vI z148), (6, vI z36), (4, vI k), (3, vI p), (0, .ref (vq v b)), (1, vI cl), (2, vI P)] dX7_gives_167 (by decide) rfl ?_
              refine a_iinc C (p + 1) [(3, vI (p + 1)), (5, vI (z164 + 1)), (8, vI z154), (7, vI z148), (6, vI z36), (4, vI k), (0, .ref (vq v b)), (1, vI cl), (2, vI P)] dX7_gives_169 5 rfl (by omega) (by decide) rfl ?_
              refine a_goto C 67 dX7_gives_172 (by decide) ?_
              refine a_sub [2, 3, 4, 1, 5, 0, 6, 7, 8] [(8, vI z154), (7, vI z148), (6, vI z36), (5, vI (z164 + 1)), (4, vI k), (3, vI (p + 1)), (0, .ref (vq v b)), (1, vI cl), (2, vI P)] rfl ?_
              have gi := gvI_in (by omega) (by omega) iI (by show σ (b + 21) p < shR (σ (b + 15)) (40 * cl) k; omega) (fun j q1 q2 => hKu.2.2.1 j p q1 q2 (by omega))
              obtain ⟨gi1, gi2, gi3, gi4⟩ := gi
              obtain ⟨v1, v2, v3, v4, vF⟩ := p111
              have gi2 : (itrR (rfS (shR (σ (b + 14)) (40 * cl)) (σ (b + 21))) 0 (p + 1) (moV σ b cl)).2.2.1 p = _ := gi2
              have gi3 : (itrR (rfS (shR (σ (b + 14)) (40 * cl)) (σ (b + 21))) 0 (p + 1) (moV σ b cl)).2.2.2 p = _ := gi3
              have gi4 : ∀ j : Int, j < p → (itrR (rfS (shR (σ (b + 14)) (40 * cl)) (σ (b + 21))) 0 (p + 1) (moV σ b cl)).2.2.1 j = (itrR (rfS (shR (σ (b + 14)) (40 * cl)) (σ (b + 21))) 0 p (moV σ b cl)).2.2.1 j ∧ (itrR (rfS (shR (σ (b + 14)) (40 * cl)) (σ (b + 21))) 0 (p + 1) (moV σ b cl)).2.2.2 j = (itrR (rfS (shR (σ (b + 14)) (40 * cl)) (σ (b + 21))) 0 p (moV σ b cl)).2.2.2 j := gi4
              refine ih _ (by omega) (p + 1) _ _ _ _ rfl (by omega) ?_ ?_ (by omega) (by omega) ?_ ?_ ⟨fun a q0 q1 q2 => by rw [sput_r q2, sput_r q1, vF.r q0]; exact iF.1 a q0 q1 q2, fun j q1 q2 q3 q4 => by rw [sput_r (by omega), sput_r (by omega), vF b j (Or.inr ⟨q1, q2, q3, q4⟩)]; exact iF.2 j q1 q2 q3 q4⟩
              · rw [e148b, e154b, e164]; exact gi1
              · omega
              · intro j j0 j1
                by_cases q : j = p
                · subst q; rw [sput_r (show b + 22 ≠ b + 23 by omega), sput_s, sput_s, gi2, gi3, b120, b143]; exact ⟨rfl, rfl⟩
                · rw [sput_r (show b + 22 ≠ b + 23 by omega), sput_j _ _ _ _ _ q, sput_j _ _ _ _ _ q, sput_r (by omega), vF.r (by omega), vF.r (by omega), (gi4 j (by omega)).1, (gi4 j (by omega)).2]; exact iD j j0 (by omega)
              · intro j j0
                rw [sput_r (show b + 22 ≠ b + 23 by omega), sput_j _ _ _ _ _ (by omega), sput_j _ _ _ _ _ (by omega), sput_r (by omega), vF.r (by omega), vF.r (by omega)]; exact iU j (by omega)
        have hI2 : gvI (shR (σ (b + 14)) (40 * cl)) (σ (b + 21)) (shR (σ (b + 15)) (40 * cl)) (shR (σ (b + 16)) (40 * cl)) (shR (σ (b + 17)) (40 * cl)) (σ (b + 11) cl) k p z20 z50 z64 := by rw [e20, e50, e64]; exact iI
        refine lpi _ p z20 z50 z64 τ rfl (by omega) hI2 (by omega) (by omega) (by omega) iD iU iF
  refine a_iconst C dX7_gives_0 ?_
  refine a_istore_n C 3 [(3, vI 0), (0, .ref (vq v b)), (1, vI cl), (2, vI P)] dX7_gives_1 rfl (by decide) rfl ?_
  refine a_iconst C dX7_gives_2 ?_
  refine a_istore C [(4, vI 0), (3, vI 0), (0, .ref (vq v b)), (1, vI cl), (2, vI P)] dX7_gives_3 (by decide) rfl ?_
  refine lp _ 0 0 σ rfl (by omega) (by omega) ?_ (fun q => by omega) (fun j q1 q2 => by omega) (fun j _ => ⟨rfl, rfl⟩) ⟨fun _ _ _ _ => rfl, fun _ _ _ _ _ => rfl⟩ (by omega)
  exact gvI_0 (by omega) (nE 0 (by omega) (by omega)).1
