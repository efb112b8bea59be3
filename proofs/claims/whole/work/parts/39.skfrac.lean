theorem smR_sub {f : Int → Int} {a b c d : Int} (hf : ∀ v, 0 ≤ f v) (h1 : c ≤ a) (h2 : b ≤ d) : smR f a b ≤ smR f c d := by
  rcases Int.lt_or_le a b with h | h
  · rw [smR_split (f := f) (a := c) (b := a) (c := d) h1 (by omega), smR_split (f := f) (a := a) (b := b) (c := d) (by omega) h2]
    have g1 : 0 ≤ smR f c a := smR_nn fun v _ _ => hf v
    have g2 : 0 ≤ smR f b d := smR_nn fun v _ _ => hf v
    omega
  · rw [smR_nil h]
    exact smR_nn fun v _ _ => hf v
theorem ask_le (h e : Int → Int) (a b k : Int) : askF h e a b k ≤ loN h e k := by
  unfold askF loN ltC
  exact smR_sub (fun v => by split <;> omega) (by omega) (by omega)
/-- one span's part of a guess: top and bottom so far -/
def gsF (h e c : Int → Int) (a b k : Int) (s : Int × Int) : Int × Int :=
  if 0 < askF h e a b k then (frN (aiN s.1 s.2 (c k * askF h e a b k) (loN h e k)) (aiD s.2 (c k * askF h e a b k) (loN h e k)), frD (aiN s.1 s.2 (c k * askF h e a b k) (loN h e k)) (aiD s.2 (c k * askF h e a b k) (loN h e k))) else s
/-- a value's share: its count by the length of its span -/
def shT (h hc e c : Int → Int) (n v : Int) : Int := if h v = 0 then c (spOf e n v) else hc v
def shB (h e : Int → Int) (n v : Int) : Int := if h v = 0 then loN h e (spOf e n v) else 1
def jnF (T B : Int → Int) (v : Int) (s : Int × Int) : Int × Int := (frN (aiN s.1 s.2 (T v) (B v)) (aiD s.2 (T v) (B v)), frD (aiN s.1 s.2 (T v) (B v)) (aiD s.2 (T v) (B v)))
/-- the greatest count of a value that is not heavy, and the first value that has it -/
def gpF (h tr : Int → Int) (v : Int) (s : Int × Int) : Int × Int := if h v = 0 ∧ s.1 < tr v then (tr v, v) else s
def gpV (h tr : Int → Int) : Int := (itrR (gpF h tr) 0 40 (0, -1)).2
theorem gp_bd (h tr : Int → Int) : -1 ≤ gpV h tr ∧ gpV h tr < 40 := by
  have := itrR_ind (f := gpF h tr) (b := 40) (fun k s => -1 ≤ s.2 ∧ s.2 < k) (fun k s q1 q2 => by unfold gpF; split; (simp only; omega); omega) 0 (0, -1) (by decide) (by simp only; omega)
  exact this
theorem gp_congr {h g tr tr' : Int → Int} (hh : ∀ v, 0 ≤ v → v < 40 → h v = g v) (ht : ∀ v, 0 ≤ v → v < 40 → tr v = tr' v) : gpV h tr = gpV g tr' := by
  unfold gpV
  rw [itrR_congr (f := gpF h tr) (g := gpF g tr') (fun k s q1 q2 => by unfold gpF; rw [hh k q1 q2, ht k q1 q2])]
def upI (f : Int → Int) (k x : Int) : Int → Int := fun j => if j = k then x else f j
/-- the choice of the heavy values, so many more at most -/
def chV (tr : Int → Int) (al nn dd : Int) : Nat → (Int → Int) × (Int → Int) → (Int → Int) × (Int → Int)
  | 0, s => s
  | m + 1, s => if gpV s.1 tr = -1 ∨ tr (gpV s.1 tr) * dd < al * nn then s else chV tr al nn dd m (upI s.1 (gpV s.1 tr) 1, upI s.2 (gpV s.1 tr) (tr (gpV s.1 tr)))
theorem mkR_up {n k x : Int} {f : Int → Int} (h0 : 0 ≤ k) (h1 : k < n) : mkR n (upI f k x) = upI (mkR n f) k x := by
  funext j
  unfold mkR upI
  by_cases hj : j = k
  · subst hj; simp [h0, h1]
  · simp [hj]
theorem sput_up {σ : Mem} {k : Nat} {j x : Int} : sput σ k j x k = upI (σ k) j x := by
  funext i
  by_cases h : i = j
  · subst h; rw [sput_s]; simp [upI]
  · rw [sput_j _ _ _ _ _ h]; simp [upI, h]
set_option maxHeartbeats 4000000 in
set_option maxRecDepth 100000 in
theorem c_X4_guessInto (l : Launch) (v : VC) (σ : Mem) (b : Nat) (hS : shSk v b) (f : Nat) (hF : shFr v f) (hbf : f < b ∨ b + 5 < f) (a1 a2 : Int) (h1 : rg a1) (h2 : rg a2) (hW : skW σ b) (hB : skB σ b) (P : Int → Int → Int → Prop) (hP0 : P 0 (frN (hvS (σ (b + 4)) (σ (b + 5)) a1 a2) 1) (frD (hvS (σ (b + 4)) (σ (b + 5)) a1 a2) 1)) (hPs : ∀ k t d : Int, 0 ≤ k → k < σ b 5 → P k t d → 0 < askF (σ (b + 4)) (σ (b + 1)) a1 a2 k → 0 < d ∧ (-9223372036854775807 ≤ aiN t d (σ (b + 2) k * askF (σ (b + 4)) (σ (b + 1)) a1 a2 k) (loN (σ (b + 4)) (σ (b + 1)) k) ∧ aiN t d (σ (b + 2) k * askF (σ (b + 4)) (σ (b + 1)) a1 a2 k) (loN (σ (b + 4)) (σ (b + 1)) k) ≤ 9223372036854775807) ∧ aiD d (σ (b + 2) k * askF (σ (b + 4)) (σ (b + 1)) a1 a2 k) (loN (σ (b + 4)) (σ (b + 1)) k) ≤ 9223372036854775807 ∧ P (k + 1) (frN (aiN t d (σ (b + 2) k * askF (σ (b + 4)) (σ (b + 1)) a1 a2 k) (loN (σ (b + 4)) (σ (b + 1)) k)) (aiD d (σ (b + 2) k * askF (σ (b + 4)) (σ (b + 1)) a1 a2 k) (loN (σ (b + 4)) (σ (b + 1)) k))) (frD (aiN t d (σ (b + 2) k * askF (σ (b + 4)) (σ (b + 1)) a1 a2 k) (loN (σ (b + 4)) (σ (b + 1)) k)) (aiD d (σ (b + 2) k * askF (σ (b + 4)) (σ (b + 1)) a1 a2 k) (loN (σ (b + 4)) (σ (b + 1)) k)))) (hPn : ∀ k t d : Int, 0 ≤ k → k < σ b 5 → P k t d → ¬ 0 < askF (σ (b + 4)) (σ (b + 1)) a1 a2 k → P (k + 1) t d) : CtV l yX4_guessInto wsX4_guessInto 4 113 v [.ref (vq v b), .ref (vq v f), vI a1, vI a2] σ (fun u => (∀ a : Nat, a ≠ f → u a = σ a) ∧ u f 100000 = (itrR (gsF (σ (b + 4)) (σ (b + 1)) (σ (b + 2)) a1 a2) 0 (σ b 5) (frN (hvS (σ (b + 4)) (σ (b + 5)) a1 a2) 1, frD (hvS (σ (b + 4)) (σ (b + 5)) a1 a2) 1)).1 ∧ u f 100001 = (itrR (gsF (σ (b + 4)) (σ (b + 1)) (σ (b + 2)) a1 a2) 0 (σ b 5) (frN (hvS (σ (b + 4)) (σ (b + 5)) a1 a2) 1, frD (hvS (σ (b + 4)) (σ (b + 5)) a1 a2) 1)).2) := by
  refine mkV (cc := cX4_guessInto) (n := 6) (by decide +kernel) rfl (Nat.le_of_ble_eq_true rfl) (fun x A Q hx C hret => ?_)
  subst hx
  show At x v A Q _ 0 [(0, .ref (vq v b)), (1, .ref (vq v f)), (2, vI a1), (3, vI a2)] [] σ
  have iX4 : ∀ w ∈ wsX40, w ∈ wsX4_guessInto := by decide +kernel
  have k28 : Cond.fieldLink RX4 28 (TX4 5).1 (TX4 5).2.1 (TX4 5).2.2.1 ∈ wsX4_guessInto := by decide +kernel
  have k15 : Cond.fieldLink RX4 15 (TX4 1).1 (TX4 1).2.1 (TX4 1).2.2.1 ∈ wsX4_guessInto := by decide +kernel
  have hw1 := hW.1
  have hw2 := hW.2.1
  have h3 := hvS_bd (h := σ (b + 4)) (M := 5000000) (by decide) hB.2.2 a1 a2
  have lp : ∀ (n : Nat) (k : Int) (τ : Mem) , (24 - k).toNat = n → 0 ≤ k → k ≤ σ b 5 → itrR (gsF (σ (b + 4)) (σ (b + 1)) (σ (b + 2)) a1 a2) k (σ b 5) (τ f 100000, τ f 100001) = itrR (gsF (σ (b + 4)) (σ (b + 1)) (σ (b + 2)) a1 a2) 0 (σ b 5) (frN (hvS (σ (b + 4)) (σ (b + 5)) a1 a2) 1, frD (hvS (σ (b + 4)) (σ (b + 5)) a1 a2) 1) → P k (τ f 100000) (τ f 100001) → (∀ a : Nat, a ≠ f → τ a = σ a) → At x v A Q 6 15 [(4, vI k), (0, .ref (vq v b)), (1, .ref (vq v f)), (2, vI a1), (3, vI a2)] [] τ := by
    intro n
    induction n using Nat.strongRecOn with
    | _ n ih =>
      intro k τ hn i1 i2 iR iP iF
      refine a_iload C dX4_guessInto_15 0 rfl ?_
      have hWt : skW τ b := by unfold skW; rw [iF b (by omega), iF (b + 1) (by omega)]; exact hW
      refine a_aload_n C dX4_guessInto_17 1 rfl rfl ?_
      refine a_geti C hS.f0 hS.n0 (Cn := RX4) (T := TX4) (N := 7) rfl iX4 5 (by decide) k28 5 (by decide) rfl dX4_guessInto_18 (fun z18 e18 r18 => ?_)
      rw [iF b (by omega)] at e18
      refine a_icmp_ge C 68 (by omega) r18 dX4_guessInto_21 (by decide) (fun c21 => ?_) (fun c21 => ?_)
      · skip
        have q := iR; rw [itrR_nil (by omega)] at q
        exact hret _ _ _ dX4_guessInto_68 ⟨iF, by rw [← q], by rw [← q]⟩
      · skip
        refine a_aload_n C dX4_guessInto_24 1 rfl rfl ?_
        refine a_iload C dX4_guessInto_25 0 rfl ?_
        refine a_iload_n C dX4_guessInto_27 3 rfl rfl ?_
        refine a_iload_n C dX4_guessInto_28 4 rfl rfl ?_
        refine a_cVI C (k0 := 3) (As := [vI k, vI a1, vI a2]) (rest := []) (c_X4_askedOf x.2.1 v τ b hS k a1 a2 (by rw [iF b (by omega)]; omega) h1 h2 hWt) gX4_guessInto_X4_askedOf rfl (by decide +kernel) (by decide) hS.f0 rfl hS.n0 rfl rfl (Nat.le_of_ble_eq_true rfl) dX4_guessInto_29 (fun z29 u29 r29 p29 => ?_)
        obtain ⟨e29, p29⟩ := p29
        subst u29
        rw [iF (b + 4) (by omega), iF (b + 1) (by omega)] at e29
        have q29 := ltC_bd (σ (b + 4)) (max (foF (σ (b + 1)) k) a1) (min (σ (b + 1) k) a2)
        rw [← e29] at q29
        refine a_istore C [(5, vI z29), (4, vI k), (0, .ref (vq v b)), (1, .ref (vq v f)), (2, vI a1), (3, vI a2)] dX4_guessInto_32 (by decide) rfl ?_
        refine a_iload C dX4_guessInto_34 0 rfl ?_
        refine a_if_le C 62 r29 dX4_guessInto_36 (by decide) (fun c36 => ?_) (fun c36 => ?_)
        · skip
          refine a_iinc C (k + 1) [(4, vI (k + 1)), (5, vI z29), (0, .ref (vq v b)), (1, .ref (vq v f)), (2, vI a1), (3, vI a2)] dX4_guessInto_62 1 rfl (by omega) (by decide) rfl ?_
          refine a_goto C 15 dX4_guessInto_65 (by decide) ?_
          refine a_sub [0, 2, 3, 4, 5] [(4, vI (k + 1)), (0, .ref (vq v b)), (1, .ref (vq v f)), (2, vI a1), (3, vI a2)] rfl ?_
          have ea : ¬ 0 < askF (σ (b + 4)) (σ (b + 1)) a1 a2 k := by unfold askF; omega
          refine ih _ (by omega) (k + 1) τ rfl (by omega) (by omega) ?_ (hPn k _ _ i1 (by omega) iP ea) iF
          have q := iR; rw [itrR_step (by omega), show gsF (σ (b + 4)) (σ (b + 1)) (σ (b + 2)) a1 a2 k (τ f 100000, τ f 100001) = (τ f 100000, τ f 100001) by unfold gsF; rw [if_neg ea]] at q; exact q
        · skip
          refine a_aload_n C dX4_guessInto_39 3 rfl rfl ?_
          refine a_aload_n C dX4_guessInto_40 2 rfl rfl ?_
          refine a_getf C hS.f0 hS.n0 (Cn := RX4) (T := TX4) (N := 7) rfl iX4 1 (by decide) k15 (w := .ref (vq v (b + 2))) rfl dX4_guessInto_41 ?_
          refine a_iload C dX4_guessInto_44 1 rfl ?_
          refine a_iald C hS.f2 hS.n2 0 hS.tI (by omega) (by omega) (by decide) dX4_guessInto_46 (fun z46 e46 r46 => ?_)
          rw [iF (b + 2) (by omega)] at e46
          have q46 := hB.1 k i1 (by omega)
          have m1 := mul_bd (a := z46) (b := z29) (A := 20000000) (B := 40) (by omega) (by omega) (by omega) (by omega) (by omega)
          refine a_i2l C r46 dX4_guessInto_47 ?_
          refine a_iload C dX4_guessInto_48 0 rfl ?_
          refine a_i2l C r29 dX4_guessInto_50 ?_
          refine a_lmul C dX4_guessInto_51 ?_
          refine a_aload_n C dX4_guessInto_52 2 rfl rfl ?_
          refine a_iload C dX4_guessInto_53 1 rfl ?_
          refine a_cVI C (k0 := 1) (As := [vI k]) (rest := [vJ (z46 * z29), .ref (vq v f)]) (c_X4_longOf x.2.1 v τ b hS k (by rw [iF b (by omega)]; omega) hWt) gX4_guessInto_X4_longOf rfl (by decide +kernel) (by decide) hS.f0 rfl hS.n0 rfl rfl (Nat.le_of_ble_eq_true rfl) dX4_guessInto_55 (fun z55 u55 r55 p55 => ?_)
          obtain ⟨e55, p55⟩ := p55
          subst u55
          rw [iF (b + 4) (by omega), iF (b + 1) (by omega)] at e55
          have ea2 : z29 = askF (σ (b + 4)) (σ (b + 1)) a1 a2 k := e29
          have ea : 0 < askF (σ (b + 4)) (σ (b + 1)) a1 a2 k := by omega
          have al := ask_le (σ (b + 4)) (σ (b + 1)) a1 a2 k
          have hp := hPs k _ _ i1 (by omega) iP ea
          refine a_i2l C r55 dX4_guessInto_58 ?_
          refine a_cVV C (k0 := 2) (As := [vJ (z46 * z29), vJ z55]) (rest := []) (c_X1_add x.2.1 v τ f hF (z46 * z29) z55 (by omega) (by omega) hp.1 (by rw [ea2, e46, e55]; exact hp.2.1) (by rw [ea2, e46, e55]; exact hp.2.2.1)) gX4_guessInto_X1_add rfl (by decide +kernel) (by decide) hF.f0 rfl hF.n0 rfl rfl (Nat.le_of_ble_eq_true rfl) dX4_guessInto_59 (fun u59 p59 => ?_)
          subst u59
          refine a_iinc C (k + 1) [(4, vI (k + 1)), (5, vI z29), (0, .ref (vq v b)), (1, .ref (vq v f)), (2, vI a1), (3, vI a2)] dX4_guessInto_62 1 rfl (by omega) (by decide) rfl ?_
          refine a_goto C 15 dX4_guessInto_65 (by decide) ?_
          refine a_sub [0, 2, 3, 4, 5] [(4, vI (k + 1)), (0, .ref (vq v b)), (1, .ref (vq v f)), (2, vI a1), (3, vI a2)] rfl ?_
          refine ih _ (by omega) (k + 1) _ rfl (by omega) (by omega) ?_ ?_ (fun a q => by rw [sput_r q, sput_r q]; exact iF a q)
          · have q := iR; rw [itrR_step (by omega), show gsF (σ (b + 4)) (σ (b + 1)) (σ (b + 2)) a1 a2 k (τ f 100000, τ f 100001) = _ by unfold gsF; rw [if_pos ea]] at q; rw [sput_s, sput_j _ _ _ _ _ (by decide), sput_s, ea2, e46, e55]; exact q
          · rw [sput_s, sput_j _ _ _ _ _ (by decide), sput_s, ea2, e46, e55]; exact hp.2.2.2
  refine a_aload_n C dX4_guessInto_0 1 rfl rfl ?_
  refine a_aload_n C dX4_guessInto_1 0 rfl rfl ?_
  refine a_iload_n C dX4_guessInto_2 2 rfl rfl ?_
  refine a_iload_n C dX4_guessInto_3 3 rfl rfl ?_
  refine a_cVI C (k0 := 2) (As := [vI a1, vI a2]) (rest := [.ref (vq v f)]) (c_X4_heavyBetween x.2.1 v σ b hS a1 a2 h1 h2 (by omega)) gX4_guessInto_X4_heavyBetween rfl (by decide +kernel) (by decide) hS.f0 rfl hS.n0 rfl rfl (Nat.le_of_ble_eq_true rfl) dX4_guessInto_4 (fun z4 u4 r4 p4 => ?_)
  obtain ⟨e4, p4⟩ := p4
  subst u4
  refine a_i2l C r4 dX4_guessInto_7 ?_
  refine a_lconst C 1 dX4_guessInto_8 rfl ?_
  refine a_cVV C (k0 := 2) (As := [vJ z4, vJ 1]) (rest := []) (c_X1_set x.2.1 v σ f hF z4 1 (by omega) (by omega)) gX4_guessInto_X1_set rfl (by decide +kernel) (by decide) hF.f0 rfl hF.n0 rfl rfl (Nat.le_of_ble_eq_true rfl) dX4_guessInto_9 (fun u9 p9 => ?_)
  subst u9
  refine a_iconst C dX4_guessInto_12 ?_
  refine a_istore C [(4, vI 0), (0, .ref (vq v b)), (1, .ref (vq v f)), (2, vI a1), (3, vI a2)] dX4_guessInto_13 (by decide) rfl ?_
  exact lp _ 0 _ rfl (by omega) (by omega) (by rw [sput_s, sput_j _ _ _ _ _ (by decide), sput_s, e4]) (by rw [sput_s, sput_j _ _ _ _ _ (by decide), sput_s, e4]; exact hP0) (fun a q => by rw [sput_r q, sput_r q])
theorem mul_bd2 {a b A B : Int} (h1 : -A ≤ a) (h2 : a ≤ A) (h3 : -B ≤ b) (h4 : b ≤ B) (hA : 0 ≤ A) : -(A * B) ≤ a * b ∧ a * b ≤ A * B := by
  rcases Int.lt_or_le b 0 with q | q
  · have := mul_bd (a := a) (b := -b) (A := A) (B := B) h1 h2 (by omega) (by omega) hA
    rw [Int.mul_neg] at this
    omega
  · exact mul_bd h1 h2 q h4 hA
set_option maxHeartbeats 4000000 in
set_option maxRecDepth 100000 in
theorem c_X4_joinInto (l : Launch) (v : VC) (σ : Mem) (b : Nat) (hS : shSk v b) (f : Nat) (hF : shFr v f) (o : Nat) (hO : shSk v o) (hbf : f < b ∨ b + 5 < f) (hof : f < o ∨ o + 5 < f) (hW1 : skW σ b ∧ 0 < σ b 5) (hW2 : skW σ o ∧ 0 < σ o 5) (hT1 : ∀ w : Int, 0 ≤ w → w < 40 → -20000000 ≤ (shT (σ (b + 4)) (σ (b + 5)) (σ (b + 1)) (σ (b + 2)) (σ b 5) w) ∧ (shT (σ (b + 4)) (σ (b + 5)) (σ (b + 1)) (σ (b + 2)) (σ b 5) w) ≤ 20000000) (hT2 : ∀ w : Int, 0 ≤ w → w < 40 → -20000000 ≤ (shT (σ (o + 4)) (σ (o + 5)) (σ (o + 1)) (σ (o + 2)) (σ o 5) w) ∧ (shT (σ (o + 4)) (σ (o + 5)) (σ (o + 1)) (σ (o + 2)) (σ o 5) w) ≤ 20000000) (hB1 : ∀ w : Int, 0 ≤ w → w < 40 → 1 ≤ (shB (σ (b + 4)) (σ (b + 1)) (σ b 5) w) ∧ (shB (σ (b + 4)) (σ (b + 1)) (σ b 5) w) ≤ 40) (hB2 : ∀ w : Int, 0 ≤ w → w < 40 → 1 ≤ (shB (σ (o + 4)) (σ (o + 1)) (σ o 5) w) ∧ (shB (σ (o + 4)) (σ (o + 1)) (σ o 5) w) ≤ 40) (P : Int → Int → Int → Prop) (hP0 : P 0 (frN 0 1) (frD 0 1)) (hPs : ∀ w t d : Int, 0 ≤ w → w < 40 → P w t d → 0 < d ∧ (-9223372036854775807 ≤ aiN t d ((shT (σ (b + 4)) (σ (b + 5)) (σ (b + 1)) (σ (b + 2)) (σ b 5) w) * (shT (σ (o + 4)) (σ (o + 5)) (σ (o + 1)) (σ (o + 2)) (σ o 5) w)) ((shB (σ (b + 4)) (σ (b + 1)) (σ b 5) w) * (shB (σ (o + 4)) (σ (o + 1)) (σ o 5) w)) ∧ aiN t d ((shT (σ (b + 4)) (σ (b + 5)) (σ (b + 1)) (σ (b + 2)) (σ b 5) w) * (shT (σ (o + 4)) (σ (o + 5)) (σ (o + 1)) (σ (o + 2)) (σ o 5) w)) ((shB (σ (b + 4)) (σ (b + 1)) (σ b 5) w) * (shB (σ (o + 4)) (σ (o + 1)) (σ o 5) w)) ≤ 9223372036854775807) ∧ aiD d ((shT (σ (b + 4)) (σ (b + 5)) (σ (b + 1)) (σ (b + 2)) (σ b 5) w) * (shT (σ (o + 4)) (σ (o + 5)) (σ (o + 1)) (σ (o + 2)) (σ o 5) w)) ((shB (σ (b + 4)) (σ (b + 1)) (σ b 5) w) * (shB (σ (o + 4)) (σ (o + 1)) (σ o 5) w)) ≤ 9223372036854775807 ∧ P (w + 1) (frN (aiN t d ((shT (σ (b + 4)) (σ (b + 5)) (σ (b + 1)) (σ (b + 2)) (σ b 5) w) * (shT (σ (o + 4)) (σ (o + 5)) (σ (o + 1)) (σ (o + 2)) (σ o 5) w)) ((shB (σ (b + 4)) (σ (b + 1)) (σ b 5) w) * (shB (σ (o + 4)) (σ (o + 1)) (σ o 5) w))) (aiD d ((shT (σ (b + 4)) (σ (b + 5)) (σ (b + 1)) (σ (b + 2)) (σ b 5) w) * (shT (σ (o + 4)) (σ (o + 5)) (σ (o + 1)) (σ (o + 2)) (σ o 5) w)) ((shB (σ (b + 4)) (σ (b + 1)) (σ b 5) w) * (shB (σ (o + 4)) (σ (o + 1)) (σ o 5) w)))) (frD (aiN t d ((shT (σ (b + 4)) (σ (b + 5)) (σ (b + 1)) (σ (b + 2)) (σ b 5) w) * (shT (σ (o + 4)) (σ (o + 5)) (σ (o + 1)) (σ (o + 2)) (σ o 5) w)) ((shB (σ (b + 4)) (σ (b + 1)) (σ b 5) w) * (shB (σ (o + 4)) (σ (o + 1)) (σ o 5) w))) (aiD d ((shT (σ (b + 4)) (σ (b + 5)) (σ (b + 1)) (σ (b + 2)) (σ b 5) w) * (shT (σ (o + 4)) (σ (o + 5)) (σ (o + 1)) (σ (o + 2)) (σ o 5) w)) ((shB (σ (b + 4)) (σ (b + 1)) (σ b 5) w) * (shB (σ (o + 4)) (σ (o + 1)) (σ o 5) w))))) : CtV l yX4_joinInto wsX4_joinInto 4 113 v [.ref (vq v b), .ref (vq v f), .ref (vq v o)] σ (fun u => (∀ a : Nat, a ≠ f → u a = σ a) ∧ u f 100000 = (itrR (jnF (fun w => (shT (σ (b + 4)) (σ (b + 5)) (σ (b + 1)) (σ (b + 2)) (σ b 5) w) * (shT (σ (o + 4)) (σ (o + 5)) (σ (o + 1)) (σ (o + 2)) (σ o 5) w)) (fun w => (shB (σ (b + 4)) (σ (b + 1)) (σ b 5) w) * (shB (σ (o + 4)) (σ (o + 1)) (σ o 5) w))) 0 40 (frN 0 1, frD 0 1)).1 ∧ u f 100001 = (itrR (jnF (fun w => (shT (σ (b + 4)) (σ (b + 5)) (σ (b + 1)) (σ (b + 2)) (σ b 5) w) * (shT (σ (o + 4)) (σ (o + 5)) (σ (o + 1)) (σ (o + 2)) (σ o 5) w)) (fun w => (shB (σ (b + 4)) (σ (b + 1)) (σ b 5) w) * (shB (σ (o + 4)) (σ (o + 1)) (σ o 5) w))) 0 40 (frN 0 1, frD 0 1)).2) := by
  refine mkV (cc := cX4_joinInto) (n := 4) (by decide +kernel) rfl (Nat.le_of_ble_eq_true rfl) (fun x A Q hx C hret => ?_)
  subst hx
  show At x v A Q _ 0 [(0, .ref (vq v b)), (1, .ref (vq v f)), (2, .ref (vq v o))] [] σ
  have lp : ∀ (n : Nat) (w : Int) (τ : Mem) , (40 - w).toNat = n → 0 ≤ w → (w ≤ 40) → itrR (jnF (fun w => (shT (σ (b + 4)) (σ (b + 5)) (σ (b + 1)) (σ (b + 2)) (σ b 5) w) * (shT (σ (o + 4)) (σ (o + 5)) (σ (o + 1)) (σ (o + 2)) (σ o 5) w)) (fun w => (shB (σ (b + 4)) (σ (b + 1)) (σ b 5) w) * (shB (σ (o + 4)) (σ (o + 1)) (σ o 5) w))) w 40 (τ f 100000, τ f 100001) = itrR (jnF (fun w => (shT (σ (b + 4)) (σ (b + 5)) (σ (b + 1)) (σ (b + 2)) (σ b 5) w) * (shT (σ (o + 4)) (σ (o + 5)) (σ (o + 1)) (σ (o + 2)) (σ o 5) w)) (fun w => (shB (σ (b + 4)) (σ (b + 1)) (σ b 5) w) * (shB (σ (o + 4)) (σ (o + 1)) (σ o 5) w))) 0 40 (frN 0 1, frD 0 1) → P w (τ f 100000) (τ f 100001) → (∀ a : Nat, a ≠ f → τ a = σ a) → At x v A Q 4 8 [(3, vI w), (0, .ref (vq v b)), (1, .ref (vq v f)), (2, .ref (vq v o))] [] τ := by
    intro n
    induction n using Nat.strongRecOn with
    | _ n ih =>
      intro w τ hn i1 i2 iR iP iF
      have hWt1 : skW τ b := by unfold skW; rw [iF b (by omega), iF (b + 1) (by omega)]; exact hW1.1
      have hWt2 : skW τ o := by unfold skW; rw [iF o (by omega), iF (o + 1) (by omega)]; exact hW2.1
      have ht1 : 0 < τ b 5 := by rw [iF b (by omega)]; exact hW1.2
      have ht2 : 0 < τ o 5 := by rw [iF o (by omega)]; exact hW2.2
      refine a_iload_n C dX4_joinInto_8 0 rfl rfl ?_
      refine a_bipush C dX4_joinInto_9 ?_
      refine a_icmp_ge C 46 (by omega) (by decide) dX4_joinInto_11 (by decide) (fun c11 => ?_) (fun c11 => ?_)
      · skip
        have q := iR; rw [itrR_nil (by omega)] at q
        exact hret _ _ _ dX4_joinInto_46 ⟨iF, by rw [← q], by rw [← q]⟩
      · skip
        refine a_aload_n C dX4_joinInto_14 2 rfl rfl ?_
        refine a_aload_n C dX4_joinInto_15 1 rfl rfl ?_
        refine a_iload_n C dX4_joinInto_16 0 rfl rfl ?_
        refine a_cVL C (k0 := 1) (As := [vI w]) (rest := [.ref (vq v f)]) (c_X4_shareTop x.2.1 v τ b hS w (by omega) ⟨hWt1, ht1⟩) gX4_joinInto_X4_shareTop rfl (by decide +kernel) (by decide) hS.f0 rfl hS.n0 rfl rfl (Nat.le_of_ble_eq_true rfl) dX4_joinInto_17 (fun z17 u17 r17 p17 => ?_)
        obtain ⟨e17, p17⟩ := p17
        subst u17
        rw [iF (b + 4) (by omega), iF b (by omega), iF (b + 1) (by omega), iF (b + 2) (by omega), iF (b + 5) (by omega)] at e17
        have e17 : z17 = (shT (σ (b + 4)) (σ (b + 5)) (σ (b + 1)) (σ (b + 2)) (σ b 5) w) := e17
        have b17 := hT1 w i1 (by omega)
        refine a_aload_n C dX4_joinInto_20 3 rfl rfl ?_
        refine a_iload_n C dX4_joinInto_21 0 rfl rfl ?_
        refine a_cVL C (k0 := 1) (As := [vI w]) (rest := [vJ z17, .ref (vq v f)]) (c_X4_shareTop x.2.1 v τ o hO w (by omega) ⟨hWt2, ht2⟩) gX4_joinInto_X4_shareTop rfl (by decide +kernel) (by decide) hO.f0 rfl hO.n0 rfl rfl (Nat.le_of_ble_eq_true rfl) dX4_joinInto_22 (fun z22 u22 r22 p22 => ?_)
        obtain ⟨e22, p22⟩ := p22
        subst u22
        rw [iF (o + 4) (by omega), iF o (by omega), iF (o + 1) (by omega), iF (o + 2) (by omega), iF (o + 5) (by omega)] at e22
        have e22 : z22 = (shT (σ (o + 4)) (σ (o + 5)) (σ (o + 1)) (σ (o + 2)) (σ o 5) w) := e22
        have b22 := hT2 w i1 (by omega)
        have m1 : -(20000000 * 20000000) ≤ z17 * z22 ∧ z17 * z22 ≤ 20000000 * 20000000 := mul_bd2 (by omega) (by omega) (by omega) (by omega) (by decide)
        refine a_lmul C dX4_joinInto_25 ?_
        refine a_aload_n C dX4_joinInto_26 1 rfl rfl ?_
        refine a_iload_n C dX4_joinInto_27 0 rfl rfl ?_
        refine a_cVL C (k0 := 1) (As := [vI w]) (rest := [vJ (z17 * z22), .ref (vq v f)]) (c_X4_shareBottom x.2.1 v τ b hS w (by omega) ⟨hWt1, ht1⟩) gX4_joinInto_X4_shareBottom rfl (by decide +kernel) (by decide) hS.f0 rfl hS.n0 rfl rfl (Nat.le_of_ble_eq_true rfl) dX4_joinInto_28 (fun z28 u28 r28 p28 => ?_)
        obtain ⟨e28, p28⟩ := p28
        subst u28
        rw [iF (b + 4) (by omega), iF b (by omega), iF (b + 1) (by omega)] at e28
        have e28 : z28 = (shB (σ (b + 4)) (σ (b + 1)) (σ b 5) w) := e28
        have b28 := hB1 w i1 (by omega)
        refine a_aload_n C dX4_joinInto_31 3 rfl rfl ?_
        refine a_iload_n C dX4_joinInto_32 0 rfl rfl ?_
        refine a_cVL C (k0 := 1) (As := [vI w]) (rest := [vJ z28, vJ (z17 * z22), .ref (vq v f)]) (c_X4_shareBottom x.2.1 v τ o hO w (by omega) ⟨hWt2, ht2⟩) gX4_joinInto_X4_shareBottom rfl (by decide +kernel) (by decide) hO.f0 rfl hO.n0 rfl rfl (Nat.le_of_ble_eq_true rfl) dX4_joinInto_33 (fun z33 u33 r33 p33 => ?_)
        obtain ⟨e33, p33⟩ := p33
        subst u33
        rw [iF (o + 4) (by omega), iF o (by omega), iF (o + 1) (by omega)] at e33
        have e33 : z33 = (shB (σ (o + 4)) (σ (o + 1)) (σ o 5) w) := e33
        have b33 := hB2 w i1 (by omega)
        have m2 := Int.mul_pos (show 0 < z28 by omega) (show 0 < z33 by omega)
        have m3 : z28 * z33 ≤ 40 * 40 := Int.mul_le_mul (by omega) (by omega) (by omega) (by decide)
        have hp := hPs w _ _ i1 (by omega) iP
        refine a_lmul C dX4_joinInto_36 ?_
        refine a_cVV C (k0 := 2) (As := [vJ (z17 * z22), vJ (z28 * z33)]) (rest := []) (c_X1_add x.2.1 v τ f hF (z17 * z22) (z28 * z33) (by omega) (by omega) hp.1 (by rw [e17, e22, e28, e33]; exact hp.2.1) (by rw [e17, e22, e28, e33]; exact hp.2.2.1)) gX4_joinInto_X1_add rfl (by decide +kernel) (by decide) hF.f0 rfl hF.n0 rfl rfl (Nat.le_of_ble_eq_true rfl) dX4_joinInto_37 (fun u37 p37 => ?_)
        subst u37
        refine a_iinc C (w + 1) [(3, vI (w + 1)), (0, .ref (vq v b)), (1, .ref (vq v f)), (2, .ref (vq v o))] dX4_joinInto_40 0 rfl (by omega) (by decide) rfl ?_
        refine a_goto C 8 dX4_joinInto_43 (by decide) ?_
        refine ih _ (by omega) (w + 1) _ rfl (by omega) (by omega) ?_ ?_ (fun a q => by rw [sput_r q, sput_r q]; exact iF a q)
        · have q := iR; rw [itrR_step (by omega)] at q; rw [sput_s, sput_j _ _ _ _ _ (by decide), sput_s, e17, e22, e28, e33]; exact q
        · rw [sput_s, sput_j _ _ _ _ _ (by decide), sput_s, e17, e22, e28, e33]; exact hp.2.2.2
  refine a_aload_n C dX4_joinInto_0 1 rfl rfl ?_
  refine a_lconst C 0 dX4_joinInto_1 rfl ?_
  refine a_lconst C 1 dX4_joinInto_2 rfl ?_
  refine a_cVV C (k0 := 2) (As := [vJ 0, vJ 1]) (rest := []) (c_X1_set x.2.1 v σ f hF 0 1 (by decide) (by decide)) gX4_joinInto_X1_set rfl (by decide +kernel) (by decide) hF.f0 rfl hF.n0 rfl rfl (Nat.le_of_ble_eq_true rfl) dX4_joinInto_3 (fun u3 p3 => ?_)
  subst u3
  refine a_iconst C dX4_joinInto_6 ?_
  refine a_istore_n C 3 [(3, vI 0), (0, .ref (vq v b)), (1, .ref (vq v f)), (2, .ref (vq v o))] dX4_joinInto_7 rfl (by decide) rfl ?_
  exact lp _ 0 _ rfl (by omega) (by omega) (by rw [sput_s, sput_j _ _ _ _ _ (by decide), sput_s]) (by rw [sput_s, sput_j _ _ _ _ _ (by decide), sput_s]; exact hP0) (fun a q => by rw [sput_r q, sput_r q])
