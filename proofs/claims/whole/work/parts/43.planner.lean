/-- the least and the greatest level of a piece with one value more -/
def peF (lv : Int → Int) (w : Int) (p : Int × Int) : Int × Int := if lv w = -1 then p else (min p.1 (lv w), max p.2 (lv w))
/-- an empty piece's -/
def pe0 : Int × Int := (1000000000, -1)
/-- a piece's error -/
def plD (p : Int × Int) : Int := max 0 (p.2 - p.1)
def erI (lv : Int → Int) (a b : Int) : Int := plD (itrR (peF lv) a (b + 1) pe0)
/-- pieces within a limit, one value more -/
def fwF (lv : Int → Int) (L w : Int) (s : Int × (Int × Int)) : Int × (Int × Int) := if plD (peF lv w s.2) ≤ L then (s.1, peF lv w s.2) else (s.1 + 1, peF lv w pe0)
def fwI (lv : Int → Int) (L : Int) : Int := (itrR (fwF lv L) 0 40 (1, pe0)).1
/-- a piece's levels are sound -/
def peW (p : Int × Int) : Prop := 0 ≤ p.1 ∧ p.1 ≤ 1000000000 ∧ -1 ≤ p.2 ∧ p.2 ≤ 10000
theorem pe0_W : peW pe0 := by unfold peW pe0; decide
theorem peF_W {lv : Int → Int} {w : Int} {p : Int × Int} (h : peW p) (hl : -1 ≤ lv w ∧ lv w ≤ 10000) : peW (peF lv w p) := by
  obtain ⟨h1, h2, h3, h4⟩ := h
  unfold peF peW
  split
  · exact ⟨h1, h2, h3, h4⟩
  · dsimp only; omega
theorem plD_W {p : Int × Int} (h : peW p) : 0 ≤ plD p ∧ plD p ≤ 10000 := by
  obtain ⟨h1, h2, h3, h4⟩ := h
  unfold plD; omega
theorem peF_le {lv : Int → Int} {w : Int} {p : Int × Int} : plD p ≤ plD (peF lv w p) := by
  unfold peF plD
  split
  · omega
  · dsimp only; omega
theorem itr_right {α : Type} {f : Int → α → α} {a : Int} : ∀ (n : Nat) (b : Int) (s : α), b = a + n → itrR f a (b + 1) s = f b (itrR f a b s) := by
  intro n
  induction n generalizing a with
  | zero => intro b s h; rw [itrR_step (by omega), itrR_nil (by omega), itrR_nil (by omega), show a = b by omega]
  | succ n ih => intro b s h; rw [itrR_step (by omega), ih b _ (by omega), itrR_step (a := a) (b := b) (by omega)]
theorem itrR_right {α : Type} {f : Int → α → α} {a b : Int} {s : α} (h : a ≤ b) : itrR f a (b + 1) s = f b (itrR f a b s) := itr_right (b - a).toNat b s (by omega)
theorem pe_W {lv : Int → Int} (hl : ∀ j : Int, 0 ≤ j → j < 40 → -1 ≤ lv j ∧ lv j ≤ 10000) {a : Int} (ha : 0 ≤ a) : ∀ (n : Nat) (b : Int), b = a + n → b ≤ 40 → peW (itrR (peF lv) a b pe0) := by
  intro n
  induction n with
  | zero => intro b h1 h2; rw [itrR_nil (by omega)]; exact pe0_W
  | succ n ih => intro b h1 h2; rw [show b = (b - 1) + 1 by omega, itrR_right (by omega)]; exact peF_W (ih _ (by omega) (by omega)) (hl _ (by omega) (by omega))
theorem erI_W {lv : Int → Int} (hl : ∀ j : Int, 0 ≤ j → j < 40 → -1 ≤ lv j ∧ lv j ≤ 10000) {a b : Int} (ha : 0 ≤ a) (hb : b < 40) (hab : a ≤ b + 1) : 0 ≤ erI lv a b ∧ erI lv a b ≤ 10000 := plD_W (pe_W hl ha (b + 1 - a).toNat (b + 1) (by omega) (by omega))
theorem erI_mono {lv : Int → Int} {a : Int} : ∀ (n : Nat) (b c : Int), c = b + n → a ≤ b → erI lv a b ≤ erI lv a c := by
  intro n
  induction n with
  | zero => intro b c h _; rw [show c = b by omega]; exact Int.le_refl _
  | succ n ih =>
    intro b c h hb
    have := ih b (c - 1) (by omega) hb
    have e : erI lv a c = plD (peF lv c (itrR (peF lv) a c pe0)) := by unfold erI; rw [itrR_right (by omega)]
    have := @peF_le lv c (itrR (peF lv) a c pe0)
    have e2 : erI lv a (c - 1) = plD (itrR (peF lv) a c pe0) := by unfold erI; rw [show c - 1 + 1 = c by omega]
    omega
theorem fw_W {lv : Int → Int} {L : Int} (hl : ∀ j : Int, 0 ≤ j → j < 40 → -1 ≤ lv j ∧ lv j ≤ 10000) : ∀ (n : Nat) (b : Int), b = n → b ≤ 40 → peW (itrR (fwF lv L) 0 b (1, pe0)).2 ∧ 1 ≤ (itrR (fwF lv L) 0 b (1, pe0)).1 ∧ (itrR (fwF lv L) 0 b (1, pe0)).1 ≤ 1 + b := by
  intro n
  induction n with
  | zero => intro b h1 h2; rw [itrR_nil (by omega)]; exact ⟨pe0_W, by decide, by dsimp only; omega⟩
  | succ n ih =>
    intro b h1 h2
    obtain ⟨g1, g2, g3⟩ := ih (b - 1) (by omega) (by omega)
    rw [show b = (b - 1) + 1 by omega, itrR_right (by omega)]
    have hb := hl (b - 1) (by omega) (by omega)
    generalize itrR (fwF lv L) 0 (b - 1) (1, pe0) = s at *
    unfold fwF
    split
    · exact ⟨peF_W g1 hb, g2, by dsimp only; omega⟩
    · exact ⟨peF_W pe0_W hb, by dsimp only; omega, by dsimp only; omega⟩
/-- the least errors together of so many pieces from a value on -/
def dpS (lv : Int → Int) (L : Int) : Nat → Int → Int
  | 0, f => if f = 40 then 0 else 1000000000
  | n + 1, f => itrR (fun t acc => if erI lv f t ≤ L then min acc (erI lv f t + dpS lv L n (t + 1)) else acc) f 40 1000000000
/-- one more -/
def dpF (lv : Int → Int) (L : Int) (n : Nat) (f t acc : Int) : Int := if erI lv f t ≤ L then min acc (erI lv f t + dpS lv L n (t + 1)) else acc
theorem dpS_succ (lv : Int → Int) (L : Int) (n : Nat) (f : Int) : dpS lv L (n + 1) f = itrR (dpF lv L n f) f 40 1000000000 := rfl
theorem dpF_W {lv : Int → Int} {L : Int} {n : Nat} {f t acc : Int} (h0 : 0 ≤ erI lv f t) (h1 : 0 ≤ dpS lv L n (t + 1)) (h : 0 ≤ acc ∧ acc ≤ 1000000000) : 0 ≤ dpF lv L n f t acc ∧ dpF lv L n f t acc ≤ 1000000000 := by
  unfold dpF; split <;> omega
theorem plD_0 (p : Int × Int) : 0 ≤ plD p := by unfold plD; omega
theorem dpS_W (lv : Int → Int) (L : Int) : ∀ (n : Nat) (f : Int), 0 ≤ dpS lv L n f ∧ dpS lv L n f ≤ 1000000000 := by
  intro n
  induction n with
  | zero => intro f; unfold dpS; split <;> decide
  | succ n ih =>
    intro f
    rw [dpS_succ]
    rcases Int.lt_or_le f 40 with q | q
    · exact itrR_ind (b := 40) (fun _ acc => 0 ≤ acc ∧ acc ≤ 1000000000) (fun k s _ hs => dpF_W (plD_0 _) (ih _).1 hs) f 1000000000 (by omega) (by decide)
    · rw [itrR_nil q]; decide
theorem dpF_over {lv : Int → Int} {L : Int} {n : Nat} {f : Int} : ∀ (m : Nat) (t acc : Int), 40 = t + m → f ≤ t → L < erI lv f t → itrR (dpF lv L n f) t 40 acc = acc := by
  intro m
  induction m with
  | zero => intro t acc h _ _; rw [itrR_nil (by omega)]
  | succ m ih =>
    intro t acc h hf hL
    rw [itrR_step (by omega)]
    have e : dpF lv L n f t acc = acc := by unfold dpF; rw [if_neg (by omega)]
    rw [e]
    rcases Nat.eq_zero_or_pos m with q | q
    · rw [itrR_nil (by omega)]
    · have := erI_mono (lv := lv) (a := f) 1 t (t + 1) (by omega) hf
      exact ih (t + 1) acc (by omega) (by omega) (by omega)
/-- the first end of a plan's next piece -/
def feI (lv : Int → Int) (L : Int) (n : Nat) (f : Int) : Int := fnd (fun t => decide (erI lv f t ≤ L) && decide (erI lv f t + dpS lv L n (t + 1) = dpS lv L (n + 1) f)) (39 - f).toNat f
/-- where the next piece begins, after so many of them -/
def plB (lv : Int → Int) (L : Int) (many : Nat) : Nat → Int
  | 0 => 0
  | i + 1 => (if plB lv L many i < 40 then feI lv L (many - i - 1) (plB lv L many i) else 39) + 1
set_option maxHeartbeats 4000000 in
set_option maxRecDepth 100000 in
theorem c_X2_lookAt (l : Launch) (v : VC) (σ : Mem) (b : Nat) (hS : shPl v b) (t : Nat) (ht : vF v t = eI (kI v) 40) (htn : t < vN v) (hbt : t ≠ b + 2) (h : Nat) (hh : vF v h = eI (kB v) 40) (hhn : h < vN v) (hbh : h ≠ b + 2)  : CtV l yX2_lookAt wsX2_lookAt 0 0 v [.ref (vq v b), .ref (vq v t), .ref (vq v h)] σ (fun u => (∀ j : Int, 0 ≤ j → j < 40 → u (b + 2) j = (if σ h j = 0 then σ t j else -1)) ∧ (∀ a : Nat, a ≠ b + 2 → u a = σ a)) := by
  refine mkV (cc := cX2_lookAt) (n := 4) (by decide +kernel) rfl (Nat.le_of_ble_eq_true rfl) (fun x A Q hx C hret => ?_)
  subst hx
  show At x v A Q _ 0 [(0, .ref (vq v b)), (1, .ref (vq v t)), (2, .ref (vq v h))] [] σ
  have iX2 : ∀ w ∈ wsX20, w ∈ wsX2_lookAt := by decide +kernel
  have k15 : Cond.fieldLink RX2 15 (TX2 1).1 (TX2 1).2.1 (TX2 1).2.2.1 ∈ wsX2_lookAt := by decide +kernel
  have lp : ∀ (n : Nat) (k : Int) (τ : Mem) , (40 - k).toNat = n → 0 ≤ k ∧ k ≤ 40 → (∀ j : Int, 0 ≤ j → j < k → τ (b + 2) j = (if σ h j = 0 then σ t j else -1)) → (∀ a : Nat, a ≠ b + 2 → τ a = σ a) → At x v A Q 4 2 [(3, vI k), (0, .ref (vq v b)), (1, .ref (vq v t)), (2, .ref (vq v h))] [] τ := by
    intro n
    induction n using Nat.strongRecOn with
    | _ n ih =>
      intro k τ hn i1 iD iF
      refine a_iload_n C dX2_lookAt_2 0 rfl rfl ?_
      refine a_bipush C dX2_lookAt_3 ?_
      refine a_icmp_ge C 33 (by omega) (by decide) dX2_lookAt_5 (by decide) (fun c5 => ?_) (fun c5 => ?_)
      · skip
        have hk : k = 40 := by omega
        subst hk
        exact hret _ _ _ dX2_lookAt_33 ⟨iD, iF⟩
      · skip
        refine a_aload_n C dX2_lookAt_8 1 rfl rfl ?_
        refine a_getf C hS.f0 hS.n0 (Cn := RX2) (T := TX2) (N := 5) rfl iX2 1 (by decide) k15 (w := .ref (vq v (b + 2))) rfl dX2_lookAt_9 ?_
        refine a_iload_n C dX2_lookAt_12 0 rfl rfl ?_
        refine a_aload_n C dX2_lookAt_13 3 rfl rfl ?_
        refine a_iload_n C dX2_lookAt_14 0 rfl rfl ?_
        refine a_zald C hh hhn 2 hS.tB (by omega) (by omega) (by decide) dX2_lookAt_15 (fun z15 e15 r15 => ?_)
        rw [iF h (by omega)] at e15
        refine a_if_eq C 23 r15 dX2_lookAt_16 (by decide) (fun c16 => ?_) (fun c16 => ?_)
        · skip
          refine a_aload_n C dX2_lookAt_23 2 rfl rfl ?_
          refine a_iload_n C dX2_lookAt_24 0 rfl rfl ?_
          refine a_iald C ht htn 0 hS.tI (by omega) (by omega) (by decide) dX2_lookAt_25 (fun z25 e25 r25 => ?_)
          rw [iF t (by omega)] at e25
          refine a_iast C hS.f2 hS.n2 0 hS.tI (by omega) (by omega) (by decide) r25 dX2_lookAt_26 ?_
          refine a_iinc C (k + 1) [(3, vI (k + 1)), (0, .ref (vq v b)), (1, .ref (vq v t)), (2, .ref (vq v h))] dX2_lookAt_27 0 rfl (by omega) (by decide) rfl ?_
          refine a_goto C 2 dX2_lookAt_30 (by decide) ?_
          refine ih _ (by omega) (k + 1) _ rfl (by omega) ?_ (fun a q => by rw [sput_r q]; exact iF a q)
          intro j j0 j1
          by_cases hj : j = k
          · subst hj; rw [sput_s]; (first | rw [if_pos (by omega)] | rw [if_neg (by omega)]); try omega
          · rw [sput_j _ _ _ _ _ hj]; exact iD j j0 (by omega)
        · skip
          refine a_iconst C dX2_lookAt_19 ?_
          refine a_goto C 26 dX2_lookAt_20 (by decide) ?_
          refine a_iast C hS.f2 hS.n2 0 hS.tI (by omega) (by omega) (by decide) (by decide) dX2_lookAt_26 ?_
          refine a_iinc C (k + 1) [(3, vI (k + 1)), (0, .ref (vq v b)), (1, .ref (vq v t)), (2, .ref (vq v h))] dX2_lookAt_27 0 rfl (by omega) (by decide) rfl ?_
          refine a_goto C 2 dX2_lookAt_30 (by decide) ?_
          refine ih _ (by omega) (k + 1) _ rfl (by omega) ?_ (fun a q => by rw [sput_r q]; exact iF a q)
          intro j j0 j1
          by_cases hj : j = k
          · subst hj; rw [sput_s]; (first | rw [if_pos (by omega)] | rw [if_neg (by omega)]); try omega
          · rw [sput_j _ _ _ _ _ hj]; exact iD j j0 (by omega)
  refine a_iconst C dX2_lookAt_0 ?_
  refine a_istore_n C 3 [(3, vI 0), (0, .ref (vq v b)), (1, .ref (vq v t)), (2, .ref (vq v h))] dX2_lookAt_1 rfl (by decide) rfl ?_
  exact lp _ 0 σ rfl (by omega) (fun j q1 q2 => by omega) (fun _ _ => rfl)
set_option maxHeartbeats 4000000 in
set_option maxRecDepth 100000 in
theorem c_X2_beginPiece (l : Launch) (v : VC) (σ : Mem) (b : Nat) (hS : shPl v b)  : CtV l yX2_beginPiece wsX2_beginPiece 0 0 v [.ref (vq v b)] σ (fun u => u b 3 = 1000000000 ∧ u b 4 = -1 ∧ (∀ a : Nat, a ≠ b → u a = σ a)) := by
  refine mkV (cc := cX2_beginPiece) (n := 1) (by decide +kernel) rfl (Nat.le_of_ble_eq_true rfl) (fun x A Q hx C hret => ?_)
  subst hx
  show At x v A Q _ 0 [(0, .ref (vq v b))] [] σ
  have iX2 : ∀ w ∈ wsX20, w ∈ wsX2_beginPiece := by decide +kernel
  have k34 : Cond.fieldLink RX2 34 (TX2 3).1 (TX2 3).2.1 (TX2 3).2.2.1 ∈ wsX2_beginPiece := by decide +kernel
  have k38 : Cond.fieldLink RX2 38 (TX2 4).1 (TX2 4).2.1 (TX2 4).2.2.1 ∈ wsX2_beginPiece := by decide +kernel
  refine a_aload_n C dX2_beginPiece_0 0 rfl rfl ?_
  refine a_ldc C 1000000000 (w := 1000000000) (by decide +kernel) rfl dX2_beginPiece_1 ?_
  refine a_puti C hS.f0 hS.n0 (Cn := RX2) (T := TX2) (N := 5) rfl iX2 tyX2_ok nmX2 3 (by decide) k34 rfl rfl 3 (by decide) (fun _ => Nat.le_of_ble_eq_true rfl) (fun _ => rfl) dX2_beginPiece_3 ?_
  refine a_aload_n C dX2_beginPiece_6 0 rfl rfl ?_
  refine a_iconst C dX2_beginPiece_7 ?_
  refine a_puti C hS.f0 hS.n0 (Cn := RX2) (T := TX2) (N := 5) rfl iX2 tyX2_ok nmX2 4 (by decide) k38 rfl rfl 4 (by decide) (fun _ => Nat.le_of_ble_eq_true rfl) (fun _ => rfl) dX2_beginPiece_8 ?_
  exact hret _ _ _ dX2_beginPiece_11 ⟨by simp [sput], by simp [sput], fun a q => by rw [sput_r q, sput_r q]⟩
set_option maxHeartbeats 4000000 in
set_option maxRecDepth 100000 in
theorem c_X2_errorWith (l : Launch) (v : VC) (σ : Mem) (b : Nat) (hS : shPl v b) (w1 : Int) (hw : 0 ≤ w1 ∧ w1 < 40) (hp : peW (σ b 3, σ b 4)) (hl : -1 ≤ σ (b + 2) w1 ∧ σ (b + 2) w1 ≤ 10000) : CtI l yX2_errorWith wsX2_errorWith 1 23 v [.ref (vq v b), vI w1] σ (fun z u => z = plD (peF (σ (b + 2)) w1 (σ b 3, σ b 4)) ∧ u b 3 = (peF (σ (b + 2)) w1 (σ b 3, σ b 4)).1 ∧ u b 4 = (peF (σ (b + 2)) w1 (σ b 3, σ b 4)).2 ∧ (∀ a : Nat, a ≠ b → u a = σ a)) := by
  refine mkI (cc := cX2_errorWith) (n := 2) (by decide +kernel) rfl (Nat.le_of_ble_eq_true rfl) (fun x A Q hx C hret => ?_)
  subst hx
  show At x v A Q _ 0 [(0, .ref (vq v b)), (1, vI w1)] [] σ
  have iX2 : ∀ w ∈ wsX20, w ∈ wsX2_errorWith := by decide +kernel
  have k15 : Cond.fieldLink RX2 15 (TX2 1).1 (TX2 1).2.1 (TX2 1).2.2.1 ∈ wsX2_errorWith := by decide +kernel
  have k38 : Cond.fieldLink RX2 38 (TX2 4).1 (TX2 4).2.1 (TX2 4).2.2.1 ∈ wsX2_errorWith := by decide +kernel
  have k34 : Cond.fieldLink RX2 34 (TX2 3).1 (TX2 3).2.1 (TX2 3).2.2.1 ∈ wsX2_errorWith := by decide +kernel
  obtain ⟨p1, p2, p3, p4⟩ := hp
  dsimp only at p1 p2 p3 p4
  refine a_aload_n C dX2_errorWith_0 0 rfl rfl ?_
  refine a_getf C hS.f0 hS.n0 (Cn := RX2) (T := TX2) (N := 5) rfl iX2 1 (by decide) k15 (w := .ref (vq v (b + 2))) rfl dX2_errorWith_1 ?_
  refine a_iload_n C dX2_errorWith_4 1 rfl rfl ?_
  refine a_iald C hS.f2 hS.n2 0 hS.tI (by omega) (by omega) (by decide) dX2_errorWith_5 (fun z5 e5 r5 => ?_)
  refine a_iconst C dX2_errorWith_6 ?_
  refine a_icmp_eq C 44 r5 (by decide) dX2_errorWith_7 (by decide) (fun c7 => ?_) (fun c7 => ?_)
  · skip
    refine a_iconst C dX2_errorWith_44 ?_
    refine a_aload_n C dX2_errorWith_45 0 rfl rfl ?_
    refine a_geti C hS.f0 hS.n0 (Cn := RX2) (T := TX2) (N := 5) rfl iX2 4 (by decide) k38 4 (by decide) rfl dX2_errorWith_46 (fun z46 e46 r46 => ?_)
    refine a_aload_n C dX2_errorWith_49 0 rfl rfl ?_
    refine a_geti C hS.f0 hS.n0 (Cn := RX2) (T := TX2) (N := 5) rfl iX2 3 (by decide) k34 3 (by decide) rfl dX2_errorWith_50 (fun z50 e50 r50 => ?_)
    refine a_isub C dX2_errorWith_53 ?_
    refine a_mmax C (by decide) (by omega) (by decide +kernel) ⟨by decide, Nat.le_of_ble_eq_true rfl⟩ dX2_errorWith_54 ?_
    obtain ⟨z54, e54⟩ : ∃ w : Int, w = max 0 (z46 - z50) := ⟨_, rfl⟩
    rw [← e54]
    refine hret _ _ _ _ dX2_errorWith_57 (by omega) ⟨?_, ?_, ?_, fun a q => by (first | rfl | rw [sput_r q, sput_r q])⟩
    · unfold peF plD; (first | (rw [if_pos (by omega)]; dsimp only; omega) | (rw [if_neg (by omega)]; dsimp only; omega))
    · unfold peF; (first | (rw [if_pos (by omega)]) | (rw [if_neg (by omega)]; simp [sput]; omega))
    · unfold peF; (first | (rw [if_pos (by omega)]) | (rw [if_neg (by omega)]; simp [sput]; omega))
  · skip
    refine a_aload_n C dX2_errorWith_10 0 rfl rfl ?_
    refine a_aload_n C dX2_errorWith_11 0 rfl rfl ?_
    refine a_geti C hS.f0 hS.n0 (Cn := RX2) (T := TX2) (N := 5) rfl iX2 3 (by decide) k34 3 (by decide) rfl dX2_errorWith_12 (fun z12 e12 r12 => ?_)
    refine a_aload_n C dX2_errorWith_15 0 rfl rfl ?_
    refine a_getf C hS.f0 hS.n0 (Cn := RX2) (T := TX2) (N := 5) rfl iX2 1 (by decide) k15 (w := .ref (vq v (b + 2))) rfl dX2_errorWith_16 ?_
    refine a_iload_n C dX2_errorWith_19 1 rfl rfl ?_
    refine a_iald C hS.f2 hS.n2 0 hS.tI (by omega) (by omega) (by decide) dX2_errorWith_20 (fun z20 e20 r20 => ?_)
    refine a_mmin C r12 r20 (by decide +kernel) ⟨by decide, Nat.le_of_ble_eq_true rfl⟩ dX2_errorWith_21 ?_
    obtain ⟨z21, e21⟩ : ∃ w : Int, w = min z12 z20 := ⟨_, rfl⟩
    rw [← e21]
    refine a_puti C hS.f0 hS.n0 (Cn := RX2) (T := TX2) (N := 5) rfl iX2 tyX2_ok nmX2 3 (by decide) k34 rfl rfl 3 (by omega) (fun _ => Nat.le_of_ble_eq_true rfl) (fun _ => rfl) dX2_errorWith_24 ?_
    refine a_aload_n C dX2_errorWith_27 0 rfl rfl ?_
    refine a_aload_n C dX2_errorWith_28 0 rfl rfl ?_
    refine a_geti C hS.f0 hS.n0 (Cn := RX2) (T := TX2) (N := 5) rfl iX2 4 (by decide) k38 4 (by decide) rfl dX2_errorWith_29 (fun z29 e29 r29 => ?_)
    try simp [sput_r, mset_n, sput, mset] at e29
    refine a_aload_n C dX2_errorWith_32 0 rfl rfl ?_
    refine a_getf C hS.f0 hS.n0 (Cn := RX2) (T := TX2) (N := 5) rfl iX2 1 (by decide) k15 (w := .ref (vq v (b + 2))) rfl dX2_errorWith_33 ?_
    refine a_iload_n C dX2_errorWith_36 1 rfl rfl ?_
    refine a_iald C hS.f2 hS.n2 0 hS.tI (by omega) (by omega) (by decide) dX2_errorWith_37 (fun z37 e37 r37 => ?_)
    try simp [sput_r, mset_n, sput, mset] at e37
    refine a_mmax C r29 r37 (by decide +kernel) ⟨by decide, Nat.le_of_ble_eq_true rfl⟩ dX2_errorWith_38 ?_
    obtain ⟨z38, e38⟩ : ∃ w : Int, w = max z29 z37 := ⟨_, rfl⟩
    rw [← e38]
    refine a_puti C hS.f0 hS.n0 (Cn := RX2) (T := TX2) (N := 5) rfl iX2 tyX2_ok nmX2 4 (by decide) k38 rfl rfl 4 (by omega) (fun _ => Nat.le_of_ble_eq_true rfl) (fun _ => rfl) dX2_errorWith_41 ?_
    refine a_iconst C dX2_errorWith_44 ?_
    refine a_aload_n C dX2_errorWith_45 0 rfl rfl ?_
    refine a_geti C hS.f0 hS.n0 (Cn := RX2) (T := TX2) (N := 5) rfl iX2 4 (by decide) k38 4 (by decide) rfl dX2_errorWith_46 (fun z46 e46 r46 => ?_)
    try simp [sput_r, mset_n, sput, mset] at e46
    refine a_aload_n C dX2_errorWith_49 0 rfl rfl ?_
    refine a_geti C hS.f0 hS.n0 (Cn := RX2) (T := TX2) (N := 5) rfl iX2 3 (by decide) k34 3 (by decide) rfl dX2_errorWith_50 (fun z50 e50 r50 => ?_)
    try simp [sput_r, mset_n, sput, mset] at e50
    refine a_isub C dX2_errorWith_53 ?_
    refine a_mmax C (by decide) (by omega) (by decide +kernel) ⟨by decide, Nat.le_of_ble_eq_true rfl⟩ dX2_errorWith_54 ?_
    obtain ⟨z54, e54⟩ : ∃ w : Int, w = max 0 (z46 - z50) := ⟨_, rfl⟩
    rw [← e54]
    refine hret _ _ _ _ dX2_errorWith_57 (by omega) ⟨?_, ?_, ?_, fun a q => by (first | rfl | rw [sput_r q, sput_r q])⟩
    · unfold peF plD; (first | (rw [if_pos (by omega)]; dsimp only; omega) | (rw [if_neg (by omega)]; dsimp only; omega))
    · unfold peF; (first | (rw [if_pos (by omega)]) | (rw [if_neg (by omega)]; simp [sput]; omega))
    · unfold peF; (first | (rw [if_pos (by omega)]) | (rw [if_neg (by omega)]; simp [sput]; omega))
set_option maxHeartbeats 4000000 in
set_option maxRecDepth 100000 in
theorem c_X2_fewestWithin (l : Launch) (v : VC) (σ : Mem) (b : Nat) (hS : shPl v b) (li : Int) (hL : ∀ j : Int, 0 ≤ j → j < 40 → -1 ≤ σ (b + 2) j ∧ σ (b + 2) j ≤ 10000) (hli : rg li) : CtI l yX2_fewestWithin wsX2_fewestWithin 2 44 v [.ref (vq v b), vI li] σ (fun z u => z = fwI (σ (b + 2)) li ∧ (∀ a : Nat, a ≠ b → u a = σ a)) := by
  refine mkI (cc := cX2_fewestWithin) (n := 4) (by decide +kernel) rfl (Nat.le_of_ble_eq_true rfl) (fun x A Q hx C hret => ?_)
  subst hx
  show At x v A Q _ 0 [(0, .ref (vq v b)), (1, vI li)] [] σ
  have lp : ∀ (n : Nat) (k many : Int) (τ : Mem) , (40 - k).toNat = n → 0 ≤ k ∧ k ≤ 40 → (many, (τ b 3, τ b 4)) = itrR (fwF (σ (b + 2)) li) 0 k (1, pe0) → (∀ a : Nat, a ≠ b → τ a = σ a) → At x v A Q 4 8 [(3, vI k), (2, vI many), (0, .ref (vq v b)), (1, vI li)] [] τ := by
    intro n
    induction n using Nat.strongRecOn with
    | _ n ih =>
      intro k many τ hn i1 iM iF
      have wk := fw_W (L := li) hL k.toNat k (by omega) (by omega)
      rw [← iM] at wk
      have wk1 := wk.2.1
      have wk2 := wk.2.2
      dsimp only at wk1 wk2
      refine a_iload_n C dX2_fewestWithin_8 0 rfl rfl ?_
      refine a_bipush C dX2_fewestWithin_9 ?_
      refine a_icmp_ge C 42 (by omega) (by decide) dX2_fewestWithin_11 (by decide) (fun c11 => ?_) (fun c11 => ?_)
      · skip
        refine a_iload_n C dX2_fewestWithin_42 1 rfl rfl ?_
        have hk : k = 40 := by omega
        subst hk
        exact hret _ _ _ _ dX2_fewestWithin_43 (by omega) ⟨by unfold fwI; rw [← iM], iF⟩
      · skip
        refine a_aload_n C dX2_fewestWithin_14 2 rfl rfl ?_
        refine a_iload_n C dX2_fewestWithin_15 0 rfl rfl ?_
        refine a_cVI C (k0 := 1) (As := [vI k]) (rest := []) (c_X2_errorWith x.2.1 v τ b hS k (by omega) wk.1 (by rw [iF (b + 2) (by omega)]; exact hL k (by omega) (by omega))) gX2_fewestWithin_X2_errorWith rfl (by decide +kernel) (by decide) hS.f0 rfl hS.n0 rfl rfl (Nat.le_of_ble_eq_true rfl) dX2_fewestWithin_16 (fun z16 u16 r16 p16 => ?_)
        obtain ⟨g16, a16, b16, f16⟩ := p16
        rw [iF (b + 2) (by omega)] at g16
        refine a_iload_n C dX2_fewestWithin_19 3 rfl rfl ?_
        refine a_icmp_le C 36 r16 (by omega) dX2_fewestWithin_20 (by decide) (fun c20 => ?_) (fun c20 => ?_)
        · skip
          refine a_iinc C (k + 1) [(3, vI (k + 1)), (2, vI many), (0, .ref (vq v b)), (1, vI li)] dX2_fewestWithin_36 0 rfl (by omega) (by decide) rfl ?_
          refine a_goto C 8 dX2_fewestWithin_39 (by decide) ?_
          refine ih _ (by omega) (k + 1) _ _ rfl (by omega) ?_ (fun a q => by rw [f16 a q]; exact iF a q)
          rw [itrR_right (by omega), ← iM]
          unfold fwF
          dsimp only
          rw [if_pos (by rw [← g16]; omega)]
          rw [a16, b16, iF (b + 2) (by omega)]
        · skip
          refine a_iinc C (many + 1) [(2, vI (many + 1)), (3, vI k), (0, .ref (vq v b)), (1, vI li)] dX2_fewestWithin_23 1 rfl (by omega) (by decide) rfl ?_
          refine a_aload_n C dX2_fewestWithin_26 2 rfl rfl ?_
          refine a_cVV C (k0 := 0) (As := []) (rest := []) (c_X2_beginPiece x.2.1 v u16 b hS ) gX2_fewestWithin_X2_beginPiece rfl (by decide +kernel) (by decide) hS.f0 rfl hS.n0 rfl rfl (Nat.le_of_ble_eq_true rfl) dX2_fewestWithin_27 (fun u27 p27 => ?_)
          obtain ⟨a27, b27, f27⟩ := p27
          refine a_aload_n C dX2_fewestWithin_30 2 rfl rfl ?_
          refine a_iload_n C dX2_fewestWithin_31 1 rfl rfl ?_
          refine a_cVI C (k0 := 1) (As := [vI k]) (rest := []) (c_X2_errorWith x.2.1 v u27 b hS k (by omega) (by rw [a27, b27]; exact pe0_W) (by rw [f27 (b + 2) (by omega), f16 (b + 2) (by omega), iF (b + 2) (by omega)]; exact hL k (by omega) (by omega))) gX2_fewestWithin_X2_errorWith rfl (by decide +kernel) (by decide) hS.f0 rfl hS.n0 rfl rfl (Nat.le_of_ble_eq_true rfl) dX2_fewestWithin_32 (fun z32 u32 r32 p32 => ?_)
          obtain ⟨g32, a32, b32, f32⟩ := p32
          refine a_pop C dX2_fewestWithin_35 rfl ?_
          refine a_iinc C (k + 1) [(3, vI (k + 1)), (2, vI (many + 1)), (0, .ref (vq v b)), (1, vI li)] dX2_fewestWithin_36 1 rfl (by omega) (by decide) rfl ?_
          refine a_goto C 8 dX2_fewestWithin_39 (by decide) ?_
          refine ih _ (by omega) (k + 1) _ _ rfl (by omega) ?_ (fun a q => by rw [f32 a q, f27 a q, f16 a q]; exact iF a q)
          rw [itrR_right (by omega), ← iM]
          unfold fwF
          dsimp only
          rw [if_neg (by rw [← g16]; omega)]
          rw [a32, b32, f27 (b + 2) (by omega), f16 (b + 2) (by omega), iF (b + 2) (by omega), a27, b27]
          rfl
  refine a_iconst C dX2_fewestWithin_0 ?_
  refine a_istore_n C 2 [(2, vI 1), (0, .ref (vq v b)), (1, vI li)] dX2_fewestWithin_1 rfl (by decide) rfl ?_
  refine a_aload_n C dX2_fewestWithin_2 1 rfl rfl ?_
  refine a_cVV C (k0 := 0) (As := []) (rest := []) (c_X2_beginPiece x.2.1 v σ b hS ) gX2_fewestWithin_X2_beginPiece rfl (by decide +kernel) (by decide) hS.f0 rfl hS.n0 rfl rfl (Nat.le_of_ble_eq_true rfl) dX2_fewestWithin_3 (fun u3 p3 => ?_)
  obtain ⟨a3, b3, f3⟩ := p3
  refine a_iconst C dX2_fewestWithin_6 ?_
  refine a_istore_n C 3 [(3, vI 0), (2, vI 1), (0, .ref (vq v b)), (1, vI li)] dX2_fewestWithin_7 rfl (by decide) rfl ?_
  exact lp _ 0 1 _ rfl (by omega) (by rw [itrR_nil (by omega), a3, b3]; rfl) f3
set_option maxHeartbeats 4000000 in
set_option maxRecDepth 100000 in
theorem c_X2_leastLimit (l : Launch) (v : VC) (σ : Mem) (b : Nat) (hS : shPl v b) (ma : Int) (hL : ∀ j : Int, 0 ≤ j → j < 40 → -1 ≤ σ (b + 2) j ∧ σ (b + 2) j ≤ 10000) (hma : rg ma) : CtI l yX2_leastLimit wsX2_leastLimit 3 67 v [.ref (vq v b), vI ma] σ (fun z u => ((0 ≤ z ∧ z ≤ 10000) ∧ (z = 10000 ∨ fwI (σ (b + 2)) z ≤ ma) ∧ (z = 0 ∨ ma < fwI (σ (b + 2)) (z - 1))) ∧ (∀ a : Nat, a ≠ b → u a = σ a)) := by
  refine mkI (cc := cX2_leastLimit) (n := 6) (by decide +kernel) rfl (Nat.le_of_ble_eq_true rfl) (fun x A Q hx C hret => ?_)
  subst hx
  show At x v A Q _ 0 [(0, .ref (vq v b)), (1, vI ma)] [] σ
  have lp : ∀ (n : Nat) (step hi lo1 : Int) (τ : Mem) , (40 - step).toNat = n → 0 ≤ step ∧ step ≤ 32 → 0 ≤ lo1 ∧ lo1 ≤ hi ∧ hi ≤ 10000 → (hi - lo1) * 2 ^ step.toNat ≤ 10000 → (hi = 10000 ∨ fwI (σ (b + 2)) hi ≤ ma) → (lo1 = 0 ∨ ma < fwI (σ (b + 2)) (lo1 - 1)) → (∀ a : Nat, a ≠ b → τ a = σ a) → At x v A Q 6 9 [(4, vI step), (3, vI hi), (2, vI lo1), (0, .ref (vq v b)), (1, vI ma)] [] τ := by
    intro n
    induction n using Nat.strongRecOn with
    | _ n ih =>
      intro step hi lo1 τ hn i1 i2 i3 i4 i5 iF
      refine a_iload C dX2_leastLimit_9 0 rfl ?_
      refine a_bipush C dX2_leastLimit_11 ?_
      refine a_icmp_ge C 55 (by omega) (by decide) dX2_leastLimit_13 (by decide) (fun c13 => ?_) (fun c13 => ?_)
      · skip
        refine a_iload_n C dX2_leastLimit_55 1 rfl rfl ?_
        have hhl : lo1 = hi := by (first | omega | (have p32 : (2 : Int) ^ 32 ≤ 2 ^ step.toNat := (by rw [show step = 32 by omega]; decide); have e32 : (2 : Int) ^ 32 = 4294967296 := (by decide); have := Int.mul_le_mul_of_nonneg_left p32 (show 0 ≤ hi - lo1 by omega); omega))
        subst hhl
        exact hret _ _ _ _ dX2_leastLimit_56 (by omega) ⟨⟨by omega, i4, i5⟩, iF⟩
      · skip
        refine a_iload_n C dX2_leastLimit_16 2 rfl rfl ?_
        refine a_iload_n C dX2_leastLimit_17 1 rfl rfl ?_
        refine a_icmp_ge C 55 (by omega) (by omega) dX2_leastLimit_18 (by decide) (fun c18 => ?_) (fun c18 => ?_)
        · skip
          refine a_iload_n C dX2_leastLimit_55 1 rfl rfl ?_
          have hhl : lo1 = hi := by (first | omega | (have p32 : (2 : Int) ^ 32 ≤ 2 ^ step.toNat := (by rw [show step = 32 by omega]; decide); have e32 : (2 : Int) ^ 32 = 4294967296 := (by decide); have := Int.mul_le_mul_of_nonneg_left p32 (show 0 ≤ hi - lo1 by omega); omega))
          subst hhl
          exact hret _ _ _ _ dX2_leastLimit_56 (by omega) ⟨⟨by omega, i4, i5⟩, iF⟩
        · skip
          refine a_iload_n C dX2_leastLimit_21 2 rfl rfl ?_
          refine a_iload_n C dX2_leastLimit_22 1 rfl rfl ?_
          refine a_iadd C dX2_leastLimit_23 ?_
          refine a_iconst C dX2_leastLimit_24 ?_
          refine a_idiv C (by omega) (by decide) (by omega) dX2_leastLimit_25 ?_
          obtain ⟨z26, e26⟩ : ∃ w : Int, w = (lo1 + hi).tdiv 2 := ⟨_, rfl⟩
          rw [← e26]
          rw [Int.tdiv_eq_ediv_of_nonneg (by omega)] at e26
          refine a_istore C [(5, vI z26), (4, vI step), (3, vI hi), (2, vI lo1), (0, .ref (vq v b)), (1, vI ma)] dX2_leastLimit_26 (by decide) rfl ?_
          refine a_aload_n C dX2_leastLimit_28 4 rfl rfl ?_
          refine a_iload C dX2_leastLimit_29 0 rfl ?_
          refine a_cVI C (k0 := 1) (As := [vI z26]) (rest := []) (c_X2_fewestWithin x.2.1 v τ b hS z26 (by rw [iF (b + 2) (by omega)]; exact hL) (by omega)) gX2_leastLimit_X2_fewestWithin rfl (by decide +kernel) (by decide) hS.f0 rfl hS.n0 rfl rfl (Nat.le_of_ble_eq_true rfl) dX2_leastLimit_31 (fun z31 u31 r31 p31 => ?_)
          obtain ⟨g31, f31⟩ := p31
          rw [iF (b + 2) (by omega)] at g31
          refine a_iload_n C dX2_leastLimit_34 5 rfl rfl ?_
          refine a_icmp_gt C 44 r31 (by omega) dX2_leastLimit_35 (by decide) (fun c35 => ?_) (fun c35 => ?_)
          · skip
            refine a_iload C dX2_leastLimit_44 0 rfl ?_
            refine a_iconst C dX2_leastLimit_46 ?_
            refine a_iadd C dX2_leastLimit_47 ?_
            refine a_istore_n C 2 [(2, vI (z26 + 1)), (5, vI z26), (4, vI step), (3, vI hi), (0, .ref (vq v b)), (1, vI ma)] dX2_leastLimit_48 rfl (by decide) rfl ?_
            refine a_iinc C (step + 1) [(4, vI (step + 1)), (2, vI (z26 + 1)), (5, vI z26), (3, vI hi), (0, .ref (vq v b)), (1, vI ma)] dX2_leastLimit_49 2 rfl (by omega) (by decide) rfl ?_
            refine a_goto C 9 dX2_leastLimit_52 (by decide) ?_
            refine a_sub [0, 3, 1, 4, 5] [(4, vI (step + 1)), (3, vI hi), (2, vI (z26 + 1)), (0, .ref (vq v b)), (1, vI ma)] rfl ?_
            refine ih _ (by omega) (step + 1) _ _ _ rfl (by omega) (by omega) ?_ ?_ ?_ (fun a q => by rw [f31 a q]; exact iF a q)
            · have e2 : (2 : Int) ^ (step + 1).toNat = 2 ^ step.toNat * 2 := by rw [show (step + 1).toNat = step.toNat + 1 by omega, Int.pow_succ]
              rw [e2]
              have pp : (0 : Int) < 2 ^ step.toNat := Int.pow_pos (by decide)
              have : (hi - lo1) * 2 ^ step.toNat ≤ 10000 := i3
              rw [← Int.mul_assoc, Int.mul_comm _ 2, ← Int.mul_assoc]
              refine Int.le_trans (Int.mul_le_mul_of_nonneg_right (show 2 * _ ≤ hi - lo1 by omega) (by omega)) this
            · (first | exact i4 | (right; rw [← g31]; omega))
            · (first | exact i5 | (right; rw [show z26 + 1 - 1 = z26 by omega, ← g31]; omega))
          · skip
            refine a_iload C dX2_leastLimit_38 0 rfl ?_
            refine a_istore_n C 3 [(3, vI z26), (5, vI z26), (4, vI step), (2, vI lo1), (0, .ref (vq v b)), (1, vI ma)] dX2_leastLimit_40 rfl (by decide) rfl ?_
            refine a_goto C 49 dX2_leastLimit_41 (by decide) ?_
            refine a_iinc C (step + 1) [(4, vI (step + 1)), (3, vI z26), (5, vI z26), (2, vI lo1), (0, .ref (vq v b)), (1, vI ma)] dX2_leastLimit_49 2 rfl (by omega) (by decide) rfl ?_
            refine a_goto C 9 dX2_leastLimit_52 (by decide) ?_
            refine a_sub [0, 1, 3, 4, 5] [(4, vI (step + 1)), (3, vI z26), (2, vI lo1), (0, .ref (vq v b)), (1, vI ma)] rfl ?_
            refine ih _ (by omega) (step + 1) _ _ _ rfl (by omega) (by omega) ?_ ?_ ?_ (fun a q => by rw [f31 a q]; exact iF a q)
            · have e2 : (2 : Int) ^ (step + 1).toNat = 2 ^ step.toNat * 2 := by rw [show (step + 1).toNat = step.toNat + 1 by omega, Int.pow_succ]
              rw [e2]
              have pp : (0 : Int) < 2 ^ step.toNat := Int.pow_pos (by decide)
              have : (hi - lo1) * 2 ^ step.toNat ≤ 10000 := i3
              rw [← Int.mul_assoc, Int.mul_comm _ 2, ← Int.mul_assoc]
              refine Int.le_trans (Int.mul_le_mul_of_nonneg_right (show 2 * _ ≤ hi - lo1 by omega) (by omega)) this
            · (first | exact i4 | (right; rw [← g31]; omega))
            · (first | exact i5 | (right; rw [show z26 + 1 - 1 = z26 by omega, ← g31]; omega))
  refine a_iconst C dX2_leastLimit_0 ?_
  refine a_istore_n C 2 [(2, vI 0), (0, .ref (vq v b)), (1, vI ma)] dX2_leastLimit_1 rfl (by decide) rfl ?_
  refine a_sipush C dX2_leastLimit_2 ?_
  refine a_istore_n C 3 [(3, vI 10000), (2, vI 0), (0, .ref (vq v b)), (1, vI ma)] dX2_leastLimit_5 rfl (by decide) rfl ?_
  refine a_iconst C dX2_leastLimit_6 ?_
  refine a_istore C [(4, vI 0), (3, vI 10000), (2, vI 0), (0, .ref (vq v b)), (1, vI ma)] dX2_leastLimit_7 (by decide) rfl ?_
  exact lp _ 0 10000 0 σ rfl (by omega) (by omega) (by decide) (Or.inl rfl) (Or.inl rfl) (fun _ _ => rfl)
set_option maxHeartbeats 4000000 in
set_option maxRecDepth 100000 in
theorem c_X2_at (l : Launch) (v : VC) (σ : Mem) (k1 f1 : Int) (h1 : 0 ≤ k1 ∧ k1 ≤ 100) (h2 : 0 ≤ f1 ∧ f1 ≤ 100) : CtI l yX2_at wsX2_at 0 0 v [vI k1, vI f1] σ (fun z u => z = k1 * 41 + f1 ∧ u = σ) := by
  refine mkI (cc := cX2_at) (n := 2) (by decide +kernel) rfl (Nat.le_of_ble_eq_true rfl) (fun x A Q hx C hret => ?_)
  subst hx
  show At x v A Q _ 0 [(0, vI k1), (1, vI f1)] [] σ
  refine a_iload_n C dX2_at_0 0 rfl rfl ?_
  refine a_bipush C dX2_at_1 ?_
  refine a_imul C dX2_at_3 ?_
  refine a_iload_n C dX2_at_4 1 rfl rfl ?_
  refine a_iadd C dX2_at_5 ?_
  exact hret _ _ _ _ dX2_at_6 (by omega) ⟨rfl, rfl⟩
set_option maxHeartbeats 4000000 in
set_option maxRecDepth 100000 in
theorem c_X2_offerPiece (l : Launch) (v : VC) (σ : Mem) (b : Nat) (hS : shPl v b) (ma f1 t1 er : Int) (hma : 0 ≤ ma ∧ ma ≤ 12) (hf : 0 ≤ f1 ∧ f1 ≤ t1 ∧ t1 ≤ 39) (her : 0 ≤ er ∧ er ≤ 10000) (hB : (∀ p : Int, 0 ≤ p → p < 533 → 0 ≤ σ (b + 3) p ∧ σ (b + 3) p ≤ 1000000000)) : CtV l yX2_offerPiece wsX2_offerPiece 1 21 v [.ref (vq v b), vI ma, vI f1, vI t1, vI er] σ (fun u => ((∀ k1 : Int, 1 ≤ k1 → k1 ≤ ma → u (b + 3) (k1 * 41 + f1) = min (σ (b + 3) (k1 * 41 + f1)) (er + σ (b + 3) ((k1 - 1) * 41 + (t1 + 1)))) ∧ (∀ p : Int, (∀ k1 : Int, 1 ≤ k1 → k1 ≤ ma → p ≠ k1 * 41 + f1) → u (b + 3) p = σ (b + 3) p)) ∧ (∀ a : Nat, a ≠ b + 3 → u a = σ a)) := by
  refine mkV (cc := cX2_offerPiece) (n := 7) (by decide +kernel) rfl (Nat.le_of_ble_eq_true rfl) (fun x A Q hx C hret => ?_)
  subst hx
  show At x v A Q _ 0 [(0, .ref (vq v b)), (1, vI ma), (2, vI f1), (3, vI t1), (4, vI er)] [] σ
  have iX2 : ∀ w ∈ wsX20, w ∈ wsX2_offerPiece := by decide +kernel
  have k18 : Cond.fieldLink RX2 18 (TX2 2).1 (TX2 2).2.1 (TX2 2).2.2.1 ∈ wsX2_offerPiece := by decide +kernel
  have lp : ∀ (n : Nat) (k : Int) (τ : Mem) , (40 - k).toNat = n → 1 ≤ k ∧ k ≤ ma + 1 → (∀ k1 : Int, 1 ≤ k1 → k1 < k → τ (b + 3) (k1 * 41 + f1) = min (σ (b + 3) (k1 * 41 + f1)) (er + σ (b + 3) ((k1 - 1) * 41 + (t1 + 1)))) ∧ (∀ p : Int, (∀ k1 : Int, 1 ≤ k1 → k1 < k → p ≠ k1 * 41 + f1) → τ (b + 3) p = σ (b + 3) p) → (∀ a : Nat, a ≠ b + 3 → τ a = σ a) → At x v A Q 7 3 [(5, vI k), (0, .ref (vq v b)), (1, vI ma), (2, vI f1), (3, vI t1), (4, vI er)] [] τ := by
    intro n
    induction n using Nat.strongRecOn with
    | _ n ih =>
      intro k τ hn i1 iD iF
      refine a_iload C dX2_offerPiece_3 0 rfl ?_
      refine a_iload_n C dX2_offerPiece_5 2 rfl rfl ?_
      refine a_icmp_gt C 64 (by omega) (by omega) dX2_offerPiece_6 (by decide) (fun c6 => ?_) (fun c6 => ?_)
      · skip
        have hk : k = ma + 1 := by omega
        subst hk
        exact hret _ _ _ dX2_offerPiece_64 ⟨⟨fun k1 q1 q2 => iD.1 k1 q1 (by omega), fun p hp => iD.2 p (fun k1 q1 q2 => hp k1 q1 (by omega))⟩, iF⟩
      · skip
        refine a_iload C dX2_offerPiece_9 5 rfl ?_
        refine a_aload_n C dX2_offerPiece_11 1 rfl rfl ?_
        refine a_getf C hS.f0 hS.n0 (Cn := RX2) (T := TX2) (N := 5) rfl iX2 2 (by decide) k18 (w := .ref (vq v (b + 3))) rfl dX2_offerPiece_12 ?_
        refine a_iload C dX2_offerPiece_15 0 rfl ?_
        refine a_iconst C dX2_offerPiece_17 ?_
        refine a_isub C dX2_offerPiece_18 ?_
        refine a_iload_n C dX2_offerPiece_19 4 rfl rfl ?_
        refine a_iconst C dX2_offerPiece_20 ?_
        refine a_iadd C dX2_offerPiece_21 ?_
        refine a_cSI C (k0 := 2) (As := [vI (k - 1), vI (t1 + 1)]) (rest := [.ref (vq v (b + 3)), vI er]) (c_X2_at x.2.1 v τ (k - 1) (t1 + 1) (by omega) (by omega)) gX2_offerPiece_X2_at rfl (by decide +kernel) (by decide) rfl rfl (Nat.le_of_ble_eq_true rfl) dX2_offerPiece_22 (fun z22 u22 r22 p22 => ?_)
        obtain ⟨e22, p22⟩ := p22
        subst u22
        refine a_iald C hS.f3 hS.n3 0 hS.tI (by omega) (by omega) (by decide) dX2_offerPiece_25 (fun z25 e25 r25 => ?_)
        rw [e22, iD.2 _ (fun k2 _ _ => by omega)] at e25
        have b25 := hB ((k - 1) * 41 + (t1 + 1)) (by omega) (by omega)
        rw [← e25] at b25
        refine a_iadd C dX2_offerPiece_26 ?_
        refine a_istore C [(6, vI (er + z25)), (5, vI k), (0, .ref (vq v b)), (1, vI ma), (2, vI f1), (3, vI t1), (4, vI er)] dX2_offerPiece_27 (by decide) rfl ?_
        refine a_iload C dX2_offerPiece_29 0 rfl ?_
        refine a_aload_n C dX2_offerPiece_31 2 rfl rfl ?_
        refine a_getf C hS.f0 hS.n0 (Cn := RX2) (T := TX2) (N := 5) rfl iX2 2 (by decide) k18 (w := .ref (vq v (b + 3))) rfl dX2_offerPiece_32 ?_
        refine a_iload C dX2_offerPiece_35 1 rfl ?_
        refine a_iload_n C dX2_offerPiece_37 4 rfl rfl ?_
        refine a_cSI C (k0 := 2) (As := [vI k, vI f1]) (rest := [.ref (vq v (b + 3)), vI (er + z25)]) (c_X2_at x.2.1 v τ k f1 (by omega) (by omega)) gX2_offerPiece_X2_at rfl (by decide +kernel) (by decide) rfl rfl (Nat.le_of_ble_eq_true rfl) dX2_offerPiece_38 (fun z38 u38 r38 p38 => ?_)
        obtain ⟨e38, p38⟩ := p38
        subst u38
        refine a_iald C hS.f3 hS.n3 0 hS.tI (by omega) (by omega) (by decide) dX2_offerPiece_41 (fun z41 e41 r41 => ?_)
        refine a_icmp_ge C 58 (by omega) r41 dX2_offerPiece_42 (by decide) (fun c42 => ?_) (fun c42 => ?_)
        · skip
          refine a_iinc C (k + 1) [(5, vI (k + 1)), (6, vI (er + z25)), (0, .ref (vq v b)), (1, vI ma), (2, vI f1), (3, vI t1), (4, vI er)] dX2_offerPiece_58 1 rfl (by omega) (by decide) rfl ?_
          refine a_goto C 3 dX2_offerPiece_61 (by decide) ?_
          refine a_sub [0, 2, 3, 4, 5, 6] [(5, vI (k + 1)), (0, .ref (vq v b)), (1, vI ma), (2, vI f1), (3, vI t1), (4, vI er)] rfl ?_
          refine ih _ (by omega) (k + 1) _ rfl (by omega) ⟨?_, ?_⟩ (fun a q => by (first | (rw [sput_r q]; exact iF a q) | exact iF a q))
          · intro k1 q1 q2
            by_cases hk : k1 = k
            · subst hk
              have e1 := iD.2 (k1 * 41 + f1) (fun k2 _ _ => by omega)
              rw [← e25, ← e1]
              (first | (rw [show k1 * 41 + f1 = z52 by omega, sput_s]; rw [show z52 = z38 by omega, ← e41]; omega) | (rw [show k1 * 41 + f1 = z38 by omega, ← e41]; omega))
            · (first | (rw [sput_j _ _ _ _ _ (by omega)]; exact iD.1 k1 q1 (by omega)) | exact iD.1 k1 q1 (by omega))
          · intro p hp
            (first | (rw [sput_j _ _ _ _ _ (by have := hp k (by omega) (by omega); omega)]; exact iD.2 p (fun k2 q1 q2 => hp k2 q1 (by omega))) | exact iD.2 p (fun k2 q1 q2 => hp k2 q1 (by omega)))
        · skip
          refine a_aload_n C dX2_offerPiece_45 2 rfl rfl ?_
          refine a_getf C hS.f0 hS.n0 (Cn := RX2) (T := TX2) (N := 5) rfl iX2 2 (by decide) k18 (w := .ref (vq v (b + 3))) rfl dX2_offerPiece_46 ?_
          refine a_iload C dX2_offerPiece_49 1 rfl ?_
          refine a_iload_n C dX2_offerPiece_51 4 rfl rfl ?_
          refine a_cSI C (k0 := 2) (As := [vI k, vI f1]) (rest := [.ref (vq v (b + 3))]) (c_X2_at x.2.1 v τ k f1 (by omega) (by omega)) gX2_offerPiece_X2_at rfl (by decide +kernel) (by decide) rfl rfl (Nat.le_of_ble_eq_true rfl) dX2_offerPiece_52 (fun z52 u52 r52 p52 => ?_)
          obtain ⟨e52, p52⟩ := p52
          subst u52
          refine a_iload C dX2_offerPiece_55 0 rfl ?_
          refine a_iast C hS.f3 hS.n3 0 hS.tI (by omega) (by omega) (by decide) (by omega) dX2_offerPiece_57 ?_
          refine a_iinc C (k + 1) [(5, vI (k + 1)), (6, vI (er + z25)), (0, .ref (vq v b)), (1, vI ma), (2, vI f1), (3, vI t1), (4, vI er)] dX2_offerPiece_58 1 rfl (by omega) (by decide) rfl ?_
          refine a_goto C 3 dX2_offerPiece_61 (by decide) ?_
          refine a_sub [0, 2, 3, 4, 5, 6] [(5, vI (k + 1)), (0, .ref (vq v b)), (1, vI ma), (2, vI f1), (3, vI t1), (4, vI er)] rfl ?_
          refine ih _ (by omega) (k + 1) _ rfl (by omega) ⟨?_, ?_⟩ (fun a q => by (first | (rw [sput_r q]; exact iF a q) | exact iF a q))
          · intro k1 q1 q2
            by_cases hk : k1 = k
            · subst hk
              have e1 := iD.2 (k1 * 41 + f1) (fun k2 _ _ => by omega)
              rw [← e25, ← e1]
              (first | (rw [show k1 * 41 + f1 = z52 by omega, sput_s]; rw [show z52 = z38 by omega, ← e41]; omega) | (rw [show k1 * 41 + f1 = z38 by omega, ← e41]; omega))
            · (first | (rw [sput_j _ _ _ _ _ (by omega)]; exact iD.1 k1 q1 (by omega)) | exact iD.1 k1 q1 (by omega))
          · intro p hp
            (first | (rw [sput_j _ _ _ _ _ (by have := hp k (by omega) (by omega); omega)]; exact iD.2 p (fun k2 q1 q2 => hp k2 q1 (by omega))) | exact iD.2 p (fun k2 q1 q2 => hp k2 q1 (by omega)))
  refine a_iconst C dX2_offerPiece_0 ?_
  refine a_istore C [(5, vI 1), (0, .ref (vq v b)), (1, vI ma), (2, vI f1), (3, vI t1), (4, vI er)] dX2_offerPiece_1 (by decide) rfl ?_
  exact lp _ 1 σ rfl (by omega) ⟨fun k1 q1 q2 => by omega, fun p _ => rfl⟩ (fun _ _ => rfl)
