section
variable {x : XC} {v : VC} {A : Nat → Prop} {Q : State → Prop} {n pc : Nat} {lv : List (Nat × Value)} {st : List Value} {σ : Mem} {cc : ByteArray} {own : String} {Ts : List Cond} {fr lo : Nat}
theorem a_anull (C : Cx x v A cc own n Ts fr lo) (hd : decode cc pc = .ok (.aconst_null, 1)) (k : At x v A Q n (pc + 1) lv (.null :: st) σ) : At x v A Q n pc lv st σ := by
  obtain ⟨p, l, e, R, s, m, args, below, meth, c⟩ := x
  intro H locs ls hM hP hS hl
  exact lv_null C.1.1 C.1.2.1 hd (k H locs ls hM hP hS hl)
theorem a_astore (C : Cx x v A cc own n Ts fr lo) {j : Nat} {z : Nat} (lv' : List (Nat × Value)) (hd : decode cc pc = .ok (.astore j, 2)) (hn : j < n) (hl0 : (j, .ref z) :: lk1 j lv = lv') (k : At x v A Q n (pc + 2) lv' st σ) : At x v A Q n pc lv (.ref z :: st) σ := by
  obtain ⟨p, l, e, R, s, m, args, below, meth, c⟩ := x
  intro H locs ls hM hP hS hl
  exact lv_astore C.1.1 C.1.2.1 hd hl hn hl0 (fun ls hl => k H locs ls hM hP hS hl)
theorem a_astoreN (C : Cx x v A cc own n Ts fr lo) {j : Nat} (lv' : List (Nat × Value)) (hd : decode cc pc = .ok (.astore j, 2)) (hn : j < n) (hl0 : (j, .null) :: lk1 j lv = lv') (k : At x v A Q n (pc + 2) lv' st σ) : At x v A Q n pc lv (.null :: st) σ := by
  obtain ⟨p, l, e, R, s, m, args, below, meth, c⟩ := x
  intro H locs ls hM hP hS hl
  exact lv_astoreN C.1.1 C.1.2.1 hd hl hn hl0 (fun ls hl => k H locs ls hM hP hS hl)
end
theorem zz {C : Prop} [Decidable C] {z : Int} (h : z = if C then 1 else 0) : (z = 1 ∧ C) ∨ (z = 0 ∧ ¬ C) := by
  by_cases q : C
  · exact Or.inl ⟨by rw [h, if_pos q], q⟩
  · exact Or.inr ⟨by rw [h, if_neg q], q⟩
theorem sput_cg {X Y : Mem} {b a : Nat} {j w : Int} (h : X a = Y a) : sput X b j w a = sput Y b j w a := by funext i; simp [sput, h]
/-- what the trays' numbers keep -/
def trW (σ : Mem) : Prop := ∀ i : Int, 0 ≤ i → i < 4 → (0 ≤ σ (3 + 2 * i.toNat) 1 ∧ σ (3 + 2 * i.toNat) 1 ≤ 1) ∧ (0 ≤ σ (3 + 2 * i.toNat) 2 ∧ σ (3 + 2 * i.toNat) 2 ≤ 3) ∧ (0 ≤ σ (3 + 2 * i.toNat) 3 ∧ σ (3 + 2 * i.toNat) 3 ≤ 100)
set_option maxHeartbeats 4000000 in
set_option maxRecDepth 100000 in
theorem c_X6_status (l : Launch) (v : VC) (σ : Mem) (hS : shSS v)  : CtI l yX6_status wsX6_status 0 0 v [.ref (vq v 0)] σ (fun z u => z = σ 0 5 ∧ u = σ) := by
  refine mkI (cc := cX6_status) (n := 1) (by decide +kernel) rfl (Nat.le_of_ble_eq_true rfl) (fun x A Q hx C hret => ?_)
  subst hx
  show At x v A Q _ 0 [(0, .ref (vq v 0))] [] σ
  have iX6 : ∀ w ∈ wsX60, w ∈ wsX6_status := by decide +kernel
  have k42 : Cond.fieldLink RX6 42 (TX6 5).1 (TX6 5).2.1 (TX6 5).2.2.1 ∈ wsX6_status := by decide +kernel
  refine a_aload_n C dX6_status_0 0 rfl rfl ?_
  refine a_geti C hS.f0 hS.n0 (Cn := RX6) (T := TX6) (N := 6) rfl iX6 5 (by decide) k42 5 (by decide) rfl dX6_status_1 (fun z1 e1 r1 => ?_)
  exact hret _ _ _ _ dX6_status_4 r1 ⟨by assumption, rfl⟩
set_option maxHeartbeats 4000000 in
set_option maxRecDepth 100000 in
theorem c_X6_top (l : Launch) (v : VC) (σ : Mem) (hS : shSS v)  : CtL l yX6_top wsX6_top 0 0 v [.ref (vq v 0)] σ (fun z u => z = σ 51 100000 ∧ u = σ) := by
  refine mkL (cc := cX6_top) (n := 1) (by decide +kernel) rfl (Nat.le_of_ble_eq_true rfl) (fun x A Q hx C hret => ?_)
  subst hx
  show At x v A Q _ 0 [(0, .ref (vq v 0))] [] σ
  have iX6 : ∀ w ∈ wsX60, w ∈ wsX6_top := by decide +kernel
  have iX1 : ∀ w ∈ wsX10, w ∈ wsX6_top := by decide +kernel
  have k38 : Cond.fieldLink RX6 38 (TX6 4).1 (TX6 4).2.1 (TX6 4).2.2.1 ∈ wsX6_top := by decide +kernel
  have k48 : Cond.fieldLink RX6 48 (TX1 0).1 (TX1 0).2.1 (TX1 0).2.2.1 ∈ wsX6_top := by decide +kernel
  refine a_aload_n C dX6_top_0 0 rfl rfl ?_
  refine a_getf C hS.f0 hS.n0 (Cn := RX6) (T := TX6) (N := 6) rfl iX6 4 (by decide) k38 (w := .ref (vq v 51)) rfl dX6_top_1 ?_
  refine a_getl C hS.o51.f0 hS.o51.n0 (Cn := RX1) (T := TX1) (N := 2) rfl iX1 0 (by decide) k48 100000 rfl dX6_top_4 (fun z4 e4 r4 => ?_)
  exact hret _ _ _ _ dX6_top_7 r4 ⟨by assumption, rfl⟩
set_option maxHeartbeats 4000000 in
set_option maxRecDepth 100000 in
theorem c_X6_bottom (l : Launch) (v : VC) (σ : Mem) (hS : shSS v)  : CtL l yX6_bottom wsX6_bottom 0 0 v [.ref (vq v 0)] σ (fun z u => z = σ 51 100001 ∧ u = σ) := by
  refine mkL (cc := cX6_bottom) (n := 1) (by decide +kernel) rfl (Nat.le_of_ble_eq_true rfl) (fun x A Q hx C hret => ?_)
  subst hx
  show At x v A Q _ 0 [(0, .ref (vq v 0))] [] σ
  have iX6 : ∀ w ∈ wsX60, w ∈ wsX6_bottom := by decide +kernel
  have iX1 : ∀ w ∈ wsX10, w ∈ wsX6_bottom := by decide +kernel
  have k38 : Cond.fieldLink RX6 38 (TX6 4).1 (TX6 4).2.1 (TX6 4).2.2.1 ∈ wsX6_bottom := by decide +kernel
  have k52 : Cond.fieldLink RX6 52 (TX1 1).1 (TX1 1).2.1 (TX1 1).2.2.1 ∈ wsX6_bottom := by decide +kernel
  refine a_aload_n C dX6_bottom_0 0 rfl rfl ?_
  refine a_getf C hS.f0 hS.n0 (Cn := RX6) (T := TX6) (N := 6) rfl iX6 4 (by decide) k38 (w := .ref (vq v 51)) rfl dX6_bottom_1 ?_
  refine a_getl C hS.o51.f0 hS.o51.n0 (Cn := RX1) (T := TX1) (N := 2) rfl iX1 1 (by decide) k52 100001 rfl dX6_bottom_4 (fun z4 e4 r4 => ?_)
  exact hret _ _ _ _ dX6_bottom_7 r4 ⟨by assumption, rfl⟩
set_option maxHeartbeats 4000000 in
set_option maxRecDepth 100000 in
theorem c_X6_no (l : Launch) (v : VC) (σ : Mem) (hS : shSS v) (s1 : Int) (h1 : rg s1) : CtI l yX6_no wsX6_no 0 0 v [.ref (vq v 0), vI s1] σ (fun z u => z = 0 ∧ u = sput σ 0 5 s1) := by
  refine mkZ (cc := cX6_no) (n := 2) (by decide +kernel) rfl (Nat.le_of_ble_eq_true rfl) (fun x A Q hx C hret => ?_)
  subst hx
  show At x v A Q _ 0 [(0, .ref (vq v 0)), (1, vI s1)] [] σ
  have iX6 : ∀ w ∈ wsX60, w ∈ wsX6_no := by decide +kernel
  have k42 : Cond.fieldLink RX6 42 (TX6 5).1 (TX6 5).2.1 (TX6 5).2.2.1 ∈ wsX6_no := by decide +kernel
  refine a_aload_n C dX6_no_0 0 rfl rfl ?_
  refine a_iload_n C dX6_no_1 1 rfl rfl ?_
  refine a_puti C hS.f0 hS.n0 (Cn := RX6) (T := TX6) (N := 6) rfl iX6 tyX6_ok nmX6 5 (by decide) k42 rfl rfl 5 (by omega) (fun _ => Nat.le_of_ble_eq_true rfl) (fun _ => rfl) dX6_no_2 ?_
  refine a_iconst C dX6_no_5 ?_
  exact hret _ _ _ _ dX6_no_6 (by decide) ⟨rfl, rfl⟩
set_option maxHeartbeats 4000000 in
set_option maxRecDepth 100000 in
theorem c_X6_yes (l : Launch) (v : VC) (σ : Mem) (hS : shSS v)  : CtI l yX6_yes wsX6_yes 0 0 v [.ref (vq v 0)] σ (fun z u => z = 1 ∧ u = sput σ 0 5 0) := by
  refine mkZ (cc := cX6_yes) (n := 1) (by decide +kernel) rfl (Nat.le_of_ble_eq_true rfl) (fun x A Q hx C hret => ?_)
  subst hx
  show At x v A Q _ 0 [(0, .ref (vq v 0))] [] σ
  have iX6 : ∀ w ∈ wsX60, w ∈ wsX6_yes := by decide +kernel
  have k42 : Cond.fieldLink RX6 42 (TX6 5).1 (TX6 5).2.1 (TX6 5).2.2.1 ∈ wsX6_yes := by decide +kernel
  refine a_aload_n C dX6_yes_0 0 rfl rfl ?_
  refine a_iconst C dX6_yes_1 ?_
  refine a_puti C hS.f0 hS.n0 (Cn := RX6) (T := TX6) (N := 6) rfl iX6 tyX6_ok nmX6 5 (by decide) k42 rfl rfl 5 (by decide) (fun _ => Nat.le_of_ble_eq_true rfl) (fun _ => rfl) dX6_yes_2 ?_
  refine a_iconst C dX6_yes_5 ?_
  exact hret _ _ _ _ dX6_yes_6 (by decide) ⟨rfl, rfl⟩
set_option maxHeartbeats 4000000 in
set_option maxRecDepth 100000 in
theorem c_X6_none (l : Launch) (v : VC) (σ : Mem) (hS : shSS v) (s1 : Int) (h1 : rg s1) : CtI l yX6_none wsX6_none 0 0 v [.ref (vq v 0), vI s1] σ (fun z u => z = -1 ∧ u = sput σ 0 5 s1) := by
  refine mkI (cc := cX6_none) (n := 2) (by decide +kernel) rfl (Nat.le_of_ble_eq_true rfl) (fun x A Q hx C hret => ?_)
  subst hx
  show At x v A Q _ 0 [(0, .ref (vq v 0)), (1, vI s1)] [] σ
  have iX6 : ∀ w ∈ wsX60, w ∈ wsX6_none := by decide +kernel
  have k42 : Cond.fieldLink RX6 42 (TX6 5).1 (TX6 5).2.1 (TX6 5).2.2.1 ∈ wsX6_none := by decide +kernel
  refine a_aload_n C dX6_none_0 0 rfl rfl ?_
  refine a_iload_n C dX6_none_1 1 rfl rfl ?_
  refine a_puti C hS.f0 hS.n0 (Cn := RX6) (T := TX6) (N := 6) rfl iX6 tyX6_ok nmX6 5 (by decide) k42 rfl rfl 5 (by omega) (fun _ => Nat.le_of_ble_eq_true rfl) (fun _ => rfl) dX6_none_2 ?_
  refine a_iconst C dX6_none_5 ?_
  exact hret _ _ _ _ dX6_none_6 (by decide) ⟨rfl, rfl⟩
set_option maxHeartbeats 4000000 in
set_option maxRecDepth 100000 in
theorem c_X6_told (l : Launch) (v : VC) (σ : Mem) (hS : shSS v) (x1 : Int) (h1 : rg x1) : CtI l yX6_told wsX6_told 0 0 v [.ref (vq v 0), vI x1] σ (fun z u => z = x1 ∧ u = sput σ 0 5 0) := by
  refine mkI (cc := cX6_told) (n := 2) (by decide +kernel) rfl (Nat.le_of_ble_eq_true rfl) (fun x A Q hx C hret => ?_)
  subst hx
  show At x v A Q _ 0 [(0, .ref (vq v 0)), (1, vI x1)] [] σ
  have iX6 : ∀ w ∈ wsX60, w ∈ wsX6_told := by decide +kernel
  have k42 : Cond.fieldLink RX6 42 (TX6 5).1 (TX6 5).2.1 (TX6 5).2.2.1 ∈ wsX6_told := by decide +kernel
  refine a_aload_n C dX6_told_0 0 rfl rfl ?_
  refine a_iconst C dX6_told_1 ?_
  refine a_puti C hS.f0 hS.n0 (Cn := RX6) (T := TX6) (N := 6) rfl iX6 tyX6_ok nmX6 5 (by decide) k42 rfl rfl 5 (by decide) (fun _ => Nat.le_of_ble_eq_true rfl) (fun _ => rfl) dX6_told_2 ?_
  refine a_iload_n C dX6_told_5 1 rfl rfl ?_
  exact hret _ _ _ _ dX6_told_6 (by omega) ⟨rfl, rfl⟩
set_option maxHeartbeats 4000000 in
set_option maxRecDepth 100000 in
theorem c_X6_trayAt (l : Launch) (v : VC) (σ : Mem) (hS : shSS v) (i1 : Int) (h1 : rg i1) : CtQ l yX6_trayAt wsX6_trayAt 1 25 v [.ref (vq v 0), vI i1] σ (fun z u => (((0 ≤ i1 ∧ i1 < 4) ∧ z = some (3 + 2 * i1.toNat)) ∨ (¬ (0 ≤ i1 ∧ i1 < 4) ∧ z = none)) ∧ u = σ) := by
  refine mkQ (cc := cX6_trayAt) (n := 2) (by decide +kernel) rfl (Nat.le_of_ble_eq_true rfl) (fun x A Q hx C hret => ?_)
  subst hx
  show At x v A Q _ 0 [(0, .ref (vq v 0)), (1, vI i1)] [] σ
  have iX6 : ∀ w ∈ wsX60, w ∈ wsX6_trayAt := by decide +kernel
  have k11 : Cond.fieldLink RX6 11 (TX6 0).1 (TX6 0).2.1 (TX6 0).2.2.1 ∈ wsX6_trayAt := by decide +kernel
  refine a_iload_n C dX6_trayAt_0 1 rfl rfl ?_
  refine a_i2l C (by omega) dX6_trayAt_1 ?_
  refine a_lconst C 0 dX6_trayAt_2 rfl ?_
  refine a_ldc2 C 3 (w := 3) (by decide +kernel) rfl dX6_trayAt_3 ?_
  refine a_cSI C (k0 := 3) (As := [vJ i1, vJ 0, vJ 3]) (rest := []) (c_X6_within x.2.1 v σ i1 0 3 (by omega) (by omega) (by omega)) gX6_trayAt_X6_within rfl (by decide +kernel) (by decide) rfl rfl (Nat.le_of_ble_eq_true rfl) dX6_trayAt_6 (fun z6 u6 r6 p6 => ?_)
  obtain ⟨e6, p6⟩ := p6
  subst u6
  have q6 := zz e6
  refine a_if_eq C 21 r6 dX6_trayAt_9 (by decide) (fun c9 => ?_) (fun c9 => ?_)
  · skip
    refine a_anull C dX6_trayAt_21 ?_
    exact hret _ _ none _ dX6_trayAt_22 ⟨Or.inr ⟨by omega, rfl⟩, rfl⟩
  · skip
    refine a_aload_n C dX6_trayAt_12 0 rfl rfl ?_
    refine a_getf C hS.f0 hS.n0 (Cn := RX6) (T := TX6) (N := 6) rfl iX6 0 (by decide) k11 (w := .ref (vq v 1)) rfl dX6_trayAt_13 ?_
    refine a_iload_n C dX6_trayAt_16 1 rfl rfl ?_
    refine a_aald C hS.trf hS.trn 3 hS.trt (by omega) (by omega) (by decide) dX6_trayAt_17 ?_
    refine a_goto C 22 dX6_trayAt_18 (by decide) ?_
    exact hret _ _ (some (3 + 2 * i1.toNat)) _ dX6_trayAt_22 ⟨Or.inl ⟨by omega, rfl⟩, rfl⟩
set_option maxHeartbeats 4000000 in
set_option maxRecDepth 100000 in
theorem c_X6_columnAt (l : Launch) (v : VC) (σ : Mem) (hS : shSS v) (i1 : Int) (h1 : rg i1) : CtQ l yX6_columnAt wsX6_columnAt 1 25 v [.ref (vq v 0), vI i1] σ (fun z u => (((0 ≤ i1 ∧ i1 < 3) ∧ z = some (11 + 10 * i1.toNat)) ∨ (¬ (0 ≤ i1 ∧ i1 < 3) ∧ z = none)) ∧ u = σ) := by
  refine mkQ (cc := cX6_columnAt) (n := 2) (by decide +kernel) rfl (Nat.le_of_ble_eq_true rfl) (fun x A Q hx C hret => ?_)
  subst hx
  show At x v A Q _ 0 [(0, .ref (vq v 0)), (1, vI i1)] [] σ
  have iX6 : ∀ w ∈ wsX60, w ∈ wsX6_columnAt := by decide +kernel
  have k17 : Cond.fieldLink RX6 17 (TX6 1).1 (TX6 1).2.1 (TX6 1).2.2.1 ∈ wsX6_columnAt := by decide +kernel
  refine a_iload_n C dX6_columnAt_0 1 rfl rfl ?_
  refine a_i2l C (by omega) dX6_columnAt_1 ?_
  refine a_lconst C 0 dX6_columnAt_2 rfl ?_
  refine a_ldc2 C 2 (w := 2) (by decide +kernel) rfl dX6_columnAt_3 ?_
  refine a_cSI C (k0 := 3) (As := [vJ i1, vJ 0, vJ 2]) (rest := []) (c_X6_within x.2.1 v σ i1 0 2 (by omega) (by omega) (by omega)) gX6_columnAt_X6_within rfl (by decide +kernel) (by decide) rfl rfl (Nat.le_of_ble_eq_true rfl) dX6_columnAt_6 (fun z6 u6 r6 p6 => ?_)
  obtain ⟨e6, p6⟩ := p6
  subst u6
  have q6 := zz e6
  refine a_if_eq C 21 r6 dX6_columnAt_9 (by decide) (fun c9 => ?_) (fun c9 => ?_)
  · skip
    refine a_anull C dX6_columnAt_21 ?_
    exact hret _ _ none _ dX6_columnAt_22 ⟨Or.inr ⟨by omega, rfl⟩, rfl⟩
  · skip
    refine a_aload_n C dX6_columnAt_12 0 rfl rfl ?_
    refine a_getf C hS.f0 hS.n0 (Cn := RX6) (T := TX6) (N := 6) rfl iX6 1 (by decide) k17 (w := .ref (vq v 2)) rfl dX6_columnAt_13 ?_
    refine a_iload_n C dX6_columnAt_16 1 rfl rfl ?_
    refine a_aald C hS.cof hS.con 4 hS.cot (by omega) (by omega) (by decide) dX6_columnAt_17 ?_
    refine a_goto C 22 dX6_columnAt_18 (by decide) ?_
    exact hret _ _ (some (11 + 10 * i1.toNat)) _ dX6_columnAt_22 ⟨Or.inl ⟨by omega, rfl⟩, rfl⟩
