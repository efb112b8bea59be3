/-! ===== the constructors' blocks ===== -/
abbrev zI (c : ClassId) (n : Nat) : va_E := .inl (c, n, .inl fun _ => Int32.ofInt 0)
abbrev zL (c : ClassId) (n : Nat) : va_E := .inl (c, n, .inr (.inl fun _ => Int64.ofInt 0))
abbrev bSk (t : TK) (h : Nat) (q : Nat → Nat) : va_W := [(h, .inr (4, [.ref (q 0), .ref (q 1), .ref (q 2), .ref (q 3), .ref (q 4), vI 0, vI 0])), (q 0, zI t.1 24), (q 1, zI t.1 24), (q 2, zI t.1 24), (q 3, zI t.2.2.1 40), (q 4, zI t.1 40)]
abbrev bSa (t : TK) (h : Nat) (q : Nat → Nat) : va_W := [(h, .inr (3, [.ref (q 0), vI 0, vI 0, vI 0])), (q 0, zI t.1 16)]
abbrev bTr (t : TK) (h : Nat) (q : Nat → Nat) : va_W := [(h, .inr (5, [.ref (q 0), vI 0, vI 0, vI 0])), (q 0, zL t.2.1 100)]
abbrev bPl (t : TK) (h : Nat) (q : Nat → Nat) : va_W := [(h, .inr (2, [.ref (q 0), .ref (q 1), .ref (q 2), vI 0, vI 0])), (q 0, zI t.1 12), (q 1, zI t.1 40), (q 2, zI t.1 533)]
abbrev bFr (h : Nat) (_ : Nat → Nat) : va_W := [(h, .inr (1, [vJ 0, vJ 1]))]
abbrev bCo (t : TK) (h : Nat) (q : Nat → Nat) : va_W := [(h, .inr (0, [.ref (q 0), .ref (q 1), .ref (q 7), vI 0, vI 0])), (q 0, zI t.1 40)] ++ bSk t (q 1) (fun j => q (2 + j)) ++ bSa t (q 7) (fun j => q (8 + j))
abbrev e0Sk : va_E := .inr (4, [.null, .null, .null, .null, .null, vI 0, vI 0])
abbrev e0Sa : va_E := .inr (3, [.null, vI 0, vI 0, vI 0])
abbrev e0Tr : va_E := .inr (5, [.null, vI 0, vI 0, vI 0])
abbrev e0Pl : va_E := .inr (2, [.null, .null, .null, vI 0, vI 0])
abbrev e0Fr : va_E := .inr (1, [vJ 0, vJ 0])
abbrev e0Co : va_E := .inr (0, [.null, .null, .null, vI 0, vI 0])
set_option maxHeartbeats 4000000 in
set_option maxRecDepth 100000 in
theorem c_X4_init (l : Launch) (G : va_G) (t : TK) (h0 : Nat) : CtN l yX4_init wsX4_init 1 20 5 152 G t h0 e0Sk (bSk t h0) := by
  refine mkN (cc := cX4_init) (n := 1) (by decide +kernel) rfl rfl (Nat.le_of_ble_eq_true rfl) (fun x A Q hx C hI hret => ?_)
  subst hx
  have iX4 : ∀ w ∈ wsX40, w ∈ wsX4_init := by decide +kernel
  have k9 : Cond.fieldLink RX4 9 (TX4 0).1 (TX4 0).2.1 (TX4 0).2.2.1 ∈ wsX4_init := by decide +kernel
  have k15 : Cond.fieldLink RX4 15 (TX4 1).1 (TX4 1).2.1 (TX4 1).2.2.1 ∈ wsX4_init := by decide +kernel
  have k18 : Cond.fieldLink RX4 18 (TX4 2).1 (TX4 2).2.1 (TX4 2).2.2.1 ∈ wsX4_init := by decide +kernel
  have k21 : Cond.fieldLink RX4 21 (TX4 3).1 (TX4 3).2.1 (TX4 3).2.2.1 ∈ wsX4_init := by decide +kernel
  have k25 : Cond.fieldLink RX4 25 (TX4 4).1 (TX4 4).2.1 (TX4 4).2.2.1 ∈ wsX4_init := by decide +kernel
  refine g_aload_n C dX4_init_0 0 rfl rfl ?_
  refine g_objInit C (by decide +kernel) (by decide +kernel) (by decide +kernel) ⟨(Nat.le_of_ble_eq_true rfl), (Nat.le_of_ble_eq_true rfl)⟩ dX4_init_1 ?_
  refine g_aload_n C dX4_init_4 0 rfl rfl ?_
  refine g_bipush C dX4_init_5 ?_
  refine g_newarr C (ty := .int) rfl (by decide +kernel) (fun _ h => by cases h) 0 rfl (a0 := (24, .inl fun _ => Int32.ofInt 0)) (N' := 24) (fun _ => rfl) (by decide +kernel) (by decide +kernel) (Nat.le_of_ble_eq_true rfl) (Nat.le_of_ble_eq_true rfl) (Nat.le_of_ble_eq_true rfl) dX4_init_7 (fun a0 => ?_)
  show Ag x G A Q _ 9 [(0, .ref h0)] [.ref a0, .ref h0] ([(h0, .inr (4, [.null, .null, .null, .null, .null, vI 0, vI 0])), (a0, zI t.1 24)]) 1 24
  refine g_putF C hI 0 rfl rfl iX4 (Cn := RX4) (T := TX4) (N := 7) tyX4_ok nmX4 0 (by decide) k9 rfl rfl rfl rfl (Nat.le_of_ble_eq_true rfl) ([(h0, .inr (4, [.ref a0, .null, .null, .null, .null, vI 0, vI 0])), (a0, zI t.1 24)]) rfl dX4_init_9 ?_
  refine g_aload_n C dX4_init_12 0 rfl rfl ?_
  refine g_bipush C dX4_init_13 ?_
  refine g_newarr C (ty := .int) rfl (by decide +kernel) (fun _ h => by cases h) 0 rfl (a0 := (24, .inl fun _ => Int32.ofInt 0)) (N' := 24) (fun _ => rfl) (by decide +kernel) (by decide +kernel) (Nat.le_of_ble_eq_true rfl) (Nat.le_of_ble_eq_true rfl) (Nat.le_of_ble_eq_true rfl) dX4_init_15 (fun a1 => ?_)
  show Ag x G A Q _ 17 [(0, .ref h0)] [.ref a1, .ref h0] ([(h0, .inr (4, [.ref a0, .null, .null, .null, .null, vI 0, vI 0])), (a0, zI t.1 24), (a1, zI t.1 24)]) 2 48
  refine g_putF C hI 0 rfl rfl iX4 (Cn := RX4) (T := TX4) (N := 7) tyX4_ok nmX4 1 (by decide) k15 rfl rfl rfl rfl (Nat.le_of_ble_eq_true rfl) ([(h0, .inr (4, [.ref a0, .ref a1, .null, .null, .null, vI 0, vI 0])), (a0, zI t.1 24), (a1, zI t.1 24)]) rfl dX4_init_17 ?_
  refine g_aload_n C dX4_init_20 0 rfl rfl ?_
  refine g_bipush C dX4_init_21 ?_
  refine g_newarr C (ty := .int) rfl (by decide +kernel) (fun _ h => by cases h) 0 rfl (a0 := (24, .inl fun _ => Int32.ofInt 0)) (N' := 24) (fun _ => rfl) (by decide +kernel) (by decide +kernel) (Nat.le_of_ble_eq_true rfl) (Nat.le_of_ble_eq_true rfl) (Nat.le_of_ble_eq_true rfl) dX4_init_23 (fun a2 => ?_)
  show Ag x G A Q _ 25 [(0, .ref h0)] [.ref a2, .ref h0] ([(h0, .inr (4, [.ref a0, .ref a1, .null, .null, .null, vI 0, vI 0])), (a0, zI t.1 24), (a1, zI t.1 24), (a2, zI t.1 24)]) 3 72
  refine g_putF C hI 0 rfl rfl iX4 (Cn := RX4) (T := TX4) (N := 7) tyX4_ok nmX4 2 (by decide) k18 rfl rfl rfl rfl (Nat.le_of_ble_eq_true rfl) ([(h0, .inr (4, [.ref a0, .ref a1, .ref a2, .null, .null, vI 0, vI 0])), (a0, zI t.1 24), (a1, zI t.1 24), (a2, zI t.1 24)]) rfl dX4_init_25 ?_
  refine g_aload_n C dX4_init_28 0 rfl rfl ?_
  refine g_bipush C dX4_init_29 ?_
  refine g_newarr C (ty := .boolean) rfl (by decide +kernel) (fun _ h => by cases h) 2 rfl (a0 := (40, .inl fun _ => Int32.ofInt 0)) (N' := 40) (fun _ => rfl) (by decide +kernel) (by decide +kernel) (Nat.le_of_ble_eq_true rfl) (Nat.le_of_ble_eq_true rfl) (Nat.le_of_ble_eq_true rfl) dX4_init_31 (fun a3 => ?_)
  show Ag x G A Q _ 33 [(0, .ref h0)] [.ref a3, .ref h0] ([(h0, .inr (4, [.ref a0, .ref a1, .ref a2, .null, .null, vI 0, vI 0])), (a0, zI t.1 24), (a1, zI t.1 24), (a2, zI t.1 24), (a3, zI t.2.2.1 40)]) 4 112
  refine g_putF C hI 0 rfl rfl iX4 (Cn := RX4) (T := TX4) (N := 7) tyX4_ok nmX4 3 (by decide) k21 rfl rfl rfl rfl (Nat.le_of_ble_eq_true rfl) ([(h0, .inr (4, [.ref a0, .ref a1, .ref a2, .ref a3, .null, vI 0, vI 0])), (a0, zI t.1 24), (a1, zI t.1 24), (a2, zI t.1 24), (a3, zI t.2.2.1 40)]) rfl dX4_init_33 ?_
  refine g_aload_n C dX4_init_36 0 rfl rfl ?_
  refine g_bipush C dX4_init_37 ?_
  refine g_newarr C (ty := .int) rfl (by decide +kernel) (fun _ h => by cases h) 0 rfl (a0 := (40, .inl fun _ => Int32.ofInt 0)) (N' := 40) (fun _ => rfl) (by decide +kernel) (by decide +kernel) (Nat.le_of_ble_eq_true rfl) (Nat.le_of_ble_eq_true rfl) (Nat.le_of_ble_eq_true rfl) dX4_init_39 (fun a4 => ?_)
  show Ag x G A Q _ 41 [(0, .ref h0)] [.ref a4, .ref h0] ([(h0, .inr (4, [.ref a0, .ref a1, .ref a2, .ref a3, .null, vI 0, vI 0])), (a0, zI t.1 24), (a1, zI t.1 24), (a2, zI t.1 24), (a3, zI t.2.2.1 40), (a4, zI t.1 40)]) 5 152
  refine g_putF C hI 0 rfl rfl iX4 (Cn := RX4) (T := TX4) (N := 7) tyX4_ok nmX4 4 (by decide) k25 rfl rfl rfl rfl (Nat.le_of_ble_eq_true rfl) ([(h0, .inr (4, [.ref a0, .ref a1, .ref a2, .ref a3, .ref a4, vI 0, vI 0])), (a0, zI t.1 24), (a1, zI t.1 24), (a2, zI t.1 24), (a3, zI t.2.2.1 40), (a4, zI t.1 40)]) rfl dX4_init_41 ?_
  exact hret _ _ (fun j => if j = 0 then a0 else if j = 1 then a1 else if j = 2 then a2 else if j = 3 then a3 else a4) dX4_init_44
set_option maxHeartbeats 4000000 in
set_option maxRecDepth 100000 in
theorem c_X3_init (l : Launch) (G : va_G) (t : TK) (h0 : Nat) : CtN l yX3_init wsX3_init 1 20 1 16 G t h0 e0Sa (bSa t h0) := by
  refine mkN (cc := cX3_init) (n := 1) (by decide +kernel) rfl rfl (Nat.le_of_ble_eq_true rfl) (fun x A Q hx C hI hret => ?_)
  subst hx
  have iX3 : ∀ w ∈ wsX30, w ∈ wsX3_init := by decide +kernel
  have k9 : Cond.fieldLink RX3 9 (TX3 0).1 (TX3 0).2.1 (TX3 0).2.2.1 ∈ wsX3_init := by decide +kernel
  refine g_aload_n C dX3_init_0 0 rfl rfl ?_
  refine g_objInit C (by decide +kernel) (by decide +kernel) (by decide +kernel) ⟨(Nat.le_of_ble_eq_true rfl), (Nat.le_of_ble_eq_true rfl)⟩ dX3_init_1 ?_
  refine g_aload_n C dX3_init_4 0 rfl rfl ?_
  refine g_bipush C dX3_init_5 ?_
  refine g_newarr C (ty := .int) rfl (by decide +kernel) (fun _ h => by cases h) 0 rfl (a0 := (16, .inl fun _ => Int32.ofInt 0)) (N' := 16) (fun _ => rfl) (by decide +kernel) (by decide +kernel) (Nat.le_of_ble_eq_true rfl) (Nat.le_of_ble_eq_true rfl) (Nat.le_of_ble_eq_true rfl) dX3_init_7 (fun a0 => ?_)
  show Ag x G A Q _ 9 [(0, .ref h0)] [.ref a0, .ref h0] ([(h0, .inr (3, [.null, vI 0, vI 0, vI 0])), (a0, zI t.1 16)]) 1 16
  refine g_putF C hI 0 rfl rfl iX3 (Cn := RX3) (T := TX3) (N := 4) tyX3_ok nmX3 0 (by decide) k9 rfl rfl rfl rfl (Nat.le_of_ble_eq_true rfl) ([(h0, .inr (3, [.ref a0, vI 0, vI 0, vI 0])), (a0, zI t.1 16)]) rfl dX3_init_9 ?_
  exact hret _ _ (fun j => a0) dX3_init_12
set_option maxHeartbeats 4000000 in
set_option maxRecDepth 100000 in
theorem c_X5_init (l : Launch) (G : va_G) (t : TK) (h0 : Nat) : CtN l yX5_init wsX5_init 1 20 1 100 G t h0 e0Tr (bTr t h0) := by
  refine mkN (cc := cX5_init) (n := 1) (by decide +kernel) rfl rfl (Nat.le_of_ble_eq_true rfl) (fun x A Q hx C hI hret => ?_)
  subst hx
  have iX5 : ∀ w ∈ wsX50, w ∈ wsX5_init := by decide +kernel
  have k9 : Cond.fieldLink RX5 9 (TX5 0).1 (TX5 0).2.1 (TX5 0).2.2.1 ∈ wsX5_init := by decide +kernel
  refine g_aload_n C dX5_init_0 0 rfl rfl ?_
  refine g_objInit C (by decide +kernel) (by decide +kernel) (by decide +kernel) ⟨(Nat.le_of_ble_eq_true rfl), (Nat.le_of_ble_eq_true rfl)⟩ dX5_init_1 ?_
  refine g_aload_n C dX5_init_4 0 rfl rfl ?_
  refine g_bipush C dX5_init_5 ?_
  refine g_newarr C (ty := .long) rfl (by decide +kernel) (fun _ h => by cases h) 1 rfl (a0 := (100, .inr (.inl fun _ => Int64.ofInt 0))) (N' := 100) (fun _ => rfl) (by decide +kernel) (by decide +kernel) (Nat.le_of_ble_eq_true rfl) (Nat.le_of_ble_eq_true rfl) (Nat.le_of_ble_eq_true rfl) dX5_init_7 (fun a0 => ?_)
  show Ag x G A Q _ 9 [(0, .ref h0)] [.ref a0, .ref h0] ([(h0, .inr (5, [.null, vI 0, vI 0, vI 0])), (a0, zL t.2.1 100)]) 1 100
  refine g_putF C hI 0 rfl rfl iX5 (Cn := RX5) (T := TX5) (N := 4) tyX5_ok nmX5 0 (by decide) k9 rfl rfl rfl rfl (Nat.le_of_ble_eq_true rfl) ([(h0, .inr (5, [.ref a0, vI 0, vI 0, vI 0])), (a0, zL t.2.1 100)]) rfl dX5_init_9 ?_
  exact hret _ _ (fun j => a0) dX5_init_12
set_option maxHeartbeats 4000000 in
set_option maxRecDepth 100000 in
theorem c_X2_init (l : Launch) (G : va_G) (t : TK) (h0 : Nat) : CtN l yX2_init wsX2_init 1 20 3 585 G t h0 e0Pl (bPl t h0) := by
  refine mkN (cc := cX2_init) (n := 1) (by decide +kernel) rfl rfl (Nat.le_of_ble_eq_true rfl) (fun x A Q hx C hI hret => ?_)
  subst hx
  have iX2 : ∀ w ∈ wsX20, w ∈ wsX2_init := by decide +kernel
  have k9 : Cond.fieldLink RX2 9 (TX2 0).1 (TX2 0).2.1 (TX2 0).2.2.1 ∈ wsX2_init := by decide +kernel
  have k15 : Cond.fieldLink RX2 15 (TX2 1).1 (TX2 1).2.1 (TX2 1).2.2.1 ∈ wsX2_init := by decide +kernel
  have k18 : Cond.fieldLink RX2 18 (TX2 2).1 (TX2 2).2.1 (TX2 2).2.2.1 ∈ wsX2_init := by decide +kernel
  refine g_aload_n C dX2_init_0 0 rfl rfl ?_
  refine g_objInit C (by decide +kernel) (by decide +kernel) (by decide +kernel) ⟨(Nat.le_of_ble_eq_true rfl), (Nat.le_of_ble_eq_true rfl)⟩ dX2_init_1 ?_
  refine g_aload_n C dX2_init_4 0 rfl rfl ?_
  refine g_bipush C dX2_init_5 ?_
  refine g_newarr C (ty := .int) rfl (by decide +kernel) (fun _ h => by cases h) 0 rfl (a0 := (12, .inl fun _ => Int32.ofInt 0)) (N' := 12) (fun _ => rfl) (by decide +kernel) (by decide +kernel) (Nat.le_of_ble_eq_true rfl) (Nat.le_of_ble_eq_true rfl) (Nat.le_of_ble_eq_true rfl) dX2_init_7 (fun a0 => ?_)
  show Ag x G A Q _ 9 [(0, .ref h0)] [.ref a0, .ref h0] ([(h0, .inr (2, [.null, .null, .null, vI 0, vI 0])), (a0, zI t.1 12)]) 1 12
  refine g_putF C hI 0 rfl rfl iX2 (Cn := RX2) (T := TX2) (N := 5) tyX2_ok nmX2 0 (by decide) k9 rfl rfl rfl rfl (Nat.le_of_ble_eq_true rfl) ([(h0, .inr (2, [.ref a0, .null, .null, vI 0, vI 0])), (a0, zI t.1 12)]) rfl dX2_init_9 ?_
  refine g_aload_n C dX2_init_12 0 rfl rfl ?_
  refine g_bipush C dX2_init_13 ?_
  refine g_newarr C (ty := .int) rfl (by decide +kernel) (fun _ h => by cases h) 0 rfl (a0 := (40, .inl fun _ => Int32.ofInt 0)) (N' := 40) (fun _ => rfl) (by decide +kernel) (by decide +kernel) (Nat.le_of_ble_eq_true rfl) (Nat.le_of_ble_eq_true rfl) (Nat.le_of_ble_eq_true rfl) dX2_init_15 (fun a1 => ?_)
  show Ag x G A Q _ 17 [(0, .ref h0)] [.ref a1, .ref h0] ([(h0, .inr (2, [.ref a0, .null, .null, vI 0, vI 0])), (a0, zI t.1 12), (a1, zI t.1 40)]) 2 52
  refine g_putF C hI 0 rfl rfl iX2 (Cn := RX2) (T := TX2) (N := 5) tyX2_ok nmX2 1 (by decide) k15 rfl rfl rfl rfl (Nat.le_of_ble_eq_true rfl) ([(h0, .inr (2, [.ref a0, .ref a1, .null, vI 0, vI 0])), (a0, zI t.1 12), (a1, zI t.1 40)]) rfl dX2_init_17 ?_
  refine g_aload_n C dX2_init_20 0 rfl rfl ?_
  refine g_sipush C dX2_init_21 ?_
  refine g_newarr C (ty := .int) rfl (by decide +kernel) (fun _ h => by cases h) 0 rfl (a0 := (533, .inl fun _ => Int32.ofInt 0)) (N' := 533) (fun _ => rfl) (by decide +kernel) (by decide +kernel) (Nat.le_of_ble_eq_true rfl) (Nat.le_of_ble_eq_true rfl) (Nat.le_of_ble_eq_true rfl) dX2_init_24 (fun a2 => ?_)
  show Ag x G A Q _ 26 [(0, .ref h0)] [.ref a2, .ref h0] ([(h0, .inr (2, [.ref a0, .ref a1, .null, vI 0, vI 0])), (a0, zI t.1 12), (a1, zI t.1 40), (a2, zI t.1 533)]) 3 585
  refine g_putF C hI 0 rfl rfl iX2 (Cn := RX2) (T := TX2) (N := 5) tyX2_ok nmX2 2 (by decide) k18 rfl rfl rfl rfl (Nat.le_of_ble_eq_true rfl) ([(h0, .inr (2, [.ref a0, .ref a1, .ref a2, vI 0, vI 0])), (a0, zI t.1 12), (a1, zI t.1 40), (a2, zI t.1 533)]) rfl dX2_init_26 ?_
  exact hret _ _ (fun j => if j = 0 then a0 else if j = 1 then a1 else a2) dX2_init_29
set_option maxHeartbeats 4000000 in
set_option maxRecDepth 100000 in
theorem c_X1_init (l : Launch) (G : va_G) (t : TK) (h0 : Nat) : CtN l yX1_init wsX1_init 1 20 0 0 G t h0 e0Fr (bFr h0) := by
  refine mkN (cc := cX1_init) (n := 1) (by decide +kernel) rfl rfl (Nat.le_of_ble_eq_true rfl) (fun x A Q hx C hI hret => ?_)
  subst hx
  have iX1 : ∀ w ∈ wsX10, w ∈ wsX1_init := by decide +kernel
  have k7 : Cond.fieldLink RX1 7 (TX1 0).1 (TX1 0).2.1 (TX1 0).2.2.1 ∈ wsX1_init := by decide +kernel
  have k13 : Cond.fieldLink RX1 13 (TX1 1).1 (TX1 1).2.1 (TX1 1).2.2.1 ∈ wsX1_init := by decide +kernel
  refine g_aload_n C dX1_init_0 0 rfl rfl ?_
  refine g_objInit C (by decide +kernel) (by decide +kernel) (by decide +kernel) ⟨(Nat.le_of_ble_eq_true rfl), (Nat.le_of_ble_eq_true rfl)⟩ dX1_init_1 ?_
  refine g_aload_n C dX1_init_4 0 rfl rfl ?_
  refine g_lconst C 0 dX1_init_5 rfl ?_
  refine g_putV C 0 rfl rfl iX1 (Cn := RX1) (T := TX1) (N := 2) tyX1_ok nmX1 0 (by decide) k7 rfl rfl rfl (Nat.le_of_ble_eq_true rfl) ([(h0, .inr (1, [vJ 0, vJ 0]))]) rfl dX1_init_6 ?_
  refine g_aload_n C dX1_init_9 0 rfl rfl ?_
  refine g_lconst C 1 dX1_init_10 rfl ?_
  refine g_putV C 0 rfl rfl iX1 (Cn := RX1) (T := TX1) (N := 2) tyX1_ok nmX1 1 (by decide) k13 rfl rfl rfl (Nat.le_of_ble_eq_true rfl) ([(h0, .inr (1, [vJ 0, vJ 1]))]) rfl dX1_init_11 ?_
  exact hret _ _ (fun _ => 0) dX1_init_14
set_option maxHeartbeats 4000000 in
set_option maxRecDepth 100000 in
theorem c_X0_init (l : Launch) (G : va_G) (t : TK) (h0 : Nat) : CtN l yX0_init wsX0_init 2 40 9 219 G t h0 e0Co (bCo t h0) := by
  refine mkN (cc := cX0_init) (n := 1) (by decide +kernel) rfl rfl (Nat.le_of_ble_eq_true rfl) (fun x A Q hx C hI hret => ?_)
  subst hx
  have iX0 : ∀ w ∈ wsX00, w ∈ wsX0_init := by decide +kernel
  have iX4 : ∀ w ∈ wsX40, w ∈ wsX0_init := by decide +kernel
  have iX3 : ∀ w ∈ wsX30, w ∈ wsX0_init := by decide +kernel
  have k9 : Cond.fieldLink RX0 9 (TX0 0).1 (TX0 0).2.1 (TX0 0).2.2.1 ∈ wsX0_init := by decide +kernel
  have k18 : Cond.fieldLink RX0 18 (TX0 1).1 (TX0 1).2.1 (TX0 1).2.2.1 ∈ wsX0_init := by decide +kernel
  have k25 : Cond.fieldLink RX0 25 (TX0 2).1 (TX0 2).2.1 (TX0 2).2.2.1 ∈ wsX0_init := by decide +kernel
  refine g_aload_n C dX0_init_0 0 rfl rfl ?_
  refine g_objInit C (by decide +kernel) (by decide +kernel) (by decide +kernel) ⟨(Nat.le_of_ble_eq_true rfl), (Nat.le_of_ble_eq_true rfl)⟩ dX0_init_1 ?_
  refine g_aload_n C dX0_init_4 0 rfl rfl ?_
  refine g_bipush C dX0_init_5 ?_
  refine g_newarr C (ty := .int) rfl (by decide +kernel) (fun _ h => by cases h) 0 rfl (a0 := (40, .inl fun _ => Int32.ofInt 0)) (N' := 40) (fun _ => rfl) (by decide +kernel) (by decide +kernel) (Nat.le_of_ble_eq_true rfl) (Nat.le_of_ble_eq_true rfl) (Nat.le_of_ble_eq_true rfl) dX0_init_7 (fun a0 => ?_)
  show Ag x G A Q _ 9 [(0, .ref h0)] [.ref a0, .ref h0] ([(h0, .inr (0, [.null, .null, .null, vI 0, vI 0])), (a0, zI t.1 40)]) 1 40
  refine g_putF C hI 0 rfl rfl iX0 (Cn := RX0) (T := TX0) (N := 5) tyX0_ok nmX0 0 (by decide) k9 rfl rfl rfl rfl (Nat.le_of_ble_eq_true rfl) ([(h0, .inr (0, [.ref a0, .null, .null, vI 0, vI 0])), (a0, zI t.1 40)]) rfl dX0_init_9 ?_
  refine g_aload_n C dX0_init_12 0 rfl rfl ?_
  refine g_new C (ci := 4) (Cn := RX4) (T := TX4) (N := 7) iX4 tyX4 tyX4_ok (by decide +kernel) (by decide +kernel) (by decide +kernel) rfl (fs := [.null, .null, .null, .null, .null, vI 0, vI 0]) (fun j hj => by rcases (show j = 0 ∨ j = 1 ∨ j = 2 ∨ j = 3 ∨ j = 4 ∨ j = 5 ∨ j = 6 by omega) with rfl | rfl | rfl | rfl | rfl | rfl | rfl <;> rfl) (Nat.le_of_ble_eq_true rfl) (Nat.le_of_ble_eq_true rfl) dX0_init_13 (fun a1 => ?_)
  show Ag x G A Q _ 16 [(0, .ref h0)] [.ref a1, .ref h0] ([(h0, .inr (0, [.ref a0, .null, .null, vI 0, vI 0])), (a0, zI t.1 40)] ++ [(a1, e0Sk)]) 2 47
  refine g_dup C dX0_init_16 rfl ?_
  refine g_ctorN C (c_X4_init x.2.1 G t a1) gX0_init_X4_init_n17 rfl (host := "SpanSketch") (fun _ h => h.2.2.2.2.2.2.1) (by decide +kernel) (by decide +kernel) rfl (by decide +kernel) ⟨(Nat.le_of_ble_eq_true rfl), (Nat.le_of_ble_eq_true rfl)⟩ ⟨(Nat.le_of_ble_eq_true rfl), (Nat.le_of_ble_eq_true rfl)⟩ (Nat.le_of_ble_eq_true rfl) dX0_init_17 (fun u2 => ?_)
  show Ag x G A Q _ 20 [(0, .ref h0)] [.ref a1, .ref h0] ([(h0, .inr (0, [.ref a0, .null, .null, vI 0, vI 0])), (a0, zI t.1 40)] ++ bSk t a1 u2) 7 199
  refine g_putF C hI 0 rfl rfl iX0 (Cn := RX0) (T := TX0) (N := 5) tyX0_ok nmX0 1 (by decide) k18 rfl rfl rfl rfl (Nat.le_of_ble_eq_true rfl) ([(h0, .inr (0, [.ref a0, .ref a1, .null, vI 0, vI 0])), (a0, zI t.1 40)] ++ bSk t a1 u2) rfl dX0_init_20 ?_
  refine g_aload_n C dX0_init_23 0 rfl rfl ?_
  refine g_new C (ci := 3) (Cn := RX3) (T := TX3) (N := 4) iX3 tyX3 tyX3_ok (by decide +kernel) (by decide +kernel) (by decide +kernel) rfl (fs := [.null, vI 0, vI 0, vI 0]) (fun j hj => by rcases (show j = 0 ∨ j = 1 ∨ j = 2 ∨ j = 3 by omega) with rfl | rfl | rfl | rfl <;> rfl) (Nat.le_of_ble_eq_true rfl) (Nat.le_of_ble_eq_true rfl) dX0_init_24 (fun a3 => ?_)
  show Ag x G A Q _ 27 [(0, .ref h0)] [.ref a3, .ref h0] ([(h0, .inr (0, [.ref a0, .ref a1, .null, vI 0, vI 0])), (a0, zI t.1 40)] ++ bSk t a1 u2 ++ [(a3, e0Sa)]) 8 203
  refine g_dup C dX0_init_27 rfl ?_
  refine g_ctorN C (c_X3_init x.2.1 G t a3) gX0_init_X3_init_n24 rfl (host := "SpanSketch") (fun _ h => h.2.2.2.2.2.2.2.1) (by decide +kernel) (by decide +kernel) rfl (by decide +kernel) ⟨(Nat.le_of_ble_eq_true rfl), (Nat.le_of_ble_eq_true rfl)⟩ ⟨(Nat.le_of_ble_eq_true rfl), (Nat.le_of_ble_eq_true rfl)⟩ (Nat.le_of_ble_eq_true rfl) dX0_init_28 (fun u4 => ?_)
  show Ag x G A Q _ 31 [(0, .ref h0)] [.ref a3, .ref h0] ([(h0, .inr (0, [.ref a0, .ref a1, .null, vI 0, vI 0])), (a0, zI t.1 40)] ++ bSk t a1 u2 ++ bSa t a3 u4) 9 219
  refine g_putF C hI 0 rfl rfl iX0 (Cn := RX0) (T := TX0) (N := 5) tyX0_ok nmX0 2 (by decide) k25 rfl rfl rfl rfl (Nat.le_of_ble_eq_true rfl) ([(h0, .inr (0, [.ref a0, .ref a1, .ref a3, vI 0, vI 0])), (a0, zI t.1 40)] ++ bSk t a1 u2 ++ bSa t a3 u4) rfl dX0_init_31 ?_
  exact hret _ _ (fun j => if j = 0 then a0 else if j = 1 then a1 else if j < 7 then u2 (j - 2) else if j = 7 then a3 else u4 (j - 8)) dX0_init_34
