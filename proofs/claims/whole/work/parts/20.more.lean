section Mo
variable {x : XC} {v : VC} {A : Nat → Prop} {Q : State → Prop} {n pc : Nat} {lv : List (Nat × Value)} {st : List Value} {σ : Mem} {cc : ByteArray} {own : String} {Ts : List Cond} {fr lo : Nat}
theorem i32_div {a b : Int} (ha : rg a) (hb : rg b) : Int32.ofInt a / Int32.ofInt b = Int32.ofInt (a.tdiv b) := by
  rw [← Int32.toInt_inj, Int32.toInt_div, i32_toInt ha, i32_toInt hb, Int32.toInt_ofInt]
theorem i64_div {a b : Int} (ha : rgL a) (hb : rgL b) : Int64.ofInt a / Int64.ofInt b = Int64.ofInt (a.tdiv b) := by
  rw [← Int64.toInt_inj, Int64.toInt_div, i64_toInt ha, i64_toInt hb, Int64.toInt_ofInt]
theorem tmod_eq (a b : Int) : a - a.tdiv b * b = a.tmod b := by
  have := Int.tmod_def a b
  rw [this, Int.mul_comm]
theorem a_idiv (C : Cx x v A cc own n Ts fr lo) {a b : Int} (ha : rg a) (hb : rg b) (h0 : b ≠ 0) (hd : decode cc pc = .ok (.idiv, 1)) (k : At x v A Q n (pc + 1) lv (vI (a.tdiv b) :: st) σ) : At x v A Q n pc lv (vI b :: vI a :: st) σ := by
  obtain ⟨p, l, e, R, s, m, args, below, meth, c⟩ := x
  intro H locs ls hM hP hS hl
  have h := k H locs ls hM hP hS hl
  rw [show vI (a.tdiv b) = .int (Int32.ofInt a / Int32.ofInt b) from congrArg Value.int (i32_div ha hb).symm] at h
  exact lv_idiv C.1.1 C.1.2.1 hd (fun q => h0 ((i32_eq hb (by omega)).mp q)) h
theorem a_irem (C : Cx x v A cc own n Ts fr lo) {a b : Int} (ha : rg a) (hb : rg b) (h0 : b ≠ 0) (hd : decode cc pc = .ok (.irem, 1)) (k : At x v A Q n (pc + 1) lv (vI (a.tmod b) :: st) σ) : At x v A Q n pc lv (vI b :: vI a :: st) σ := by
  obtain ⟨p, l, e, R, s, m, args, below, meth, c⟩ := x
  intro H locs ls hM hP hS hl
  have h := k H locs ls hM hP hS hl
  rw [show vI (a.tmod b) = .int (Int32.ofInt a - Int32.ofInt a / Int32.ofInt b * Int32.ofInt b) from congrArg Value.int (by rw [i32_div ha hb, ← Int32.ofInt_mul, ← Int32.ofInt_sub, tmod_eq])] at h
  exact lv_irem C.1.1 C.1.2.1 hd (fun q => h0 ((i32_eq hb (by omega)).mp q)) h
theorem a_ldiv (C : Cx x v A cc own n Ts fr lo) {a b : Int} (ha : rgL a) (hb : rgL b) (h0 : b ≠ 0) (hd : decode cc pc = .ok (.ldiv, 1)) (k : At x v A Q n (pc + 1) lv (vJ (a.tdiv b) :: st) σ) : At x v A Q n pc lv (vJ b :: vJ a :: st) σ := by
  obtain ⟨p, l, e, R, s, m, args, below, meth, c⟩ := x
  intro H locs ls hM hP hS hl
  have h := k H locs ls hM hP hS hl
  rw [show vJ (a.tdiv b) = .long (Int64.ofInt a / Int64.ofInt b) from congrArg Value.long (i64_div ha hb).symm] at h
  exact lv_ldiv C.1.1 C.1.2.1 hd (fun q => h0 ((i64_eq hb (by omega)).mp q)) h
theorem a_lrem (C : Cx x v A cc own n Ts fr lo) {a b : Int} (ha : rgL a) (hb : rgL b) (h0 : b ≠ 0) (hd : decode cc pc = .ok (.lrem, 1)) (k : At x v A Q n (pc + 1) lv (vJ (a.tmod b) :: st) σ) : At x v A Q n pc lv (vJ b :: vJ a :: st) σ := by
  obtain ⟨p, l, e, R, s, m, args, below, meth, c⟩ := x
  intro H locs ls hM hP hS hl
  have h := k H locs ls hM hP hS hl
  rw [show vJ (a.tmod b) = .long (Int64.ofInt a - Int64.ofInt a / Int64.ofInt b * Int64.ofInt b) from congrArg Value.long (by rw [i64_div ha hb, ← Int64.ofInt_mul, ← Int64.ofInt_sub, tmod_eq])] at h
  exact lv_lrem C.1.1 C.1.2.1 hd (fun q => h0 ((i64_eq hb (by omega)).mp q)) h
theorem a_i2b (C : Cx x v A cc own n Ts fr lo) {a : Int} (hd : decode cc pc = .ok (.i2b, 1)) (k : At x v A Q n (pc + 1) lv (vI (a.bmod 256) :: st) σ) : At x v A Q n pc lv (vI a :: st) σ := by
  obtain ⟨p, l, e, R, s, m, args, below, meth, c⟩ := x
  intro H locs ls hM hP hS hl
  refine lv_i2b (v := Int32.ofInt (a.bmod 256)) C.1.1 C.1.2.1 hd ?_ (k H locs ls hM hP hS hl)
  rw [← Int32.toInt_inj, Int8.toInt_toInt32, Int32.toInt_toInt8, Int32.toInt_ofInt, Int32.toInt_ofInt]
  have e : (Int32.size : Int) = 4294967296 := rfl
  have e2 : Int32.size = 4294967296 := rfl
  rw [e2]
  simp only [Int.bmod_def]
  (repeat' split) <;> omega
theorem a_i2s (C : Cx x v A cc own n Ts fr lo) {a : Int} (hd : decode cc pc = .ok (.i2s, 1)) (k : At x v A Q n (pc + 1) lv (vI (a.bmod 65536) :: st) σ) : At x v A Q n pc lv (vI a :: st) σ := by
  obtain ⟨p, l, e, R, s, m, args, below, meth, c⟩ := x
  intro H locs ls hM hP hS hl
  refine lv_i2s (v := Int32.ofInt (a.bmod 65536)) C.1.1 C.1.2.1 hd ?_ (k H locs ls hM hP hS hl)
  rw [← Int32.toInt_inj, Int16.toInt_toInt32, Int32.toInt_toInt16, Int32.toInt_ofInt, Int32.toInt_ofInt]
  have e2 : Int32.size = 4294967296 := rfl
  rw [e2]
  simp only [Int.bmod_def]
  (repeat' split) <;> omega
/-- an int's number, cut to the machine's range -/
theorem a_wrap {a : Int} (k : At x v A Q n pc lv (vI (a.bmod 4294967296) :: st) σ) : At x v A Q n pc lv (vI a :: st) σ := by
  have h : vI (a.bmod 4294967296) = vI a := by
    unfold vI
    rw [Value.int.injEq, ← Int32.toInt_inj, Int32.toInt_ofInt, Int32.toInt_ofInt]
    have e2 : Int32.size = 4294967296 := rfl
    rw [e2]
    simp only [Int.bmod_def]
    (repeat' split) <;> omega
  rw [h] at k
  exact k
theorem a_landM (C : Cx x v A cc own n Ts fr lo) {a : Int} (h0 : 0 ≤ a) (h1 : rgL a) (hd : decode cc pc = .ok (.land, 1)) (k : At x v A Q n (pc + 1) lv (vJ (a % 2147483648) :: st) σ) : At x v A Q n pc lv (vJ 2147483647 :: vJ a :: st) σ := by
  obtain ⟨p, l, e, R, s, m, args, below, meth, c⟩ := x
  intro H locs ls hM hP hS hl
  have h := k H locs ls hM hP hS hl
  refine lv_land C.1.1 C.1.2.1 hd ?_
  have e1 : Int64.ofInt a &&& Int64.ofInt 2147483647 = Int64.ofInt (a % 2147483648) := by
    obtain ⟨w, rfl⟩ : ∃ w : Nat, a = w := ⟨a.toNat, by omega⟩
    rw [← Int64.toBitVec_inj, Int64.toBitVec_and]
    apply BitVec.eq_of_toNat_eq
    rw [BitVec.toNat_and]
    have b1 : (Int64.ofInt (w : Int)).toBitVec.toNat = w := by
      show (BitVec.ofInt 64 (w : Int)).toNat = w
      rw [BitVec.toNat_ofInt]
      omega
    have b2 : (Int64.ofInt ((w : Int) % 2147483648)).toBitVec.toNat = w % 2147483648 := by
      show (BitVec.ofInt 64 ((w : Int) % 2147483648)).toNat = _
      rw [BitVec.toNat_ofInt]
      omega
    have b3 : (Int64.ofInt 2147483647).toBitVec.toNat = 2 ^ 31 - 1 := by decide +kernel
    rw [b1, b2, b3, Nat.and_two_pow_sub_one_eq_mod]
  rw [show (Value.long (Int64.ofInt a &&& Int64.ofInt 2147483647)) = vJ (a % 2147483648) from congrArg Value.long e1]
  exact h
/-! comparison of longs with the branch behind it -/
theorem lc_ge {a b : Int} (ha : rgL a) (hb : rgL b) : ¬ lg_cmp (Int64.ofInt a) (Int64.ofInt b) < 0 ↔ b ≤ a := by
  rw [Int32.not_lt, lg_cmp_ge, i64_le hb ha]
theorem lc_val {a b : Int} (ha : rgL a) (hb : rgL b) : lg_cmp (Int64.ofInt a) (Int64.ofInt b) = Int32.ofInt (if b < a then 1 else if a = b then 0 else -1) := by
  unfold lg_cmp
  simp only [gt_iff_lt, i64_lt hb ha, i64_eq ha hb]
  split
  · rfl
  · split <;> rfl
theorem a_lcmp (C : Cx x v A cc own n Ts fr lo) {a b : Int} (ha : rgL a) (hb : rgL b) (hd : decode cc pc = .ok (.lcmp, 1)) (k : ∀ z : Int, (z = 1 ∧ b < a) ∨ (z = 0 ∧ a = b) ∨ (z = -1 ∧ a < b) → rg z → At x v A Q n (pc + 1) lv (vI z :: st) σ) : At x v A Q n pc lv (vJ b :: vJ a :: st) σ := by
  obtain ⟨p, l, e, R, s, m, args, below, meth, c⟩ := x
  intro H locs ls hM hP hS hl
  refine W.lcmp C.1.1 C.1.2.1 hd ?_
  rw [lc_val ha hb]
  exact k _ (by (repeat' split) <;> omega) (by (repeat' split) <;> omega) H locs ls hM hP hS hl
/-! jumps by a table; null -/
theorem a_tsOut (C : Cx x v A cc own n Ts fr lo) {dflt lw hi : Int} {offs : Array Int} {len : Nat} {a : Int} (tgt : Nat) (ha : rg a) (hd : decode cc pc = .ok (.tableswitch dflt lw hi offs, len)) (h : a < lw ∨ hi < a) (ht : (pc : Int) + dflt = (tgt : Int)) (k : At x v A Q n tgt lv st σ) : At x v A Q n pc lv (vI a :: st) σ := by
  obtain ⟨p, l, e, R, s, m, args, below, meth, c⟩ := x
  intro H locs ls hM hP hS hl
  exact lv_tableOut C.1.1 C.1.2.1 hd (by rw [i32_toInt ha]; exact h) ht (k H locs ls hM hP hS hl)
theorem a_tsIn (C : Cx x v A cc own n Ts fr lo) {dflt lw hi : Int} {offs : Array Int} {len : Nat} {a off : Int} (tgt : Nat) (ha : rg a) (hd : decode cc pc = .ok (.tableswitch dflt lw hi offs, len)) (h1 : lw ≤ a) (h2 : a ≤ hi) (ho : offs[(a - lw).toNat]? = some off) (ht : (pc : Int) + off = (tgt : Int)) (k : At x v A Q n tgt lv st σ) : At x v A Q n pc lv (vI a :: st) σ := by
  obtain ⟨p, l, e, R, s, m, args, below, meth, c⟩ := x
  intro H locs ls hM hP hS hl
  exact lv_tableIn C.1.1 C.1.2.1 hd (by rw [i32_toInt ha]; omega) (by rw [i32_toInt ha]; omega) (by rw [i32_toInt ha]; exact ho) ht (k H locs ls hM hP hS hl)
theorem a_ifnonnull (C : Cx x v A cc own n Ts fr lo) {a : Nat} {off : Int} (tgt : Nat) (hd : decode cc pc = .ok (.ifnonnull off, 3)) (ht : (pc : Int) + off = (tgt : Int)) (k : At x v A Q n tgt lv st σ) : At x v A Q n pc lv (.ref a :: st) σ := by
  obtain ⟨p, l, e, R, s, m, args, below, meth, c⟩ := x
  intro H locs ls hM hP hS hl
  exact lv_ifnonnull C.1.1 C.1.2.1 hd ht (k H locs ls hM hP hS hl)
theorem a_ifnull (C : Cx x v A cc own n Ts fr lo) {a : Nat} {off : Int} (hd : decode cc pc = .ok (.ifnull off, 3)) (k : At x v A Q n (pc + 3) lv st σ) : At x v A Q n pc lv (.ref a :: st) σ := by
  obtain ⟨p, l, e, R, s, m, args, below, meth, c⟩ := x
  intro H locs ls hM hP hS hl
  exact lv_ifnull C.1.1 C.1.2.1 hd (k H locs ls hM hP hS hl)
theorem a_ifnullN (C : Cx x v A cc own n Ts fr lo) {off : Int} (tgt : Nat) (hd : decode cc pc = .ok (.ifnull off, 3)) (ht : (pc : Int) + off = (tgt : Int)) (k : At x v A Q n tgt lv st σ) : At x v A Q n pc lv (.null :: st) σ := by
  obtain ⟨p, l, e, R, s, m, args, below, meth, c⟩ := x
  intro H locs ls hM hP hS hl
  exact lv_ifnullN C.1.1 C.1.2.1 hd ht (k H locs ls hM hP hS hl)
theorem a_ifnonnullN (C : Cx x v A cc own n Ts fr lo) {off : Int} (hd : decode cc pc = .ok (.ifnonnull off, 3)) (k : At x v A Q n (pc + 3) lv st σ) : At x v A Q n pc lv (.null :: st) σ := by
  obtain ⟨p, l, e, R, s, m, args, below, meth, c⟩ := x
  intro H locs ls hM hP hS hl
  exact lv_ifnonnullN C.1.1 C.1.2.1 hd (k H locs ls hM hP hS hl)
theorem a_acmp_ne (C : Cx x v A cc own n Ts fr lo) {a b : Nat} {off : Int} (tgt : Nat) (ha : a < vN v) (hb : b < vN v) (hd : decode cc pc = .ok (.if_acmp .ne off, 3)) (ht : (pc : Int) + off = (tgt : Int)) (kt : ¬ a = b → At x v A Q n tgt lv st σ) (kf : a = b → At x v A Q n (pc + 3) lv st σ) : At x v A Q n pc lv (.ref (vq v b) :: .ref (vq v a) :: st) σ := by
  obtain ⟨p, l, e, R, s, m, args, below, meth, c⟩ := x
  intro H locs ls hM hP hS hl
  exact lv_acmp_ne (rx := some (vq v a)) (ry := some (vq v b)) C.1.1 C.1.2.1 hd ht (fun h => kt (fun q => h (by rw [q])) H locs ls hM hP hS hl) (fun h => kf ((C.2.2.2.2.1 σ).1 a b _ _ (wo_get ha) (wo_get hb) (Option.some.inj h)) H locs ls hM hP hS hl)
/-! the JDK's rows -/
theorem a_mmax (C : Cx x v A cc own n Ts fr lo) {index : Nat} {a b : Int} (ha : rg a) (hb : rg b) (hw : ∀ w ∈ [Cond.methodLink own index Lib.Math.max.name, Cond.static Lib.Math.max.name, Cond.initialized "java/lang/Math", Cond.code Lib.Math.max.name Lib.Math.max.code 2 (some .int)], w ∈ Ts) (hR : 1 ≤ fr ∧ (st.map fun w => w.category).sum + 13 ≤ lo) (hd : decode cc pc = .ok (.invokestatic index, 3)) (k : At x v A Q n (pc + 3) lv (vI (max a b) :: st) σ) : At x v A Q n pc lv (vI b :: vI a :: st) σ := by
  obtain ⟨p, l, e, R, s, m, args, below, meth, c⟩ := x
  intro H locs ls hM hP hS hl
  obtain ⟨hfix, rfl, rfl, -⟩ := C
  refine va_mmax hfix.1 hfix.2.1 (by rw [hl.1]; exact hfix.2.2.1) hfix.2.2.2.1 (hfix.2.2.2.2 _ (hw _ (by simp))) (hfix.2.2.2.2 _ (hw _ (by simp))) (hfix.2.2.2.2 _ (hw _ (by simp))) (hfix.2.2.2.2 _ (hw _ (by simp))) hR.1 hR.2 (Nat.zero_le _) (Nat.zero_le _) hd ?_
  have h := k H locs ls hM hP hS hl
  have e1 : (if Int32.ofInt a < Int32.ofInt b then Int32.ofInt b else Int32.ofInt a) = Int32.ofInt (max a b) := by
    simp only [i32_lt ha hb]
    split
    · rw [Int.max_def]; rw [if_pos (by omega)]
    · rw [Int.max_def]; split
      · next q1 q2 => rw [show a = b by omega]
      · rfl
  rw [e1]
  exact h
theorem a_mmin (C : Cx x v A cc own n Ts fr lo) {index : Nat} {a b : Int} (ha : rg a) (hb : rg b) (hw : ∀ w ∈ [Cond.methodLink own index Lib.Math.min.name, Cond.static Lib.Math.min.name, Cond.initialized "java/lang/Math", Cond.code Lib.Math.min.name Lib.Math.min.code 2 (some .int)], w ∈ Ts) (hR : 1 ≤ fr ∧ (st.map fun w => w.category).sum + 13 ≤ lo) (hd : decode cc pc = .ok (.invokestatic index, 3)) (k : At x v A Q n (pc + 3) lv (vI (min a b) :: st) σ) : At x v A Q n pc lv (vI b :: vI a :: st) σ := by
  obtain ⟨p, l, e, R, s, m, args, below, meth, c⟩ := x
  intro H locs ls hM hP hS hl
  obtain ⟨hfix, rfl, rfl, -⟩ := C
  refine va_mmin hfix.1 hfix.2.1 (by rw [hl.1]; exact hfix.2.2.1) hfix.2.2.2.1 (hfix.2.2.2.2 _ (hw _ (by simp))) (hfix.2.2.2.2 _ (hw _ (by simp))) (hfix.2.2.2.2 _ (hw _ (by simp))) (hfix.2.2.2.2 _ (hw _ (by simp))) hR.1 hR.2 (Nat.zero_le _) (Nat.zero_le _) hd ?_
  have h := k H locs ls hM hP hS hl
  have e1 : (if Int32.ofInt b < Int32.ofInt a then Int32.ofInt b else Int32.ofInt a) = Int32.ofInt (min a b) := by
    simp only [i32_lt hb ha]
    split
    · rw [Int.min_def]; rw [if_neg (by omega)]
    · rw [Int.min_def]; rw [if_pos (by omega)]
  rw [e1]
  exact h
theorem a_mabs (C : Cx x v A cc own n Ts fr lo) {index : Nat} {a : Int} (ha : rg a) (hw : ∀ w ∈ [Cond.methodLink own index Lib.Math.abs.name, Cond.static Lib.Math.abs.name, Cond.initialized "java/lang/Math", Cond.code Lib.Math.abs.name Lib.Math.abs.code 1 (some .int)], w ∈ Ts) (hR : 1 ≤ fr ∧ (st.map fun w => w.category).sum + 13 ≤ lo) (hd : decode cc pc = .ok (.invokestatic index, 3)) (k : At x v A Q n (pc + 3) lv (vI (if 0 ≤ a then a else -a) :: st) σ) : At x v A Q n pc lv (vI a :: st) σ := by
  obtain ⟨p, l, e, R, s, m, args, below, meth, c⟩ := x
  intro H locs ls hM hP hS hl
  obtain ⟨hfix, rfl, rfl, -⟩ := C
  refine va_mabs hfix.1 hfix.2.1 (by rw [hl.1]; exact hfix.2.2.1) hfix.2.2.2.1 (hfix.2.2.2.2 _ (hw _ (by simp))) (hfix.2.2.2.2 _ (hw _ (by simp))) (hfix.2.2.2.2 _ (hw _ (by simp))) (hfix.2.2.2.2 _ (hw _ (by simp))) hR.1 hR.2 (Nat.zero_le _) (Nat.zero_le _) hd ?_
  have h := k H locs ls hM hP hS hl
  have e1 : (if 0 ≤ Int32.ofInt a then Int32.ofInt a else 0 - Int32.ofInt a) = Int32.ofInt (if 0 ≤ a then a else -a) := by
    have q : (0 ≤ Int32.ofInt a) ↔ 0 ≤ a := i32_le (x := 0) (by omega) ha
    by_cases h0 : 0 ≤ a
    · rw [if_pos (q.mpr h0), if_pos h0]
    · rw [if_neg (fun z => h0 (q.mp z)), if_neg h0, Int32.ofInt_neg]; simp
  rw [e1]
  exact h
theorem a_mabsL (C : Cx x v A cc own n Ts fr lo) {index : Nat} {a : Int} (ha : rgL a) (hw : ∀ w ∈ [Cond.methodLink own index Lib.MathLoose.abs_long.x, Cond.static Lib.MathLoose.abs_long.x, Cond.initialized "java/lang/Math", Cond.code Lib.MathLoose.abs_long.x Lib.MathLoose.abs_long.code 2 (some .long)], w ∈ Ts) (hR : 1 ≤ fr ∧ (st.map fun w => w.category).sum + 13 ≤ lo) (hd : decode cc pc = .ok (.invokestatic index, 3)) (k : At x v A Q n (pc + 3) lv (vJ (if 0 < a then a else -a) :: st) σ) : At x v A Q n pc lv (vJ a :: st) σ := by
  obtain ⟨p, l, e, R, s, m, args, below, meth, c⟩ := x
  intro H locs ls hM hP hS hl
  obtain ⟨hfix, rfl, rfl, -⟩ := C
  refine va_mabs_long hfix.1 hfix.2.1 (by rw [hl.1]; exact hfix.2.2.1) hfix.2.2.2.1 (hfix.2.2.2.2 _ (hw _ (by simp))) (hfix.2.2.2.2 _ (hw _ (by simp))) (hfix.2.2.2.2 _ (hw _ (by simp))) (hfix.2.2.2.2 _ (hw _ (by simp))) hR.1 hR.2 (Nat.zero_le _) (Nat.zero_le _) hd ?_
  have h := k H locs ls hM hP hS hl
  have e1 : (if 0 < Int64.ofInt a then Int64.ofInt a else -Int64.ofInt a) = Int64.ofInt (if 0 < a then a else -a) := by
    have q : (0 < Int64.ofInt a) ↔ 0 < a := i64_lt (x := 0) (by omega) ha
    by_cases h0 : 0 < a
    · rw [if_pos (q.mpr h0), if_pos h0]
    · rw [if_neg (fun z => h0 (q.mp z)), if_neg h0, Int64.ofInt_neg]
  rw [e1]
  exact h
theorem a_mmaxL (C : Cx x v A cc own n Ts fr lo) {index : Nat} {a b : Int} (ha : rgL a) (hb : rgL b) (hw : ∀ w ∈ [Cond.methodLink own index Lib.MathLoose.max_long.x, Cond.static Lib.MathLoose.max_long.x, Cond.initialized "java/lang/Math", Cond.code Lib.MathLoose.max_long.x Lib.MathLoose.max_long.code 4 (some .long)], w ∈ Ts) (hR : 1 ≤ fr ∧ (st.map fun w => w.category).sum + 15 ≤ lo) (hd : decode cc pc = .ok (.invokestatic index, 3)) (k : At x v A Q n (pc + 3) lv (vJ (max a b) :: st) σ) : At x v A Q n pc lv (vJ b :: vJ a :: st) σ := by
  obtain ⟨p, l, e, R, s, m, args, below, meth, c⟩ := x
  intro H locs ls hM hP hS hl
  obtain ⟨hfix, rfl, rfl, -⟩ := C
  refine va_mmax_long hfix.1 hfix.2.1 (by rw [hl.1]; exact hfix.2.2.1) hfix.2.2.2.1 (hfix.2.2.2.2 _ (hw _ (by simp))) (hfix.2.2.2.2 _ (hw _ (by simp))) (hfix.2.2.2.2 _ (hw _ (by simp))) (hfix.2.2.2.2 _ (hw _ (by simp))) hR.1 hR.2 (Nat.zero_le _) (Nat.zero_le _) hd ?_
  have h := k H locs ls hM hP hS hl
  have e1 : (if Int64.ofInt b < Int64.ofInt a then Int64.ofInt a else Int64.ofInt b) = Int64.ofInt (max a b) := by
    simp only [i64_lt hb ha]
    split
    · rw [Int.max_def]; rw [if_neg (by omega)]
    · rw [Int.max_def]; rw [if_pos (by omega)]
  rw [e1]
  exact h
/-- what arraycopy leaves in the target's row -/
def mcpy (f g : Int → Int) (sp dp n : Int) : Int → Int := fun j => if dp ≤ j ∧ j < dp + n then f (sp + (j - dp)) else g j
def mset (σ : Mem) (k : Nat) (f : Int → Int) : Mem := fun a => if a = k then f else σ a
theorem mset_s (σ : Mem) (k : Nat) (f : Int → Int) : mset σ k f k = f := by simp [mset]
theorem mset_n (σ : Mem) (k a : Nat) (f : Int → Int) (h : a ≠ k) : mset σ k f a = σ a := by simp [mset, h]
theorem a_copyi (C : Cx x v A cc own n Ts fr lo) {index b0 b1 n0 n1 : Nat} {c0 c1 : ClassId} (hF0 : vF v b0 = eI c0 n0) (hF1 : vF v b1 = eI c1 n1) (hb0 : b0 < vN v) (hb1 : b1 < vN v) (t0 : Nat) (ht0 : (vT v)[t0]? = some (c0, .int)) (ht1 : (vT v)[t0]? = some (c1, .int)) {sp dp k : Int} (h1 : 0 ≤ sp) (h2 : 0 ≤ dp) (h3 : 0 ≤ k) (h4 : sp + k ≤ n0) (h5 : dp + k ≤ n1) (hn0 : n0 ≤ 50000) (hn1 : n1 ≤ 50000) (hw : ∀ w ∈ [Cond.methodLink own index arraycopyName, Cond.native arraycopyName, Cond.static arraycopyName, Cond.initialized "java/lang/System"], w ∈ Ts) (hR : 1 ≤ fr ∧ (st.map fun w => w.category).sum + (nativeFrameWords "java/lang/System" "arraycopy" 5 + 11) ≤ lo) (hd : decode cc pc = .ok (.invokestatic index, 3)) (kk : At x v A Q n (pc + 3) lv st (mset σ b1 (mcpy (σ b0) (σ b1) sp dp k))) : At x v A Q n pc lv (vI k :: vI dp :: .ref (vq v b1) :: vI sp :: .ref (vq v b0) :: st) σ := by
  obtain ⟨p, l, e, R, s, m, args, below, meth, c⟩ := x
  intro H locs ls hM hP hS hl
  obtain ⟨hfix, rfl, rfl, hK, hD, hA, hN⟩ := C
  have q1 := i32_clamp h1 (by omega)
  have q2 := i32_clamp h2 (by omega)
  have q3 := i32_clamp h3 (by omega)
  refine va_copyi hfix.1 hfix.2.1 (by rw [hl.1]; exact hfix.2.2.1) hfix.2.2.2.1 (hfix.2.2.2.2 _ (hw _ (by simp))) (hfix.2.2.2.2 _ (hw _ (by simp))) (hfix.2.2.2.2 _ (hw _ (by simp))) (hfix.2.2.2.2 _ (hw _ (by simp))) hK hP (hD σ) hS b0 b1 t0 t0 (by rw [wo_get hb0, hF0]) (by rw [wo_get hb1, hF1]) ht0 ht1 rfl (fun z => absurd ((i32_lt (y := 0) (by omega) (by omega)).mp z) (by omega)) (fun z => absurd ((i32_lt (y := 0) (by omega) (by omega)).mp z) (by omega)) (fun z => absurd ((i32_lt (y := 0) (by omega) (by omega)).mp z) (by omega)) (by rw [q1, q3]; omega) (by rw [q2, q3]; omega) (fun i _ => rfl) hR.1 hR.2 hd (fun H1 locs1 hP1 hD1 hS1 => ?_)
  rw [q1, q2, q3] at hP1
  rw [wo_set (τ := mset σ b1 (mcpy (σ b0) (σ b1) sp dp k)) (by
    rw [hF1]
    refine congrArg (fun f => (Sum.inl (c1, n1, Sum.inl f) : va_E)) (funext fun j => ?_)
    rw [mset_s]
    unfold mcpy va_cpy
    by_cases hj : dp.toNat ≤ j ∧ j < dp.toNat + k.toNat
    · rw [if_pos hj, if_pos (by omega)]
      congr 2
      omega
    · rw [if_neg hj, if_neg (by omega)]) (fun a ha => mset_n _ _ _ _ ha)] at hP1
  refine kk H1 locs1 ls ?_ hP1 hS1 hl
  intro a j
  unfold mset
  split
  · unfold mcpy
    split
    · next hj => exact ⟨hM.l _ _, fun _ => hM.i _ _ (by omega)⟩
    · exact hM _ _
  · exact hM _ _
theorem a_copyl (C : Cx x v A cc own n Ts fr lo) {index b0 b1 n0 n1 : Nat} {c0 c1 : ClassId} (hF0 : vF v b0 = eL c0 n0) (hF1 : vF v b1 = eL c1 n1) (hb0 : b0 < vN v) (hb1 : b1 < vN v) (t0 : Nat) (ht0 : (vT v)[t0]? = some (c0, .long)) (ht1 : (vT v)[t0]? = some (c1, .long)) {sp dp k : Int} (h1 : 0 ≤ sp) (h2 : 0 ≤ dp) (h3 : 0 ≤ k) (h4 : sp + k ≤ n0) (h5 : dp + k ≤ n1) (hn0 : n0 ≤ 50000) (hn1 : n1 ≤ 50000) (hw : ∀ w ∈ [Cond.methodLink own index arraycopyName, Cond.native arraycopyName, Cond.static arraycopyName, Cond.initialized "java/lang/System"], w ∈ Ts) (hR : 1 ≤ fr ∧ (st.map fun w => w.category).sum + (nativeFrameWords "java/lang/System" "arraycopy" 5 + 11) ≤ lo) (hd : decode cc pc = .ok (.invokestatic index, 3)) (kk : At x v A Q n (pc + 3) lv st (mset σ b1 (mcpy (σ b0) (σ b1) (100000 + sp) (100000 + dp) k))) : At x v A Q n pc lv (vI k :: vI dp :: .ref (vq v b1) :: vI sp :: .ref (vq v b0) :: st) σ := by
  obtain ⟨p, l, e, R, s, m, args, below, meth, c⟩ := x
  intro H locs ls hM hP hS hl
  obtain ⟨hfix, rfl, rfl, hK, hD, hA, hN⟩ := C
  have q1 := i32_clamp h1 (by omega)
  have q2 := i32_clamp h2 (by omega)
  have q3 := i32_clamp h3 (by omega)
  refine va_copyl hfix.1 hfix.2.1 (by rw [hl.1]; exact hfix.2.2.1) hfix.2.2.2.1 (hfix.2.2.2.2 _ (hw _ (by simp))) (hfix.2.2.2.2 _ (hw _ (by simp))) (hfix.2.2.2.2 _ (hw _ (by simp))) (hfix.2.2.2.2 _ (hw _ (by simp))) hK hP (hD σ) hS b0 b1 t0 t0 (by rw [wo_get hb0, hF0]) (by rw [wo_get hb1, hF1]) ht0 ht1 rfl (fun z => absurd ((i32_lt (y := 0) (by omega) (by omega)).mp z) (by omega)) (fun z => absurd ((i32_lt (y := 0) (by omega) (by omega)).mp z) (by omega)) (fun z => absurd ((i32_lt (y := 0) (by omega) (by omega)).mp z) (by omega)) (by rw [q1, q3]; omega) (by rw [q2, q3]; omega) (fun i _ => rfl) hR.1 hR.2 hd (fun H1 locs1 hP1 hD1 hS1 => ?_)
  rw [q1, q2, q3] at hP1
  rw [wo_set (τ := mset σ b1 (mcpy (σ b0) (σ b1) (100000 + sp) (100000 + dp) k)) (by
    rw [hF1]
    refine congrArg (fun f => (Sum.inl (c1, n1, Sum.inr (Sum.inl f)) : va_E)) (funext fun j => ?_)
    rw [mset_s]
    unfold mcpy va_cpy
    by_cases hj : dp.toNat ≤ j ∧ j < dp.toNat + k.toNat
    · rw [if_pos hj, if_pos (by omega)]
      congr 2
      omega
    · rw [if_neg hj, if_neg (by omega)]) (fun a ha => mset_n _ _ _ _ ha)] at hP1
  refine kk H1 locs1 ls ?_ hP1 hS1 hl
  intro a j
  unfold mset
  split
  · unfold mcpy
    split
    · next hj => exact ⟨hM.l _ _, fun q => absurd q (by omega)⟩
    · exact hM _ _
  · exact hM _ _
end Mo
