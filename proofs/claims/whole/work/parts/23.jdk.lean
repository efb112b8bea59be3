section M2
variable {x : XC} {v : VC} {A : Nat → Prop} {Q : State → Prop} {n pc : Nat} {lv : List (Nat × Value)} {st : List Value} {σ : Mem} {cc : ByteArray} {own : String} {Ts : List Cond} {fr lo : Nat}
theorem a_lsub (C : Cx x v A cc own n Ts fr lo) {a b : Int} (hd : decode cc pc = .ok (.lsub, 1)) (k : At x v A Q n (pc + 1) lv (vJ (a - b) :: st) σ) : At x v A Q n pc lv (vJ b :: vJ a :: st) σ := by
  obtain ⟨p, l, e, R, s, m, args, below, meth, c⟩ := x
  intro H locs ls hM hP hS hl
  have h := k H locs ls hM hP hS hl
  rw [show vJ (a - b) = .long (Int64.ofInt a - Int64.ofInt b) from congrArg Value.long (Int64.ofInt_sub a b)] at h
  exact lv_lsub C.1.1 C.1.2.1 hd h
theorem neg_msb64 (z : Int64) : z.toInt < 0 ↔ z.toBitVec.msb = true := by
  show z.toBitVec.toInt < 0 ↔ _
  rw [BitVec.msb_eq_toInt]
  simp
theorem neg_msb32 (z : Int32) : z.toInt < 0 ↔ z.toBitVec.msb = true := by
  show z.toBitVec.toInt < 0 ↔ _
  rw [BitVec.msb_eq_toInt]
  simp
theorem lxor_neg {a b : Int} (ha : rgL a) (hb : rgL b) (h0 : 0 ≤ b) : (Int64.ofInt a ^^^ Int64.ofInt b).toInt < 0 ↔ a < 0 := by
  have q1 := neg_msb64 (Int64.ofInt a)
  have q2 := neg_msb64 (Int64.ofInt b)
  rw [i64_toInt ha] at q1
  rw [i64_toInt hb] at q2
  rw [neg_msb64, Int64.toBitVec_xor, BitVec.msb_xor]
  have e2 : (Int64.ofInt b).toBitVec.msb = false := by
    cases h : (Int64.ofInt b).toBitVec.msb
    · rfl
    · exact absurd (q2.mpr h) (by omega)
  rw [e2, Bool.xor_false]
  exact q1.symm
theorem ixor_neg {a b : Int} (ha : rg a) (hb : rg b) (h0 : 0 ≤ b) : (Int32.ofInt a ^^^ Int32.ofInt b).toInt < 0 ↔ a < 0 := by
  have q1 := neg_msb32 (Int32.ofInt a)
  have q2 := neg_msb32 (Int32.ofInt b)
  rw [i32_toInt ha] at q1
  rw [i32_toInt hb] at q2
  rw [neg_msb32, Int32.toBitVec_xor, BitVec.msb_xor]
  have e2 : (Int32.ofInt b).toBitVec.msb = false := by
    cases h : (Int32.ofInt b).toBitVec.msb
    · rfl
    · exact absurd (q2.mpr h) (by omega)
  rw [e2, Bool.xor_false]
  exact q1.symm
theorem a_lxorP (C : Cx x v A cc own n Ts fr lo) {a b : Int} (ha : rgL a) (hb : rgL b) (h0 : 0 ≤ b) (hd : decode cc pc = .ok (.lxor, 1)) (k : ∀ z : Int, rgL z → (z < 0 ↔ a < 0) → At x v A Q n (pc + 1) lv (vJ z :: st) σ) : At x v A Q n pc lv (vJ b :: vJ a :: st) σ := by
  obtain ⟨p, l, e, R, s, m, args, below, meth, c⟩ := x
  intro H locs ls hM hP hS hl
  have h := k (Int64.ofInt a ^^^ Int64.ofInt b).toInt (i64_rg _) (lxor_neg ha hb h0) H locs ls hM hP hS hl
  unfold vJ at h
  rw [← i64_of] at h
  exact lv_lxor C.1.1 C.1.2.1 hd h
theorem a_ixorP (C : Cx x v A cc own n Ts fr lo) {a b : Int} (ha : rg a) (hb : rg b) (h0 : 0 ≤ b) (hd : decode cc pc = .ok (.ixor, 1)) (k : ∀ z : Int, rg z → (z < 0 ↔ a < 0) → At x v A Q n (pc + 1) lv (vI z :: st) σ) : At x v A Q n pc lv (vI b :: vI a :: st) σ := by
  obtain ⟨p, l, e, R, s, m, args, below, meth, c⟩ := x
  intro H locs ls hM hP hS hl
  have h := k (Int32.ofInt a ^^^ Int32.ofInt b).toInt (i32_rg _) (ixor_neg ha hb h0) H locs ls hM hP hS hl
  unfold vI at h
  rw [← i32_of] at h
  exact lv_ixor C.1.1 C.1.2.1 hd h
theorem a_alenI (C : Cx x v A cc own n Ts fr lo) {b len : Nat} {ca : ClassId} {ty : FieldType} (hF : vF v b = eI ca len) (hb : b < vN v) (t0 : Nat) (ht : (vT v)[t0]? = some (ca, ty)) (hd : decode cc pc = .ok (.arraylength, 1)) (k : At x v A Q n (pc + 1) lv (vI len :: st) σ) : At x v A Q n pc lv (.ref (vq v b) :: st) σ := by
  obtain ⟨p, l, e, R, s, m, args, below, meth, c⟩ := x
  intro H locs ls hM hP hS hl
  exact va_alen (v := Int32.ofInt (len : Int)) C.1.1 C.1.2.1 C.2.2.2.1 hP b t0 (by rw [wo_get hb, hF]) ht (by first | rfl | exact (Int32.ofInt_eq_ofNat).symm | simp) hd (k H locs ls hM hP hS hl)
theorem a_alenL (C : Cx x v A cc own n Ts fr lo) {b len : Nat} {ca : ClassId} {ty : FieldType} (hF : vF v b = eL ca len) (hb : b < vN v) (t0 : Nat) (ht : (vT v)[t0]? = some (ca, ty)) (hd : decode cc pc = .ok (.arraylength, 1)) (k : At x v A Q n (pc + 1) lv (vI len :: st) σ) : At x v A Q n pc lv (.ref (vq v b) :: st) σ := by
  obtain ⟨p, l, e, R, s, m, args, below, meth, c⟩ := x
  intro H locs ls hM hP hS hl
  exact va_alen (v := Int32.ofInt (len : Int)) C.1.1 C.1.2.1 C.2.2.2.1 hP b t0 (by rw [wo_get hb, hF]) ht (by first | rfl | exact (Int32.ofInt_eq_ofNat).symm | simp) hd (k H locs ls hM hP hS hl)
theorem ediv_of {a b q : Int} (hb : 0 < b) (h1 : q * b ≤ a) (h2 : a < q * b + b) : a / b = q := by
  have g1 : q ≤ a / b := (Int.le_ediv_iff_mul_le hb).mpr h1
  have g2 : a / b < q + 1 := (Int.ediv_lt_iff_lt_mul hb).mpr (by rw [Int.add_mul, Int.one_mul]; exact h2)
  omega
theorem tdiv_pos {a b : Int} (hb : 0 < b) : a.tdiv b = (if a < 0 then -((-a) / b) else a / b) := by
  split
  · next h =>
    have : a = -(-a) := by omega
    rw [this, Int.neg_tdiv, Int.tdiv_eq_ediv_of_nonneg (by omega), Int.neg_neg]
  · next h => exact Int.tdiv_eq_ediv_of_nonneg (by omega)
/-- rounding down, out of rounding to 0 -/
theorem flo_of {a b : Int} (hb : 0 < b) : a / b = (if a < 0 ∧ ¬ a.tdiv b * b = a then a.tdiv b - 1 else a.tdiv b) := by
  rw [tdiv_pos hb]
  by_cases h : a < 0
  · rw [if_pos h]
    have g1 : (-a) / b * b ≤ -a := Int.ediv_mul_le _ (by omega)
    have g2 : -a < ((-a) / b + 1) * b := Int.lt_ediv_add_one_mul_self _ hb
    rw [Int.add_mul, Int.one_mul] at g2
    by_cases e : -((-a) / b) * b = a
    · rw [if_neg (by rintro ⟨-, q⟩; exact q e)]
      exact ediv_of hb (by omega) (by omega)
    · rw [if_pos ⟨h, e⟩]
      rw [Int.neg_mul] at e
      refine ediv_of hb ?_ ?_
      · rw [Int.sub_mul, Int.neg_mul, Int.one_mul]; omega
      · rw [Int.sub_mul, Int.neg_mul, Int.one_mul]; omega
  · rw [if_neg h, if_neg (by rintro ⟨q, -⟩; exact h q)]
theorem ediv_rg {a b : Int} (hb : 0 < b) {M : Int} (h1 : -M ≤ a) (h2 : a ≤ M) (hM : 0 ≤ M) : -M ≤ a / b ∧ a / b ≤ M := by
  constructor
  · rw [Int.le_ediv_iff_mul_le hb]
    have : M * 1 ≤ M * b := Int.mul_le_mul_of_nonneg_left (by omega) hM
    rw [Int.neg_mul]; omega
  · have : a / b < M + 1 := by
      rw [Int.ediv_lt_iff_lt_mul hb, Int.add_mul]
      have : M * 1 ≤ M * b := Int.mul_le_mul_of_nonneg_left (by omega) hM
      omega
    omega
theorem tdiv_bd {a b : Int} (hb : 0 < b) : (0 ≤ a → 0 ≤ a.tdiv b ∧ a.tdiv b ≤ a ∧ 0 ≤ a.tdiv b * b ∧ a.tdiv b * b ≤ a) ∧ (a < 0 → a ≤ a.tdiv b ∧ a.tdiv b ≤ 0 ∧ a ≤ a.tdiv b * b ∧ a.tdiv b * b ≤ 0) := by
  have key : ∀ w : Int, 0 ≤ w → 0 ≤ w / b ∧ w / b ≤ w ∧ 0 ≤ w / b * b ∧ w / b * b ≤ w := by
    intro w hw
    have g0 : 0 ≤ w / b := Int.ediv_nonneg hw (by omega)
    have g1 : w / b * b ≤ w := Int.ediv_mul_le _ (by omega)
    have g2 : w / b * 1 ≤ w / b * b := Int.mul_le_mul_of_nonneg_left (by omega) g0
    exact ⟨g0, by omega, by omega, g1⟩
  rw [tdiv_pos hb]
  constructor
  · intro h
    rw [if_neg (by omega)]
    exact key a h
  · intro h
    rw [if_pos h]
    have := key (-a) (by omega)
    rw [Int.neg_mul]
    omega
theorem mul_bd {a b A B : Int} (h1 : -A ≤ a) (h2 : a ≤ A) (h3 : 0 ≤ b) (h4 : b ≤ B) (hA : 0 ≤ A) : -(A * B) ≤ a * b ∧ a * b ≤ A * B := by
  have g1 : a * b ≤ A * b := Int.mul_le_mul_of_nonneg_right h2 h3
  have g2 : A * b ≤ A * B := Int.mul_le_mul_of_nonneg_left h4 hA
  have g3 : -A * b ≤ a * b := Int.mul_le_mul_of_nonneg_right h1 h3
  rw [Int.neg_mul] at g3
  omega
/-- a share of a count lies between 0 and the count -/
theorem share_bd {c L R : Int} (hL : 0 ≤ L) (hR : 0 ≤ R) (h : 0 < L + R) : (0 ≤ c → 0 ≤ c * L / (L + R) ∧ c * L / (L + R) ≤ c) ∧ (c ≤ 0 → c ≤ c * L / (L + R) ∧ c * L / (L + R) ≤ 0) := by
  constructor
  · intro hc
    have g1 : 0 ≤ c * L := Int.mul_nonneg hc hL
    have g2 : c * L ≤ c * (L + R) := Int.mul_le_mul_of_nonneg_left (by omega) hc
    refine ⟨Int.ediv_nonneg g1 (by omega), ?_⟩
    have : c * L / (L + R) < c + 1 := by
      rw [Int.ediv_lt_iff_lt_mul h, Int.add_mul]
      omega
    omega
  · intro hc
    have g1 : 0 ≤ (-c) * L := Int.mul_nonneg (by omega) hL
    have g2 : (-c) * L ≤ (-c) * (L + R) := Int.mul_le_mul_of_nonneg_left (by omega) (by omega)
    rw [Int.neg_mul] at g1
    rw [Int.neg_mul, Int.neg_mul] at g2
    constructor
    · rw [Int.le_ediv_iff_mul_le h]; omega
    · have : c * L / (L + R) < 1 := by rw [Int.ediv_lt_iff_lt_mul h]; omega
      omega
end M2
