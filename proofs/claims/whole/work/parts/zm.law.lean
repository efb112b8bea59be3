/-! ===== the law's own walk: like a method's, behind the making of cells, with the script beside ===== -/
def scI (xs : Nat → Int32) (i : Int) : Int := (xs i.toNat).toInt
theorem scI_rg (xs : Nat → Int32) (i : Int) : rg (scI xs i) := i32_rg _
theorem scI_v (xs : Nat → Int32) (i : Int) : vI (scI xs i) = .int (xs i.toNat) := congrArg Value.int (i32_of _).symm
/-- the long that a call of write gets -/
def wdI (a b : Int) : Int := ((Int64.ofInt a <<< ((Int32.ofInt 32).toInt64 &&& 63)) ||| (Int64.ofInt b &&& Int64.ofInt 4294967295)).toInt
theorem wdI_rg (a b : Int) : rgL (wdI a b) := i64_rg _
def CxL (x : XC) (v : VC) (k1 k2 b L : Nat) (xs : Nat → Int32) : Prop :=
  match x with
  | (p, _, _, R, s, m, args, _, _, c) => CallFix p m c cL_law 4 s args wsL_law RL ∧ (R.frames = 8 ∧ R.locals = 330 ∧ k1 ≤ R.cells ∧ k2 ≤ R.slots) ∧ va_K (vD v) vwCl (vT v) s ∧ (∀ σ : Mem, va_D (fun q : Nat => s.heap.size ≤ q) (wo v σ)) ∧ NW s ∧ va_X b L xs s s.heap ∧ b < s.heap.size ∧ L ≤ 3584
def AtL (x : XC) (v : VC) (Q : State → Prop) (k1 k2 pc : Nat) (lv : List (Nat × Value)) (st : List Value) (σ : Mem) : Prop :=
  match x with
  | (p, l, e, R, s, m, args, below, meth, c) => ∀ (H : Heap) (locs : List Loc) (ls : Array Slot), MemR σ → va_P (vD v) vwCl (wo v σ) H → va_S (fun q : Nat => s.heap.size ≤ q) s.heap H locs → lv_has ls 4 lv → W p l e R s m args below meth c H locs k1 k2 Q (F0 m pc ls st)
section Lw
variable {x : XC} {v : VC} {Q : State → Prop} {k1 k2 b L pc : Nat} {xs : Nat → Int32} {lv : List (Nat × Value)} {st rest : List Value} {σ : Mem}
theorem l_iconst (C : CxL x v k1 k2 b L xs) {i : Int} (hd : decode cL_law pc = .ok (.iconst i, 1)) (k : AtL x v Q k1 k2 (pc + 1) lv (vI i :: st) σ) : AtL x v Q k1 k2 pc lv st σ := by
  obtain ⟨p, l, e, R, s, m, args, below, meth, c⟩ := x
  intro H locs ls hM hP hS hl
  exact lv_iconst C.1.1 C.1.2.1 hd rfl (k H locs ls hM hP hS hl)
theorem l_bipush (C : CxL x v k1 k2 b L xs) {i : Int} (hd : decode cL_law pc = .ok (.bipush i, 2)) (k : AtL x v Q k1 k2 (pc + 2) lv (vI i :: st) σ) (hv : (Int8.ofInt i).toInt32 = Int32.ofInt i := by decide +kernel) : AtL x v Q k1 k2 pc lv st σ := by
  obtain ⟨p, l, e, R, s, m, args, below, meth, c⟩ := x
  intro H locs ls hM hP hS hl
  exact lv_bipush C.1.1 C.1.2.1 hd hv (k H locs ls hM hP hS hl)
theorem l_ldc2 (C : CxL x v k1 k2 b L xs) {index : Nat} {w : Int64} (z : Int) (hm : Cond.constantLong RL index w ∈ wsL_law) (hv : w = Int64.ofInt z) (hd : decode cL_law pc = .ok (.ldc2_w index, 3)) (k : AtL x v Q k1 k2 (pc + 3) lv (vJ z :: st) σ) : AtL x v Q k1 k2 pc lv st σ := by
  obtain ⟨p, l, e, R, s, m, args, below, meth, c⟩ := x
  intro H locs ls hM hP hS hl
  subst hv
  exact lv_ldc2 C.1.1 C.1.2.1 C.1.2.2.2.1 (C.1.2.2.2.2 _ hm) hd (k H locs ls hM hP hS hl)
theorem l_iload_n (C : CxL x v k1 k2 b L xs) {i : Fin 4} {j : Nat} {z : Int} (hd : decode cL_law pc = .ok (.iload_n i, 1)) (p0 : Nat) (hj : (i : Nat) = j) (hl0 : lv[p0]? = some (j, vI z)) (k : AtL x v Q k1 k2 (pc + 1) lv (vI z :: st) σ) : AtL x v Q k1 k2 pc lv st σ := by
  obtain ⟨p, l, e, R, s, m, args, below, meth, c⟩ := x
  intro H locs ls hM hP hS hl
  exact lv_iload_n C.1.1 C.1.2.1 hd hj (lv_at hl p0 hl0) (k H locs ls hM hP hS hl)
theorem l_aload_n (C : CxL x v k1 k2 b L xs) {i : Fin 4} {j : Nat} {z : Nat} (hd : decode cL_law pc = .ok (.aload_n i, 1)) (p0 : Nat) (hj : (i : Nat) = j) (hl0 : lv[p0]? = some (j, .ref z)) (k : AtL x v Q k1 k2 (pc + 1) lv (.ref z :: st) σ) : AtL x v Q k1 k2 pc lv st σ := by
  obtain ⟨p, l, e, R, s, m, args, below, meth, c⟩ := x
  intro H locs ls hM hP hS hl
  exact lv_aload_n C.1.1 C.1.2.1 hd hj (lv_at hl p0 hl0) (k H locs ls hM hP hS hl)
theorem l_iadd (C : CxL x v k1 k2 b L xs) {a c : Int} (hd : decode cL_law pc = .ok (.iadd, 1)) (k : AtL x v Q k1 k2 (pc + 1) lv (vI (a + c) :: st) σ) : AtL x v Q k1 k2 pc lv (vI c :: vI a :: st) σ := by
  obtain ⟨p, l, e, R, s, m, args, below, meth, c9⟩ := x
  intro H locs ls hM hP hS hl
  have h := k H locs ls hM hP hS hl
  rw [show vI (a + c) = .int (Int32.ofInt a + Int32.ofInt c) from congrArg Value.int (Int32.ofInt_add a c)] at h
  exact lv_iadd C.1.1 C.1.2.1 hd h
theorem l_isub (C : CxL x v k1 k2 b L xs) {a c : Int} (hd : decode cL_law pc = .ok (.isub, 1)) (k : AtL x v Q k1 k2 (pc + 1) lv (vI (a - c) :: st) σ) : AtL x v Q k1 k2 pc lv (vI c :: vI a :: st) σ := by
  obtain ⟨p, l, e, R, s, m, args, below, meth, c9⟩ := x
  intro H locs ls hM hP hS hl
  have h := k H locs ls hM hP hS hl
  rw [show vI (a - c) = .int (Int32.ofInt a - Int32.ofInt c) from congrArg Value.int (Int32.ofInt_sub a c)] at h
  exact lv_isub C.1.1 C.1.2.1 hd h
theorem l_i2l (C : CxL x v k1 k2 b L xs) {a : Int} (ha : rg a) (hd : decode cL_law pc = .ok (.i2l, 1)) (k : AtL x v Q k1 k2 (pc + 1) lv (vJ a :: st) σ) : AtL x v Q k1 k2 pc lv (vI a :: st) σ := by
  obtain ⟨p, l, e, R, s, m, args, below, meth, c⟩ := x
  intro H locs ls hM hP hS hl
  exact lv_i2l C.1.1 C.1.2.1 hd (i32_to64 ha) (k H locs ls hM hP hS hl)
theorem l_lshl (C : CxL x v k1 k2 b L xs) {a : Int} (hd : decode cL_law pc = .ok (.lshl, 1)) (k : AtL x v Q k1 k2 (pc + 1) lv (.long (Int64.ofInt a <<< ((Int32.ofInt 32).toInt64 &&& 63)) :: st) σ) : AtL x v Q k1 k2 pc lv (vI 32 :: vJ a :: st) σ := by
  obtain ⟨p, l, e, R, s, m, args, below, meth, c⟩ := x
  intro H locs ls hM hP hS hl
  exact lv_lshl C.1.1 C.1.2.1 hd rfl (k H locs ls hM hP hS hl)
theorem l_land (C : CxL x v k1 k2 b L xs) {a : Int} (hd : decode cL_law pc = .ok (.land, 1)) (k : AtL x v Q k1 k2 (pc + 1) lv (.long (Int64.ofInt a &&& Int64.ofInt 4294967295) :: st) σ) : AtL x v Q k1 k2 pc lv (vJ 4294967295 :: vJ a :: st) σ := by
  obtain ⟨p, l, e, R, s, m, args, below, meth, c⟩ := x
  intro H locs ls hM hP hS hl
  exact lv_land C.1.1 C.1.2.1 hd (k H locs ls hM hP hS hl)
theorem l_lor (C : CxL x v k1 k2 b L xs) {a c : Int} (hd : decode cL_law pc = .ok (.lor, 1)) (k : AtL x v Q k1 k2 (pc + 1) lv (vJ (wdI a c) :: st) σ) : AtL x v Q k1 k2 pc lv (.long (Int64.ofInt c &&& Int64.ofInt 4294967295) :: .long (Int64.ofInt a <<< ((Int32.ofInt 32).toInt64 &&& 63)) :: st) σ := by
  obtain ⟨p, l, e, R, s, m, args, below, meth, c9⟩ := x
  intro H locs ls hM hP hS hl
  have h := k H locs ls hM hP hS hl
  rw [show vJ (wdI a c) = .long ((Int64.ofInt a <<< ((Int32.ofInt 32).toInt64 &&& 63)) ||| (Int64.ofInt c &&& Int64.ofInt 4294967295)) from congrArg Value.long (i64_of _).symm] at h
  exact lv_lor C.1.1 C.1.2.1 hd h
/-- the script's number at a place -/
theorem l_sld (C : CxL x v k1 k2 b L xs) {i : Int} (h0 : 0 ≤ i) (h1 : i < L) (hd : decode cL_law pc = .ok (.iaload, 1)) (k : AtL x v Q k1 k2 (pc + 1) lv (vI (scI xs i) :: st) σ) : AtL x v Q k1 k2 pc lv (vI i :: .ref b :: st) σ := by
  obtain ⟨p, l, e, R, s, m, args, below, meth, c⟩ := x
  obtain ⟨hfix, -, -, -, -, hX, hbl, hL⟩ := C
  intro H locs ls hM hP hS hl
  have h := k H locs ls hM hP hS hl
  rw [scI_v] at h
  refine va_sld (A := fun q : Nat => s.heap.size ≤ q) hfix.1 hfix.2.1 hX hbl (Nat.not_le.mpr hbl) hS (i32_in h0 h1 (by omega)) hd ?_
  rw [i32_clamp h0 (by omega)]
  exact h
theorem l_slen (C : CxL x v k1 k2 b L xs) (hd : decode cL_law pc = .ok (.arraylength, 1)) (k : AtL x v Q k1 k2 (pc + 1) lv (vI (L : Int) :: st) σ) : AtL x v Q k1 k2 pc lv (.ref b :: st) σ := by
  obtain ⟨p, l, e, R, s, m, args, below, meth, c⟩ := x
  obtain ⟨hfix, -, -, -, -, hX, hbl, hL⟩ := C
  intro H locs ls hM hP hS hl
  have h := k H locs ls hM hP hS hl
  rw [show vI (L : Int) = .int (Int32.ofNat L) from congrArg Value.int (by first | exact Int32.ofInt_eq_ofNat | rfl)] at h
  exact va_slen (A := fun q : Nat => s.heap.size ≤ q) hfix.1 hfix.2.1 hX hbl (Nat.not_le.mpr hbl) hS hd h
theorem l_iand (C : CxL x v k1 k2 b L xs) {a c : Int} (hd : decode cL_law pc = .ok (.iand, 1)) (k : ∀ z : Int, rg z → AtL x v Q k1 k2 (pc + 1) lv (vI z :: st) σ) : AtL x v Q k1 k2 pc lv (vI c :: vI a :: st) σ := by
  obtain ⟨p, l, e, R, s, m, args, below, meth, c9⟩ := x
  intro H locs ls hM hP hS hl
  have h := k (Int32.ofInt a &&& Int32.ofInt c).toInt (i32_rg _) H locs ls hM hP hS hl
  rw [show vI (Int32.ofInt a &&& Int32.ofInt c).toInt = .int (Int32.ofInt a &&& Int32.ofInt c) from congrArg Value.int (i32_of _).symm] at h
  exact lv_iand C.1.1 C.1.2.1 hd h
theorem l_goto (C : CxL x v k1 k2 b L xs) {off : Int} (tgt : Nat) (hd : decode cL_law pc = .ok (.goto off, 3)) (ht : (pc : Int) + off = (tgt : Int)) (k : AtL x v Q k1 k2 tgt lv st σ) : AtL x v Q k1 k2 pc lv st σ := by
  obtain ⟨p, l, e, R, s, m, args, below, meth, c⟩ := x
  intro H locs ls hM hP hS hl
  exact lv_goto C.1.1 C.1.2.1 hd ht (k H locs ls hM hP hS hl)
theorem l_iinc (C : CxL x v k1 k2 b L xs) {j : Nat} {i z : Int} (z' : Int) (lv' : List (Nat × Value)) (hd : decode cL_law pc = .ok (.iinc j i, 3)) (p0 : Nat) (hp : lv[p0]? = some (j, vI z)) (hz : z' = z + i) (hn : j < 4) (hl0 : (j, vI z') :: lk1 j lv = lv') (k : AtL x v Q k1 k2 (pc + 3) lv' st σ) : AtL x v Q k1 k2 pc lv st σ := by
  obtain ⟨p, l, e, R, s, m, args, below, meth, c⟩ := x
  intro H locs ls hM hP hS hl
  exact lv_iinc (v := Int32.ofInt z') C.1.1 C.1.2.1 hd hl hp (by rw [hz]; exact (Int32.ofInt_add z i).symm) hn hl0 (fun ls hl => k H locs ls hM hP hS hl)
theorem l_icmp_eq (C : CxL x v k1 k2 b L xs) {a c : Int} {off : Int} (tgt : Nat) (ha : rg a) (hb : rg c) (hd : decode cL_law pc = .ok (.if_icmp .eq off, 3)) (ht : (pc : Int) + off = (tgt : Int)) (kt : a = c → AtL x v Q k1 k2 tgt lv st σ) (kf : ¬ a = c → AtL x v Q k1 k2 (pc + 3) lv st σ) : AtL x v Q k1 k2 pc lv (vI c :: vI a :: st) σ := by
  obtain ⟨p, l, e, R, s, m, args, below, meth, c9⟩ := x
  intro H locs ls hM hP hS hl
  exact lv_icmp_eq C.1.1 C.1.2.1 hd ht (fun h => kt ((i32_eq ha hb).mp h) H locs ls hM hP hS hl) (fun h => kf (fun q => h ((i32_eq ha hb).mpr q)) H locs ls hM hP hS hl)
theorem l_icmp_gt (C : CxL x v k1 k2 b L xs) {a c : Int} {off : Int} (tgt : Nat) (ha : rg a) (hb : rg c) (hd : decode cL_law pc = .ok (.if_icmp .gt off, 3)) (ht : (pc : Int) + off = (tgt : Int)) (kt : c < a → AtL x v Q k1 k2 tgt lv st σ) (kf : a ≤ c → AtL x v Q k1 k2 (pc + 3) lv st σ) : AtL x v Q k1 k2 pc lv (vI c :: vI a :: st) σ := by
  obtain ⟨p, l, e, R, s, m, args, below, meth, c9⟩ := x
  intro H locs ls hM hP hS hl
  exact lv_icmp_gt C.1.1 C.1.2.1 hd ht (fun h => kt ((i32_lt hb ha).mp h) H locs ls hM hP hS hl) (fun h => kf (by have h2 := mt (i32_lt hb ha).mpr h; omega) H locs ls hM hP hS hl)
theorem l_if_eq (C : CxL x v k1 k2 b L xs) {a : Int} {off : Int} (tgt : Nat) (ha : rg a) (hd : decode cL_law pc = .ok (.ifCond .eq off, 3)) (ht : (pc : Int) + off = (tgt : Int)) (kt : a = 0 → AtL x v Q k1 k2 tgt lv st σ) (kf : ¬ a = 0 → AtL x v Q k1 k2 (pc + 3) lv st σ) : AtL x v Q k1 k2 pc lv (vI a :: st) σ := by
  obtain ⟨p, l, e, R, s, m, args, below, meth, c⟩ := x
  intro H locs ls hM hP hS hl
  have h0 : rg 0 := by omega
  exact lv_if_eq C.1.1 C.1.2.1 hd ht (fun h => kt ((i32_eq ha h0).mp h) H locs ls hM hP hS hl) (fun h => kf (fun q => h ((i32_eq ha h0).mpr q)) H locs ls hM hP hS hl)
theorem l_lcmp (C : CxL x v k1 k2 b L xs) {a c : Int} (ha : rgL a) (hb : rgL c) (hd : decode cL_law pc = .ok (.lcmp, 1)) (k : ∀ z : Int, (z = 1 ∧ c < a) ∨ (z = 0 ∧ a = c) ∨ (z = -1 ∧ a < c) → rg z → AtL x v Q k1 k2 (pc + 1) lv (vI z :: st) σ) : AtL x v Q k1 k2 pc lv (vJ c :: vJ a :: st) σ := by
  obtain ⟨p, l, e, R, s, m, args, below, meth, c9⟩ := x
  intro H locs ls hM hP hS hl
  refine W.lcmp C.1.1 C.1.2.1 hd ?_
  rw [lc_val ha hb]
  exact k _ (by (repeat' split) <;> omega) (by (repeat' split) <;> omega) H locs ls hM hP hS hl
theorem l_tsOut (C : CxL x v k1 k2 b L xs) {dflt lw hi : Int} {offs : Array Int} {len : Nat} {a : Int} (tgt : Nat) (ha : rg a) (hd : decode cL_law pc = .ok (.tableswitch dflt lw hi offs, len)) (h : a < lw ∨ hi < a) (ht : (pc : Int) + dflt = (tgt : Int)) (k : AtL x v Q k1 k2 tgt lv st σ) : AtL x v Q k1 k2 pc lv (vI a :: st) σ := by
  obtain ⟨p, l, e, R, s, m, args, below, meth, c⟩ := x
  intro H locs ls hM hP hS hl
  exact lv_tableOut C.1.1 C.1.2.1 hd (by rw [i32_toInt ha]; exact h) ht (k H locs ls hM hP hS hl)
theorem l_tsIn (C : CxL x v k1 k2 b L xs) {dflt lw hi : Int} {offs : Array Int} {len : Nat} {a off : Int} (tgt : Nat) (ha : rg a) (hd : decode cL_law pc = .ok (.tableswitch dflt lw hi offs, len)) (h1 : lw ≤ a) (h2 : a ≤ hi) (ho : offs[(a - lw).toNat]? = some off) (ht : (pc : Int) + off = (tgt : Int)) (k : AtL x v Q k1 k2 tgt lv st σ) : AtL x v Q k1 k2 pc lv (vI a :: st) σ := by
  obtain ⟨p, l, e, R, s, m, args, below, meth, c⟩ := x
  intro H locs ls hM hP hS hl
  exact lv_tableIn C.1.1 C.1.2.1 hd (by rw [i32_toInt ha]; omega) (by rw [i32_toInt ha]; omega) (by rw [i32_toInt ha]; exact ho) ht (k H locs ls hM hP hS hl)
variable {y : MethodName} {ws ws' : List Cond} {fr' lo' maxL index k0 o ci N : Nat} {bytes : ByteArray} {ret : Option FieldType} {Cn : String} {T : u_T} {As : List Value} {fs : (Int → Int) → List Value}
theorem l_runV (C : CxL x v k1 k2 b L xs) {Qc : Nat → Array Value → State → Outcome → State → Prop} {fre : Nat → Addr → Prop} (hM : ∀ sz : Nat, Met x.2.1 y ws (rmO fr' lo') (va_Pc (.ref (vq v o) :: As) (PB v σ sz)) (Qc sz) 0 0 (fre sz)) (hG : GoodIn wsL_law (wsV RL index Cn y ws)) (hw : ws = Cond.code y bytes maxL ret :: ws') (hd0 : y.cls = Cn ∧ y.cls ≠ "java/lang/invoke/MethodHandle" ∧ y.cls ≠ "java/lang/invoke/VarHandle" ∧ (parseMethodDescriptor y.desc).map (fun d => d.parameters.length) = some k0) (hR : fr' + 1 ≤ 8 ∧ 8 + (maxL + 11) + lo' ≤ 330) (hF : vF v o = fun g => .inr (ci, fs g)) (hc : vwCl[ci]? = some (Cn, T, N)) (hb : o < vN v) (hn : As.length = k0) (hst : st = As.reverse ++ .ref (vq v o) :: rest) (hWc : (rest.map fun w => w.category).sum ≤ 8) (hd : decode cL_law pc = .ok (.invokevirtual index, 3))
    {p : Program} {l : Launch} {e : Env} {R : Room} {s : State} {m : MethodId} {args : Array Value} {below : List Frame} {meth : Method} {c : Code} (hx : x = (p, l, e, R, s, m, args, below, meth, c)) {H : Heap} {locs : List Loc} {ls : Array Slot} (hM0 : MemR σ) (hP : va_P (vD v) vwCl (wo v σ) H) (hl : lv_has ls 4 lv) :
    va_Run p l e R s m args below meth c H locs k1 k2 0 0 (F0 m pc ls st) rest (Qc H.size (Value.ref (vq v o) :: As).toArray) (fre H.size) := by
  subst hx
  obtain ⟨hfix, ⟨hf1, hf2, hf3, hf4⟩, hK, hD, hN, -⟩ := C
  exact va_runV (As := As) (rest := rest) hfix (hM H.size) (cwV k0 hfix.2.2.2.2 hG hw rfl rfl hd0 (by rw [hf1, hf2]; exact hR)) ⟨PB_blind, va_recv hK hP hc (by rw [wo_get hb, hF]), fun U hU hW => ⟨rfl, a_pre v σ hM0 hP hK (hD σ) hN hU hW⟩⟩ rfl hn hl.1 hst (lv_room hWc) hd ⟨hf3, hf4⟩
theorem l_cVI (C : CxL x v k1 k2 b L xs) {post : Int → Mem → Prop} (hM : CtI x.2.1 y ws fr' lo' v (.ref (vq v o) :: As) σ post) (hG : GoodIn wsL_law (wsV RL index Cn y ws)) (hw : ws = Cond.code y bytes maxL ret :: ws') (hd0 : y.cls = Cn ∧ y.cls ≠ "java/lang/invoke/MethodHandle" ∧ y.cls ≠ "java/lang/invoke/VarHandle" ∧ (parseMethodDescriptor y.desc).map (fun d => d.parameters.length) = some k0) (hR : fr' + 1 ≤ 8 ∧ 8 + (maxL + 11) + lo' ≤ 330) (hF : vF v o = fun g => .inr (ci, fs g)) (hc : vwCl[ci]? = some (Cn, T, N)) (hb : o < vN v) (hn : As.length = k0) (hst : st = As.reverse ++ .ref (vq v o) :: rest) (hWc : (rest.map fun w => w.category).sum ≤ 8) (hd : decode cL_law pc = .ok (.invokevirtual index, 3)) (kk : ∀ z u, rg z → post z u → AtL x v Q k1 k2 (pc + 3) lv (vI z :: rest) u) : AtL x v Q k1 k2 pc lv st σ := by
  obtain ⟨p, l, e, R, s, m, args, below, meth, c⟩ := x
  intro H locs ls hM0 hP hS hl
  refine va_calli (l_runV C hM hG hw hd0 hR hF hc hb hn hst hWc hd rfl hM0 hP hl) hS (fun q _ h => hA1 (C.2.2.2.1 σ) (fun _ z => z) hS q h) (fun q h => hA1 (C.2.2.2.1 σ) (fun _ z => z) hS q h) (fun r u t H1 locs1 ht hvm hw2 hB hz1 hk1 hS1 => ?_)
  obtain ⟨z, rfl, hz, hp⟩ := hw2
  exact kk z u hz hp H1 locs1 ls hB.1 (by rw [← ht]; exact hB.2.1) hS1 hl
theorem l_cVL (C : CxL x v k1 k2 b L xs) {post : Int → Mem → Prop} (hM : CtL x.2.1 y ws fr' lo' v (.ref (vq v o) :: As) σ post) (hG : GoodIn wsL_law (wsV RL index Cn y ws)) (hw : ws = Cond.code y bytes maxL ret :: ws') (hd0 : y.cls = Cn ∧ y.cls ≠ "java/lang/invoke/MethodHandle" ∧ y.cls ≠ "java/lang/invoke/VarHandle" ∧ (parseMethodDescriptor y.desc).map (fun d => d.parameters.length) = some k0) (hR : fr' + 1 ≤ 8 ∧ 8 + (maxL + 11) + lo' ≤ 330) (hF : vF v o = fun g => .inr (ci, fs g)) (hc : vwCl[ci]? = some (Cn, T, N)) (hb : o < vN v) (hn : As.length = k0) (hst : st = As.reverse ++ .ref (vq v o) :: rest) (hWc : (rest.map fun w => w.category).sum ≤ 8) (hd : decode cL_law pc = .ok (.invokevirtual index, 3)) (kk : ∀ z u, rgL z → post z u → AtL x v Q k1 k2 (pc + 3) lv (vJ z :: rest) u) : AtL x v Q k1 k2 pc lv st σ := by
  obtain ⟨p, l, e, R, s, m, args, below, meth, c⟩ := x
  intro H locs ls hM0 hP hS hl
  refine va_calll (l_runV C hM hG hw hd0 hR hF hc hb hn hst hWc hd rfl hM0 hP hl) hS (fun q _ h => hA1 (C.2.2.2.1 σ) (fun _ z => z) hS q h) (fun q h => hA1 (C.2.2.2.1 σ) (fun _ z => z) hS q h) (fun r u t H1 locs1 ht hvm hw2 hB hz1 hk1 hS1 => ?_)
  obtain ⟨z, rfl, hz, hp⟩ := hw2
  exact kk z u hz hp H1 locs1 ls hB.1 (by rw [← ht]; exact hB.2.1) hS1 hl
end Lw
theorem JI.cg {σ u : Mem} {n : Int} (h : JI σ n) (h1 : ∀ a : Nat, 11 ≤ a → a ≤ 40 → u a = σ a) : JI u n := by
  obtain ⟨w, hw, hs⟩ := h
  exact ⟨w, fun i i0 i1 => ⟨(hw i i0 i1).1, jcol_congr (fun a q1 q2 => h1 a (by omega) (by omega)) (hw i i0 i1).2⟩, hs⟩
theorem moV_up {σ u : Mem} {b : Nat} {c : Int} (h : ∀ a : Nat, b ≤ a → u a = σ a) : moV u b c = moV σ b c := by
  unfold moV
  rw [h (b + 11) (by omega), h (b + 15) (by omega), h (b + 16) (by omega), h (b + 17) (by omega)]
