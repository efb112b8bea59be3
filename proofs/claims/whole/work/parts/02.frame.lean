abbrev vwCl : List vw_C := [(RX0, TX0, 5), (RX1, TX1, 2), (RX2, TX2, 5), (RX3, TX3, 4), (RX4, TX4, 7), (RX5, TX5, 4), (RX6, TX6, 6), (RX7, TX7, 30)]
/-! ===== ints as numbers; a memory of numbers; a world of cells that never moves ===== -/
abbrev rg (x : Int) : Prop := -2147483648 ≤ x ∧ x ≤ 2147483647
abbrev rgL (x : Int) : Prop := -9223372036854775808 ≤ x ∧ x ≤ 9223372036854775807
def vI (x : Int) : Value := .int (Int32.ofInt x)
def vJ (x : Int) : Value := .long (Int64.ofInt x)
theorem vI_cat (x : Int) : (vI x).category = 1 := rfl
theorem vJ_cat (x : Int) : (vJ x).category = 2 := rfl
theorem i32_toInt {x : Int} (h : rg x) : (Int32.ofInt x).toInt = x := by
  rw [Int32.toInt_ofInt]
  have e : (Int32.size : Int) = 4294967296 := rfl
  exact Int.bmod_eq_of_le (by omega) (by omega)
theorem i64_toInt {x : Int} (h : rgL x) : (Int64.ofInt x).toInt = x := by
  rw [Int64.toInt_ofInt]
  have e : (Int64.size : Int) = 18446744073709551616 := rfl
  exact Int.bmod_eq_of_le (by omega) (by omega)
theorem i32_lt {x y : Int} (hx : rg x) (hy : rg y) : Int32.ofInt x < Int32.ofInt y ↔ x < y := by
  rw [Int32.lt_iff_toInt_lt, i32_toInt hx, i32_toInt hy]
theorem i32_le {x y : Int} (hx : rg x) (hy : rg y) : Int32.ofInt x ≤ Int32.ofInt y ↔ x ≤ y := by
  rw [Int32.le_iff_toInt_le, i32_toInt hx, i32_toInt hy]
theorem i32_eq {x y : Int} (hx : rg x) (hy : rg y) : Int32.ofInt x = Int32.ofInt y ↔ x = y := by
  constructor
  · intro h
    have h2 := congrArg Int32.toInt h
    rwa [i32_toInt hx, i32_toInt hy] at h2
  · intro h; rw [h]
theorem i64_lt {x y : Int} (hx : rgL x) (hy : rgL y) : Int64.ofInt x < Int64.ofInt y ↔ x < y := by
  rw [Int64.lt_iff_toInt_lt, i64_toInt hx, i64_toInt hy]
theorem i64_le {x y : Int} (hx : rgL x) (hy : rgL y) : Int64.ofInt x ≤ Int64.ofInt y ↔ x ≤ y := by
  rw [Int64.le_iff_toInt_le, i64_toInt hx, i64_toInt hy]
theorem i64_eq {x y : Int} (hx : rgL x) (hy : rgL y) : Int64.ofInt x = Int64.ofInt y ↔ x = y := by
  constructor
  · intro h
    have h2 := congrArg Int64.toInt h
    rwa [i64_toInt hx, i64_toInt hy] at h2
  · intro h; rw [h]
theorem i32_0 : (0 : Int32) = Int32.ofInt 0 := rfl
theorem i64_0 : (0 : Int64) = Int64.ofInt 0 := rfl
theorem i32_in {i : Int} {n : Nat} (h0 : 0 ≤ i) (h1 : i < n) (hn : n ≤ 2147483647) : vp_in (Int32.ofInt i) n := by
  rw [vp_in_iff, i32_toInt (by omega)]
  omega
theorem i32_clamp {i : Int} (h0 : 0 ≤ i) (h1 : i ≤ 2147483647) : (Int32.ofInt i).toNatClampNeg = i.toNat := by
  rw [← Int32.toNat_toInt, i32_toInt (by omega)]
theorem i32_of (x : Int32) : x = Int32.ofInt x.toInt := (Int32.ofInt_toInt x).symm
theorem i64_of (x : Int64) : x = Int64.ofInt x.toInt := (Int64.ofInt_toInt x).symm
theorem i32_rg (x : Int32) : rg x.toInt := ⟨Int32.le_toInt x, by have := Int32.toInt_lt x; omega⟩
theorem i64_rg (x : Int64) : rgL x.toInt := ⟨Int64.le_toInt x, by have := Int64.toInt_lt x; omega⟩
theorem i32_nar (x : Int) (h : x = 0 ∨ x = 1) : vp_nar .boolean (Int32.ofInt x) = Int32.ofInt x := by
  rcases h with rfl | rfl <;> decide +kernel
theorem i32_narB (x : Int) (h : x = 0 ∨ x = 1) : narrow .boolean (.int (Int32.ofInt x)) = .int (Int32.ofInt x) := by
  rcases h with rfl | rfl <;> decide +kernel
theorem i32_to64 {x : Int} (h : rg x) : (Int32.ofInt x).toInt64 = Int64.ofInt x := by
  rw [i64_of (Int32.ofInt x).toInt64, Int32.toInt_toInt64, i32_toInt h]
abbrev Mem : Type := Nat → Int → Int
/-- every number of the memory is one of the machine; from place 100000 on stand the longs -/
def MemR (σ : Mem) : Prop := ∀ (k : Nat) (j : Int), rgL (σ k j) ∧ (j < 100000 → rg (σ k j))
def sput (σ : Mem) (k : Nat) (j v : Int) : Mem := fun a b => if a = k ∧ b = j then v else σ a b
theorem sput_s (σ : Mem) (k : Nat) (j v : Int) : sput σ k j v k j = v := by simp [sput]
theorem sput_j (σ : Mem) (k : Nat) (j v b : Int) (h : b ≠ j) : sput σ k j v k b = σ k b := by simp [sput, h]
theorem sput_k (σ : Mem) (k a : Nat) (j v b : Int) (h : a ≠ k) : sput σ k j v a b = σ a b := by simp [sput, h]
theorem MemR.i {σ : Mem} (h : MemR σ) (k : Nat) (j : Int) (hj : j < 100000) : rg (σ k j) := (h k j).2 hj
theorem MemR.l {σ : Mem} (h : MemR σ) (k : Nat) (j : Int) : rgL (σ k j) := (h k j).1
theorem MemR.put {σ : Mem} (h : MemR σ) {k : Nat} {j v : Int} (hv : rg v) : MemR (sput σ k j v) := by
  intro a b
  simp only [sput]
  split
  · exact ⟨by omega, fun _ => hv⟩
  · exact h a b
theorem MemR.putL {σ : Mem} (h : MemR σ) {k : Nat} {j v : Int} (hj : 100000 ≤ j) (hv : rgL v) : MemR (sput σ k j v) := by
  intro a b
  simp only [sput]
  split
  · next e => exact ⟨hv, fun q => by have := e.2; omega⟩
  · exact h a b
/-- a world: the classes' numbers, the cells' addresses, how many, what a cell is by its part of the memory, the arrays' classes -/
abbrev VC : Type := va_G × (Nat → Nat) × Nat × (Nat → (Int → Int) → va_E) × List (ClassId × FieldType)
def vD (v : VC) : va_G := v.1
def vq (v : VC) : Nat → Nat := v.2.1
def vN (v : VC) : Nat := v.2.2.1
def vF (v : VC) : Nat → (Int → Int) → va_E := v.2.2.2.1
def vT (v : VC) : List (ClassId × FieldType) := v.2.2.2.2
def wo (v : VC) (σ : Mem) : va_W := (List.range (vN v)).map fun k => (vq v k, vF v k (σ k))
theorem wo_get {v : VC} {σ : Mem} {k : Nat} (h : k < vN v) : (wo v σ)[k]? = some (vq v k, vF v k (σ k)) := by
  simp [wo, h]
theorem wo_at {v : VC} {σ : Mem} {k : Nat} {q : Nat × va_E} (h : (wo v σ)[k]? = some q) : k < vN v ∧ q = (vq v k, vF v k (σ k)) := by
  rw [wo, List.getElem?_map] at h
  by_cases hk : k < vN v
  · rw [List.getElem?_range hk] at h
    exact ⟨hk, (Option.some.inj h).symm⟩
  · rw [List.getElem?_eq_none (by simp; omega)] at h
    cases h
theorem wo_set {v : VC} {σ τ : Mem} {k : Nat} {e : va_E} (h : vF v k (τ k) = e) (hτ : ∀ i, i ≠ k → τ i = σ i) : (wo v σ).set k (vq v k, e) = wo v τ := by
  apply List.ext_getElem?
  intro i
  rw [List.getElem?_set]
  by_cases hi : k = i
  · subst hi
    rw [if_pos rfl]
    by_cases hk : k < vN v
    · rw [if_pos (by simp [wo, hk]), wo_get hk, h]
    · rw [if_neg (by simp [wo, hk]), List.getElem?_eq_none (by simp [wo]; omega)]
  · rw [if_neg hi]
    simp only [wo, List.getElem?_map]
    by_cases hk : i < vN v
    · rw [List.getElem?_range hk]
      show some (vq v i, vF v i (σ i)) = some (vq v i, vF v i (τ i))
      rw [hτ i (fun z => hi z.symm)]
    · rw [List.getElem?_eq_none (by simp; omega)]
      rfl
theorem wo_D {v : VC} {σ τ : Mem} {A : Nat → Prop} (h : va_D A (wo v σ)) : va_D A (wo v τ) := by
  refine ⟨fun i j p q hi hj hpq => ?_, fun k q hk => ?_⟩
  · obtain ⟨h1, rfl⟩ := wo_at hi
    obtain ⟨h2, rfl⟩ := wo_at hj
    exact h.1 i j _ _ (wo_get h1) (wo_get h2) hpq
  · obtain ⟨h1, rfl⟩ := wo_at hk
    exact h.2 k (vq v k, vF v k (σ k)) (wo_get h1)
/-- the calls into a nest mate's private methods that two methods make -/
def NW (U : State) : Prop := va_Nw (.methodLinkNest RX0 40 yX6_isValue "SpanSketch") U ∧ va_Nw (.methodLinkNest RX5 32 yX6_isValueOrNone "SpanSketch") U
theorem NW.warm {s U : State} (hW : s.WarmedH U.vm) (h : NW s) : NW U := ⟨va_Nw.warmM hW h.1, va_Nw.warmM hW h.2⟩
theorem NW.same {u U : State} (hv : u.vm = U.vm) (h : NW u) : NW U := ⟨va_Nw.same rfl hv h.1, va_Nw.same rfl hv h.2⟩
abbrev XC : Type := Program × Launch × Env × Room × State × MethodId × Array Value × List Frame × Method × Code
/-- from here on, with these locals, this stack and this memory, it goes well -/
def At (x : XC) (v : VC) (A : Nat → Prop) (Q : State → Prop) (n pc : Nat) (lv : List (Nat × Value)) (st : List Value) (σ : Mem) : Prop :=
  match x with
  | (p, l, e, R, s, m, args, below, meth, c) => ∀ (H : Heap) (locs : List Loc) (ls : Array Slot), MemR σ → va_P (vD v) vwCl (wo v σ) H → va_S A s.heap H locs → lv_has ls n lv → W p l e R s m args below meth c H locs 0 0 Q (F0 m pc ls st)
/-- what a method's walk stands on -/
def Cx (x : XC) (v : VC) (A : Nat → Prop) (cc : ByteArray) (own : String) (n : Nat) (Ts : List Cond) (fr lo : Nat) : Prop :=
  match x with
  | (p, _, _, R, s, m, args, _, _, c) => CallFix p m c cc n s args Ts own ∧ R.frames = fr ∧ R.locals = lo ∧ va_K (vD v) vwCl (vT v) s ∧ (∀ σ : Mem, va_D A (wo v σ)) ∧ (∀ q : Nat, s.heap.size ≤ q → A q) ∧ NW s
def PB (v : VC) (σ : Mem) (sz : Nat) (U : State) : Prop := U.heap.size = sz ∧ MemR σ ∧ va_P (vD v) vwCl (wo v σ) U.heap ∧ va_K (vD v) vwCl (vT v) U ∧ va_D (fun _ => True) (wo v σ) ∧ NW U
def QB (v : VC) (A : Nat → Prop) (u : Mem) (t : State) : Prop := MemR u ∧ va_P (vD v) vwCl (wo v u) t.heap ∧ va_K (vD v) vwCl (vT v) t ∧ va_D A (wo v u)
abbrev rmO (fr lo : Nat) : Room := { frames := fr, cells := 0, slots := 0, locals := lo }
def CtI (l : Launch) (y : MethodName) (ws : List Cond) (fr lo : Nat) (v : VC) (as : List Value) (σ : Mem) (post : Int → Mem → Prop) : Prop :=
  ∀ sz : Nat, Met l y ws (rmO fr lo) (va_Pc as (PB v σ sz)) (va_Qi (fun (r : Int32) (u : Mem) => ∃ z : Int, r = Int32.ofInt z ∧ rg z ∧ post z u) (QB v (va_A (wo v σ) sz)) (va_A (wo v σ) sz)) 0 0 (va_A (wo v σ) sz)
def CtL (l : Launch) (y : MethodName) (ws : List Cond) (fr lo : Nat) (v : VC) (as : List Value) (σ : Mem) (post : Int → Mem → Prop) : Prop :=
  ∀ sz : Nat, Met l y ws (rmO fr lo) (va_Pc as (PB v σ sz)) (va_Ql (fun (r : Int64) (u : Mem) => ∃ z : Int, r = Int64.ofInt z ∧ rgL z ∧ post z u) (QB v (va_A (wo v σ) sz)) (va_A (wo v σ) sz)) 0 0 (va_A (wo v σ) sz)
def CtV (l : Launch) (y : MethodName) (ws : List Cond) (fr lo : Nat) (v : VC) (as : List Value) (σ : Mem) (post : Mem → Prop) : Prop :=
  ∀ sz : Nat, Met l y ws (rmO fr lo) (va_Pc as (PB v σ sz)) (va_Qv post (QB v (va_A (wo v σ) sz)) (va_A (wo v σ) sz)) 0 0 (va_A (wo v σ) sz)
def CtQ (l : Launch) (y : MethodName) (ws : List Cond) (fr lo : Nat) (v : VC) (as : List Value) (σ : Mem) (post : Option Nat → Mem → Prop) : Prop :=
  ∀ sz : Nat, Met l y ws (rmO fr lo) (va_Pc as (PB v σ sz)) (va_Qq (fun (r : Option Nat) (u : Mem) => ∃ z : Option Nat, r = z.map (vq v) ∧ post z u) (QB v (va_A (wo v σ) sz)) (va_A (wo v σ) sz)) 0 0 (va_A (wo v σ) sz)
theorem PB_blind {v : VC} {σ : Mem} {sz : Nat} {as : List Value} : FrameBlind (va_Pc as (PB v σ sz)) := by
  intro a U g mk q
  obtain ⟨q1, q2, q3, q4, q5, q6, q7⟩ := q
  exact ⟨q1, q2, q3, q4, va_K.moved (u := U) (U := U.calling g mk a) (Vm.Alike.refl U.vm) q5, q6, NW.same (u := U) (U := U.calling g mk a) rfl q7⟩
theorem hA1 {v : VC} {A : Nat → Prop} {σ : Mem} {H0 H : Heap} {locs : List Loc} (hD : va_D A (wo v σ)) (hA : ∀ q : Nat, H0.size ≤ q → A q) (hS : va_S A H0 H locs) (q : Nat) (h : va_A (wo v σ) H.size q) : A q := by
  rcases h with ⟨k, e, h⟩ | h
  · exact hD.2 k _ h
  · exact hA q (Nat.le_trans hS.1 h)
section St
variable {x : XC} {v : VC} {A : Nat → Prop} {Q : State → Prop} {n pc : Nat} {lv : List (Nat × Value)} {st : List Value} {σ : Mem} {cc : ByteArray} {own : String} {Ts : List Cond} {fr lo : Nat}
/-! one row an instruction -/
theorem a_iconst (C : Cx x v A cc own n Ts fr lo) {i : Int} (hd : decode cc pc = .ok (.iconst i, 1)) (k : At x v A Q n (pc + 1) lv (vI i :: st) σ) : At x v A Q n pc lv st σ := by
  obtain ⟨p, l, e, R, s, m, args, below, meth, c⟩ := x
  intro H locs ls hM hP hS hl
  exact lv_iconst C.1.1 C.1.2.1 hd rfl (k H locs ls hM hP hS hl)
theorem a_bipush (C : Cx x v A cc own n Ts fr lo) {i : Int} (hd : decode cc pc = .ok (.bipush i, 2)) (k : At x v A Q n (pc + 2) lv (vI i :: st) σ) (hv : (Int8.ofInt i).toInt32 = Int32.ofInt i := by decide +kernel) : At x v A Q n pc lv st σ := by
  obtain ⟨p, l, e, R, s, m, args, below, meth, c⟩ := x
  intro H locs ls hM hP hS hl
  exact lv_bipush C.1.1 C.1.2.1 hd hv (k H locs ls hM hP hS hl)
theorem a_sipush (C : Cx x v A cc own n Ts fr lo) {i : Int} (hd : decode cc pc = .ok (.sipush i, 3)) (k : At x v A Q n (pc + 3) lv (vI i :: st) σ) (hv : (Int16.ofInt i).toInt32 = Int32.ofInt i := by decide +kernel) : At x v A Q n pc lv st σ := by
  obtain ⟨p, l, e, R, s, m, args, below, meth, c⟩ := x
  intro H locs ls hM hP hS hl
  exact lv_sipush C.1.1 C.1.2.1 hd hv (k H locs ls hM hP hS hl)
theorem a_lconst (C : Cx x v A cc own n Ts fr lo) {i : Fin 2} (z : Int) (hd : decode cc pc = .ok (.lconst i, 1)) (hv : Int64.ofNat (i : Nat) = Int64.ofInt z) (k : At x v A Q n (pc + 1) lv (vJ z :: st) σ) : At x v A Q n pc lv st σ := by
  obtain ⟨p, l, e, R, s, m, args, below, meth, c⟩ := x
  intro H locs ls hM hP hS hl
  exact lv_lconst C.1.1 C.1.2.1 hd hv (k H locs ls hM hP hS hl)
theorem a_ldc (C : Cx x v A cc own n Ts fr lo) {index : Nat} {w : Int32} (z : Int) (hm : Cond.constant own index w ∈ Ts) (hv : w = Int32.ofInt z) (hd : decode cc pc = .ok (.ldc index, 2)) (k : At x v A Q n (pc + 2) lv (vI z :: st) σ) : At x v A Q n pc lv st σ := by
  obtain ⟨p, l, e, R, s, m, args, below, meth, c⟩ := x
  intro H locs ls hM hP hS hl
  subst hv
  exact lv_ldc C.1.1 C.1.2.1 C.1.2.2.2.1 (C.1.2.2.2.2 _ hm) hd (k H locs ls hM hP hS hl)
theorem a_ldc2 (C : Cx x v A cc own n Ts fr lo) {index : Nat} {w : Int64} (z : Int) (hm : Cond.constantLong own index w ∈ Ts) (hv : w = Int64.ofInt z) (hd : decode cc pc = .ok (.ldc2_w index, 3)) (k : At x v A Q n (pc + 3) lv (vJ z :: st) σ) : At x v A Q n pc lv st σ := by
  obtain ⟨p, l, e, R, s, m, args, below, meth, c⟩ := x
  intro H locs ls hM hP hS hl
  subst hv
  exact lv_ldc2 C.1.1 C.1.2.1 C.1.2.2.2.1 (C.1.2.2.2.2 _ hm) hd (k H locs ls hM hP hS hl)
theorem a_iload_n (C : Cx x v A cc own n Ts fr lo) {i : Fin 4} {j : Nat} {z : Int} (hd : decode cc pc = .ok (.iload_n i, 1)) (p0 : Nat) (hj : (i : Nat) = j) (hl0 : lv[p0]? = some (j, vI z)) (k : At x v A Q n (pc + 1) lv (vI z :: st) σ) : At x v A Q n pc lv st σ := by
  obtain ⟨p, l, e, R, s, m, args, below, meth, c⟩ := x
  intro H locs ls hM hP hS hl
  exact lv_iload_n C.1.1 C.1.2.1 hd hj (lv_at hl p0 hl0) (k H locs ls hM hP hS hl)
theorem a_iload (C : Cx x v A cc own n Ts fr lo) {j : Nat} {z : Int} (hd : decode cc pc = .ok (.iload j, 2)) (p0 : Nat) (hl0 : lv[p0]? = some (j, vI z)) (k : At x v A Q n (pc + 2) lv (vI z :: st) σ) : At x v A Q n pc lv st σ := by
  obtain ⟨p, l, e, R, s, m, args, below, meth, c⟩ := x
  intro H locs ls hM hP hS hl
  exact lv_iload C.1.1 C.1.2.1 hd (lv_at hl p0 hl0) (k H locs ls hM hP hS hl)
theorem a_lload_n (C : Cx x v A cc own n Ts fr lo) {i : Fin 4} {j : Nat} {z : Int} (hd : decode cc pc = .ok (.lload_n i, 1)) (p0 : Nat) (hj : (i : Nat) = j) (hl0 : lv[p0]? = some (j, vJ z)) (k : At x v A Q n (pc + 1) lv (vJ z :: st) σ) : At x v A Q n pc lv st σ := by
  obtain ⟨p, l, e, R, s, m, args, below, meth, c⟩ := x
  intro H locs ls hM hP hS hl
  exact lv_lload_n C.1.1 C.1.2.1 hd hj (lv_at hl p0 hl0) (k H locs ls hM hP hS hl)
theorem a_lload (C : Cx x v A cc own n Ts fr lo) {j : Nat} {z : Int} (hd : decode cc pc = .ok (.lload j, 2)) (p0 : Nat) (hl0 : lv[p0]? = some (j, vJ z)) (k : At x v A Q n (pc + 2) lv (vJ z :: st) σ) : At x v A Q n pc lv st σ := by
  obtain ⟨p, l, e, R, s, m, args, below, meth, c⟩ := x
  intro H locs ls hM hP hS hl
  exact lv_lload C.1.1 C.1.2.1 hd (lv_at hl p0 hl0) (k H locs ls hM hP hS hl)
theorem a_aload_n (C : Cx x v A cc own n Ts fr lo) {i : Fin 4} {j : Nat} {z : Nat} (hd : decode cc pc = .ok (.aload_n i, 1)) (p0 : Nat) (hj : (i : Nat) = j) (hl0 : lv[p0]? = some (j, .ref z)) (k : At x v A Q n (pc + 1) lv (.ref z :: st) σ) : At x v A Q n pc lv st σ := by
  obtain ⟨p, l, e, R, s, m, args, below, meth, c⟩ := x
  intro H locs ls hM hP hS hl
  exact lv_aload_n C.1.1 C.1.2.1 hd hj (lv_at hl p0 hl0) (k H locs ls hM hP hS hl)
theorem a_aload (C : Cx x v A cc own n Ts fr lo) {j : Nat} {z : Nat} (hd : decode cc pc = .ok (.aload j, 2)) (p0 : Nat) (hl0 : lv[p0]? = some (j, .ref z)) (k : At x v A Q n (pc + 2) lv (.ref z :: st) σ) : At x v A Q n pc lv st σ := by
  obtain ⟨p, l, e, R, s, m, args, below, meth, c⟩ := x
  intro H locs ls hM hP hS hl
  exact lv_aload C.1.1 C.1.2.1 hd (lv_at hl p0 hl0) (k H locs ls hM hP hS hl)
theorem a_aload_nN (C : Cx x v A cc own n Ts fr lo) {i : Fin 4} {j : Nat} (hd : decode cc pc = .ok (.aload_n i, 1)) (p0 : Nat) (hj : (i : Nat) = j) (hl0 : lv[p0]? = some (j, .null)) (k : At x v A Q n (pc + 1) lv (.null :: st) σ) : At x v A Q n pc lv st σ := by
  obtain ⟨p, l, e, R, s, m, args, below, meth, c⟩ := x
  intro H locs ls hM hP hS hl
  exact lv_aload_nN C.1.1 C.1.2.1 hd hj (lv_at hl p0 hl0) (k H locs ls hM hP hS hl)
theorem a_aloadN (C : Cx x v A cc own n Ts fr lo) {j : Nat} (hd : decode cc pc = .ok (.aload j, 2)) (p0 : Nat) (hl0 : lv[p0]? = some (j, .null)) (k : At x v A Q n (pc + 2) lv (.null :: st) σ) : At x v A Q n pc lv st σ := by
  obtain ⟨p, l, e, R, s, m, args, below, meth, c⟩ := x
  intro H locs ls hM hP hS hl
  exact lv_aloadN C.1.1 C.1.2.1 hd (lv_at hl p0 hl0) (k H locs ls hM hP hS hl)
/-- what stays of the listed locals when place i is written -/
def lk1 (i : Nat) (lv : List (Nat × Value)) : List (Nat × Value) := lv.filter (fun q => !(q.1 == i) && !(q.1 + 1 == i && q.2.category == 2))
def lk2 (i : Nat) (lv : List (Nat × Value)) : List (Nat × Value) := lv.filter (fun q => !(q.1 == i) && (!(q.1 == i + 1) && !(q.1 + 1 == i && q.2.category == 2)))
theorem a_istore_n (C : Cx x v A cc own n Ts fr lo) {i : Fin 4} (j : Nat) {z : Int} (lv' : List (Nat × Value)) (hd : decode cc pc = .ok (.istore_n i, 1)) (hj : (i : Nat) = j) (hn : j < n) (hl0 : (j, vI z) :: lk1 j lv = lv') (k : At x v A Q n (pc + 1) lv' st σ) : At x v A Q n pc lv (vI z :: st) σ := by
  obtain ⟨p, l, e, R, s, m, args, below, meth, c⟩ := x
  intro H locs ls hM hP hS hl
  exact lv_istore_n C.1.1 C.1.2.1 hd hj hl hn hl0 (fun ls hl => k H locs ls hM hP hS hl)
theorem a_istore (C : Cx x v A cc own n Ts fr lo) {j : Nat} {z : Int} (lv' : List (Nat × Value)) (hd : decode cc pc = .ok (.istore j, 2)) (hn : j < n) (hl0 : (j, vI z) :: lk1 j lv = lv') (k : At x v A Q n (pc + 2) lv' st σ) : At x v A Q n pc lv (vI z :: st) σ := by
  obtain ⟨p, l, e, R, s, m, args, below, meth, c⟩ := x
  intro H locs ls hM hP hS hl
  exact lv_istore C.1.1 C.1.2.1 hd hl hn hl0 (fun ls hl => k H locs ls hM hP hS hl)
theorem a_lstore_n (C : Cx x v A cc own n Ts fr lo) {i : Fin 4} (j : Nat) {z : Int} (lv' : List (Nat × Value)) (hd : decode cc pc = .ok (.lstore_n i, 1)) (hj : (i : Nat) = j) (hn : j + 1 < n) (hl0 : (j, vJ z) :: lk2 j lv = lv') (k : At x v A Q n (pc + 1) lv' st σ) : At x v A Q n pc lv (vJ z :: st) σ := by
  obtain ⟨p, l, e, R, s, m, args, below, meth, c⟩ := x
  intro H locs ls hM hP hS hl
  exact lv_lstore_n C.1.1 C.1.2.1 hd hj hl hn hl0 (fun ls hl => k H locs ls hM hP hS hl)
theorem a_lstore (C : Cx x v A cc own n Ts fr lo) {j : Nat} {z : Int} (lv' : List (Nat × Value)) (hd : decode cc pc = .ok (.lstore j, 2)) (hn : j + 1 < n) (hl0 : (j, vJ z) :: lk2 j lv = lv') (k : At x v A Q n (pc + 2) lv' st σ) : At x v A Q n pc lv (vJ z :: st) σ := by
  obtain ⟨p, l, e, R, s, m, args, below, meth, c⟩ := x
  intro H locs ls hM hP hS hl
  exact lv_lstore C.1.1 C.1.2.1 hd hl hn hl0 (fun ls hl => k H locs ls hM hP hS hl)
theorem a_astore_n (C : Cx x v A cc own n Ts fr lo) {i : Fin 4} (j : Nat) {z : Nat} (lv' : List (Nat × Value)) (hd : decode cc pc = .ok (.astore_n i, 1)) (hj : (i : Nat) = j) (hn : j < n) (hl0 : (j, .ref z) :: lk1 j lv = lv') (k : At x v A Q n (pc + 1) lv' st σ) : At x v A Q n pc lv (.ref z :: st) σ := by
  obtain ⟨p, l, e, R, s, m, args, below, meth, c⟩ := x
  intro H locs ls hM hP hS hl
  exact lv_astore_n C.1.1 C.1.2.1 hd hj hl hn hl0 (fun ls hl => k H locs ls hM hP hS hl)
theorem a_astore_nN (C : Cx x v A cc own n Ts fr lo) {i : Fin 4} (j : Nat) (lv' : List (Nat × Value)) (hd : decode cc pc = .ok (.astore_n i, 1)) (hj : (i : Nat) = j) (hn : j < n) (hl0 : (j, .null) :: lk1 j lv = lv') (k : At x v A Q n (pc + 1) lv' st σ) : At x v A Q n pc lv (.null :: st) σ := by
  obtain ⟨p, l, e, R, s, m, args, below, meth, c⟩ := x
  intro H locs ls hM hP hS hl
  exact lv_astore_nN C.1.1 C.1.2.1 hd hj hl hn hl0 (fun ls hl => k H locs ls hM hP hS hl)
theorem a_iinc (C : Cx x v A cc own n Ts fr lo) {j : Nat} {i z : Int} (z' : Int) (lv' : List (Nat × Value)) (hd : decode cc pc = .ok (.iinc j i, 3)) (p0 : Nat) (hp : lv[p0]? = some (j, vI z)) (hz : z' = z + i) (hn : j < n) (hl0 : (j, vI z') :: lk1 j lv = lv') (k : At x v A Q n (pc + 3) lv' st σ) : At x v A Q n pc lv st σ := by
  obtain ⟨p, l, e, R, s, m, args, below, meth, c⟩ := x
  intro H locs ls hM hP hS hl
  exact lv_iinc (v := Int32.ofInt z') C.1.1 C.1.2.1 hd hl hp (by rw [hz]; exact (Int32.ofInt_add z i).symm) hn hl0 (fun ls hl => k H locs ls hM hP hS hl)
/-- fewer locals are listed, in any order -/
theorem a_sub (ks : List Nat) (lv' : List (Nat × Value)) (hp : lv_pick lv ks = lv') (k : At x v A Q n pc lv' st σ) : At x v A Q n pc lv st σ := by
  obtain ⟨p, l, e, R, s, m, args, below, meth, c⟩ := x
  intro H locs ls hM hP hS hl
  exact k H locs ls hM hP hS (lv_sub hl ks hp)
theorem a_mem (h : MemR σ → At x v A Q n pc lv st σ) : At x v A Q n pc lv st σ := by
  obtain ⟨p, l, e, R, s, m, args, below, meth, c⟩ := x
  intro H locs ls hM hP hS hl
  exact h hM H locs ls hM hP hS hl
theorem a_iadd (C : Cx x v A cc own n Ts fr lo) {a b : Int} (hd : decode cc pc = .ok (.iadd, 1)) (k : At x v A Q n (pc + 1) lv (vI (a + b) :: st) σ) : At x v A Q n pc lv (vI b :: vI a :: st) σ := by
  obtain ⟨p, l, e, R, s, m, args, below, meth, c⟩ := x
  intro H locs ls hM hP hS hl
  have h := k H locs ls hM hP hS hl
  rw [show vI (a + b) = .int (Int32.ofInt a + Int32.ofInt b) from congrArg Value.int (Int32.ofInt_add a b)] at h
  exact lv_iadd C.1.1 C.1.2.1 hd h
theorem a_isub (C : Cx x v A cc own n Ts fr lo) {a b : Int} (hd : decode cc pc = .ok (.isub, 1)) (k : At x v A Q n (pc + 1) lv (vI (a - b) :: st) σ) : At x v A Q n pc lv (vI b :: vI a :: st) σ := by
  obtain ⟨p, l, e, R, s, m, args, below, meth, c⟩ := x
  intro H locs ls hM hP hS hl
  have h := k H locs ls hM hP hS hl
  rw [show vI (a - b) = .int (Int32.ofInt a - Int32.ofInt b) from congrArg Value.int (Int32.ofInt_sub a b)] at h
  exact lv_isub C.1.1 C.1.2.1 hd h
theorem a_imul (C : Cx x v A cc own n Ts fr lo) {a b : Int} (hd : decode cc pc = .ok (.imul, 1)) (k : At x v A Q n (pc + 1) lv (vI (a * b) :: st) σ) : At x v A Q n pc lv (vI b :: vI a :: st) σ := by
  obtain ⟨p, l, e, R, s, m, args, below, meth, c⟩ := x
  intro H locs ls hM hP hS hl
  have h := k H locs ls hM hP hS hl
  rw [show vI (a * b) = .int (Int32.ofInt a * Int32.ofInt b) from congrArg Value.int (Int32.ofInt_mul a b)] at h
  exact lv_imul C.1.1 C.1.2.1 hd h
theorem a_ineg (C : Cx x v A cc own n Ts fr lo) {a : Int} (hd : decode cc pc = .ok (.ineg, 1)) (k : At x v A Q n (pc + 1) lv (vI (-a) :: st) σ) : At x v A Q n pc lv (vI a :: st) σ := by
  obtain ⟨p, l, e, R, s, m, args, below, meth, c⟩ := x
  intro H locs ls hM hP hS hl
  have h := k H locs ls hM hP hS hl
  rw [show vI (-a) = .int (-Int32.ofInt a) from congrArg Value.int (Int32.ofInt_neg a)] at h
  exact lv_ineg C.1.1 C.1.2.1 hd h
theorem a_ladd (C : Cx x v A cc own n Ts fr lo) {a b : Int} (hd : decode cc pc = .ok (.ladd, 1)) (k : At x v A Q n (pc + 1) lv (vJ (a + b) :: st) σ) : At x v A Q n pc lv (vJ b :: vJ a :: st) σ := by
  obtain ⟨p, l, e, R, s, m, args, below, meth, c⟩ := x
  intro H locs ls hM hP hS hl
  have h := k H locs ls hM hP hS hl
  rw [show vJ (a + b) = .long (Int64.ofInt a + Int64.ofInt b) from congrArg Value.long (Int64.ofInt_add a b)] at h
  exact lv_ladd C.1.1 C.1.2.1 hd h
theorem a_lmul (C : Cx x v A cc own n Ts fr lo) {a b : Int} (hd : decode cc pc = .ok (.lmul, 1)) (k : At x v A Q n (pc + 1) lv (vJ (a * b) :: st) σ) : At x v A Q n pc lv (vJ b :: vJ a :: st) σ := by
  obtain ⟨p, l, e, R, s, m, args, below, meth, c⟩ := x
  intro H locs ls hM hP hS hl
  have h := k H locs ls hM hP hS hl
  rw [show vJ (a * b) = .long (Int64.ofInt a * Int64.ofInt b) from congrArg Value.long (Int64.ofInt_mul a b)] at h
  exact lv_lmul C.1.1 C.1.2.1 hd h
theorem a_lneg (C : Cx x v A cc own n Ts fr lo) {a : Int} (hd : decode cc pc = .ok (.lneg, 1)) (k : At x v A Q n (pc + 1) lv (vJ (-a) :: st) σ) : At x v A Q n pc lv (vJ a :: st) σ := by
  obtain ⟨p, l, e, R, s, m, args, below, meth, c⟩ := x
  intro H locs ls hM hP hS hl
  have h := k H locs ls hM hP hS hl
  rw [show vJ (-a) = .long (-Int64.ofInt a) from congrArg Value.long (Int64.ofInt_neg a)] at h
  exact lv_lneg C.1.1 C.1.2.1 hd h
theorem a_i2l (C : Cx x v A cc own n Ts fr lo) {a : Int} (ha : rg a) (hd : decode cc pc = .ok (.i2l, 1)) (k : At x v A Q n (pc + 1) lv (vJ a :: st) σ) : At x v A Q n pc lv (vI a :: st) σ := by
  obtain ⟨p, l, e, R, s, m, args, below, meth, c⟩ := x
  intro H locs ls hM hP hS hl
  exact lv_i2l C.1.1 C.1.2.1 hd (i32_to64 ha) (k H locs ls hM hP hS hl)
theorem a_l2i (C : Cx x v A cc own n Ts fr lo) {a : Int} (hd : decode cc pc = .ok (.l2i, 1)) (k : At x v A Q n (pc + 1) lv (vI a :: st) σ) : At x v A Q n pc lv (vJ a :: st) σ := by
  obtain ⟨p, l, e, R, s, m, args, below, meth, c⟩ := x
  intro H locs ls hM hP hS hl
  exact lv_l2i C.1.1 C.1.2.1 hd Int64.toInt32_ofInt (k H locs ls hM hP hS hl)
theorem a_dup (C : Cx x v A cc own n Ts fr lo) {a : Value} (hd : decode cc pc = .ok (.dup, 1)) (ha : a.category = 1) (k : At x v A Q n (pc + 1) lv (a :: a :: st) σ) : At x v A Q n pc lv (a :: st) σ := by
  obtain ⟨p, l, e, R, s, m, args, below, meth, c⟩ := x
  intro H locs ls hM hP hS hl
  exact lv_dup C.1.1 C.1.2.1 hd ha (k H locs ls hM hP hS hl)
theorem a_pop (C : Cx x v A cc own n Ts fr lo) {a : Value} (hd : decode cc pc = .ok (.pop, 1)) (ha : a.category = 1) (k : At x v A Q n (pc + 1) lv st σ) : At x v A Q n pc lv (a :: st) σ := by
  obtain ⟨p, l, e, R, s, m, args, below, meth, c⟩ := x
  intro H locs ls hM hP hS hl
  exact lv_pop C.1.1 C.1.2.1 hd ha (k H locs ls hM hP hS hl)
theorem a_dup2 (C : Cx x v A cc own n Ts fr lo) {a b : Value} (hd : decode cc pc = .ok (.dup2, 1)) (ha : a.category = 1) (hb : b.category = 1) (k : At x v A Q n (pc + 1) lv (a :: b :: a :: b :: st) σ) : At x v A Q n pc lv (a :: b :: st) σ := by
  obtain ⟨p, l, e, R, s, m, args, below, meth, c⟩ := x
  intro H locs ls hM hP hS hl
  exact lv_dup2_11 C.1.1 C.1.2.1 hd ha hb (k H locs ls hM hP hS hl)
theorem a_goto (C : Cx x v A cc own n Ts fr lo) {off : Int} (tgt : Nat) (hd : decode cc pc = .ok (.goto off, 3)) (ht : (pc : Int) + off = (tgt : Int)) (k : At x v A Q n tgt lv st σ) : At x v A Q n pc lv st σ := by
  obtain ⟨p, l, e, R, s, m, args, below, meth, c⟩ := x
  intro H locs ls hM hP hS hl
  exact lv_goto C.1.1 C.1.2.1 hd ht (k H locs ls hM hP hS hl)
end St
