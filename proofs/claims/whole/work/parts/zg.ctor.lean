/-! ===== worlds that grow: constructors ===== -/
abbrev TK : Type := ClassId × ClassId × ClassId × ClassId × ClassId
abbrev tyK (t : TK) : List (ClassId × FieldType) := [(t.1, .int), (t.2.1, .long), (t.2.2.1, .boolean), (t.2.2.2.1, .object "SpanSketch$Tray"), (t.2.2.2.2, .object "SpanSketch$Column")]
/-- the calls into nest mates' private constructors -/
def ncN (U : State) : Prop := NW U ∧ va_Nw (.methodLinkNest RX6 23 yX2_init "SpanSketch") U ∧ va_Nw (.methodLinkNest RX6 30 yX4_init "SpanSketch") U ∧ va_Nw (.methodLinkNest RX6 37 yX1_init "SpanSketch") U ∧ va_Nw (.methodLinkNest RX6 46 yX5_init "SpanSketch") U ∧ va_Nw (.methodLinkNest RX6 47 yX0_init "SpanSketch") U ∧ va_Nw (.methodLinkNest RX0 17 yX4_init "SpanSketch") U ∧ va_Nw (.methodLinkNest RX0 24 yX3_init "SpanSketch") U ∧ va_AO "SpanSketch$Tray" U ∧ va_AO "SpanSketch$Column" U
theorem ncN.warm {s U : State} (hW : s.WarmedH U.vm) (h : ncN s) : ncN U := by
  obtain ⟨h0, h1, h2, h3, h4, h5, h6, h7, h8, h9⟩ := h
  exact ⟨h0.warm hW, va_Nw.warmM hW h1, va_Nw.warmM hW h2, va_Nw.warmM hW h3, va_Nw.warmM hW h4, va_Nw.warmM hW h5, va_Nw.warmM hW h6, va_Nw.warmM hW h7, h8.moved hW.alike, h9.moved hW.alike⟩
theorem ncN.same {u U : State} (hv : u.vm = U.vm) (h : ncN u) : ncN U := by
  obtain ⟨h0, h1, h2, h3, h4, h5, h6, h7, h8, h9⟩ := h
  exact ⟨h0.same hv, va_Nw.same rfl hv h1, va_Nw.same rfl hv h2, va_Nw.same rfl hv h3, va_Nw.same rfl hv h4, va_Nw.same rfl hv h5, va_Nw.same rfl hv h6, va_Nw.same rfl hv h7, h8.moved (by rw [hv]; exact Vm.Alike.refl _), h9.moved (by rw [hv]; exact Vm.Alike.refl _)⟩
def pcN (G : va_G) (t : TK) (h0 : Nat) (e0 : va_E) (sz : Nat) (U : State) : Prop := U.heap.size = sz ∧ va_P G vwCl [(h0, e0)] U.heap ∧ va_K G vwCl (tyK t) U ∧ va_D (fun _ => True) [(h0, e0)] ∧ ncN U
def qcN (G : va_G) (t : TK) (h0 : Nat) (e0 : va_E) (sz : Nat) (wf : (Nat → Nat) → va_W) (u : Nat → Nat) (T : State) : Prop := va_P G vwCl (wf u) T.heap ∧ va_K G vwCl (tyK t) T ∧ va_D (va_A [(h0, e0)] sz) (wf u)
abbrev rmN (fr lo ce sl : Nat) : Room := { frames := fr, cells := ce, slots := sl, locals := lo }
/-- a constructor's contract: its object becomes the block 'wf' at some addresses -/
def CtN (l : Launch) (y : MethodName) (ws : List Cond) (fr lo ce sl : Nat) (G : va_G) (t : TK) (h0 : Nat) (e0 : va_E) (wf : (Nat → Nat) → va_W) : Prop :=
  ∀ sz : Nat, Met l y ws (rmN fr lo ce sl) (va_Pc [.ref h0] (pcN G t h0 e0 sz)) (va_Qv (fun _ : Nat → Nat => True) (qcN G t h0 e0 sz wf) (va_A [(h0, e0)] sz)) ce sl (va_A [(h0, e0)] sz)
theorem pcN_blind {G : va_G} {t : TK} {h0 : Nat} {e0 : va_E} {sz : Nat} {as : List Value} : FrameBlind (va_Pc as (pcN G t h0 e0 sz)) := by
  intro a U g mk q
  obtain ⟨q1, q2, q3, q5, q6, q7⟩ := q
  exact ⟨q1, q2, q3, va_K.moved (u := U) (U := U.calling g mk a) (Vm.Alike.refl U.vm) q5, q6, ncN.same (u := U) (U := U.calling g mk a) rfl q7⟩
def Cg (x : XC) (G : va_G) (t : TK) (A : Nat → Prop) (cc : ByteArray) (own : String) (n : Nat) (Ts : List Cond) (fr lo ce sl : Nat) : Prop :=
  match x with
  | (p, _, _, R, s, m, args, _, _, c) => CallFix p m c cc n s args Ts own ∧ R.frames = fr ∧ R.locals = lo ∧ R.cells = ce ∧ R.slots = sl ∧ va_K G vwCl (tyK t) s ∧ (∀ q : Nat, s.heap.size ≤ q → A q) ∧ ncN s
def isIni (x : XC) : Prop := match x with
  | (_, _, _, _, _, _, _, _, meth, _) => meth.name = "<init>"
def Ag (x : XC) (G : va_G) (A : Nat → Prop) (Q : State → Prop) (n pc : Nat) (lv : List (Nat × Value)) (st : List Value) (ws : va_W) (k1 k2 : Nat) : Prop :=
  match x with
  | (p, l, e, R, s, m, args, below, meth, c) => ∀ (H : Heap) (locs : List Loc) (ls : Array Slot), va_P G vwCl ws H → va_D A ws → va_S A s.heap H locs → lv_has ls n lv → W p l e R s m args below meth c H locs k1 k2 Q (F0 m pc ls st)
theorem va_P.tail {D : va_G} {cl : List vw_C} {pre w : va_W} {H : Heap} (h : va_P D cl (pre ++ w) H) : va_P D cl w H := fun k q hk => h (pre.length + k) q (by rw [List.getElem?_append_right (by omega), show pre.length + k - pre.length = k by omega]; exact hk)
theorem va_P.init {D : va_G} {cl : List vw_C} {pre w : va_W} {H : Heap} (h : va_P D cl (pre ++ w) H) : va_P D cl pre H := fun k q hk => h k q (by rw [List.getElem?_append_left (List.getElem?_eq_some_iff.mp hk).1]; exact hk)
theorem va_D.init {A : Nat → Prop} {pre w : va_W} (h : va_D A (pre ++ w)) : va_D A pre := by
  have up : ∀ (k : Nat) (q : Nat × va_E), pre[k]? = some q → (pre ++ w)[k]? = some q := fun k q hk => by rw [List.getElem?_append_left (List.getElem?_eq_some_iff.mp hk).1]; exact hk
  exact ⟨fun i j p q hi hj e => h.1 i j p q (up i p hi) (up j q hj) e, fun k q hk => h.2 k q (up k q hk)⟩
/-- a callee's cell (the last one) becomes its block -/
theorem grow_join {A : Nat → Prop} {D : va_G} {cl : List vw_C} {pre w1 : va_W} {a : Nat} {e0 : va_E} {H H1 : Heap} (hP : va_P D cl (pre ++ [(a, e0)]) H) (hD : va_D A (pre ++ [(a, e0)])) (hA : ∀ q : Nat, H.size ≤ q → A q) (hk : ∀ q : Nat, q < H.size → ¬ va_A [(a, e0)] H.size q → H1[q]? = H[q]?) (hP1 : va_P D cl w1 H1) (hD1 : va_D (va_A [(a, e0)] H.size) w1) : va_P D cl (pre ++ w1) H1 ∧ va_D A (pre ++ w1) := by
  have one : ∀ (k : Nat) (e : va_E) (q : Nat), ([(a, e0)] : va_W)[k]? = some (q, e) → q = a := by
    intro k e q h
    have hz : k < 1 := (List.getElem?_eq_some_iff.mp h).1
    rw [show k = 0 by omega] at h
    cases h
    rfl
  have last : (pre ++ [(a, e0)])[pre.length]? = some (a, e0) := by rw [List.getElem?_append_right (Nat.le_refl _), Nat.sub_self]; rfl
  have out : ∀ (k : Nat) (q : Nat × va_E), pre[k]? = some q → q.1 < H.size ∧ ¬ va_A [(a, e0)] H.size q.1 := by
    intro k q hq
    have lt := (hP.init k q hq).lt
    refine ⟨lt, fun z => ?_⟩
    rcases z with ⟨j, e, z⟩ | z
    · have e1 := one j e q.1 z
      have kl := (List.getElem?_eq_some_iff.mp hq).1
      have := hD.1 k pre.length q (a, e0) (by rw [List.getElem?_append_left kl]; exact hq) last e1
      omega
    · omega
  have up : ∀ q : Nat, va_A [(a, e0)] H.size q → A q := by
    intro q z
    rcases z with ⟨j, e, z⟩ | z
    · rw [one j e q z]; exact hD.2 pre.length (a, e0) last
    · exact hA q z
  refine ⟨(hP.init.kept fun k q hq => hk q.1 (out k q hq).1 (out k q hq).2).app hP1, hD.init.app ⟨hD1.1, fun k q hq => up _ (hD1.2 k q hq)⟩ fun i j p q hi hj e => ?_⟩
  have o := (out i p hi).2
  rw [e] at o
  exact o (hD1.2 j q hj)
section Gr
variable {x : XC} {G : va_G} {t : TK} {A : Nat → Prop} {Q : State → Prop} {n pc : Nat} {lv : List (Nat × Value)} {st : List Value} {ws : va_W} {cc : ByteArray} {own : String} {Ts : List Cond} {fr lo ce sl k1 k2 : Nat}
theorem g_aload_n (C : Cg x G t A cc own n Ts fr lo ce sl) {i : Fin 4} {j z : Nat} (hd : decode cc pc = .ok (.aload_n i, 1)) (p0 : Nat) (hj : (i : Nat) = j) (hl0 : lv[p0]? = some (j, .ref z)) (k : Ag x G A Q n (pc + 1) lv (.ref z :: st) ws k1 k2) : Ag x G A Q n pc lv st ws k1 k2 := by
  obtain ⟨p, l, e, R, s, m, args, below, meth, c⟩ := x
  intro H locs ls hP hD hS hl
  exact lv_aload_n C.1.1 C.1.2.1 hd hj (lv_at hl p0 hl0) (k H locs ls hP hD hS hl)
theorem g_iload_n (C : Cg x G t A cc own n Ts fr lo ce sl) {i : Fin 4} {j : Nat} {z : Int} (hd : decode cc pc = .ok (.iload_n i, 1)) (p0 : Nat) (hj : (i : Nat) = j) (hl0 : lv[p0]? = some (j, vI z)) (k : Ag x G A Q n (pc + 1) lv (vI z :: st) ws k1 k2) : Ag x G A Q n pc lv st ws k1 k2 := by
  obtain ⟨p, l, e, R, s, m, args, below, meth, c⟩ := x
  intro H locs ls hP hD hS hl
  exact lv_iload_n C.1.1 C.1.2.1 hd hj (lv_at hl p0 hl0) (k H locs ls hP hD hS hl)
theorem g_iconst (C : Cg x G t A cc own n Ts fr lo ce sl) {i : Int} (hd : decode cc pc = .ok (.iconst i, 1)) (k : Ag x G A Q n (pc + 1) lv (vI i :: st) ws k1 k2) : Ag x G A Q n pc lv st ws k1 k2 := by
  obtain ⟨p, l, e, R, s, m, args, below, meth, c⟩ := x
  intro H locs ls hP hD hS hl
  exact lv_iconst C.1.1 C.1.2.1 hd rfl (k H locs ls hP hD hS hl)
theorem g_bipush (C : Cg x G t A cc own n Ts fr lo ce sl) {i : Int} (hd : decode cc pc = .ok (.bipush i, 2)) (k : Ag x G A Q n (pc + 2) lv (vI i :: st) ws k1 k2) (hv : (Int8.ofInt i).toInt32 = Int32.ofInt i := by decide +kernel) : Ag x G A Q n pc lv st ws k1 k2 := by
  obtain ⟨p, l, e, R, s, m, args, below, meth, c⟩ := x
  intro H locs ls hP hD hS hl
  exact lv_bipush C.1.1 C.1.2.1 hd hv (k H locs ls hP hD hS hl)
theorem g_sipush (C : Cg x G t A cc own n Ts fr lo ce sl) {i : Int} (hd : decode cc pc = .ok (.sipush i, 3)) (k : Ag x G A Q n (pc + 3) lv (vI i :: st) ws k1 k2) (hv : (Int16.ofInt i).toInt32 = Int32.ofInt i := by decide +kernel) : Ag x G A Q n pc lv st ws k1 k2 := by
  obtain ⟨p, l, e, R, s, m, args, below, meth, c⟩ := x
  intro H locs ls hP hD hS hl
  exact lv_sipush C.1.1 C.1.2.1 hd hv (k H locs ls hP hD hS hl)
theorem g_lconst (C : Cg x G t A cc own n Ts fr lo ce sl) {i : Fin 2} (z : Int) (hd : decode cc pc = .ok (.lconst i, 1)) (hv : Int64.ofNat (i : Nat) = Int64.ofInt z) (k : Ag x G A Q n (pc + 1) lv (vJ z :: st) ws k1 k2) : Ag x G A Q n pc lv st ws k1 k2 := by
  obtain ⟨p, l, e, R, s, m, args, below, meth, c⟩ := x
  intro H locs ls hP hD hS hl
  exact lv_lconst C.1.1 C.1.2.1 hd hv (k H locs ls hP hD hS hl)
theorem g_dup (C : Cg x G t A cc own n Ts fr lo ce sl) {a : Value} (hd : decode cc pc = .ok (.dup, 1)) (ha : a.category = 1) (k : Ag x G A Q n (pc + 1) lv (a :: a :: st) ws k1 k2) : Ag x G A Q n pc lv (a :: st) ws k1 k2 := by
  obtain ⟨p, l, e, R, s, m, args, below, meth, c⟩ := x
  intro H locs ls hP hD hS hl
  exact lv_dup C.1.1 C.1.2.1 hd ha (k H locs ls hP hD hS hl)
theorem g_istore_n (C : Cg x G t A cc own n Ts fr lo ce sl) {i : Fin 4} (j : Nat) {z : Int} (lv' : List (Nat × Value)) (hd : decode cc pc = .ok (.istore_n i, 1)) (hj : (i : Nat) = j) (hn : j < n) (hl0 : (j, vI z) :: lk1 j lv = lv') (k : Ag x G A Q n (pc + 1) lv' st ws k1 k2) : Ag x G A Q n pc lv (vI z :: st) ws k1 k2 := by
  obtain ⟨p, l, e, R, s, m, args, below, meth, c⟩ := x
  intro H locs ls hP hD hS hl
  exact lv_istore_n C.1.1 C.1.2.1 hd hj hl hn hl0 (fun ls hl => k H locs ls hP hD hS hl)
theorem g_astore_n (C : Cg x G t A cc own n Ts fr lo ce sl) {i : Fin 4} (j : Nat) {z : Nat} (lv' : List (Nat × Value)) (hd : decode cc pc = .ok (.astore_n i, 1)) (hj : (i : Nat) = j) (hn : j < n) (hl0 : (j, .ref z) :: lk1 j lv = lv') (k : Ag x G A Q n (pc + 1) lv' st ws k1 k2) : Ag x G A Q n pc lv (.ref z :: st) ws k1 k2 := by
  obtain ⟨p, l, e, R, s, m, args, below, meth, c⟩ := x
  intro H locs ls hP hD hS hl
  exact lv_astore_n C.1.1 C.1.2.1 hd hj hl hn hl0 (fun ls hl => k H locs ls hP hD hS hl)
theorem g_iinc (C : Cg x G t A cc own n Ts fr lo ce sl) {j : Nat} {i z : Int} (z' : Int) (lv' : List (Nat × Value)) (hd : decode cc pc = .ok (.iinc j i, 3)) (p0 : Nat) (hp : lv[p0]? = some (j, vI z)) (hz : z' = z + i) (hn : j < n) (hl0 : (j, vI z') :: lk1 j lv = lv') (k : Ag x G A Q n (pc + 3) lv' st ws k1 k2) : Ag x G A Q n pc lv st ws k1 k2 := by
  obtain ⟨p, l, e, R, s, m, args, below, meth, c⟩ := x
  intro H locs ls hP hD hS hl
  exact lv_iinc (v := Int32.ofInt z') C.1.1 C.1.2.1 hd hl hp (by rw [hz]; exact (Int32.ofInt_add z i).symm) hn hl0 (fun ls hl => k H locs ls hP hD hS hl)
theorem g_goto (C : Cg x G t A cc own n Ts fr lo ce sl) {off : Int} (tgt : Nat) (hd : decode cc pc = .ok (.goto off, 3)) (ht : (pc : Int) + off = (tgt : Int)) (k : Ag x G A Q n tgt lv st ws k1 k2) : Ag x G A Q n pc lv st ws k1 k2 := by
  obtain ⟨p, l, e, R, s, m, args, below, meth, c⟩ := x
  intro H locs ls hP hD hS hl
  exact lv_goto C.1.1 C.1.2.1 hd ht (k H locs ls hP hD hS hl)
/-- a comparison of known numbers -/
theorem g_icmp_ge (C : Cg x G t A cc own n Ts fr lo ce sl) {a b : Int} {off : Int} (tgt : Nat) (ha : rg a) (hb : rg b) (hd : decode cc pc = .ok (.if_icmp .ge off, 3)) (ht : (pc : Int) + off = (tgt : Int)) (kt : b ≤ a → Ag x G A Q n tgt lv st ws k1 k2) (kf : a < b → Ag x G A Q n (pc + 3) lv st ws k1 k2) : Ag x G A Q n pc lv (vI b :: vI a :: st) ws k1 k2 := by
  obtain ⟨p, l, e, R, s, m, args, below, meth, c⟩ := x
  intro H locs ls hP hD hS hl
  exact lv_icmp_ge C.1.1 C.1.2.1 hd ht (fun h => kt ((i32_le hb ha).mp h) H locs ls hP hD hS hl) (fun h => kf (by have h2 := mt (i32_le hb ha).mpr h; omega) H locs ls hP hD hS hl)
theorem g_objInit (C : Cg x G t A cc own n Ts fr lo ce sl) {idx a : Nat} (h1 : Cond.methodLink own idx objectInit ∈ Ts) (h2 : Cond.instanceMethod objectInit ∈ Ts) (h3 : Cond.code objectInit ⟨#[0xb1]⟩ 1 none ∈ Ts) (hR : 1 ≤ fr ∧ (st.map fun w => w.category).sum + 12 ≤ lo) (hd : decode cc pc = .ok (.invokespecial idx, 3)) (k : Ag x G A Q n (pc + 3) lv st ws k1 k2) : Ag x G A Q n pc lv (.ref a :: st) ws k1 k2 := by
  obtain ⟨p, l, e, R, s, m, args, below, meth, c⟩ := x
  obtain ⟨hfix, rfl, rfl, rfl, rfl, hK, hA, hN⟩ := C
  intro H locs ls hP hD hS hl
  refine W.objInit hfix.1 hfix.2.1 hfix.2.2.2.1 (hfix.2.2.2.2 _ h1) (hfix.2.2.2.2 _ h2) (hfix.2.2.2.2 _ h3) rfl (by rw [hfix.2.2.1]; exact hl.1) rfl hd hR.1 (by show 2 * 0 + _ + 12 ≤ _; have := hR.2; omega) ?_
  exact W.eq (g2 := F0 m (pc + 3) ls st) rfl (k H locs ls hP hD hS hl)
theorem g_newarr (C : Cg x G t A cc own n Ts fr lo ce sl) {atype : ArrayType} {ty : FieldType} (hty : newarray.typeOf atype = ty) (harr : Cond.arrayClass ty ∈ Ts) (hne : ∀ C : String, ty ≠ .object C) (t0 : Nat) {cT : ClassId} (ht0 : (tyK t)[t0]? = some (cT, ty)) {z : Int} {N' : Nat} {a0 : vp_A} (ha : ∀ cA : ClassId, vp_cell cA a0 = arrV cA N' (fun _ => defaultValue ty)) (hz : ¬ Int32.ofInt z < 0) (hN : (Int32.ofInt z).toNatClampNeg = N') (hb : N' * componentBytes ty ≤ 536870912) (h1 : k1 + 1 ≤ ce) (h2 : k2 + N' ≤ sl) (hd : decode cc pc = .ok (.newarray atype, 2)) (k : ∀ q : Nat, Ag x G A Q n (pc + 2) lv (.ref q :: st) (ws ++ [(q, .inl (cT, a0))]) (k1 + 1) (k2 + N')) : Ag x G A Q n pc lv (vI z :: st) ws k1 k2 := by
  obtain ⟨p, l, e, R, s, m, args, below, meth, c⟩ := x
  obtain ⟨hfix, rfl, rfl, rfl, rfl, hK, hA, hN9⟩ := C
  intro H locs ls hP hD hS hl
  refine va_newa hfix.1 hfix.2.1 (by rw [hty]; exact hfix.2.2.2.2 _ harr) hty hK hP hD hS hA ha hz hN hb h1 h2 hd (fun q cA H1 hK1 hP1 hD1 hS1 => ?_)
  have g1 := (hK.2 t0 _ ht0).2
  have g2 := (hK1.2 (tyK t).length (cA, ty) (by rw [List.getElem?_append_right (Nat.le_refl _), Nat.sub_self]; rfl)).2
  have e1 : cA = cT := by
    cases ty with
    | object C => exact absurd rfl (hne C)
    | _ => exact Option.some.inj (g2.symm.trans g1)
  subst e1
  exact k q H1 locs ls hP1 hD1 hS1 hl
theorem g_newref (C : Cg x G t A cc own n Ts fr lo ce sl) {index : Nat} {Cn : String} (hcl : Cond.classLink own index Cn ∈ Ts) (hO : ncN x.2.2.2.2.1 → va_AO Cn x.2.2.2.2.1) (t0 : Nat) {cT : ClassId} (ht0 : (tyK t)[t0]? = some (cT, .object Cn)) {z : Int} {N' : Nat} (hz : ¬ Int32.ofInt z < 0) (hN : (Int32.ofInt z).toNatClampNeg = N') (hb : N' * 4 ≤ 536870912) (h1 : k1 + 1 ≤ ce) (h2 : k2 + N' ≤ sl) (hd : decode cc pc = .ok (.anewarray index, 3)) (k : ∀ q : Nat, Ag x G A Q n (pc + 3) lv (.ref q :: st) (ws ++ [(q, .inl (cT, N', .inr (.inr (.inr (.inr (fun _ => none))))))]) (k1 + 1) (k2 + N')) : Ag x G A Q n pc lv (vI z :: st) ws k1 k2 := by
  obtain ⟨p, l, e, R, s, m, args, below, meth, c⟩ := x
  obtain ⟨hfix, rfl, rfl, rfl, rfl, hK, hA, hN9⟩ := C
  intro H locs ls hP hD hS hl
  refine va_newq hfix.1 hfix.2.1 hfix.2.2.2.1 (hfix.2.2.2.2 _ hcl) (hO hN9) hK hP hD hS hA hz hN hb h1 h2 hd (fun q cA H1 hK1 hP1 hD1 hS1 => ?_)
  obtain ⟨kA, comp, -, -, -, g1⟩ := (hK.2 t0 _ ht0).2
  obtain ⟨kA', comp', -, -, -, g2⟩ := (hK1.2 (tyK t).length (cA, .object Cn) (by rw [List.getElem?_append_right (Nat.le_refl _), Nat.sub_self]; rfl)).2
  have e1 : cA = cT := Option.some.inj (g2.symm.trans g1)
  subst e1
  exact k q H1 locs ls hP1 hD1 hS1 hl
theorem g_new (C : Cg x G t A cc own n Ts fr lo ce sl) {ci N index : Nat} {Cn : String} {T : u_T} (hin : ∀ w ∈ u_ws Cn T N, w ∈ Ts) (ty : Nat → FieldType) (hty : ∀ k, k < N → parseFieldDescriptor (T k).2.2.1 = some (ty k)) (hcl : Cond.classLink own index Cn ∈ Ts) (hinst : Cond.instantiable Cn N ∈ Ts) (hini : Cond.initialized Cn ∈ Ts) (hc : vwCl[ci]? = some (Cn, T, N)) {fs : List Value} (hfs : ∀ j, j < N → defaultValue (ty j) = vp_V fs j) (h1 : k1 + 1 ≤ ce) (h2 : k2 + N ≤ sl) (hd : decode cc pc = .ok (.new index, 3)) (k : ∀ q : Nat, Ag x G A Q n (pc + 3) lv (.ref q :: st) (ws ++ [(q, .inr (ci, fs))]) (k1 + 1) (k2 + N)) : Ag x G A Q n pc lv st ws k1 k2 := by
  obtain ⟨p, l, e, R, s, m, args, below, meth, c⟩ := x
  obtain ⟨hfix, rfl, rfl, rfl, rfl, hK, hA, hN9⟩ := C
  intro H locs ls hP hD hS hl
  exact va_new hfix.1 hfix.2.1 hfix.2.2.2.2 hin ty hty hfix.2.2.2.1 (hfix.2.2.2.2 _ hcl) (hfix.2.2.2.2 _ hinst) (hfix.2.2.2.2 _ hini) hK hP hD hS hA hc hfs h1 h2 hd (fun q H1 hP1 hD1 hS1 => k q H1 locs ls hP1 hD1 hS1 hl)
theorem g_putF (C : Cg x G t A cc own n Ts fr lo ce sl) (hI : isIni x) {a ci N index : Nat} {Cn : String} {T : u_T} {fs : List Value} {w : Value} (q0 : Nat) (he : ws[q0]? = some (a, .inr (ci, fs))) (hc : vwCl[ci]? = some (Cn, T, N)) (hin : ∀ w ∈ u_ws Cn T N, w ∈ Ts) {ty0 : Nat → FieldType} (hty : ∀ k, k < N → parseFieldDescriptor (T k).2.2.1 = some (ty0 k)) (hnm : ∀ a, a < N → ∀ b, b < N → a ≠ b → (T a).2.1 ≠ (T b).2.1) (j : Nat) (hj : j < N) (hlink : Cond.fieldLink own index (T j).1 (T j).2.1 (T j).2.2.1 ∈ Ts) (hfin : (T j).2.2.2 = true) (hdecl : (T j).1 = own) (hn : narrow (ty0 j) w = w) (hfit : fits (ty0 j) w = true) (hlen : j < fs.length) (ws' : va_W) (hws : ws.set q0 (a, .inr (ci, fs.set j w)) = ws') (hd : decode cc pc = .ok (.putfield index, 3)) (k : Ag x G A Q n (pc + 3) lv st ws' k1 k2) : Ag x G A Q n pc lv (w :: .ref a :: st) ws k1 k2 := by
  obtain ⟨p, l, e, R, s, m, args, below, meth, c⟩ := x
  intro H locs ls hP hD hS hl
  refine va_putF C.1.1 C.1.2.1 C.1.2.2.2.2 hin ty0 hty hnm C.1.2.2.2.1 C.2.2.2.2.2.1 hP hD hS q0 he hc j hj (C.1.2.2.2.2 _ hlink) (fun _ h => h) hfin hI hdecl (hty j hj) hn hfit hlen hd (fun H1 locs1 hP1 hD1 hS1 => ?_)
  rw [hws] at hP1 hD1
  exact k H1 locs1 ls hP1 hD1 hS1 hl
theorem g_putV (C : Cg x G t A cc own n Ts fr lo ce sl) {a ci N index : Nat} {Cn : String} {T : u_T} {fs : List Value} {w : Value} (q0 : Nat) (he : ws[q0]? = some (a, .inr (ci, fs))) (hc : vwCl[ci]? = some (Cn, T, N)) (hin : ∀ w ∈ u_ws Cn T N, w ∈ Ts) {ty0 : Nat → FieldType} (hty : ∀ k, k < N → parseFieldDescriptor (T k).2.2.1 = some (ty0 k)) (hnm : ∀ a, a < N → ∀ b, b < N → a ≠ b → (T a).2.1 ≠ (T b).2.1) (j : Nat) (hj : j < N) (hlink : Cond.fieldLink own index (T j).1 (T j).2.1 (T j).2.2.1 ∈ Ts) (hfin : (T j).2.2.2 = false) (hn : narrow (ty0 j) w = w) (hfit : fits (ty0 j) w = true) (hlen : j < fs.length) (ws' : va_W) (hws : ws.set q0 (a, .inr (ci, fs.set j w)) = ws') (hd : decode cc pc = .ok (.putfield index, 3)) (k : Ag x G A Q n (pc + 3) lv st ws' k1 k2) : Ag x G A Q n pc lv (w :: .ref a :: st) ws k1 k2 := by
  obtain ⟨p, l, e, R, s, m, args, below, meth, c⟩ := x
  intro H locs ls hP hD hS hl
  refine va_put C.1.1 C.1.2.1 C.1.2.2.2.2 hin ty0 hty hnm C.1.2.2.2.1 C.2.2.2.2.2.1 hP hD hS q0 he hc j hj (C.1.2.2.2.2 _ hlink) (fun _ h => h) hfin (hty j hj) hn hfit hlen hd (fun H1 locs1 hP1 hD1 hS1 => ?_)
  rw [hws] at hP1 hD1
  exact k H1 locs1 ls hP1 hD1 hS1 hl
theorem g_getf (C : Cg x G t A cc own n Ts fr lo ce sl) {a ci N index : Nat} {Cn : String} {T : u_T} {fs : List Value} {w : Value} (q0 : Nat) (he : ws[q0]? = some (a, .inr (ci, fs))) (hc : vwCl[ci]? = some (Cn, T, N)) (hin : ∀ w ∈ u_ws Cn T N, w ∈ Ts) (j : Nat) (hj : j < N) (hlink : Cond.fieldLink own index (T j).1 (T j).2.1 (T j).2.2.1 ∈ Ts) (hw : fs[j]? = some w) (hd : decode cc pc = .ok (.getfield index, 3)) (k : Ag x G A Q n (pc + 3) lv (w :: st) ws k1 k2) : Ag x G A Q n pc lv (.ref a :: st) ws k1 k2 := by
  obtain ⟨p, l, e, R, s, m, args, below, meth, c⟩ := x
  intro H locs ls hP hD hS hl
  exact va_get C.1.1 C.1.2.1 C.1.2.2.2.2 hin C.1.2.2.2.1 C.2.2.2.2.2.1 hP q0 he hc j hj (C.1.2.2.2.2 _ hlink) (fun _ h => h) hw hd (k H locs ls hP hD hS hl)
theorem g_iast (C : Cg x G t A cc own n Ts fr lo ce sl) {a : Nat} (q0 t0 : Nat) {cA : ClassId} {N : Nat} {f : Nat → Int32} {i z : Int} (ha : ws[q0]? = some (a, .inl (cA, N, .inl f))) (ht : (tyK t)[t0]? = some (cA, .int)) (h0 : 0 ≤ i) (h1 : i < N) (hN : N ≤ 50000) (ws' : va_W) (hws : ws.set q0 (a, .inl (cA, N, .inl (upd f i.toNat (Int32.ofInt z)))) = ws') (hd : decode cc pc = .ok (.iastore, 1)) (k : Ag x G A Q n (pc + 1) lv st ws' k1 k2) : Ag x G A Q n pc lv (vI z :: vI i :: .ref a :: st) ws k1 k2 := by
  obtain ⟨p, l, e, R, s, m, args, below, meth, c⟩ := x
  intro H locs ls hP hD hS hl
  refine va_iast C.1.1 C.1.2.1 C.2.2.2.2.2.1 hP hD hS q0 t0 ha ht (i32_in h0 h1 (by omega)) hd (fun H1 locs1 hP1 hD1 hS1 => ?_)
  rw [i32_clamp h0 (by omega), hws] at hP1 hD1
  exact k H1 locs1 ls hP1 hD1 hS1 hl
theorem g_astq (C : Cg x G t A cc own n Ts fr lo ce sl) {a o : Nat} (q0 t0 qk ci : Nat) {cA : ClassId} {r : vw_C} {N : Nat} {vs : List Value} {f : Nat → Option Nat} {i : Int} (ha : ws[q0]? = some (a, .inl (cA, N, .inr (.inr (.inr (.inr f)))))) (ht : (tyK t)[t0]? = some (cA, .object r.1)) (hv : ws[qk]? = some (o, .inr (ci, vs))) (hc : vwCl[ci]? = some r) (h0 : 0 ≤ i) (h1 : i < N) (hN : N ≤ 50000) (ws' : va_W) (hws : ws.set q0 (a, .inl (cA, N, .inr (.inr (.inr (.inr (va_up f i.toNat (some o))))))) = ws') (hd : decode cc pc = .ok (.aastore, 1)) (k : Ag x G A Q n (pc + 1) lv st ws' k1 k2) : Ag x G A Q n pc lv (.ref o :: vI i :: .ref a :: st) ws k1 k2 := by
  obtain ⟨p, l, e, R, s, m, args, below, meth, c⟩ := x
  intro H locs ls hP hD hS hl
  refine va_astq C.1.1 C.1.2.1 C.2.2.2.2.2.1 hP hD hS q0 t0 qk ci ha ht hv hc (i32_in h0 h1 (by omega)) hd (fun H1 locs1 hP1 hD1 hS1 => ?_)
  rw [i32_clamp h0 (by omega), hws] at hP1 hD1
  exact k H1 locs1 ls hP1 hD1 hS1 hl
theorem g_free {pre : va_W} {a : Nat} {e0 : va_E} {H0 H : Heap} {locs : List Loc} (hD : va_D A (pre ++ [(a, e0)])) (hS : va_S A H0 H locs) (hA : ∀ q : Nat, H0.size ≤ q → A q) : (∀ q : Nat, va_A [(a, e0)] H.size q → A q) ∧ va_D A [(a, e0)] := by
  have last : (pre ++ [(a, e0)])[pre.length]? = some (a, e0) := by rw [List.getElem?_append_right (Nat.le_refl _), Nat.sub_self]; rfl
  have one : ∀ (k : Nat) (q : Nat × va_E), ([(a, e0)] : va_W)[k]? = some q → k = 0 ∧ q = (a, e0) := by
    intro k q h
    have hz : k < 1 := (List.getElem?_eq_some_iff.mp h).1
    rw [show k = 0 by omega] at h
    cases h
    exact ⟨by omega, rfl⟩
  refine ⟨fun q z => ?_, ⟨fun i j p q hi hj _ => by rw [(one i p hi).1, (one j q hj).1], fun k q hk => ?_⟩⟩
  · rcases z with ⟨j, e, z⟩ | z
    · have := (one j _ z).2
      cases this
      exact hD.2 pre.length _ last
    · exact hA q (Nat.le_trans hS.1 z)
  · rw [(one k q hk).2]; exact hD.2 pre.length (a, e0) last
/-- a nest mate's private constructor -/
theorem g_ctorN (C : Cg x G t A cc own n Ts fr lo ce sl) {y : MethodName} {ws2 ws3 : List Cond} {fr' lo' ce' sl' maxL index a : Nat} {bytes : ByteArray} {host : String} {e0 : va_E} {wf : (Nat → Nat) → va_W} {pre : va_W} (hM : CtN x.2.1 y ws2 fr' lo' ce' sl' G t a e0 wf) (hG : GoodIn Ts ws2) (hw : ws2 = Cond.code y bytes maxL none :: ws3) (hNw : ∀ U : State, ncN U → va_Nw (.methodLinkNest own index y host) U) (hi : Cond.initialized y.cls ∈ Ts) (hs : Cond.instanceMethod y ∈ Ts) (hy1 : y.name = "<init>") (hd0 : y.cls ≠ "java/lang/invoke/MethodHandle" ∧ y.cls ≠ "java/lang/invoke/VarHandle" ∧ (parseMethodDescriptor y.desc).map (fun d => d.parameters.length) = some 0) (hR : fr' + 1 ≤ fr ∧ 8 + (maxL + 11) + lo' ≤ lo) (hf : k1 + ce' ≤ ce ∧ k2 + sl' ≤ sl) (hWc : (st.map fun w => w.category).sum ≤ 8) (hd : decode cc pc = .ok (.invokespecial index, 3)) (k : ∀ u : Nat → Nat, Ag x G A Q n (pc + 3) lv st (pre ++ wf u) (k1 + ce') (k2 + sl')) : Ag x G A Q n pc lv (.ref a :: st) (pre ++ [(a, e0)]) k1 k2 := by
  obtain ⟨p, l, e, R, s, m, args, below, meth, c⟩ := x
  obtain ⟨hfix, rfl, rfl, rfl, rfl, hK, hA, hN⟩ := C
  intro H locs ls hP hD hS hl
  obtain ⟨hF, hDc⟩ := g_free hD hS hA
  refine va_callv (va_runIN (As := []) (rest := st) hfix (hM H.size) ⟨va_cnB 0 hfix.2.2.2.2 hG hw rfl rfl (hNw _ hN) (hfix.2.2.2.2 _ hi) hd0 hR, hy1, hfix.2.2.2.2 _ hs⟩ ⟨pcN_blind, fun U hU hW => ⟨rfl, by rw [hU], by rw [hU]; exact hP.tail, va_K.moved hW.alike hK, hDc.weaken (fun _ _ _ _ => trivial), ncN.warm hW hN⟩⟩ rfl rfl hl.1 rfl (lv_room hWc) hd hf) hS (fun q _ h => hF q h) hF (fun u t9 H1 locs1 ht hvm hw2 hB hz1 hk1 hS1 => ?_)
  obtain ⟨hP1, -, hD1⟩ := hB
  rw [ht] at hP1
  obtain ⟨hP2, hD2⟩ := grow_join hP hD (fun q h => hA q (Nat.le_trans hS.1 h)) hk1 hP1 hD1
  exact k u H1 locs1 ls hP2 hD2 hS1 hl
/-- a public constructor -/
theorem g_ctorP (C : Cg x G t A cc own n Ts fr lo ce sl) {y : MethodName} {ws2 ws3 : List Cond} {fr' lo' ce' sl' maxL index a : Nat} {bytes : ByteArray} {e0 : va_E} {wf : (Nat → Nat) → va_W} {pre : va_W} (hM : CtN x.2.1 y ws2 fr' lo' ce' sl' G t a e0 wf) (hG : GoodIn Ts ws2) (hw : ws2 = Cond.code y bytes maxL none :: ws3) (hml : Cond.methodLink own index y ∈ Ts) (hi : Cond.initialized y.cls ∈ Ts) (hs : Cond.instanceMethod y ∈ Ts) (hy1 : y.name = "<init>") (hd0 : y.cls ≠ "java/lang/invoke/MethodHandle" ∧ y.cls ≠ "java/lang/invoke/VarHandle" ∧ (parseMethodDescriptor y.desc).map (fun d => d.parameters.length) = some 0) (hR : fr' + 1 ≤ fr ∧ 8 + (maxL + 11) + lo' ≤ lo) (hf : k1 + ce' ≤ ce ∧ k2 + sl' ≤ sl) (hWc : (st.map fun w => w.category).sum ≤ 8) (hd : decode cc pc = .ok (.invokespecial index, 3)) (k : ∀ u : Nat → Nat, Ag x G A Q n (pc + 3) lv st (pre ++ wf u) (k1 + ce') (k2 + sl')) : Ag x G A Q n pc lv (.ref a :: st) (pre ++ [(a, e0)]) k1 k2 := by
  obtain ⟨p, l, e, R, s, m, args, below, meth, c⟩ := x
  obtain ⟨hfix, rfl, rfl, rfl, rfl, hK, hA, hN⟩ := C
  intro H locs ls hP hD hS hl
  obtain ⟨hF, hDc⟩ := g_free hD hS hA
  refine va_callv (va_runI (As := []) (rest := st) hfix (hM H.size) (cwI 0 hfix.2.2.2.2 hG hw rfl rfl (hfix.2.2.2.2 _ hi) (hfix.2.2.2.2 _ hml) (hfix.2.2.2.2 _ hs) hy1 hd0 hR) ⟨pcN_blind, fun U hU hW => ⟨rfl, by rw [hU], by rw [hU]; exact hP.tail, va_K.moved hW.alike hK, hDc.weaken (fun _ _ _ _ => trivial), ncN.warm hW hN⟩⟩ rfl rfl hl.1 rfl (lv_room hWc) hd hf) hS (fun q _ h => hF q h) hF (fun u t9 H1 locs1 ht hvm hw2 hB hz1 hk1 hS1 => ?_)
  obtain ⟨hP1, -, hD1⟩ := hB
  rw [ht] at hP1
  obtain ⟨hP2, hD2⟩ := grow_join hP hD (fun q h => hA q (Nat.le_trans hS.1 h)) hk1 hP1 hD1
  exact k u H1 locs1 ls hP2 hD2 hS1 hl
end Gr
theorem mkN {G : va_G} {t : TK} {cc : ByteArray} {y : MethodName} {ws ws' : List Cond} {n fr lo ce sl h0 : Nat} {e0 : va_E} {wf : (Nat → Nat) → va_W} {l : Launch} (hy : plainName y.cls = true) (hy1 : y.name = "<init>") (hw : ws = Cond.code y cc n none :: ws') (hne : 1 ≤ n) (body : ∀ (x : XC) (A : Nat → Prop) (Q : State → Prop), x.2.1 = l → Cg x G t A cc y.cls n ws fr lo ce sl → isIni x → (∀ (pc : Nat) (lv : List (Nat × Value)) (u : Nat → Nat), decode cc pc = .ok (.return_, 1) → Ag x G A Q n pc lv [] (wf u) ce sl) → Ag x G A Q n 0 [(0, .ref h0)] [] [(h0, e0)] 0 0) : CtN l y ws fr lo ce sl G t h0 e0 wf := by
  intro sz
  refine Met.ofW (cc := cc) (maxL := n) (ret := none) hy hw ?_
  intro p e s m args below meth c s₁ B hml hv
  obtain ⟨rfl, hsz, hP, hK, hD, hN⟩ := hv
  subst hsz
  rw [lg_entry_eq]
  refine body (p, l, e, _, s, m, _, below, meth, c) (va_A [(h0, e0)] s.heap.size) _ rfl ⟨⟨B.exec, B.bytes, hml, findClass_of_methodNamed B.named, atoms_spec (ws := ws) B.pre⟩, rfl, rfl, rfl, rfl, hK, fun q h => Or.inr h, hN⟩ ((name_of_methodNamed B.named B.method).1.trans hy1) ?_ s.heap [] _ hP hD.self va_S.rf (lv_entry [.ref h0] hne)
  intro pc lv u hdg H locs ls hPu hDu hSu hlu
  exact W.vret B.exec B.bytes B.returns (fun t9 ht hW => ⟨⟨u, rfl, trivial, by rw [ht]; exact hPu, va_K.moved hW.alike hK, hDu⟩, hSu.F ht⟩) hSu.2.2 hdg (hlocks := B.notSynchronized)
