section Cl
variable {x : XC} {v : VC} {A : Nat → Prop} {Q : State → Prop} {n pc : Nat} {lv : List (Nat × Value)} {st rest : List Value} {σ : Mem} {cc : ByteArray} {own : String} {Ts : List Cond} {fr lo : Nat}
  {y : MethodName} {ws ws' : List Cond} {fr' lo' maxL index k0 b ci N : Nat} {bytes : ByteArray} {ret : Option FieldType} {Cn : String} {T : u_T} {As : List Value} {fs : (Int → Int) → List Value}
theorem a_pre (v : VC) (σ : Mem) {H : Heap} {s U : State} (hM : MemR σ) (hP : va_P (vD v) vwCl (wo v σ) H) (hK : va_K (vD v) vwCl (vT v) s) (hD : va_D A (wo v σ)) (hN : NW s) (hU : U.heap = H) (hW : s.WarmedH U.vm) : PB v σ H.size U :=
  ⟨by rw [hU], hM, by rw [hU]; exact hP, va_K.moved hW.alike hK, hD.weaken (fun _ _ _ _ => trivial), NW.warm hW hN⟩
/-- a call of an instance method -/
theorem a_runV (C : Cx x v A cc own n Ts fr lo) {Qc : Nat → Array Value → State → Outcome → State → Prop} {fre : Nat → Addr → Prop} (hM : ∀ sz : Nat, Met x.2.1 y ws (rmO fr' lo') (va_Pc (.ref (vq v b) :: As) (PB v σ sz)) (Qc sz) 0 0 (fre sz)) (hG : GoodIn Ts (wsV own index Cn y ws)) (hw : ws = Cond.code y bytes maxL ret :: ws') (hd0 : y.cls = Cn ∧ y.cls ≠ "java/lang/invoke/MethodHandle" ∧ y.cls ≠ "java/lang/invoke/VarHandle" ∧ (parseMethodDescriptor y.desc).map (fun d => d.parameters.length) = some k0) (hR : fr' + 1 ≤ fr ∧ 8 + (maxL + 11) + lo' ≤ lo) (hF : vF v b = fun g => .inr (ci, fs g)) (hc : vwCl[ci]? = some (Cn, T, N)) (hb : b < vN v) (hn : As.length = k0) (hst : st = As.reverse ++ .ref (vq v b) :: rest) (hWc : (rest.map fun w => w.category).sum ≤ 8) (hd : decode cc pc = .ok (.invokevirtual index, 3))
    {p : Program} {l : Launch} {e : Env} {R : Room} {s : State} {m : MethodId} {args : Array Value} {below : List Frame} {meth : Method} {c : Code} (hx : x = (p, l, e, R, s, m, args, below, meth, c)) {H : Heap} {locs : List Loc} {ls : Array Slot} (hM0 : MemR σ) (hP : va_P (vD v) vwCl (wo v σ) H) (hl : lv_has ls n lv) :
    va_Run p l e R s m args below meth c H locs 0 0 0 0 (F0 m pc ls st) rest (Qc H.size (Value.ref (vq v b) :: As).toArray) (fre H.size) := by
  subst hx
  obtain ⟨hfix, rfl, rfl, hK, hD, hA, hN⟩ := C
  exact va_runV (As := As) (rest := rest) hfix (hM H.size) (cwV k0 hfix.2.2.2.2 hG hw rfl rfl hd0 hR) ⟨PB_blind, va_recv hK hP hc (by rw [wo_get hb, hF]), fun U hU hW => ⟨rfl, a_pre v σ hM0 hP hK (hD σ) hN hU hW⟩⟩ rfl hn hl.1 hst (lv_room hWc) hd ⟨Nat.zero_le _, Nat.zero_le _⟩
/-- a call of a static method -/
theorem a_runS (C : Cx x v A cc own n Ts fr lo) {Qc : Nat → Array Value → State → Outcome → State → Prop} {fre : Nat → Addr → Prop} (hM : ∀ sz : Nat, Met x.2.1 y ws (rmO fr' lo') (va_Pc As (PB v σ sz)) (Qc sz) 0 0 (fre sz)) (hG : GoodIn Ts (va_wsS own index y ws)) (hw : ws = Cond.code y bytes maxL ret :: ws') (hd0 : y.cls ≠ "java/lang/invoke/MethodHandle" ∧ y.cls ≠ "java/lang/invoke/VarHandle" ∧ (parseMethodDescriptor y.desc).map (fun d => d.parameters.length) = some k0) (hR : fr' + 1 ≤ fr ∧ 8 + (maxL + 11) + lo' ≤ lo) (hn : As.length = k0) (hst : st = As.reverse ++ rest) (hWc : (rest.map fun w => w.category).sum ≤ 8) (hd : decode cc pc = .ok (.invokestatic index, 3))
    {p : Program} {l : Launch} {e : Env} {R : Room} {s : State} {m : MethodId} {args : Array Value} {below : List Frame} {meth : Method} {c : Code} (hx : x = (p, l, e, R, s, m, args, below, meth, c)) {H : Heap} {locs : List Loc} {ls : Array Slot} (hM0 : MemR σ) (hP : va_P (vD v) vwCl (wo v σ) H) (hl : lv_has ls n lv) :
    va_Run p l e R s m args below meth c H locs 0 0 0 0 (F0 m pc ls st) rest (Qc H.size As.toArray) (fre H.size) := by
  subst hx
  obtain ⟨hfix, rfl, rfl, hK, hD, hA, hN⟩ := C
  exact va_runS (As := As) (rest := rest) hfix (hM H.size) (va_cwS k0 hfix.2.2.2.2 hG hw rfl rfl hd0 hR) ⟨PB_blind, fun U hU hW => ⟨rfl, a_pre v σ hM0 hP hK (hD σ) hN hU hW⟩⟩ rfl hn hl.1 hst (lv_room hWc) hd ⟨Nat.zero_le _, Nat.zero_le _⟩
/-- a call of a nest mate's private static method -/
theorem a_runSN (C : Cx x v A cc own n Ts fr lo) {host : String} {Qc : Nat → Array Value → State → Outcome → State → Prop} {fre : Nat → Addr → Prop} (hM : ∀ sz : Nat, Met x.2.1 y ws (rmO fr' lo') (va_Pc As (PB v σ sz)) (Qc sz) 0 0 (fre sz)) (hG : GoodIn Ts ws) (hw : ws = Cond.code y bytes maxL ret :: ws') (hNw : ∀ U : State, NW U → va_Nw (.methodLinkNest own index y host) U) (hi : Cond.initialized y.cls ∈ Ts) (hs : Cond.static y ∈ Ts) (hd0 : y.cls ≠ "java/lang/invoke/MethodHandle" ∧ y.cls ≠ "java/lang/invoke/VarHandle" ∧ (parseMethodDescriptor y.desc).map (fun d => d.parameters.length) = some k0) (hR : fr' + 1 ≤ fr ∧ 8 + (maxL + 11) + lo' ≤ lo) (hn : As.length = k0) (hst : st = As.reverse ++ rest) (hWc : (rest.map fun w => w.category).sum ≤ 8) (hd : decode cc pc = .ok (.invokestatic index, 3))
    {p : Program} {l : Launch} {e : Env} {R : Room} {s : State} {m : MethodId} {args : Array Value} {below : List Frame} {meth : Method} {c : Code} (hx : x = (p, l, e, R, s, m, args, below, meth, c)) {H : Heap} {locs : List Loc} {ls : Array Slot} (hM0 : MemR σ) (hP : va_P (vD v) vwCl (wo v σ) H) (hl : lv_has ls n lv) :
    va_Run p l e R s m args below meth c H locs 0 0 0 0 (F0 m pc ls st) rest (Qc H.size As.toArray) (fre H.size) := by
  subst hx
  obtain ⟨hfix, rfl, rfl, hK, hD, hA, hN⟩ := C
  exact va_runSN (As := As) (rest := rest) hfix (hM H.size) ⟨va_cnB k0 hfix.2.2.2.2 hG hw rfl rfl (hNw _ hN) (hfix.2.2.2.2 _ hi) hd0 hR, hfix.2.2.2.2 _ hs, trivial⟩ ⟨PB_blind, fun U hU hW => ⟨rfl, a_pre v σ hM0 hP hK (hD σ) hN hU hW⟩⟩ rfl hn hl.1 hst (lv_room hWc) hd ⟨Nat.zero_le _, Nat.zero_le _⟩
theorem a_cVI (C : Cx x v A cc own n Ts fr lo) {post : Int → Mem → Prop} (hM : CtI x.2.1 y ws fr' lo' v (.ref (vq v b) :: As) σ post) (hG : GoodIn Ts (wsV own index Cn y ws)) (hw : ws = Cond.code y bytes maxL ret :: ws') (hd0 : y.cls = Cn ∧ y.cls ≠ "java/lang/invoke/MethodHandle" ∧ y.cls ≠ "java/lang/invoke/VarHandle" ∧ (parseMethodDescriptor y.desc).map (fun d => d.parameters.length) = some k0) (hR : fr' + 1 ≤ fr ∧ 8 + (maxL + 11) + lo' ≤ lo) (hF : vF v b = fun g => .inr (ci, fs g)) (hc : vwCl[ci]? = some (Cn, T, N)) (hb : b < vN v) (hn : As.length = k0) (hst : st = As.reverse ++ .ref (vq v b) :: rest) (hWc : (rest.map fun w => w.category).sum ≤ 8) (hd : decode cc pc = .ok (.invokevirtual index, 3)) (kk : ∀ z u, rg z → post z u → At x v A Q n (pc + 3) lv (vI z :: rest) u) : At x v A Q n pc lv st σ := by
  obtain ⟨p, l, e, R, s, m, args, below, meth, c⟩ := x
  intro H locs ls hM0 hP hS hl
  refine va_calli (a_runV C hM hG hw hd0 hR hF hc hb hn hst hWc hd rfl hM0 hP hl) hS (fun q _ h => hA1 (C.2.2.2.2.1 σ) C.2.2.2.2.2.1 hS q h) (fun q h => hA1 (C.2.2.2.2.1 σ) C.2.2.2.2.2.1 hS q h) (fun r u t H1 locs1 ht hvm hw2 hB hz1 hk1 hS1 => ?_)
  obtain ⟨z, rfl, hz, hp⟩ := hw2
  exact kk z u hz hp H1 locs1 ls hB.1 (by rw [← ht]; exact hB.2.1) hS1 hl
theorem a_cVL (C : Cx x v A cc own n Ts fr lo) {post : Int → Mem → Prop} (hM : CtL x.2.1 y ws fr' lo' v (.ref (vq v b) :: As) σ post) (hG : GoodIn Ts (wsV own index Cn y ws)) (hw : ws = Cond.code y bytes maxL ret :: ws') (hd0 : y.cls = Cn ∧ y.cls ≠ "java/lang/invoke/MethodHandle" ∧ y.cls ≠ "java/lang/invoke/VarHandle" ∧ (parseMethodDescriptor y.desc).map (fun d => d.parameters.length) = some k0) (hR : fr' + 1 ≤ fr ∧ 8 + (maxL + 11) + lo' ≤ lo) (hF : vF v b = fun g => .inr (ci, fs g)) (hc : vwCl[ci]? = some (Cn, T, N)) (hb : b < vN v) (hn : As.length = k0) (hst : st = As.reverse ++ .ref (vq v b) :: rest) (hWc : (rest.map fun w => w.category).sum ≤ 8) (hd : decode cc pc = .ok (.invokevirtual index, 3)) (kk : ∀ z u, rgL z → post z u → At x v A Q n (pc + 3) lv (vJ z :: rest) u) : At x v A Q n pc lv st σ := by
  obtain ⟨p, l, e, R, s, m, args, below, meth, c⟩ := x
  intro H locs ls hM0 hP hS hl
  refine va_calll (a_runV C hM hG hw hd0 hR hF hc hb hn hst hWc hd rfl hM0 hP hl) hS (fun q _ h => hA1 (C.2.2.2.2.1 σ) C.2.2.2.2.2.1 hS q h) (fun q h => hA1 (C.2.2.2.2.1 σ) C.2.2.2.2.2.1 hS q h) (fun r u t H1 locs1 ht hvm hw2 hB hz1 hk1 hS1 => ?_)
  obtain ⟨z, rfl, hz, hp⟩ := hw2
  exact kk z u hz hp H1 locs1 ls hB.1 (by rw [← ht]; exact hB.2.1) hS1 hl
theorem a_cVV (C : Cx x v A cc own n Ts fr lo) {post : Mem → Prop} (hM : CtV x.2.1 y ws fr' lo' v (.ref (vq v b) :: As) σ post) (hG : GoodIn Ts (wsV own index Cn y ws)) (hw : ws = Cond.code y bytes maxL ret :: ws') (hd0 : y.cls = Cn ∧ y.cls ≠ "java/lang/invoke/MethodHandle" ∧ y.cls ≠ "java/lang/invoke/VarHandle" ∧ (parseMethodDescriptor y.desc).map (fun d => d.parameters.length) = some k0) (hR : fr' + 1 ≤ fr ∧ 8 + (maxL + 11) + lo' ≤ lo) (hF : vF v b = fun g => .inr (ci, fs g)) (hc : vwCl[ci]? = some (Cn, T, N)) (hb : b < vN v) (hn : As.length = k0) (hst : st = As.reverse ++ .ref (vq v b) :: rest) (hWc : (rest.map fun w => w.category).sum ≤ 8) (hd : decode cc pc = .ok (.invokevirtual index, 3)) (kk : ∀ u, post u → At x v A Q n (pc + 3) lv rest u) : At x v A Q n pc lv st σ := by
  obtain ⟨p, l, e, R, s, m, args, below, meth, c⟩ := x
  intro H locs ls hM0 hP hS hl
  refine va_callv (a_runV C hM hG hw hd0 hR hF hc hb hn hst hWc hd rfl hM0 hP hl) hS (fun q _ h => hA1 (C.2.2.2.2.1 σ) C.2.2.2.2.2.1 hS q h) (fun q h => hA1 (C.2.2.2.2.1 σ) C.2.2.2.2.2.1 hS q h) (fun u t H1 locs1 ht hvm hw2 hB hz1 hk1 hS1 => ?_)
  exact kk u hw2 H1 locs1 ls hB.1 (by rw [← ht]; exact hB.2.1) hS1 hl
theorem a_cVQ (C : Cx x v A cc own n Ts fr lo) {post : Option Nat → Mem → Prop} (hM : CtQ x.2.1 y ws fr' lo' v (.ref (vq v b) :: As) σ post) (hG : GoodIn Ts (wsV own index Cn y ws)) (hw : ws = Cond.code y bytes maxL ret :: ws') (hd0 : y.cls = Cn ∧ y.cls ≠ "java/lang/invoke/MethodHandle" ∧ y.cls ≠ "java/lang/invoke/VarHandle" ∧ (parseMethodDescriptor y.desc).map (fun d => d.parameters.length) = some k0) (hR : fr' + 1 ≤ fr ∧ 8 + (maxL + 11) + lo' ≤ lo) (hF : vF v b = fun g => .inr (ci, fs g)) (hc : vwCl[ci]? = some (Cn, T, N)) (hb : b < vN v) (hn : As.length = k0) (hst : st = As.reverse ++ .ref (vq v b) :: rest) (hWc : (rest.map fun w => w.category).sum ≤ 8) (hd : decode cc pc = .ok (.invokevirtual index, 3)) (kk : ∀ z u, post z u → At x v A Q n (pc + 3) lv (va_rf (z.map (vq v)) :: rest) u) : At x v A Q n pc lv st σ := by
  obtain ⟨p, l, e, R, s, m, args, below, meth, c⟩ := x
  intro H locs ls hM0 hP hS hl
  refine va_callq (a_runV C hM hG hw hd0 hR hF hc hb hn hst hWc hd rfl hM0 hP hl) hS (fun q _ h => hA1 (C.2.2.2.2.1 σ) C.2.2.2.2.2.1 hS q h) (fun q h => hA1 (C.2.2.2.2.1 σ) C.2.2.2.2.2.1 hS q h) (fun r u t H1 locs1 ht hvm hw2 hB hz1 hk1 hS1 => ?_)
  obtain ⟨z, rfl, hp⟩ := hw2
  exact kk z u hp H1 locs1 ls hB.1 (by rw [← ht]; exact hB.2.1) hS1 hl
theorem a_cSI (C : Cx x v A cc own n Ts fr lo) {post : Int → Mem → Prop} (hM : CtI x.2.1 y ws fr' lo' v As σ post) (hG : GoodIn Ts (va_wsS own index y ws)) (hw : ws = Cond.code y bytes maxL ret :: ws') (hd0 : y.cls ≠ "java/lang/invoke/MethodHandle" ∧ y.cls ≠ "java/lang/invoke/VarHandle" ∧ (parseMethodDescriptor y.desc).map (fun d => d.parameters.length) = some k0) (hR : fr' + 1 ≤ fr ∧ 8 + (maxL + 11) + lo' ≤ lo) (hn : As.length = k0) (hst : st = As.reverse ++ rest) (hWc : (rest.map fun w => w.category).sum ≤ 8) (hd : decode cc pc = .ok (.invokestatic index, 3)) (kk : ∀ z u, rg z → post z u → At x v A Q n (pc + 3) lv (vI z :: rest) u) : At x v A Q n pc lv st σ := by
  obtain ⟨p, l, e, R, s, m, args, below, meth, c⟩ := x
  intro H locs ls hM0 hP hS hl
  refine va_calli (a_runS C hM hG hw hd0 hR hn hst hWc hd rfl hM0 hP hl) hS (fun q _ h => hA1 (C.2.2.2.2.1 σ) C.2.2.2.2.2.1 hS q h) (fun q h => hA1 (C.2.2.2.2.1 σ) C.2.2.2.2.2.1 hS q h) (fun r u t H1 locs1 ht hvm hw2 hB hz1 hk1 hS1 => ?_)
  obtain ⟨z, rfl, hz, hp⟩ := hw2
  exact kk z u hz hp H1 locs1 ls hB.1 (by rw [← ht]; exact hB.2.1) hS1 hl
theorem a_cSL (C : Cx x v A cc own n Ts fr lo) {post : Int → Mem → Prop} (hM : CtL x.2.1 y ws fr' lo' v As σ post) (hG : GoodIn Ts (va_wsS own index y ws)) (hw : ws = Cond.code y bytes maxL ret :: ws') (hd0 : y.cls ≠ "java/lang/invoke/MethodHandle" ∧ y.cls ≠ "java/lang/invoke/VarHandle" ∧ (parseMethodDescriptor y.desc).map (fun d => d.parameters.length) = some k0) (hR : fr' + 1 ≤ fr ∧ 8 + (maxL + 11) + lo' ≤ lo) (hn : As.length = k0) (hst : st = As.reverse ++ rest) (hWc : (rest.map fun w => w.category).sum ≤ 8) (hd : decode cc pc = .ok (.invokestatic index, 3)) (kk : ∀ z u, rgL z → post z u → At x v A Q n (pc + 3) lv (vJ z :: rest) u) : At x v A Q n pc lv st σ := by
  obtain ⟨p, l, e, R, s, m, args, below, meth, c⟩ := x
  intro H locs ls hM0 hP hS hl
  refine va_calll (a_runS C hM hG hw hd0 hR hn hst hWc hd rfl hM0 hP hl) hS (fun q _ h => hA1 (C.2.2.2.2.1 σ) C.2.2.2.2.2.1 hS q h) (fun q h => hA1 (C.2.2.2.2.1 σ) C.2.2.2.2.2.1 hS q h) (fun r u t H1 locs1 ht hvm hw2 hB hz1 hk1 hS1 => ?_)
  obtain ⟨z, rfl, hz, hp⟩ := hw2
  exact kk z u hz hp H1 locs1 ls hB.1 (by rw [← ht]; exact hB.2.1) hS1 hl
theorem a_cSV (C : Cx x v A cc own n Ts fr lo) {post : Mem → Prop} (hM : CtV x.2.1 y ws fr' lo' v As σ post) (hG : GoodIn Ts (va_wsS own index y ws)) (hw : ws = Cond.code y bytes maxL ret :: ws') (hd0 : y.cls ≠ "java/lang/invoke/MethodHandle" ∧ y.cls ≠ "java/lang/invoke/VarHandle" ∧ (parseMethodDescriptor y.desc).map (fun d => d.parameters.length) = some k0) (hR : fr' + 1 ≤ fr ∧ 8 + (maxL + 11) + lo' ≤ lo) (hn : As.length = k0) (hst : st = As.reverse ++ rest) (hWc : (rest.map fun w => w.category).sum ≤ 8) (hd : decode cc pc = .ok (.invokestatic index, 3)) (kk : ∀ u, post u → At x v A Q n (pc + 3) lv rest u) : At x v A Q n pc lv st σ := by
  obtain ⟨p, l, e, R, s, m, args, below, meth, c⟩ := x
  intro H locs ls hM0 hP hS hl
  refine va_callv (a_runS C hM hG hw hd0 hR hn hst hWc hd rfl hM0 hP hl) hS (fun q _ h => hA1 (C.2.2.2.2.1 σ) C.2.2.2.2.2.1 hS q h) (fun q h => hA1 (C.2.2.2.2.1 σ) C.2.2.2.2.2.1 hS q h) (fun u t H1 locs1 ht hvm hw2 hB hz1 hk1 hS1 => ?_)
  exact kk u hw2 H1 locs1 ls hB.1 (by rw [← ht]; exact hB.2.1) hS1 hl
theorem a_cNI (C : Cx x v A cc own n Ts fr lo) {post : Int → Mem → Prop} (hM : CtI x.2.1 y ws fr' lo' v As σ post) {host : String} (hG : GoodIn Ts ws) (hw : ws = Cond.code y bytes maxL ret :: ws') (hNw : ∀ U : State, NW U → va_Nw (.methodLinkNest own index y host) U) (hi : Cond.initialized y.cls ∈ Ts) (hs : Cond.static y ∈ Ts) (hd0 : y.cls ≠ "java/lang/invoke/MethodHandle" ∧ y.cls ≠ "java/lang/invoke/VarHandle" ∧ (parseMethodDescriptor y.desc).map (fun d => d.parameters.length) = some k0) (hR : fr' + 1 ≤ fr ∧ 8 + (maxL + 11) + lo' ≤ lo) (hn : As.length = k0) (hst : st = As.reverse ++ rest) (hWc : (rest.map fun w => w.category).sum ≤ 8) (hd : decode cc pc = .ok (.invokestatic index, 3)) (kk : ∀ z u, rg z → post z u → At x v A Q n (pc + 3) lv (vI z :: rest) u) : At x v A Q n pc lv st σ := by
  obtain ⟨p, l, e, R, s, m, args, below, meth, c⟩ := x
  intro H locs ls hM0 hP hS hl
  refine va_calli (a_runSN C hM hG hw hNw hi hs hd0 hR hn hst hWc hd rfl hM0 hP hl) hS (fun q _ h => hA1 (C.2.2.2.2.1 σ) C.2.2.2.2.2.1 hS q h) (fun q h => hA1 (C.2.2.2.2.1 σ) C.2.2.2.2.2.1 hS q h) (fun r u t H1 locs1 ht hvm hw2 hB hz1 hk1 hS1 => ?_)
  obtain ⟨z, rfl, hz, hp⟩ := hw2
  exact kk z u hz hp H1 locs1 ls hB.1 (by rw [← ht]; exact hB.2.1) hS1 hl
end Cl
/-! a contract out of its walk -/
section Mk
variable {v : VC} {σ : Mem} {cc : ByteArray} {y : MethodName} {ws ws' : List Cond} {n fr lo : Nat} {as : List Value} {l : Launch}
theorem mk_core {p : Program} {e : Env} {s : State} {m : MethodId} {below : List Frame} {meth : Method} {c : Code} {s₁ : State} {ret : Option FieldType} (B : BodyLoose p l y (headSpec ws (rmO fr lo)) cc n ret e s m as.toArray below meth c s₁) (hml : c.maxLocals = n) (hK : va_K (vD v) vwCl (vT v) s) (hD : va_D (fun _ => True) (wo v σ)) (hN : NW s) : Cx (p, l, e, (headSpec ws (rmO fr lo)).room, s, m, as.toArray, below, meth, c) v (va_A (wo v σ) s.heap.size) cc y.cls n ws fr lo :=
  ⟨⟨B.exec, B.bytes, hml, findClass_of_methodNamed B.named, atoms_spec (ws := ws) B.pre⟩, rfl, rfl, hK, fun τ => wo_D hD.self, fun q h => Or.inr h, hN⟩
theorem mkI {post : Int → Mem → Prop} (hy : plainName y.cls = true) (hw : ws = Cond.code y cc n (some .int) :: ws') (hne : (lg_sl as).length ≤ n) (body : ∀ (x : XC) (A : Nat → Prop) (Q : State → Prop), x.2.1 = l → Cx x v A cc y.cls n ws fr lo → (∀ (pc : Nat) (lv : List (Nat × Value)) (z : Int) (u : Mem), decode cc pc = .ok (.ireturn, 1) → rg z → post z u → At x v A Q n pc lv [vI z] u) → At x v A Q n 0 (lv_args 0 as) [] σ) : CtI l y ws fr lo v as σ post := by
  intro sz
  refine Met.ofW (cc := cc) (maxL := n) (ret := some .int) hy hw ?_
  intro p e s m args below meth c s₁ B hml hv
  obtain ⟨rfl, hsz, hM, hP, hK, hD, hN⟩ := hv
  subst hsz
  rw [lg_entry_eq]
  refine body (p, l, e, _, s, m, _, below, meth, c) (va_A (wo v σ) s.heap.size) _ rfl (mk_core B hml hK hD hN) ?_ s.heap [] _ hM hP va_S.rf (lv_entry as hne)
  intro pc lv z u hdg hz hp H locs ls hMu hPu hSu hlu
  exact W.iret B.exec B.bytes B.returns (fun t ht hW => ⟨⟨_, u, rfl, ⟨z, rfl, hz, hp⟩, hMu, by rw [ht]; exact hPu, va_K.moved hW.alike hK, wo_D hD.self⟩, hSu.F ht⟩) hSu.2.2 hdg (hlocks := B.notSynchronized)
theorem mkZ {post : Int → Mem → Prop} (hy : plainName y.cls = true) (hw : ws = Cond.code y cc n (some .boolean) :: ws') (hne : (lg_sl as).length ≤ n) (body : ∀ (x : XC) (A : Nat → Prop) (Q : State → Prop), x.2.1 = l → Cx x v A cc y.cls n ws fr lo → (∀ (pc : Nat) (lv : List (Nat × Value)) (z : Int) (u : Mem), decode cc pc = .ok (.ireturn, 1) → (z = 0 ∨ z = 1) → post z u → At x v A Q n pc lv [vI z] u) → At x v A Q n 0 (lv_args 0 as) [] σ) : CtI l y ws fr lo v as σ post := by
  intro sz
  refine Met.ofW (cc := cc) (maxL := n) (ret := some .boolean) hy hw ?_
  intro p e s m args below meth c s₁ B hml hv
  obtain ⟨rfl, hsz, hM, hP, hK, hD, hN⟩ := hv
  subst hsz
  rw [lg_entry_eq]
  refine body (p, l, e, _, s, m, _, below, meth, c) (va_A (wo v σ) s.heap.size) _ rfl (mk_core B hml hK hD hN) ?_ s.heap [] _ hM hP va_S.rf (lv_entry as hne)
  intro pc lv z u hdg hz hp H locs ls hMu hPu hSu hlu
  exact W.zret B.exec B.bytes B.returns (i32_narB z hz) (fun t ht hW => ⟨⟨_, u, rfl, ⟨z, rfl, (by omega), hp⟩, hMu, by rw [ht]; exact hPu, va_K.moved hW.alike hK, wo_D hD.self⟩, hSu.F ht⟩) hSu.2.2 hdg (hlocks := B.notSynchronized)
theorem mkL {post : Int → Mem → Prop} (hy : plainName y.cls = true) (hw : ws = Cond.code y cc n (some .long) :: ws') (hne : (lg_sl as).length ≤ n) (body : ∀ (x : XC) (A : Nat → Prop) (Q : State → Prop), x.2.1 = l → Cx x v A cc y.cls n ws fr lo → (∀ (pc : Nat) (lv : List (Nat × Value)) (z : Int) (u : Mem), decode cc pc = .ok (.lreturn, 1) → rgL z → post z u → At x v A Q n pc lv [vJ z] u) → At x v A Q n 0 (lv_args 0 as) [] σ) : CtL l y ws fr lo v as σ post := by
  intro sz
  refine Met.ofW (cc := cc) (maxL := n) (ret := some .long) hy hw ?_
  intro p e s m args below meth c s₁ B hml hv
  obtain ⟨rfl, hsz, hM, hP, hK, hD, hN⟩ := hv
  subst hsz
  rw [lg_entry_eq]
  refine body (p, l, e, _, s, m, _, below, meth, c) (va_A (wo v σ) s.heap.size) _ rfl (mk_core B hml hK hD hN) ?_ s.heap [] _ hM hP va_S.rf (lv_entry as hne)
  intro pc lv z u hdg hz hp H locs ls hMu hPu hSu hlu
  exact W.lret B.exec B.bytes B.returns (fun t ht hW => ⟨⟨_, u, rfl, ⟨z, rfl, hz, hp⟩, hMu, by rw [ht]; exact hPu, va_K.moved hW.alike hK, wo_D hD.self⟩, hSu.F ht⟩) hSu.2.2 hdg (hlocks := B.notSynchronized)
theorem mkV {post : Mem → Prop} (hy : plainName y.cls = true) (hw : ws = Cond.code y cc n (none) :: ws') (hne : (lg_sl as).length ≤ n) (body : ∀ (x : XC) (A : Nat → Prop) (Q : State → Prop), x.2.1 = l → Cx x v A cc y.cls n ws fr lo → (∀ (pc : Nat) (lv : List (Nat × Value)) (u : Mem), decode cc pc = .ok (.return_, 1) → post u → At x v A Q n pc lv [] u) → At x v A Q n 0 (lv_args 0 as) [] σ) : CtV l y ws fr lo v as σ post := by
  intro sz
  refine Met.ofW (cc := cc) (maxL := n) (ret := none) hy hw ?_
  intro p e s m args below meth c s₁ B hml hv
  obtain ⟨rfl, hsz, hM, hP, hK, hD, hN⟩ := hv
  subst hsz
  rw [lg_entry_eq]
  refine body (p, l, e, _, s, m, _, below, meth, c) (va_A (wo v σ) s.heap.size) _ rfl (mk_core B hml hK hD hN) ?_ s.heap [] _ hM hP va_S.rf (lv_entry as hne)
  intro pc lv u hdg hp H locs ls hMu hPu hSu hlu
  exact W.vret B.exec B.bytes B.returns (fun t ht hW => ⟨⟨u, rfl, hp, hMu, by rw [ht]; exact hPu, va_K.moved hW.alike hK, wo_D hD.self⟩, hSu.F ht⟩) hSu.2.2 hdg (hlocks := B.notSynchronized)
theorem mkQ {Cn : String} {post : Option Nat → Mem → Prop} (hy : plainName y.cls = true) (hw : ws = Cond.code y cc n (some (.object Cn)) :: ws') (hne : (lg_sl as).length ≤ n) (body : ∀ (x : XC) (A : Nat → Prop) (Q : State → Prop), x.2.1 = l → Cx x v A cc y.cls n ws fr lo → (∀ (pc : Nat) (lv : List (Nat × Value)) (z : Option Nat) (u : Mem), decode cc pc = .ok (.areturn, 1) → post z u → At x v A Q n pc lv [va_rf (z.map (vq v))] u) → At x v A Q n 0 (lv_args 0 as) [] σ) : CtQ l y ws fr lo v as σ post := by
  intro sz
  refine Met.ofW (cc := cc) (maxL := n) (ret := some (.object Cn)) hy hw ?_
  intro p e s m args below meth c s₁ B hml hv
  obtain ⟨rfl, hsz, hM, hP, hK, hD, hN⟩ := hv
  subst hsz
  rw [lg_entry_eq]
  refine body (p, l, e, _, s, m, _, below, meth, c) (va_A (wo v σ) s.heap.size) _ rfl (mk_core B hml hK hD hN) ?_ s.heap [] _ hM hP va_S.rf (lv_entry as hne)
  intro pc lv z u hdg hp H locs ls hMu hPu hSu hlu
  exact W.aret B.exec B.bytes B.returns (Or.inl ⟨_, rfl⟩) (by cases z with | none => exact Or.inl rfl | some a => exact Or.inr ⟨_, rfl⟩) (fun t ht hW => ⟨⟨_, u, rfl, ⟨z, rfl, hp⟩, hMu, by rw [ht]; exact hPu, va_K.moved hW.alike hK, wo_D hD.self⟩, hSu.F ht⟩) hSu.2.2 hdg (hlocks := B.notSynchronized)
end Mk
