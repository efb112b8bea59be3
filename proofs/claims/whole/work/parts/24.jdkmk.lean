section Mk2
variable {v : VC} {σ : Mem} {cc : ByteArray} {y : MethodName} {ws ws' : List Cond} {n fr lo : Nat} {as : List Value} {l : Launch}
theorem Met_ofWF {rm : Room} {Pc : Array Value → State → Prop} {Qc : Array Value → State → Outcome → State → Prop} {mc ms : Nat} {free : Addr → Prop} {maxL : Nat} {ret : Option FieldType}
    (hy : plainFor y = true) (hw : ws = Cond.code y cc maxL ret :: ws')
    (body : ∀ p e s m args below meth c s₁, BodyLoose p l y (headSpec ws rm) cc maxL ret e s m args below meth c s₁ → c.maxLocals = maxL → Pc args s →
      W p l e (headSpec ws rm).room s m args below meth c s.heap [] 0 0 (MQ below Qc args s mc ms free) (entryFrame m args maxL)) : Met l y ws rm Pc Qc mc ms free := by
  refine MetFree.of_bodySF (code := cc) (maxLocals := maxL) (ret := ret) hy ?_ ?_
  · intro args s m h hn
    obtain ⟨meth, c, h1, h2, h3, h4, h5, h6, -, -⟩ := Cond.code_spec hn (atoms_spec (ws := ws) h _ (by rw [hw]; exact List.mem_cons_self))
    exact ⟨meth, c, h1, h2, h3, h4, h5, h6⟩
  · intro p e s m args below meth c s₁ B hml hP _
    have hh0 : s₁.heap = s.heap := by rw [B.state]; rfl
    obtain ⟨t, a1, o, b1, b2, b3⟩ := body p e s m args below meth c s₁ B hml hP s₁ hh0 (Stand.of_body B)
    exact ⟨t, o, a1, b1, b2, ⟨b3.1, b3.2⟩⟩
theorem mkIF {post : Int → Mem → Prop} (hy : plainFor y = true) (hw : ws = Cond.code y cc n (some .int) :: ws') (hne : (lg_sl as).length ≤ n) (body : ∀ (x : XC) (A : Nat → Prop) (Q : State → Prop), x.2.1 = l → Cx x v A cc y.cls n ws fr lo → (∀ (pc : Nat) (lv : List (Nat × Value)) (z : Int) (u : Mem), decode cc pc = .ok (.ireturn, 1) → rg z → post z u → At x v A Q n pc lv [vI z] u) → At x v A Q n 0 (lv_args 0 as) [] σ) : CtI l y ws fr lo v as σ post := by
  intro sz
  refine Met_ofWF (cc := cc) (maxL := n) (ret := some .int) hy hw ?_
  intro p e s m args below meth c s₁ B hml hv
  obtain ⟨rfl, hsz, hM, hP, hK, hD, hN⟩ := hv
  subst hsz
  rw [lg_entry_eq]
  refine body (p, l, e, _, s, m, _, below, meth, c) (va_A (wo v σ) s.heap.size) _ rfl (mk_core B hml hK hD hN) ?_ s.heap [] _ hM hP va_S.rf (lv_entry as hne)
  intro pc lv z u hdg hz hp H locs ls hMu hPu hSu hlu
  exact W.iret B.exec B.bytes B.returns (fun t ht hW => ⟨⟨_, u, rfl, ⟨z, rfl, hz, hp⟩, hMu, by rw [ht]; exact hPu, va_K.moved hW.alike hK, wo_D hD.self⟩, hSu.F ht⟩) hSu.2.2 hdg (hlocks := B.notSynchronized)
theorem mkLF {post : Int → Mem → Prop} (hy : plainFor y = true) (hw : ws = Cond.code y cc n (some .long) :: ws') (hne : (lg_sl as).length ≤ n) (body : ∀ (x : XC) (A : Nat → Prop) (Q : State → Prop), x.2.1 = l → Cx x v A cc y.cls n ws fr lo → (∀ (pc : Nat) (lv : List (Nat × Value)) (z : Int) (u : Mem), decode cc pc = .ok (.lreturn, 1) → rgL z → post z u → At x v A Q n pc lv [vJ z] u) → At x v A Q n 0 (lv_args 0 as) [] σ) : CtL l y ws fr lo v as σ post := by
  intro sz
  refine Met_ofWF (cc := cc) (maxL := n) (ret := some .long) hy hw ?_
  intro p e s m args below meth c s₁ B hml hv
  obtain ⟨rfl, hsz, hM, hP, hK, hD, hN⟩ := hv
  subst hsz
  rw [lg_entry_eq]
  refine body (p, l, e, _, s, m, _, below, meth, c) (va_A (wo v σ) s.heap.size) _ rfl (mk_core B hml hK hD hN) ?_ s.heap [] _ hM hP va_S.rf (lv_entry as hne)
  intro pc lv z u hdg hz hp H locs ls hMu hPu hSu hlu
  exact W.lret B.exec B.bytes B.returns (fun t ht hW => ⟨⟨_, u, rfl, ⟨z, rfl, hz, hp⟩, hMu, by rw [ht]; exact hPu, va_K.moved hW.alike hK, wo_D hD.self⟩, hSu.F ht⟩) hSu.2.2 hdg (hlocks := B.notSynchronized)
theorem mkVF {post : Mem → Prop} (hy : plainFor y = true) (hw : ws = Cond.code y cc n (none) :: ws') (hne : (lg_sl as).length ≤ n) (body : ∀ (x : XC) (A : Nat → Prop) (Q : State → Prop), x.2.1 = l → Cx x v A cc y.cls n ws fr lo → (∀ (pc : Nat) (lv : List (Nat × Value)) (u : Mem), decode cc pc = .ok (.return_, 1) → post u → At x v A Q n pc lv [] u) → At x v A Q n 0 (lv_args 0 as) [] σ) : CtV l y ws fr lo v as σ post := by
  intro sz
  refine Met_ofWF (cc := cc) (maxL := n) (ret := none) hy hw ?_
  intro p e s m args below meth c s₁ B hml hv
  obtain ⟨rfl, hsz, hM, hP, hK, hD, hN⟩ := hv
  subst hsz
  rw [lg_entry_eq]
  refine body (p, l, e, _, s, m, _, below, meth, c) (va_A (wo v σ) s.heap.size) _ rfl (mk_core B hml hK hD hN) ?_ s.heap [] _ hM hP va_S.rf (lv_entry as hne)
  intro pc lv u hdg hp H locs ls hMu hPu hSu hlu
  exact W.vret B.exec B.bytes B.returns (fun t ht hW => ⟨⟨u, rfl, hp, hMu, by rw [ht]; exact hPu, va_K.moved hW.alike hK, wo_D hD.self⟩, hSu.F ht⟩) hSu.2.2 hdg (hlocks := B.notSynchronized)
end Mk2
