/-! ===== the law's cases: a call of the class and the same of the model ===== -/
set_option maxHeartbeats 4000000 in
set_option maxRecDepth 100000 in
theorem lw_status {x : XC} {v : VC} {Q : State → Prop} {k1 k2 b L o : Nat} {xs : Nat → Int32} (C : CxL x v k1 k2 b L xs) (hS : shSS v) (ho : 52 ≤ o) (hM : shMo v o) {σ : Mem} {n : Int} (hI : Inv σ o n) (hJ : JI σ n) (hn : 0 ≤ n ∧ n ≤ 511000) {i : Int} (h0 : 0 ≤ i) (h7 : i + 7 ≤ L) (kk : ∀ w : Mem, Inv w o (n + 1000) → JI w (n + 1000) → AtL x v Q k1 k2 1225 [(3, vI i), (0, .ref b), (1, .ref (vq v 0)), (2, .ref (vq v o))] [] w) : AtL x v Q k1 k2 160 [(3, vI i), (0, .ref b), (1, .ref (vq v 0)), (2, .ref (vq v o))] [] σ := by
  refine l_aload_n C dL_law_160 2 rfl rfl ?_
  refine l_cVI C (k0 := 0) (As := []) (rest := []) (c_X6_status x.2.1 v σ hS   ) gL_law_X6_status rfl (by decide +kernel) (by decide) hS.f0 rfl hS.n0 rfl rfl (Nat.le_of_ble_eq_true rfl) dL_law_161 (fun z u r1 p1 => ?_)
  obtain ⟨-, F1⟩ := ic_status hI.1 hn p1
  have F3 : ∀ a : Nat, o ≤ a → u a = σ a := fun a q => F1 a (by omega)
  refine l_aload_n C dL_law_164 3 rfl rfl ?_
  refine l_cVI C (k0 := 0) (As := []) (rest := [vI z]) (c_X7_status x.2.1 v u o hM   ) gL_law_X7_status rfl (by decide +kernel) (by decide) hM.f0 rfl hM.n0 rfl rfl (Nat.le_of_ble_eq_true rfl) dL_law_165 (fun z9 w r2 p2 => ?_)
  obtain ⟨ez, I2⟩ := st_status ho hI hn p1 p2
  have J1 := ij_status hI.1 hn hJ p1
  have F2 := fm_status p2
  have J2 : JI w (n + 1000) := J1.cg (fun a q1 q2 => F2 a (by omega))
  refine l_icmp_eq C 1225 r1 r2 dL_law_168 (by decide) (fun _ => ?_) (fun q => absurd ez q)
  exact kk w I2 J2
set_option maxHeartbeats 4000000 in
set_option maxRecDepth 100000 in
theorem lw_top {x : XC} {v : VC} {Q : State → Prop} {k1 k2 b L o : Nat} {xs : Nat → Int32} (C : CxL x v k1 k2 b L xs) (hS : shSS v) (ho : 52 ≤ o) (hM : shMo v o) {σ : Mem} {n : Int} (hI : Inv σ o n) (hJ : JI σ n) (hn : 0 ≤ n ∧ n ≤ 511000) {i : Int} (h0 : 0 ≤ i) (h7 : i + 7 ≤ L) (kk : ∀ w : Mem, Inv w o (n + 1000) → JI w (n + 1000) → AtL x v Q k1 k2 1225 [(3, vI i), (0, .ref b), (1, .ref (vq v 0)), (2, .ref (vq v o))] [] w) : AtL x v Q k1 k2 173 [(3, vI i), (0, .ref b), (1, .ref (vq v 0)), (2, .ref (vq v o))] [] σ := by
  refine l_aload_n C dL_law_173 2 rfl rfl ?_
  refine l_cVL C (k0 := 0) (As := []) (rest := []) (c_X6_top x.2.1 v σ hS   ) gL_law_X6_top rfl (by decide +kernel) (by decide) hS.f0 rfl hS.n0 rfl rfl (Nat.le_of_ble_eq_true rfl) dL_law_174 (fun z u r1 p1 => ?_)
  obtain ⟨-, F1⟩ := ic_top hI.1 hn p1
  have F3 : ∀ a : Nat, o ≤ a → u a = σ a := fun a q => F1 a (by omega)
  refine l_aload_n C dL_law_177 3 rfl rfl ?_
  refine l_cVL C (k0 := 0) (As := []) (rest := [vJ z]) (c_X7_top x.2.1 v u o hM   ) gL_law_X7_top rfl (by decide +kernel) (by decide) hM.f0 rfl hM.n0 rfl rfl (Nat.le_of_ble_eq_true rfl) dL_law_178 (fun z9 w r2 p2 => ?_)
  obtain ⟨ez, I2⟩ := st_top ho hI hn p1 p2
  have J1 := ij_top hI.1 hn hJ p1
  have F2 := fm_top p2
  have J2 : JI w (n + 1000) := J1.cg (fun a q1 q2 => F2 a (by omega))
  refine l_lcmp C r1 r2 dL_law_181 (fun zc ec rc => ?_)
  refine l_if_eq C 1225 rc dL_law_182 (by decide) (fun _ => ?_) (fun q => by omega)
  exact kk w I2 J2
set_option maxHeartbeats 4000000 in
set_option maxRecDepth 100000 in
theorem lw_bottom {x : XC} {v : VC} {Q : State → Prop} {k1 k2 b L o : Nat} {xs : Nat → Int32} (C : CxL x v k1 k2 b L xs) (hS : shSS v) (ho : 52 ≤ o) (hM : shMo v o) {σ : Mem} {n : Int} (hI : Inv σ o n) (hJ : JI σ n) (hn : 0 ≤ n ∧ n ≤ 511000) {i : Int} (h0 : 0 ≤ i) (h7 : i + 7 ≤ L) (kk : ∀ w : Mem, Inv w o (n + 1000) → JI w (n + 1000) → AtL x v Q k1 k2 1225 [(3, vI i), (0, .ref b), (1, .ref (vq v 0)), (2, .ref (vq v o))] [] w) : AtL x v Q k1 k2 187 [(3, vI i), (0, .ref b), (1, .ref (vq v 0)), (2, .ref (vq v o))] [] σ := by
  refine l_aload_n C dL_law_187 2 rfl rfl ?_
  refine l_cVL C (k0 := 0) (As := []) (rest := []) (c_X6_bottom x.2.1 v σ hS   ) gL_law_X6_bottom rfl (by decide +kernel) (by decide) hS.f0 rfl hS.n0 rfl rfl (Nat.le_of_ble_eq_true rfl) dL_law_188 (fun z u r1 p1 => ?_)
  obtain ⟨-, F1⟩ := ic_bottom hI.1 hn p1
  have F3 : ∀ a : Nat, o ≤ a → u a = σ a := fun a q => F1 a (by omega)
  refine l_aload_n C dL_law_191 3 rfl rfl ?_
  refine l_cVL C (k0 := 0) (As := []) (rest := [vJ z]) (c_X7_bottom x.2.1 v u o hM   ) gL_law_X7_bottom rfl (by decide +kernel) (by decide) hM.f0 rfl hM.n0 rfl rfl (Nat.le_of_ble_eq_true rfl) dL_law_192 (fun z9 w r2 p2 => ?_)
  obtain ⟨ez, I2⟩ := st_bottom ho hI hn p1 p2
  have J1 := ij_bottom hI.1 hn hJ p1
  have F2 := fm_bottom p2
  have J2 : JI w (n + 1000) := J1.cg (fun a q1 q2 => F2 a (by omega))
  refine l_lcmp C r1 r2 dL_law_195 (fun zc ec rc => ?_)
  refine l_if_eq C 1225 rc dL_law_196 (by decide) (fun _ => ?_) (fun q => by omega)
  exact kk w I2 J2
set_option maxHeartbeats 4000000 in
set_option maxRecDepth 100000 in
theorem lw_tray {x : XC} {v : VC} {Q : State → Prop} {k1 k2 b L o : Nat} {xs : Nat → Int32} (C : CxL x v k1 k2 b L xs) (hS : shSS v) (ho : 52 ≤ o) (hM : shMo v o) {σ : Mem} {n : Int} (hI : Inv σ o n) (hJ : JI σ n) (hn : 0 ≤ n ∧ n ≤ 511000) {i : Int} (h0 : 0 ≤ i) (h7 : i + 7 ≤ L) (kk : ∀ w : Mem, Inv w o (n + 1000) → JI w (n + 1000) → AtL x v Q k1 k2 1225 [(3, vI i), (0, .ref b), (1, .ref (vq v 0)), (2, .ref (vq v o))] [] w) : AtL x v Q k1 k2 201 [(3, vI i), (0, .ref b), (1, .ref (vq v 0)), (2, .ref (vq v o))] [] σ := by
  refine l_aload_n C dL_law_201 2 rfl rfl ?_
  refine l_aload_n C dL_law_202 1 rfl rfl ?_
  refine l_iload_n C dL_law_203 0 rfl rfl ?_
  refine l_iconst C dL_law_204 ?_
  refine l_iadd C dL_law_205 ?_
  refine l_sld C (by omega) (by omega) dL_law_206 ?_
  refine l_aload_n C dL_law_207 1 rfl rfl ?_
  refine l_iload_n C dL_law_208 0 rfl rfl ?_
  refine l_iconst C dL_law_209 ?_
  refine l_iadd C dL_law_210 ?_
  refine l_sld C (by omega) (by omega) dL_law_211 ?_
  refine l_aload_n C dL_law_212 1 rfl rfl ?_
  refine l_iload_n C dL_law_213 0 rfl rfl ?_
  refine l_iconst C dL_law_214 ?_
  refine l_iadd C dL_law_215 ?_
  refine l_sld C (by omega) (by omega) dL_law_216 ?_
  refine l_cVI C (k0 := 3) (As := [vI (scI xs (i + 1)), vI (scI xs (i + 2)), vI (scI xs (i + 3))]) (rest := []) (c_X6_tray x.2.1 v σ hS (scI xs (i + 1)) (scI xs (i + 2)) (scI xs (i + 3)) (scI_rg _ _) (scI_rg _ _) (scI_rg _ _) ) gL_law_X6_tray rfl (by decide +kernel) (by decide) hS.f0 rfl hS.n0 rfl rfl (Nat.le_of_ble_eq_true rfl) dL_law_217 (fun z u r1 p1 => ?_)
  obtain ⟨-, F1⟩ := ic_tray hI.1 hn p1
  have F3 : ∀ a : Nat, o ≤ a → u a = σ a := fun a q => F1 a (by omega)
  refine l_aload_n C dL_law_220 3 rfl rfl ?_
  refine l_aload_n C dL_law_221 1 rfl rfl ?_
  refine l_iload_n C dL_law_222 0 rfl rfl ?_
  refine l_iconst C dL_law_223 ?_
  refine l_iadd C dL_law_224 ?_
  refine l_sld C (by omega) (by omega) dL_law_225 ?_
  refine l_aload_n C dL_law_226 1 rfl rfl ?_
  refine l_iload_n C dL_law_227 0 rfl rfl ?_
  refine l_iconst C dL_law_228 ?_
  refine l_iadd C dL_law_229 ?_
  refine l_sld C (by omega) (by omega) dL_law_230 ?_
  refine l_aload_n C dL_law_231 1 rfl rfl ?_
  refine l_iload_n C dL_law_232 0 rfl rfl ?_
  refine l_iconst C dL_law_233 ?_
  refine l_iadd C dL_law_234 ?_
  refine l_sld C (by omega) (by omega) dL_law_235 ?_
  refine l_cVI C (k0 := 3) (As := [vI (scI xs (i + 1)), vI (scI xs (i + 2)), vI (scI xs (i + 3))]) (rest := [vI z]) (c_X7_tray x.2.1 v u o hM (scI xs (i + 1)) (scI xs (i + 2)) (scI xs (i + 3)) (scI_rg _ _) (scI_rg _ _) (scI_rg _ _) ) gL_law_X7_tray rfl (by decide +kernel) (by decide) hM.f0 rfl hM.n0 rfl rfl (Nat.le_of_ble_eq_true rfl) dL_law_236 (fun z9 w r2 p2 => ?_)
  obtain ⟨ez, I2⟩ := st_tray ho hI hn p1 p2
  have J1 := ij_tray hI.1 hn hJ p1
  have F2 := fm_tray p2
  have J2 : JI w (n + 1000) := J1.cg (fun a q1 q2 => F2 a (by omega))
  refine l_icmp_eq C 1225 r1 r2 dL_law_239 (by decide) (fun _ => ?_) (fun q => absurd ez q)
  exact kk w I2 J2
set_option maxHeartbeats 4000000 in
set_option maxRecDepth 100000 in
theorem lw_write {x : XC} {v : VC} {Q : State → Prop} {k1 k2 b L o : Nat} {xs : Nat → Int32} (C : CxL x v k1 k2 b L xs) (hS : shSS v) (ho : 52 ≤ o) (hM : shMo v o) {σ : Mem} {n : Int} (hI : Inv σ o n) (hJ : JI σ n) (hn : 0 ≤ n ∧ n ≤ 511000) {i : Int} (h0 : 0 ≤ i) (h7 : i + 7 ≤ L) (kk : ∀ w : Mem, Inv w o (n + 1000) → JI w (n + 1000) → AtL x v Q k1 k2 1225 [(3, vI i), (0, .ref b), (1, .ref (vq v 0)), (2, .ref (vq v o))] [] w) : AtL x v Q k1 k2 244 [(3, vI i), (0, .ref b), (1, .ref (vq v 0)), (2, .ref (vq v o))] [] σ := by
  have m32 : Cond.constantLong RL 32 4294967295 ∈ wsL_law := List.mem_append_left _ (List.mem_append_left _ (List.mem_append_left _ (List.mem_append_left _ (List.mem_append_left _ (List.mem_append_left _ (List.mem_append_left _ (List.mem_append_left _ (List.mem_append_left _ (List.mem_append_left _ (List.mem_of_getElem? (i := 6) rfl))))))))))
  refine l_aload_n C dL_law_244 2 rfl rfl ?_
  refine l_aload_n C dL_law_245 1 rfl rfl ?_
  refine l_iload_n C dL_law_246 0 rfl rfl ?_
  refine l_iconst C dL_law_247 ?_
  refine l_iadd C dL_law_248 ?_
  refine l_sld C (by omega) (by omega) dL_law_249 ?_
  refine l_aload_n C dL_law_250 1 rfl rfl ?_
  refine l_iload_n C dL_law_251 0 rfl rfl ?_
  refine l_iconst C dL_law_252 ?_
  refine l_iadd C dL_law_253 ?_
  refine l_sld C (by omega) (by omega) dL_law_254 ?_
  refine l_aload_n C dL_law_255 1 rfl rfl ?_
  refine l_iload_n C dL_law_256 0 rfl rfl ?_
  refine l_iconst C dL_law_257 ?_
  refine l_iadd C dL_law_258 ?_
  refine l_sld C (by omega) (by omega) dL_law_259 ?_
  refine l_i2l C (scI_rg _ _) dL_law_260 ?_
  refine l_bipush C dL_law_261 ?_
  refine l_lshl C dL_law_263 ?_
  refine l_aload_n C dL_law_264 1 rfl rfl ?_
  refine l_iload_n C dL_law_265 0 rfl rfl ?_
  refine l_iconst C dL_law_266 ?_
  refine l_iadd C dL_law_267 ?_
  refine l_sld C (by omega) (by omega) dL_law_268 ?_
  refine l_i2l C (scI_rg _ _) dL_law_269 ?_
  refine l_ldc2 C 4294967295 m32 rfl dL_law_270 ?_
  refine l_land C dL_law_273 ?_
  refine l_lor C dL_law_274 ?_
  refine l_cVI C (k0 := 3) (As := [vI (scI xs (i + 1)), vI (scI xs (i + 2)), vJ (wdI (scI xs (i + 3)) (scI xs (i + 4)))]) (rest := []) (c_X6_write x.2.1 v σ hS (scI xs (i + 1)) (scI xs (i + 2)) (wdI (scI xs (i + 3)) (scI xs (i + 4))) (scI_rg _ _) (scI_rg _ _) (wdI_rg _ _) hI.1.1) gL_law_X6_write rfl (by decide +kernel) (by decide) hS.f0 rfl hS.n0 rfl rfl (Nat.le_of_ble_eq_true rfl) dL_law_275 (fun z u r1 p1 => ?_)
  obtain ⟨-, F1⟩ := ic_write hI.1 hn p1
  have F3 : ∀ a : Nat, o ≤ a → u a = σ a := fun a q => F1 a (by omega)
  have hT9 : mtW u o := mtW_up (F3 _ (by omega)) (F3 _ (by omega)) hI.2.2.1
  refine l_aload_n C dL_law_278 3 rfl rfl ?_
  refine l_aload_n C dL_law_279 1 rfl rfl ?_
  refine l_iload_n C dL_law_280 0 rfl rfl ?_
  refine l_iconst C dL_law_281 ?_
  refine l_iadd C dL_law_282 ?_
  refine l_sld C (by omega) (by omega) dL_law_283 ?_
  refine l_aload_n C dL_law_284 1 rfl rfl ?_
  refine l_iload_n C dL_law_285 0 rfl rfl ?_
  refine l_iconst C dL_law_286 ?_
  refine l_iadd C dL_law_287 ?_
  refine l_sld C (by omega) (by omega) dL_law_288 ?_
  refine l_aload_n C dL_law_289 1 rfl rfl ?_
  refine l_iload_n C dL_law_290 0 rfl rfl ?_
  refine l_iconst C dL_law_291 ?_
  refine l_iadd C dL_law_292 ?_
  refine l_sld C (by omega) (by omega) dL_law_293 ?_
  refine l_i2l C (scI_rg _ _) dL_law_294 ?_
  refine l_bipush C dL_law_295 ?_
  refine l_lshl C dL_law_297 ?_
  refine l_aload_n C dL_law_298 1 rfl rfl ?_
  refine l_iload_n C dL_law_299 0 rfl rfl ?_
  refine l_iconst C dL_law_300 ?_
  refine l_iadd C dL_law_301 ?_
  refine l_sld C (by omega) (by omega) dL_law_302 ?_
  refine l_i2l C (scI_rg _ _) dL_law_303 ?_
  refine l_ldc2 C 4294967295 m32 rfl dL_law_304 ?_
  refine l_land C dL_law_307 ?_
  refine l_lor C dL_law_308 ?_
  refine l_cVI C (k0 := 3) (As := [vI (scI xs (i + 1)), vI (scI xs (i + 2)), vJ (wdI (scI xs (i + 3)) (scI xs (i + 4)))]) (rest := [vI z]) (c_X7_write x.2.1 v u o hM (scI xs (i + 1)) (scI xs (i + 2)) (wdI (scI xs (i + 3)) (scI xs (i + 4))) (scI_rg _ _) (scI_rg _ _) (wdI_rg _ _) hT9) gL_law_X7_write rfl (by decide +kernel) (by decide) hM.f0 rfl hM.n0 rfl rfl (Nat.le_of_ble_eq_true rfl) dL_law_309 (fun z9 w r2 p2 => ?_)
  obtain ⟨ez, I2⟩ := st_write ho hI hn p1 p2
  have J1 := ij_write hI.1 hn hJ p1
  have F2 := fm_write p2
  have J2 : JI w (n + 1000) := J1.cg (fun a q1 q2 => F2 a (by omega))
  refine l_icmp_eq C 1225 r1 r2 dL_law_312 (by decide) (fun _ => ?_) (fun q => absurd ez q)
  exact kk w I2 J2
set_option maxHeartbeats 4000000 in
set_option maxRecDepth 100000 in
theorem lw_read {x : XC} {v : VC} {Q : State → Prop} {k1 k2 b L o : Nat} {xs : Nat → Int32} (C : CxL x v k1 k2 b L xs) (hS : shSS v) (ho : 52 ≤ o) (hM : shMo v o) {σ : Mem} {n : Int} (hI : Inv σ o n) (hJ : JI σ n) (hn : 0 ≤ n ∧ n ≤ 511000) {i : Int} (h0 : 0 ≤ i) (h7 : i + 7 ≤ L) (kk : ∀ w : Mem, Inv w o (n + 1000) → JI w (n + 1000) → AtL x v Q k1 k2 1225 [(3, vI i), (0, .ref b), (1, .ref (vq v 0)), (2, .ref (vq v o))] [] w) : AtL x v Q k1 k2 317 [(3, vI i), (0, .ref b), (1, .ref (vq v 0)), (2, .ref (vq v o))] [] σ := by
  refine l_aload_n C dL_law_317 2 rfl rfl ?_
  refine l_aload_n C dL_law_318 1 rfl rfl ?_
  refine l_iload_n C dL_law_319 0 rfl rfl ?_
  refine l_iconst C dL_law_320 ?_
  refine l_iadd C dL_law_321 ?_
  refine l_sld C (by omega) (by omega) dL_law_322 ?_
  refine l_aload_n C dL_law_323 1 rfl rfl ?_
  refine l_iload_n C dL_law_324 0 rfl rfl ?_
  refine l_iconst C dL_law_325 ?_
  refine l_iadd C dL_law_326 ?_
  refine l_sld C (by omega) (by omega) dL_law_327 ?_
  refine l_cVL C (k0 := 2) (As := [vI (scI xs (i + 1)), vI (scI xs (i + 2))]) (rest := []) (c_X6_read x.2.1 v σ hS (scI xs (i + 1)) (scI xs (i + 2)) (scI_rg _ _) (scI_rg _ _) hI.1.1) gL_law_X6_read rfl (by decide +kernel) (by decide) hS.f0 rfl hS.n0 rfl rfl (Nat.le_of_ble_eq_true rfl) dL_law_328 (fun z u r1 p1 => ?_)
  obtain ⟨-, F1⟩ := ic_read hI.1 hn p1
  have F3 : ∀ a : Nat, o ≤ a → u a = σ a := fun a q => F1 a (by omega)
  have hT9 : mtW u o := mtW_up (F3 _ (by omega)) (F3 _ (by omega)) hI.2.2.1
  refine l_aload_n C dL_law_331 3 rfl rfl ?_
  refine l_aload_n C dL_law_332 1 rfl rfl ?_
  refine l_iload_n C dL_law_333 0 rfl rfl ?_
  refine l_iconst C dL_law_334 ?_
  refine l_iadd C dL_law_335 ?_
  refine l_sld C (by omega) (by omega) dL_law_336 ?_
  refine l_aload_n C dL_law_337 1 rfl rfl ?_
  refine l_iload_n C dL_law_338 0 rfl rfl ?_
  refine l_iconst C dL_law_339 ?_
  refine l_iadd C dL_law_340 ?_
  refine l_sld C (by omega) (by omega) dL_law_341 ?_
  refine l_cVL C (k0 := 2) (As := [vI (scI xs (i + 1)), vI (scI xs (i + 2))]) (rest := [vJ z]) (c_X7_read x.2.1 v u o hM (scI xs (i + 1)) (scI xs (i + 2)) (scI_rg _ _) (scI_rg _ _) hT9) gL_law_X7_read rfl (by decide +kernel) (by decide) hM.f0 rfl hM.n0 rfl rfl (Nat.le_of_ble_eq_true rfl) dL_law_342 (fun z9 w r2 p2 => ?_)
  obtain ⟨ez, I2⟩ := st_read ho hI hn p1 p2
  have J1 := ij_read hI.1 hn hJ p1
  have F2 := fm_read p2
  have J2 : JI w (n + 1000) := J1.cg (fun a q1 q2 => F2 a (by omega))
  refine l_lcmp C r1 r2 dL_law_345 (fun zc ec rc => ?_)
  refine l_if_eq C 1225 rc dL_law_346 (by decide) (fun _ => ?_) (fun q => by omega)
  exact kk w I2 J2
set_option maxHeartbeats 4000000 in
set_option maxRecDepth 100000 in
theorem lw_pour {x : XC} {v : VC} {Q : State → Prop} {k1 k2 b L o : Nat} {xs : Nat → Int32} (C : CxL x v k1 k2 b L xs) (hS : shSS v) (ho : 52 ≤ o) (hM : shMo v o) {σ : Mem} {n : Int} (hI : Inv σ o n) (hJ : JI σ n) (hn : 0 ≤ n ∧ n ≤ 511000) {i : Int} (h0 : 0 ≤ i) (h7 : i + 7 ≤ L) (kk : ∀ w : Mem, Inv w o (n + 1000) → JI w (n + 1000) → AtL x v Q k1 k2 1225 [(3, vI i), (0, .ref b), (1, .ref (vq v 0)), (2, .ref (vq v o))] [] w) : AtL x v Q k1 k2 351 [(3, vI i), (0, .ref b), (1, .ref (vq v 0)), (2, .ref (vq v o))] [] σ := by
  refine l_aload_n C dL_law_351 2 rfl rfl ?_
  refine l_aload_n C dL_law_352 1 rfl rfl ?_
  refine l_iload_n C dL_law_353 0 rfl rfl ?_
  refine l_iconst C dL_law_354 ?_
  refine l_iadd C dL_law_355 ?_
  refine l_sld C (by omega) (by omega) dL_law_356 ?_
  refine l_aload_n C dL_law_357 1 rfl rfl ?_
  refine l_iload_n C dL_law_358 0 rfl rfl ?_
  refine l_iconst C dL_law_359 ?_
  refine l_iadd C dL_law_360 ?_
  refine l_sld C (by omega) (by omega) dL_law_361 ?_
  refine l_aload_n C dL_law_362 1 rfl rfl ?_
  refine l_iload_n C dL_law_363 0 rfl rfl ?_
  refine l_iconst C dL_law_364 ?_
  refine l_iadd C dL_law_365 ?_
  refine l_sld C (by omega) (by omega) dL_law_366 ?_
  refine l_aload_n C dL_law_367 1 rfl rfl ?_
  refine l_iload_n C dL_law_368 0 rfl rfl ?_
  refine l_iconst C dL_law_369 ?_
  refine l_iadd C dL_law_370 ?_
  refine l_sld C (by omega) (by omega) dL_law_371 ?_
  refine l_aload_n C dL_law_372 1 rfl rfl ?_
  refine l_iload_n C dL_law_373 0 rfl rfl ?_
  refine l_iconst C dL_law_374 ?_
  refine l_iadd C dL_law_375 ?_
  refine l_sld C (by omega) (by omega) dL_law_376 ?_
  refine l_cVI C (k0 := 5) (As := [vI (scI xs (i + 1)), vI (scI xs (i + 2)), vI (scI xs (i + 3)), vI (scI xs (i + 4)), vI (scI xs (i + 5))]) (rest := []) (c_X6_pour x.2.1 v σ hS (scI xs (i + 1)) (scI xs (i + 2)) (scI xs (i + 3)) (scI xs (i + 4)) (scI xs (i + 5)) (scI_rg _ _) (scI_rg _ _) (scI_rg _ _) (scI_rg _ _) (scI_rg _ _) hI.1.1) gL_law_X6_pour rfl (by decide +kernel) (by decide) hS.f0 rfl hS.n0 rfl rfl (Nat.le_of_ble_eq_true rfl) dL_law_377 (fun z u r1 p1 => ?_)
  obtain ⟨-, F1⟩ := ic_pour hI.1 hn p1
  have F3 : ∀ a : Nat, o ≤ a → u a = σ a := fun a q => F1 a (by omega)
  have hT9 : mtW u o := mtW_up (F3 _ (by omega)) (F3 _ (by omega)) hI.2.2.1
  refine l_aload_n C dL_law_380 3 rfl rfl ?_
  refine l_aload_n C dL_law_381 1 rfl rfl ?_
  refine l_iload_n C dL_law_382 0 rfl rfl ?_
  refine l_iconst C dL_law_383 ?_
  refine l_iadd C dL_law_384 ?_
  refine l_sld C (by omega) (by omega) dL_law_385 ?_
  refine l_aload_n C dL_law_386 1 rfl rfl ?_
  refine l_iload_n C dL_law_387 0 rfl rfl ?_
  refine l_iconst C dL_law_388 ?_
  refine l_iadd C dL_law_389 ?_
  refine l_sld C (by omega) (by omega) dL_law_390 ?_
  refine l_aload_n C dL_law_391 1 rfl rfl ?_
  refine l_iload_n C dL_law_392 0 rfl rfl ?_
  refine l_iconst C dL_law_393 ?_
  refine l_iadd C dL_law_394 ?_
  refine l_sld C (by omega) (by omega) dL_law_395 ?_
  refine l_aload_n C dL_law_396 1 rfl rfl ?_
  refine l_iload_n C dL_law_397 0 rfl rfl ?_
  refine l_iconst C dL_law_398 ?_
  refine l_iadd C dL_law_399 ?_
  refine l_sld C (by omega) (by omega) dL_law_400 ?_
  refine l_aload_n C dL_law_401 1 rfl rfl ?_
  refine l_iload_n C dL_law_402 0 rfl rfl ?_
  refine l_iconst C dL_law_403 ?_
  refine l_iadd C dL_law_404 ?_
  refine l_sld C (by omega) (by omega) dL_law_405 ?_
  refine l_cVI C (k0 := 5) (As := [vI (scI xs (i + 1)), vI (scI xs (i + 2)), vI (scI xs (i + 3)), vI (scI xs (i + 4)), vI (scI xs (i + 5))]) (rest := [vI z]) (c_X7_pour x.2.1 v u o hM (scI xs (i + 1)) (scI xs (i + 2)) (scI xs (i + 3)) (scI xs (i + 4)) (scI xs (i + 5)) (scI_rg _ _) (scI_rg _ _) (scI_rg _ _) (scI_rg _ _) (scI_rg _ _) hT9) gL_law_X7_pour rfl (by decide +kernel) (by decide) hM.f0 rfl hM.n0 rfl rfl (Nat.le_of_ble_eq_true rfl) dL_law_406 (fun z9 w r2 p2 => ?_)
  obtain ⟨ez, I2⟩ := st_pour ho hI hn p1 p2
  have J1 := ij_pour hI.1 hn hJ p1
  have F2 := fm_pour p2
  have J2 : JI w (n + 1000) := J1.cg (fun a q1 q2 => F2 a (by omega))
  refine l_icmp_eq C 1225 r1 r2 dL_law_409 (by decide) (fun _ => ?_) (fun q => absurd ez q)
  exact kk w I2 J2
set_option maxHeartbeats 4000000 in
set_option maxRecDepth 100000 in
theorem lw_put {x : XC} {v : VC} {Q : State → Prop} {k1 k2 b L o : Nat} {xs : Nat → Int32} (C : CxL x v k1 k2 b L xs) (hS : shSS v) (ho : 52 ≤ o) (hM : shMo v o) {σ : Mem} {n : Int} (hI : Inv σ o n) (hJ : JI σ n) (hn : 0 ≤ n ∧ n ≤ 511000) {i : Int} (h0 : 0 ≤ i) (h7 : i + 7 ≤ L) (kk : ∀ w : Mem, Inv w o (n + 1000) → JI w (n + 1000) → AtL x v Q k1 k2 1225 [(3, vI i), (0, .ref b), (1, .ref (vq v 0)), (2, .ref (vq v o))] [] w) : AtL x v Q k1 k2 414 [(3, vI i), (0, .ref b), (1, .ref (vq v 0)), (2, .ref (vq v o))] [] σ := by
  refine l_aload_n C dL_law_414 2 rfl rfl ?_
  refine l_aload_n C dL_law_415 1 rfl rfl ?_
  refine l_iload_n C dL_law_416 0 rfl rfl ?_
  refine l_iconst C dL_law_417 ?_
  refine l_iadd C dL_law_418 ?_
  refine l_sld C (by omega) (by omega) dL_law_419 ?_
  refine l_aload_n C dL_law_420 1 rfl rfl ?_
  refine l_iload_n C dL_law_421 0 rfl rfl ?_
  refine l_iconst C dL_law_422 ?_
  refine l_iadd C dL_law_423 ?_
  refine l_sld C (by omega) (by omega) dL_law_424 ?_
  refine l_aload_n C dL_law_425 1 rfl rfl ?_
  refine l_iload_n C dL_law_426 0 rfl rfl ?_
  refine l_iconst C dL_law_427 ?_
  refine l_iadd C dL_law_428 ?_
  refine l_sld C (by omega) (by omega) dL_law_429 ?_
  refine l_cVI C (k0 := 3) (As := [vI (scI xs (i + 1)), vI (scI xs (i + 2)), vI (scI xs (i + 3))]) (rest := []) (c_X6_put x.2.1 v σ hS (scI xs (i + 1)) (scI xs (i + 2)) (scI xs (i + 3)) (scI_rg _ _) (scI_rg _ _) (scI_rg _ _) (hI.1.W (by omega))) gL_law_X6_put rfl (by decide +kernel) (by decide) hS.f0 rfl hS.n0 rfl rfl (Nat.le_of_ble_eq_true rfl) dL_law_430 (fun z u r1 p1 => ?_)
  obtain ⟨-, F1⟩ := ic_put hI.1 hn p1
  have F3 : ∀ a : Nat, o ≤ a → u a = σ a := fun a q => F1 a (by omega)
  have hr8 : ∀ c : Int, 0 ≤ c → c < 3 → mrB u o c 100000000 ∧ msB u o c 100000000 := fun c c0 c1 => ⟨mrB_up F3 (hI.B (M := 100000000) (by omega) (by omega) hn.1 c c0 c1).1, msB_up F3 (hI.B (M := 100000000) (by omega) (by omega) hn.1 c c0 c1).2⟩
  refine l_aload_n C dL_law_433 3 rfl rfl ?_
  refine l_aload_n C dL_law_434 1 rfl rfl ?_
  refine l_iload_n C dL_law_435 0 rfl rfl ?_
  refine l_iconst C dL_law_436 ?_
  refine l_iadd C dL_law_437 ?_
  refine l_sld C (by omega) (by omega) dL_law_438 ?_
  refine l_aload_n C dL_law_439 1 rfl rfl ?_
  refine l_iload_n C dL_law_440 0 rfl rfl ?_
  refine l_iconst C dL_law_441 ?_
  refine l_iadd C dL_law_442 ?_
  refine l_sld C (by omega) (by omega) dL_law_443 ?_
  refine l_aload_n C dL_law_444 1 rfl rfl ?_
  refine l_iload_n C dL_law_445 0 rfl rfl ?_
  refine l_iconst C dL_law_446 ?_
  refine l_iadd C dL_law_447 ?_
  refine l_sld C (by omega) (by omega) dL_law_448 ?_
  refine l_cVI C (k0 := 3) (As := [vI (scI xs (i + 1)), vI (scI xs (i + 2)), vI (scI xs (i + 3))]) (rest := [vI z]) (c_X7_put x.2.1 v u o hM (scI xs (i + 1)) (scI xs (i + 2)) (scI xs (i + 3)) (scI_rg _ _) (scI_rg _ _) (scI_rg _ _) (fun c c0 c1 => moK_up F3 (hI.K (by omega) c c0 c1)) hr8) gL_law_X7_put rfl (by decide +kernel) (by decide) hM.f0 rfl hM.n0 rfl rfl (Nat.le_of_ble_eq_true rfl) dL_law_449 (fun z9 w r2 p2 => ?_)
  obtain ⟨ez, I2⟩ := st_put ho hI hn p1 p2
  have J1 := ij_put hI.1 hn hJ p1
  have F2 := fm_put hr8 p2
  have J2 : JI w (n + 1000) := J1.cg (fun a q1 q2 => F2 a (by omega))
  refine l_icmp_eq C 1225 r1 r2 dL_law_452 (by decide) (fun _ => ?_) (fun q => absurd ez q)
  exact kk w I2 J2
set_option maxHeartbeats 4000000 in
set_option maxRecDepth 100000 in
theorem lw_strike {x : XC} {v : VC} {Q : State → Prop} {k1 k2 b L o : Nat} {xs : Nat → Int32} (C : CxL x v k1 k2 b L xs) (hS : shSS v) (ho : 52 ≤ o) (hM : shMo v o) {σ : Mem} {n : Int} (hI : Inv σ o n) (hJ : JI σ n) (hn : 0 ≤ n ∧ n ≤ 511000) {i : Int} (h0 : 0 ≤ i) (h7 : i + 7 ≤ L) (kk : ∀ w : Mem, Inv w o (n + 1000) → JI w (n + 1000) → AtL x v Q k1 k2 1225 [(3, vI i), (0, .ref b), (1, .ref (vq v 0)), (2, .ref (vq v o))] [] w) : AtL x v Q k1 k2 457 [(3, vI i), (0, .ref b), (1, .ref (vq v 0)), (2, .ref (vq v o))] [] σ := by
  refine l_aload_n C dL_law_457 2 rfl rfl ?_
  refine l_aload_n C dL_law_458 1 rfl rfl ?_
  refine l_iload_n C dL_law_459 0 rfl rfl ?_
  refine l_iconst C dL_law_460 ?_
  refine l_iadd C dL_law_461 ?_
  refine l_sld C (by omega) (by omega) dL_law_462 ?_
  refine l_aload_n C dL_law_463 1 rfl rfl ?_
  refine l_iload_n C dL_law_464 0 rfl rfl ?_
  refine l_iconst C dL_law_465 ?_
  refine l_iadd C dL_law_466 ?_
  refine l_sld C (by omega) (by omega) dL_law_467 ?_
  refine l_aload_n C dL_law_468 1 rfl rfl ?_
  refine l_iload_n C dL_law_469 0 rfl rfl ?_
  refine l_iconst C dL_law_470 ?_
  refine l_iadd C dL_law_471 ?_
  refine l_sld C (by omega) (by omega) dL_law_472 ?_
  refine l_cVI C (k0 := 3) (As := [vI (scI xs (i + 1)), vI (scI xs (i + 2)), vI (scI xs (i + 3))]) (rest := []) (c_X6_strike x.2.1 v σ hS (scI xs (i + 1)) (scI xs (i + 2)) (scI xs (i + 3)) (scI_rg _ _) (scI_rg _ _) (scI_rg _ _) (hI.1.W (by omega))) gL_law_X6_strike rfl (by decide +kernel) (by decide) hS.f0 rfl hS.n0 rfl rfl (Nat.le_of_ble_eq_true rfl) dL_law_473 (fun z u r1 p1 => ?_)
  obtain ⟨-, F1⟩ := ic_strike hI.1 hn p1
  have F3 : ∀ a : Nat, o ≤ a → u a = σ a := fun a q => F1 a (by omega)
  have hr8 : ∀ c : Int, 0 ≤ c → c < 3 → mrB u o c 100000000 ∧ msB u o c 100000000 := fun c c0 c1 => ⟨mrB_up F3 (hI.B (M := 100000000) (by omega) (by omega) hn.1 c c0 c1).1, msB_up F3 (hI.B (M := 100000000) (by omega) (by omega) hn.1 c c0 c1).2⟩
  refine l_aload_n C dL_law_476 3 rfl rfl ?_
  refine l_aload_n C dL_law_477 1 rfl rfl ?_
  refine l_iload_n C dL_law_478 0 rfl rfl ?_
  refine l_iconst C dL_law_479 ?_
  refine l_iadd C dL_law_480 ?_
  refine l_sld C (by omega) (by omega) dL_law_481 ?_
  refine l_aload_n C dL_law_482 1 rfl rfl ?_
  refine l_iload_n C dL_law_483 0 rfl rfl ?_
  refine l_iconst C dL_law_484 ?_
  refine l_iadd C dL_law_485 ?_
  refine l_sld C (by omega) (by omega) dL_law_486 ?_
  refine l_aload_n C dL_law_487 1 rfl rfl ?_
  refine l_iload_n C dL_law_488 0 rfl rfl ?_
  refine l_iconst C dL_law_489 ?_
  refine l_iadd C dL_law_490 ?_
  refine l_sld C (by omega) (by omega) dL_law_491 ?_
  refine l_cVI C (k0 := 3) (As := [vI (scI xs (i + 1)), vI (scI xs (i + 2)), vI (scI xs (i + 3))]) (rest := [vI z]) (c_X7_strike x.2.1 v u o hM (scI xs (i + 1)) (scI xs (i + 2)) (scI xs (i + 3)) (scI_rg _ _) (scI_rg _ _) (scI_rg _ _) (fun c c0 c1 => moK_up F3 (hI.K (by omega) c c0 c1)) hr8) gL_law_X7_strike rfl (by decide +kernel) (by decide) hM.f0 rfl hM.n0 rfl rfl (Nat.le_of_ble_eq_true rfl) dL_law_492 (fun z9 w r2 p2 => ?_)
  obtain ⟨ez, I2⟩ := st_strike ho hI hn p1 p2
  have J1 := ij_strike hI.1 hn hJ p1
  have F2 := fm_strike hr8 p2
  have J2 : JI w (n + 1000) := J1.cg (fun a q1 q2 => F2 a (by omega))
  refine l_icmp_eq C 1225 r1 r2 dL_law_495 (by decide) (fun _ => ?_) (fun q => absurd ez q)
  exact kk w I2 J2
set_option maxHeartbeats 4000000 in
set_option maxRecDepth 100000 in
theorem lw_pack {x : XC} {v : VC} {Q : State → Prop} {k1 k2 b L o : Nat} {xs : Nat → Int32} (C : CxL x v k1 k2 b L xs) (hS : shSS v) (ho : 52 ≤ o) (hM : shMo v o) {σ : Mem} {n : Int} (hI : Inv σ o n) (hJ : JI σ n) (hn : 0 ≤ n ∧ n ≤ 511000) {i : Int} (h0 : 0 ≤ i) (h7 : i + 7 ≤ L) (kk : ∀ w : Mem, Inv w o (n + 1000) → JI w (n + 1000) → AtL x v Q k1 k2 1225 [(3, vI i), (0, .ref b), (1, .ref (vq v 0)), (2, .ref (vq v o))] [] w) : AtL x v Q k1 k2 500 [(3, vI i), (0, .ref b), (1, .ref (vq v 0)), (2, .ref (vq v o))] [] σ := by
  refine l_aload_n C dL_law_500 2 rfl rfl ?_
  refine l_aload_n C dL_law_501 1 rfl rfl ?_
  refine l_iload_n C dL_law_502 0 rfl rfl ?_
  refine l_iconst C dL_law_503 ?_
  refine l_iadd C dL_law_504 ?_
  refine l_sld C (by omega) (by omega) dL_law_505 ?_
  refine l_aload_n C dL_law_506 1 rfl rfl ?_
  refine l_iload_n C dL_law_507 0 rfl rfl ?_
  refine l_iconst C dL_law_508 ?_
  refine l_iadd C dL_law_509 ?_
  refine l_sld C (by omega) (by omega) dL_law_510 ?_
  haveI D1 : Decidable (∀ j : Int, 0 ≤ j → j < σ (3 + 2 * (scI xs (i + 2)).toNat) 3 → -1 ≤ σ ((3 + 2 * (scI xs (i + 2)).toNat) + 1) (100000 + j) ∧ σ ((3 + 2 * (scI xs (i + 2)).toNat) + 1) (100000 + j) ≤ 39) := Classical.propDecidable _
  refine l_cVI C (k0 := 2) (As := [vI (scI xs (i + 1)), vI (scI xs (i + 2))]) (rest := []) (c_X6_pack x.2.1 v σ hS (scI xs (i + 1)) (scI xs (i + 2)) (scI_rg _ _) (scI_rg _ _) (hI.1.W (by omega)) hI.1.1 (fun q1 q2 q3 => hI.1.P (by omega) q1 (by have := (hI.1.1 (scI xs (i + 2)) q2.1 q2.2).2.2; omega) q3)) gL_law_X6_pack rfl (by decide +kernel) (by decide) hS.f0 rfl hS.n0 rfl rfl (Nat.le_of_ble_eq_true rfl) dL_law_511 (fun z u r1 p1 => ?_)
  obtain ⟨-, F1⟩ := ic_pack hI.1 hn p1
  have F3 : ∀ a : Nat, o ≤ a → u a = σ a := fun a q => F1 a (by omega)
  have hr8 : ∀ c : Int, 0 ≤ c → c < 3 → mrB u o c 100000000 ∧ msB u o c 100000000 := fun c c0 c1 => ⟨mrB_up F3 (hI.B (M := 100000000) (by omega) (by omega) hn.1 c c0 c1).1, msB_up F3 (hI.B (M := 100000000) (by omega) (by omega) hn.1 c c0 c1).2⟩
  have hT9 : mtW u o := mtW_up (F3 _ (by omega)) (F3 _ (by omega)) hI.2.2.1
  haveI D2 : Decidable (∀ j : Int, 0 ≤ j → j < u (o + 2) (scI xs (i + 2)) → -1 ≤ u (o + 3) (100000 + (100 * (scI xs (i + 2)) + j)) ∧ u (o + 3) (100000 + (100 * (scI xs (i + 2)) + j)) ≤ 39) := Classical.propDecidable _
  refine l_aload_n C dL_law_514 3 rfl rfl ?_
  refine l_aload_n C dL_law_515 1 rfl rfl ?_
  refine l_iload_n C dL_law_516 0 rfl rfl ?_
  refine l_iconst C dL_law_517 ?_
  refine l_iadd C dL_law_518 ?_
  refine l_sld C (by omega) (by omega) dL_law_519 ?_
  refine l_aload_n C dL_law_520 1 rfl rfl ?_
  refine l_iload_n C dL_law_521 0 rfl rfl ?_
  refine l_iconst C dL_law_522 ?_
  refine l_iadd C dL_law_523 ?_
  refine l_sld C (by omega) (by omega) dL_law_524 ?_
  refine l_cVI C (k0 := 2) (As := [vI (scI xs (i + 1)), vI (scI xs (i + 2))]) (rest := [vI z]) (c_X7_pack x.2.1 v u o hM (scI xs (i + 1)) (scI xs (i + 2)) (scI_rg _ _) (scI_rg _ _) (fun c c0 c1 => moK_up F3 (hI.K (by omega) c c0 c1)) hr8 hT9) gL_law_X7_pack rfl (by decide +kernel) (by decide) hM.f0 rfl hM.n0 rfl rfl (Nat.le_of_ble_eq_true rfl) dL_law_525 (fun z9 w r2 p2 => ?_)
  obtain ⟨ez, I2⟩ := st_pack ho hI hn p1 p2
  have J1 := ij_pack hI.1 hn hJ p1
  have F2 := fm_pack hr8 hT9 p2
  have J2 : JI w (n + 1000) := J1.cg (fun a q1 q2 => F2 a (by omega))
  refine l_icmp_eq C 1225 r1 r2 dL_law_528 (by decide) (fun _ => ?_) (fun q => absurd ez q)
  exact kk w I2 J2
set_option maxHeartbeats 4000000 in
set_option maxRecDepth 100000 in
theorem lw_truly {x : XC} {v : VC} {Q : State → Prop} {k1 k2 b L o : Nat} {xs : Nat → Int32} (C : CxL x v k1 k2 b L xs) (hS : shSS v) (ho : 52 ≤ o) (hM : shMo v o) {σ : Mem} {n : Int} (hI : Inv σ o n) (hJ : JI σ n) (hn : 0 ≤ n ∧ n ≤ 511000) {i : Int} (h0 : 0 ≤ i) (h7 : i + 7 ≤ L) (kk : ∀ w : Mem, Inv w o (n + 1000) → JI w (n + 1000) → AtL x v Q k1 k2 1225 [(3, vI i), (0, .ref b), (1, .ref (vq v 0)), (2, .ref (vq v o))] [] w) : AtL x v Q k1 k2 533 [(3, vI i), (0, .ref b), (1, .ref (vq v 0)), (2, .ref (vq v o))] [] σ := by
  refine l_aload_n C dL_law_533 2 rfl rfl ?_
  refine l_aload_n C dL_law_534 1 rfl rfl ?_
  refine l_iload_n C dL_law_535 0 rfl rfl ?_
  refine l_iconst C dL_law_536 ?_
  refine l_iadd C dL_law_537 ?_
  refine l_sld C (by omega) (by omega) dL_law_538 ?_
  refine l_aload_n C dL_law_539 1 rfl rfl ?_
  refine l_iload_n C dL_law_540 0 rfl rfl ?_
  refine l_iconst C dL_law_541 ?_
  refine l_iadd C dL_law_542 ?_
  refine l_sld C (by omega) (by omega) dL_law_543 ?_
  refine l_cVI C (k0 := 2) (As := [vI (scI xs (i + 1)), vI (scI xs (i + 2))]) (rest := []) (c_X6_truly x.2.1 v σ hS (scI xs (i + 1)) (scI xs (i + 2)) (scI_rg _ _) (scI_rg _ _) ) gL_law_X6_truly rfl (by decide +kernel) (by decide) hS.f0 rfl hS.n0 rfl rfl (Nat.le_of_ble_eq_true rfl) dL_law_544 (fun z u r1 p1 => ?_)
  obtain ⟨-, F1⟩ := ic_truly hI.1 hn p1
  have F3 : ∀ a : Nat, o ≤ a → u a = σ a := fun a q => F1 a (by omega)
  refine l_aload_n C dL_law_547 3 rfl rfl ?_
  refine l_aload_n C dL_law_548 1 rfl rfl ?_
  refine l_iload_n C dL_law_549 0 rfl rfl ?_
  refine l_iconst C dL_law_550 ?_
  refine l_iadd C dL_law_551 ?_
  refine l_sld C (by omega) (by omega) dL_law_552 ?_
  refine l_aload_n C dL_law_553 1 rfl rfl ?_
  refine l_iload_n C dL_law_554 0 rfl rfl ?_
  refine l_iconst C dL_law_555 ?_
  refine l_iadd C dL_law_556 ?_
  refine l_sld C (by omega) (by omega) dL_law_557 ?_
  refine l_cVI C (k0 := 2) (As := [vI (scI xs (i + 1)), vI (scI xs (i + 2))]) (rest := [vI z]) (c_X7_truly x.2.1 v u o hM (scI xs (i + 1)) (scI xs (i + 2)) (scI_rg _ _) (scI_rg _ _) ) gL_law_X7_truly rfl (by decide +kernel) (by decide) hM.f0 rfl hM.n0 rfl rfl (Nat.le_of_ble_eq_true rfl) dL_law_558 (fun z9 w r2 p2 => ?_)
  obtain ⟨ez, I2⟩ := st_truly ho hI hn p1 p2
  have J1 := ij_truly hI.1 hn hJ p1
  have F2 := fm_truly p2
  have J2 : JI w (n + 1000) := J1.cg (fun a q1 q2 => F2 a (by omega))
  refine l_icmp_eq C 1225 r1 r2 dL_law_561 (by decide) (fun _ => ?_) (fun q => absurd ez q)
  exact kk w I2 J2
set_option maxHeartbeats 4000000 in
set_option maxRecDepth 100000 in
theorem lw_rows {x : XC} {v : VC} {Q : State → Prop} {k1 k2 b L o : Nat} {xs : Nat → Int32} (C : CxL x v k1 k2 b L xs) (hS : shSS v) (ho : 52 ≤ o) (hM : shMo v o) {σ : Mem} {n : Int} (hI : Inv σ o n) (hJ : JI σ n) (hn : 0 ≤ n ∧ n ≤ 511000) {i : Int} (h0 : 0 ≤ i) (h7 : i + 7 ≤ L) (kk : ∀ w : Mem, Inv w o (n + 1000) → JI w (n + 1000) → AtL x v Q k1 k2 1225 [(3, vI i), (0, .ref b), (1, .ref (vq v 0)), (2, .ref (vq v o))] [] w) : AtL x v Q k1 k2 566 [(3, vI i), (0, .ref b), (1, .ref (vq v 0)), (2, .ref (vq v o))] [] σ := by
  refine l_aload_n C dL_law_566 2 rfl rfl ?_
  refine l_aload_n C dL_law_567 1 rfl rfl ?_
  refine l_iload_n C dL_law_568 0 rfl rfl ?_
  refine l_iconst C dL_law_569 ?_
  refine l_iadd C dL_law_570 ?_
  refine l_sld C (by omega) (by omega) dL_law_571 ?_
  refine l_aload_n C dL_law_572 1 rfl rfl ?_
  refine l_iload_n C dL_law_573 0 rfl rfl ?_
  refine l_iconst C dL_law_574 ?_
  refine l_iadd C dL_law_575 ?_
  refine l_sld C (by omega) (by omega) dL_law_576 ?_
  refine l_cVI C (k0 := 2) (As := [vI (scI xs (i + 1)), vI (scI xs (i + 2))]) (rest := []) (c_X6_rows x.2.1 v σ hS (scI xs (i + 1)) (scI xs (i + 2)) (scI_rg _ _) (scI_rg _ _) (hI.1.W (by omega))) gL_law_X6_rows rfl (by decide +kernel) (by decide) hS.f0 rfl hS.n0 rfl rfl (Nat.le_of_ble_eq_true rfl) dL_law_577 (fun z u r1 p1 => ?_)
  obtain ⟨-, F1⟩ := ic_rows hI.1 hn p1
  have F3 : ∀ a : Nat, o ≤ a → u a = σ a := fun a q => F1 a (by omega)
  refine l_aload_n C dL_law_580 3 rfl rfl ?_
  refine l_aload_n C dL_law_581 1 rfl rfl ?_
  refine l_iload_n C dL_law_582 0 rfl rfl ?_
  refine l_iconst C dL_law_583 ?_
  refine l_iadd C dL_law_584 ?_
  refine l_sld C (by omega) (by omega) dL_law_585 ?_
  refine l_aload_n C dL_law_586 1 rfl rfl ?_
  refine l_iload_n C dL_law_587 0 rfl rfl ?_
  refine l_iconst C dL_law_588 ?_
  refine l_iadd C dL_law_589 ?_
  refine l_sld C (by omega) (by omega) dL_law_590 ?_
  refine l_cVI C (k0 := 2) (As := [vI (scI xs (i + 1)), vI (scI xs (i + 2))]) (rest := [vI z]) (c_X7_rows x.2.1 v u o hM (scI xs (i + 1)) (scI xs (i + 2)) (scI_rg _ _) (scI_rg _ _) (fun c c0 c1 => moK_up F3 (hI.K (by omega) c c0 c1))) gL_law_X7_rows rfl (by decide +kernel) (by decide) hM.f0 rfl hM.n0 rfl rfl (Nat.le_of_ble_eq_true rfl) dL_law_591 (fun z9 w r2 p2 => ?_)
  obtain ⟨ez, I2⟩ := st_rows ho hI hn p1 p2
  have J1 := ij_rows hI.1 hn hJ p1
  have F2 := fm_rows p2
  have J2 : JI w (n + 1000) := J1.cg (fun a q1 q2 => F2 a (by omega))
  refine l_icmp_eq C 1225 r1 r2 dL_law_594 (by decide) (fun _ => ?_) (fun q => absurd ez q)
  exact kk w I2 J2
set_option maxHeartbeats 4000000 in
set_option maxRecDepth 100000 in
theorem lw_make {x : XC} {v : VC} {Q : State → Prop} {k1 k2 b L o : Nat} {xs : Nat → Int32} (C : CxL x v k1 k2 b L xs) (hS : shSS v) (ho : 52 ≤ o) (hM : shMo v o) {σ : Mem} {n : Int} (hI : Inv σ o n) (hJ : JI σ n) (hn : 0 ≤ n ∧ n ≤ 511000) {i : Int} (h0 : 0 ≤ i) (h7 : i + 7 ≤ L) (kk : ∀ w : Mem, Inv w o (n + 1000) → JI w (n + 1000) → AtL x v Q k1 k2 1225 [(3, vI i), (0, .ref b), (1, .ref (vq v 0)), (2, .ref (vq v o))] [] w) : AtL x v Q k1 k2 599 [(3, vI i), (0, .ref b), (1, .ref (vq v 0)), (2, .ref (vq v o))] [] σ := by
  refine l_aload_n C dL_law_599 2 rfl rfl ?_
  refine l_aload_n C dL_law_600 1 rfl rfl ?_
  refine l_iload_n C dL_law_601 0 rfl rfl ?_
  refine l_iconst C dL_law_602 ?_
  refine l_iadd C dL_law_603 ?_
  refine l_sld C (by omega) (by omega) dL_law_604 ?_
  refine l_aload_n C dL_law_605 1 rfl rfl ?_
  refine l_iload_n C dL_law_606 0 rfl rfl ?_
  refine l_iconst C dL_law_607 ?_
  refine l_iadd C dL_law_608 ?_
  refine l_sld C (by omega) (by omega) dL_law_609 ?_
  refine l_aload_n C dL_law_610 1 rfl rfl ?_
  refine l_iload_n C dL_law_611 0 rfl rfl ?_
  refine l_iconst C dL_law_612 ?_
  refine l_iadd C dL_law_613 ?_
  refine l_sld C (by omega) (by omega) dL_law_614 ?_
  refine l_aload_n C dL_law_615 1 rfl rfl ?_
  refine l_iload_n C dL_law_616 0 rfl rfl ?_
  refine l_iconst C dL_law_617 ?_
  refine l_iadd C dL_law_618 ?_
  refine l_sld C (by omega) (by omega) dL_law_619 ?_
  refine l_cVI C (k0 := 4) (As := [vI (scI xs (i + 1)), vI (scI xs (i + 2)), vI (scI xs (i + 3)), vI (scI xs (i + 4))]) (rest := []) (c_X6_make x.2.1 v σ hS (scI xs (i + 1)) (scI xs (i + 2)) (scI xs (i + 3)) (scI xs (i + 4)) (scI_rg _ _) (scI_rg _ _) (scI_rg _ _) (scI_rg _ _) (hI.1.W (by omega))) gL_law_X6_make rfl (by decide +kernel) (by decide) hS.f0 rfl hS.n0 rfl rfl (Nat.le_of_ble_eq_true rfl) dL_law_620 (fun z u r1 p1 => ?_)
  obtain ⟨-, F1⟩ := ic_make hI.1 hn p1
  have F3 : ∀ a : Nat, o ≤ a → u a = σ a := fun a q => F1 a (by omega)
  refine l_aload_n C dL_law_623 3 rfl rfl ?_
  refine l_aload_n C dL_law_624 1 rfl rfl ?_
  refine l_iload_n C dL_law_625 0 rfl rfl ?_
  refine l_iconst C dL_law_626 ?_
  refine l_iadd C dL_law_627 ?_
  refine l_sld C (by omega) (by omega) dL_law_628 ?_
  refine l_aload_n C dL_law_629 1 rfl rfl ?_
  refine l_iload_n C dL_law_630 0 rfl rfl ?_
  refine l_iconst C dL_law_631 ?_
  refine l_iadd C dL_law_632 ?_
  refine l_sld C (by omega) (by omega) dL_law_633 ?_
  refine l_aload_n C dL_law_634 1 rfl rfl ?_
  refine l_iload_n C dL_law_635 0 rfl rfl ?_
  refine l_iconst C dL_law_636 ?_
  refine l_iadd C dL_law_637 ?_
  refine l_sld C (by omega) (by omega) dL_law_638 ?_
  refine l_aload_n C dL_law_639 1 rfl rfl ?_
  refine l_iload_n C dL_law_640 0 rfl rfl ?_
  refine l_iconst C dL_law_641 ?_
  refine l_iadd C dL_law_642 ?_
  refine l_sld C (by omega) (by omega) dL_law_643 ?_
  refine l_cVI C (k0 := 4) (As := [vI (scI xs (i + 1)), vI (scI xs (i + 2)), vI (scI xs (i + 3)), vI (scI xs (i + 4))]) (rest := [vI z]) (c_X7_make x.2.1 v u o hM (scI xs (i + 1)) (scI xs (i + 2)) (scI xs (i + 3)) (scI xs (i + 4)) (scI_rg _ _) (scI_rg _ _) (scI_rg _ _) (scI_rg _ _) (fun q => by have k := moK_up F3 (hI.K (by omega) _ q.1 q.2); exact ⟨k.2.2.2.2.1, k.2.2.2.2.2.1⟩)) gL_law_X7_make rfl (by decide +kernel) (by decide) hM.f0 rfl hM.n0 rfl rfl (Nat.le_of_ble_eq_true rfl) dL_law_644 (fun z9 w r2 p2 => ?_)
  obtain ⟨ez, I2⟩ := st_make ho hI hn p1 p2
  have J1 := ij_make hI.1 hn hJ p1
  have F2 := fm_make p2
  have J2 : JI w (n + 1000) := J1.cg (fun a q1 q2 => F2 a (by omega))
  refine l_icmp_eq C 1225 r1 r2 dL_law_647 (by decide) (fun _ => ?_) (fun q => absurd ez q)
  exact kk w I2 J2
set_option maxHeartbeats 4000000 in
set_option maxRecDepth 100000 in
theorem lw_away {x : XC} {v : VC} {Q : State → Prop} {k1 k2 b L o : Nat} {xs : Nat → Int32} (C : CxL x v k1 k2 b L xs) (hS : shSS v) (ho : 52 ≤ o) (hM : shMo v o) {σ : Mem} {n : Int} (hI : Inv σ o n) (hJ : JI σ n) (hn : 0 ≤ n ∧ n ≤ 511000) {i : Int} (h0 : 0 ≤ i) (h7 : i + 7 ≤ L) (kk : ∀ w : Mem, Inv w o (n + 1000) → JI w (n + 1000) → AtL x v Q k1 k2 1225 [(3, vI i), (0, .ref b), (1, .ref (vq v 0)), (2, .ref (vq v o))] [] w) : AtL x v Q k1 k2 652 [(3, vI i), (0, .ref b), (1, .ref (vq v 0)), (2, .ref (vq v o))] [] σ := by
  refine l_aload_n C dL_law_652 2 rfl rfl ?_
  refine l_aload_n C dL_law_653 1 rfl rfl ?_
  refine l_iload_n C dL_law_654 0 rfl rfl ?_
  refine l_iconst C dL_law_655 ?_
  refine l_iadd C dL_law_656 ?_
  refine l_sld C (by omega) (by omega) dL_law_657 ?_
  refine l_cVI C (k0 := 1) (As := [vI (scI xs (i + 1))]) (rest := []) (c_X6_away x.2.1 v σ hS (scI xs (i + 1)) (scI_rg _ _) ) gL_law_X6_away rfl (by decide +kernel) (by decide) hS.f0 rfl hS.n0 rfl rfl (Nat.le_of_ble_eq_true rfl) dL_law_658 (fun z u r1 p1 => ?_)
  obtain ⟨-, F1⟩ := ic_away hI.1 hn p1
  have F3 : ∀ a : Nat, o ≤ a → u a = σ a := fun a q => F1 a (by omega)
  refine l_aload_n C dL_law_661 3 rfl rfl ?_
  refine l_aload_n C dL_law_662 1 rfl rfl ?_
  refine l_iload_n C dL_law_663 0 rfl rfl ?_
  refine l_iconst C dL_law_664 ?_
  refine l_iadd C dL_law_665 ?_
  refine l_sld C (by omega) (by omega) dL_law_666 ?_
  refine l_cVI C (k0 := 1) (As := [vI (scI xs (i + 1))]) (rest := [vI z]) (c_X7_away x.2.1 v u o hM (scI xs (i + 1)) (scI_rg _ _) ) gL_law_X7_away rfl (by decide +kernel) (by decide) hM.f0 rfl hM.n0 rfl rfl (Nat.le_of_ble_eq_true rfl) dL_law_667 (fun z9 w r2 p2 => ?_)
  obtain ⟨ez, I2⟩ := st_away ho hI hn p1 p2
  have J1 := ij_away hI.1 hn hJ p1
  have F2 := fm_away p2
  have J2 : JI w (n + 1000) := J1.cg (fun a q1 q2 => F2 a (by omega))
  refine l_icmp_eq C 1225 r1 r2 dL_law_670 (by decide) (fun _ => ?_) (fun q => absurd ez q)
  exact kk w I2 J2
set_option maxHeartbeats 4000000 in
set_option maxRecDepth 100000 in
theorem lw_sketch {x : XC} {v : VC} {Q : State → Prop} {k1 k2 b L o : Nat} {xs : Nat → Int32} (C : CxL x v k1 k2 b L xs) (hS : shSS v) (ho : 52 ≤ o) (hM : shMo v o) {σ : Mem} {n : Int} (hI : Inv σ o n) (hJ : JI σ n) (hn : 0 ≤ n ∧ n ≤ 511000) {i : Int} (h0 : 0 ≤ i) (h7 : i + 7 ≤ L) (kk : ∀ w : Mem, Inv w o (n + 1000) → JI w (n + 1000) → AtL x v Q k1 k2 1225 [(3, vI i), (0, .ref b), (1, .ref (vq v 0)), (2, .ref (vq v o))] [] w) : AtL x v Q k1 k2 675 [(3, vI i), (0, .ref b), (1, .ref (vq v 0)), (2, .ref (vq v o))] [] σ := by
  refine l_aload_n C dL_law_675 2 rfl rfl ?_
  refine l_aload_n C dL_law_676 1 rfl rfl ?_
  refine l_iload_n C dL_law_677 0 rfl rfl ?_
  refine l_iconst C dL_law_678 ?_
  refine l_iadd C dL_law_679 ?_
  refine l_sld C (by omega) (by omega) dL_law_680 ?_
  refine l_aload_n C dL_law_681 1 rfl rfl ?_
  refine l_iload_n C dL_law_682 0 rfl rfl ?_
  refine l_iconst C dL_law_683 ?_
  refine l_iadd C dL_law_684 ?_
  refine l_sld C (by omega) (by omega) dL_law_685 ?_
  refine l_cVI C (k0 := 2) (As := [vI (scI xs (i + 1)), vI (scI xs (i + 2))]) (rest := []) (c_X6_sketch x.2.1 v σ hS (scI xs (i + 1)) (scI xs (i + 2)) (scI_rg _ _) (scI_rg _ _) (hI.1.W (by omega))) gL_law_X6_sketch rfl (by decide +kernel) (by decide) hS.f0 rfl hS.n0 rfl rfl (Nat.le_of_ble_eq_true rfl) dL_law_686 (fun z u r1 p1 => ?_)
  obtain ⟨-, F1⟩ := ic_sketch hI.1 hn p1
  have F3 : ∀ a : Nat, o ≤ a → u a = σ a := fun a q => F1 a (by omega)
  refine l_aload_n C dL_law_689 3 rfl rfl ?_
  refine l_aload_n C dL_law_690 1 rfl rfl ?_
  refine l_iload_n C dL_law_691 0 rfl rfl ?_
  refine l_iconst C dL_law_692 ?_
  refine l_iadd C dL_law_693 ?_
  refine l_sld C (by omega) (by omega) dL_law_694 ?_
  refine l_aload_n C dL_law_695 1 rfl rfl ?_
  refine l_iload_n C dL_law_696 0 rfl rfl ?_
  refine l_iconst C dL_law_697 ?_
  refine l_iadd C dL_law_698 ?_
  refine l_sld C (by omega) (by omega) dL_law_699 ?_
  refine l_cVI C (k0 := 2) (As := [vI (scI xs (i + 1)), vI (scI xs (i + 2))]) (rest := [vI z]) (c_X7_sketch x.2.1 v u o hM (scI xs (i + 1)) (scI xs (i + 2)) (scI_rg _ _) (scI_rg _ _) (fun c c0 c1 => moK_up F3 (hI.K (by omega) c c0 c1))) gL_law_X7_sketch rfl (by decide +kernel) (by decide) hM.f0 rfl hM.n0 rfl rfl (Nat.le_of_ble_eq_true rfl) dL_law_700 (fun z9 w r2 p2 => ?_)
  obtain ⟨ez, I2⟩ := st_sketch ho hI hn p1 p2
  have J1 := ij_sketch hI.1 hn hJ p1
  have F2 := fm_sketch p2
  have J2 : JI w (n + 1000) := J1.cg (fun a q1 q2 => F2 a (by omega))
  refine l_icmp_eq C 1225 r1 r2 dL_law_703 (by decide) (fun _ => ?_) (fun q => absurd ez q)
  exact kk w I2 J2
set_option maxHeartbeats 4000000 in
set_option maxRecDepth 100000 in
theorem lw_span {x : XC} {v : VC} {Q : State → Prop} {k1 k2 b L o : Nat} {xs : Nat → Int32} (C : CxL x v k1 k2 b L xs) (hS : shSS v) (ho : 52 ≤ o) (hM : shMo v o) {σ : Mem} {n : Int} (hI : Inv σ o n) (hJ : JI σ n) (hn : 0 ≤ n ∧ n ≤ 511000) {i : Int} (h0 : 0 ≤ i) (h7 : i + 7 ≤ L) (kk : ∀ w : Mem, Inv w o (n + 1000) → JI w (n + 1000) → AtL x v Q k1 k2 1225 [(3, vI i), (0, .ref b), (1, .ref (vq v 0)), (2, .ref (vq v o))] [] w) : AtL x v Q k1 k2 708 [(3, vI i), (0, .ref b), (1, .ref (vq v 0)), (2, .ref (vq v o))] [] σ := by
  refine l_aload_n C dL_law_708 2 rfl rfl ?_
  refine l_aload_n C dL_law_709 1 rfl rfl ?_
  refine l_iload_n C dL_law_710 0 rfl rfl ?_
  refine l_iconst C dL_law_711 ?_
  refine l_iadd C dL_law_712 ?_
  refine l_sld C (by omega) (by omega) dL_law_713 ?_
  refine l_aload_n C dL_law_714 1 rfl rfl ?_
  refine l_iload_n C dL_law_715 0 rfl rfl ?_
  refine l_iconst C dL_law_716 ?_
  refine l_iadd C dL_law_717 ?_
  refine l_sld C (by omega) (by omega) dL_law_718 ?_
  refine l_aload_n C dL_law_719 1 rfl rfl ?_
  refine l_iload_n C dL_law_720 0 rfl rfl ?_
  refine l_iconst C dL_law_721 ?_
  refine l_iadd C dL_law_722 ?_
  refine l_sld C (by omega) (by omega) dL_law_723 ?_
  refine l_cVI C (k0 := 3) (As := [vI (scI xs (i + 1)), vI (scI xs (i + 2)), vI (scI xs (i + 3))]) (rest := []) (c_X6_span x.2.1 v σ hS (scI xs (i + 1)) (scI xs (i + 2)) (scI xs (i + 3)) (scI_rg _ _) (scI_rg _ _) (scI_rg _ _) (hI.1.W (by omega))) gL_law_X6_span rfl (by decide +kernel) (by decide) hS.f0 rfl hS.n0 rfl rfl (Nat.le_of_ble_eq_true rfl) dL_law_724 (fun z u r1 p1 => ?_)
  obtain ⟨-, F1⟩ := ic_span hI.1 hn p1
  have F3 : ∀ a : Nat, o ≤ a → u a = σ a := fun a q => F1 a (by omega)
  refine l_aload_n C dL_law_727 3 rfl rfl ?_
  refine l_aload_n C dL_law_728 1 rfl rfl ?_
  refine l_iload_n C dL_law_729 0 rfl rfl ?_
  refine l_iconst C dL_law_730 ?_
  refine l_iadd C dL_law_731 ?_
  refine l_sld C (by omega) (by omega) dL_law_732 ?_
  refine l_aload_n C dL_law_733 1 rfl rfl ?_
  refine l_iload_n C dL_law_734 0 rfl rfl ?_
  refine l_iconst C dL_law_735 ?_
  refine l_iadd C dL_law_736 ?_
  refine l_sld C (by omega) (by omega) dL_law_737 ?_
  refine l_aload_n C dL_law_738 1 rfl rfl ?_
  refine l_iload_n C dL_law_739 0 rfl rfl ?_
  refine l_iconst C dL_law_740 ?_
  refine l_iadd C dL_law_741 ?_
  refine l_sld C (by omega) (by omega) dL_law_742 ?_
  refine l_cVI C (k0 := 3) (As := [vI (scI xs (i + 1)), vI (scI xs (i + 2)), vI (scI xs (i + 3))]) (rest := [vI z]) (c_X7_span x.2.1 v u o hM (scI xs (i + 1)) (scI xs (i + 2)) (scI xs (i + 3)) (scI_rg _ _) (scI_rg _ _) (scI_rg _ _) (fun c c0 c1 => moK_up F3 (hI.K (by omega) c c0 c1))) gL_law_X7_span rfl (by decide +kernel) (by decide) hM.f0 rfl hM.n0 rfl rfl (Nat.le_of_ble_eq_true rfl) dL_law_743 (fun z9 w r2 p2 => ?_)
  obtain ⟨ez, I2⟩ := st_span ho hI hn p1 p2
  have J1 := ij_span hI.1 hn hJ p1
  have F2 := fm_span p2
  have J2 : JI w (n + 1000) := J1.cg (fun a q1 q2 => F2 a (by omega))
  refine l_icmp_eq C 1225 r1 r2 dL_law_746 (by decide) (fun _ => ?_) (fun q => absurd ez q)
  exact kk w I2 J2
set_option maxHeartbeats 4000000 in
set_option maxRecDepth 100000 in
theorem lw_heavy {x : XC} {v : VC} {Q : State → Prop} {k1 k2 b L o : Nat} {xs : Nat → Int32} (C : CxL x v k1 k2 b L xs) (hS : shSS v) (ho : 52 ≤ o) (hM : shMo v o) {σ : Mem} {n : Int} (hI : Inv σ o n) (hJ : JI σ n) (hn : 0 ≤ n ∧ n ≤ 511000) {i : Int} (h0 : 0 ≤ i) (h7 : i + 7 ≤ L) (kk : ∀ w : Mem, Inv w o (n + 1000) → JI w (n + 1000) → AtL x v Q k1 k2 1225 [(3, vI i), (0, .ref b), (1, .ref (vq v 0)), (2, .ref (vq v o))] [] w) : AtL x v Q k1 k2 751 [(3, vI i), (0, .ref b), (1, .ref (vq v 0)), (2, .ref (vq v o))] [] σ := by
  refine l_aload_n C dL_law_751 2 rfl rfl ?_
  refine l_aload_n C dL_law_752 1 rfl rfl ?_
  refine l_iload_n C dL_law_753 0 rfl rfl ?_
  refine l_iconst C dL_law_754 ?_
  refine l_iadd C dL_law_755 ?_
  refine l_sld C (by omega) (by omega) dL_law_756 ?_
  refine l_aload_n C dL_law_757 1 rfl rfl ?_
  refine l_iload_n C dL_law_758 0 rfl rfl ?_
  refine l_iconst C dL_law_759 ?_
  refine l_iadd C dL_law_760 ?_
  refine l_sld C (by omega) (by omega) dL_law_761 ?_
  refine l_cVI C (k0 := 2) (As := [vI (scI xs (i + 1)), vI (scI xs (i + 2))]) (rest := []) (c_X6_heavy x.2.1 v σ hS (scI xs (i + 1)) (scI xs (i + 2)) (scI_rg _ _) (scI_rg _ _) ) gL_law_X6_heavy rfl (by decide +kernel) (by decide) hS.f0 rfl hS.n0 rfl rfl (Nat.le_of_ble_eq_true rfl) dL_law_762 (fun z u r1 p1 => ?_)
  obtain ⟨-, F1⟩ := ic_heavy hI.1 hn p1
  have F3 : ∀ a : Nat, o ≤ a → u a = σ a := fun a q => F1 a (by omega)
  refine l_aload_n C dL_law_765 3 rfl rfl ?_
  refine l_aload_n C dL_law_766 1 rfl rfl ?_
  refine l_iload_n C dL_law_767 0 rfl rfl ?_
  refine l_iconst C dL_law_768 ?_
  refine l_iadd C dL_law_769 ?_
  refine l_sld C (by omega) (by omega) dL_law_770 ?_
  refine l_aload_n C dL_law_771 1 rfl rfl ?_
  refine l_iload_n C dL_law_772 0 rfl rfl ?_
  refine l_iconst C dL_law_773 ?_
  refine l_iadd C dL_law_774 ?_
  refine l_sld C (by omega) (by omega) dL_law_775 ?_
  refine l_cVI C (k0 := 2) (As := [vI (scI xs (i + 1)), vI (scI xs (i + 2))]) (rest := [vI z]) (c_X7_heavy x.2.1 v u o hM (scI xs (i + 1)) (scI xs (i + 2)) (scI_rg _ _) (scI_rg _ _) ) gL_law_X7_heavy rfl (by decide +kernel) (by decide) hM.f0 rfl hM.n0 rfl rfl (Nat.le_of_ble_eq_true rfl) dL_law_776 (fun z9 w r2 p2 => ?_)
  obtain ⟨ez, I2⟩ := st_heavy ho hI hn p1 p2
  have J1 := ij_heavy hI.1 hn hJ p1
  have F2 := fm_heavy p2
  have J2 : JI w (n + 1000) := J1.cg (fun a q1 q2 => F2 a (by omega))
  refine l_icmp_eq C 1225 r1 r2 dL_law_779 (by decide) (fun _ => ?_) (fun q => absurd ez q)
  exact kk w I2 J2
set_option maxHeartbeats 4000000 in
set_option maxRecDepth 100000 in
theorem lw_split {x : XC} {v : VC} {Q : State → Prop} {k1 k2 b L o : Nat} {xs : Nat → Int32} (C : CxL x v k1 k2 b L xs) (hS : shSS v) (ho : 52 ≤ o) (hM : shMo v o) {σ : Mem} {n : Int} (hI : Inv σ o n) (hJ : JI σ n) (hn : 0 ≤ n ∧ n ≤ 511000) {i : Int} (h0 : 0 ≤ i) (h7 : i + 7 ≤ L) (kk : ∀ w : Mem, Inv w o (n + 1000) → JI w (n + 1000) → AtL x v Q k1 k2 1225 [(3, vI i), (0, .ref b), (1, .ref (vq v 0)), (2, .ref (vq v o))] [] w) : AtL x v Q k1 k2 784 [(3, vI i), (0, .ref b), (1, .ref (vq v 0)), (2, .ref (vq v o))] [] σ := by
  refine l_aload_n C dL_law_784 2 rfl rfl ?_
  refine l_aload_n C dL_law_785 1 rfl rfl ?_
  refine l_iload_n C dL_law_786 0 rfl rfl ?_
  refine l_iconst C dL_law_787 ?_
  refine l_iadd C dL_law_788 ?_
  refine l_sld C (by omega) (by omega) dL_law_789 ?_
  refine l_aload_n C dL_law_790 1 rfl rfl ?_
  refine l_iload_n C dL_law_791 0 rfl rfl ?_
  refine l_iconst C dL_law_792 ?_
  refine l_iadd C dL_law_793 ?_
  refine l_sld C (by omega) (by omega) dL_law_794 ?_
  refine l_cVI C (k0 := 2) (As := [vI (scI xs (i + 1)), vI (scI xs (i + 2))]) (rest := []) (c_X6_split x.2.1 v σ hS (scI xs (i + 1)) (scI xs (i + 2)) (scI_rg _ _) (scI_rg _ _) (hI.1.W (by omega))) gL_law_X6_split rfl (by decide +kernel) (by decide) hS.f0 rfl hS.n0 rfl rfl (Nat.le_of_ble_eq_true rfl) dL_law_795 (fun z u r1 p1 => ?_)
  obtain ⟨-, F1⟩ := ic_split hI.1 hn p1
  have F3 : ∀ a : Nat, o ≤ a → u a = σ a := fun a q => F1 a (by omega)
  refine l_aload_n C dL_law_798 3 rfl rfl ?_
  refine l_aload_n C dL_law_799 1 rfl rfl ?_
  refine l_iload_n C dL_law_800 0 rfl rfl ?_
  refine l_iconst C dL_law_801 ?_
  refine l_iadd C dL_law_802 ?_
  refine l_sld C (by omega) (by omega) dL_law_803 ?_
  refine l_aload_n C dL_law_804 1 rfl rfl ?_
  refine l_iload_n C dL_law_805 0 rfl rfl ?_
  refine l_iconst C dL_law_806 ?_
  refine l_iadd C dL_law_807 ?_
  refine l_sld C (by omega) (by omega) dL_law_808 ?_
  refine l_cVI C (k0 := 2) (As := [vI (scI xs (i + 1)), vI (scI xs (i + 2))]) (rest := [vI z]) (c_X7_split x.2.1 v u o hM (scI xs (i + 1)) (scI xs (i + 2)) (scI_rg _ _) (scI_rg _ _) (fun c c0 c1 => moK_up F3 (hI.K (by omega) c c0 c1))) gL_law_X7_split rfl (by decide +kernel) (by decide) hM.f0 rfl hM.n0 rfl rfl (Nat.le_of_ble_eq_true rfl) dL_law_809 (fun z9 w r2 p2 => ?_)
  obtain ⟨ez, I2⟩ := st_split ho hI hn p1 p2
  have J1 := ij_split hI.1 hn hJ p1
  have F2 := fm_split p2
  have J2 : JI w (n + 1000) := J1.cg (fun a q1 q2 => F2 a (by omega))
  refine l_icmp_eq C 1225 r1 r2 dL_law_812 (by decide) (fun _ => ?_) (fun q => absurd ez q)
  exact kk w I2 J2
set_option maxHeartbeats 4000000 in
set_option maxRecDepth 100000 in
theorem lw_melt {x : XC} {v : VC} {Q : State → Prop} {k1 k2 b L o : Nat} {xs : Nat → Int32} (C : CxL x v k1 k2 b L xs) (hS : shSS v) (ho : 52 ≤ o) (hM : shMo v o) {σ : Mem} {n : Int} (hI : Inv σ o n) (hJ : JI σ n) (hn : 0 ≤ n ∧ n ≤ 511000) {i : Int} (h0 : 0 ≤ i) (h7 : i + 7 ≤ L) (kk : ∀ w : Mem, Inv w o (n + 1000) → JI w (n + 1000) → AtL x v Q k1 k2 1225 [(3, vI i), (0, .ref b), (1, .ref (vq v 0)), (2, .ref (vq v o))] [] w) : AtL x v Q k1 k2 817 [(3, vI i), (0, .ref b), (1, .ref (vq v 0)), (2, .ref (vq v o))] [] σ := by
  refine l_aload_n C dL_law_817 2 rfl rfl ?_
  refine l_aload_n C dL_law_818 1 rfl rfl ?_
  refine l_iload_n C dL_law_819 0 rfl rfl ?_
  refine l_iconst C dL_law_820 ?_
  refine l_iadd C dL_law_821 ?_
  refine l_sld C (by omega) (by omega) dL_law_822 ?_
  refine l_aload_n C dL_law_823 1 rfl rfl ?_
  refine l_iload_n C dL_law_824 0 rfl rfl ?_
  refine l_iconst C dL_law_825 ?_
  refine l_iadd C dL_law_826 ?_
  refine l_sld C (by omega) (by omega) dL_law_827 ?_
  refine l_cVI C (k0 := 2) (As := [vI (scI xs (i + 1)), vI (scI xs (i + 2))]) (rest := []) (c_X6_melt x.2.1 v σ hS (scI xs (i + 1)) (scI xs (i + 2)) (scI_rg _ _) (scI_rg _ _) (hI.1.W (by omega))) gL_law_X6_melt rfl (by decide +kernel) (by decide) hS.f0 rfl hS.n0 rfl rfl (Nat.le_of_ble_eq_true rfl) dL_law_828 (fun z u r1 p1 => ?_)
  obtain ⟨-, F1⟩ := ic_melt hI.1 hn p1
  have F3 : ∀ a : Nat, o ≤ a → u a = σ a := fun a q => F1 a (by omega)
  refine l_aload_n C dL_law_831 3 rfl rfl ?_
  refine l_aload_n C dL_law_832 1 rfl rfl ?_
  refine l_iload_n C dL_law_833 0 rfl rfl ?_
  refine l_iconst C dL_law_834 ?_
  refine l_iadd C dL_law_835 ?_
  refine l_sld C (by omega) (by omega) dL_law_836 ?_
  refine l_aload_n C dL_law_837 1 rfl rfl ?_
  refine l_iload_n C dL_law_838 0 rfl rfl ?_
  refine l_iconst C dL_law_839 ?_
  refine l_iadd C dL_law_840 ?_
  refine l_sld C (by omega) (by omega) dL_law_841 ?_
  refine l_cVI C (k0 := 2) (As := [vI (scI xs (i + 1)), vI (scI xs (i + 2))]) (rest := [vI z]) (c_X7_melt x.2.1 v u o hM (scI xs (i + 1)) (scI xs (i + 2)) (scI_rg _ _) (scI_rg _ _) (fun c c0 c1 => moK_up F3 (hI.K (by omega) c c0 c1))) gL_law_X7_melt rfl (by decide +kernel) (by decide) hM.f0 rfl hM.n0 rfl rfl (Nat.le_of_ble_eq_true rfl) dL_law_842 (fun z9 w r2 p2 => ?_)
  obtain ⟨ez, I2⟩ := st_melt ho hI hn p1 p2
  have J1 := ij_melt hI.1 hn hJ p1
  have F2 := fm_melt p2
  have J2 : JI w (n + 1000) := J1.cg (fun a q1 q2 => F2 a (by omega))
  refine l_icmp_eq C 1225 r1 r2 dL_law_845 (by decide) (fun _ => ?_) (fun q => absurd ez q)
  exact kk w I2 J2
set_option maxHeartbeats 4000000 in
set_option maxRecDepth 100000 in
theorem lw_keep {x : XC} {v : VC} {Q : State → Prop} {k1 k2 b L o : Nat} {xs : Nat → Int32} (C : CxL x v k1 k2 b L xs) (hS : shSS v) (ho : 52 ≤ o) (hM : shMo v o) {σ : Mem} {n : Int} (hI : Inv σ o n) (hJ : JI σ n) (hn : 0 ≤ n ∧ n ≤ 511000) {i : Int} (h0 : 0 ≤ i) (h7 : i + 7 ≤ L) (kk : ∀ w : Mem, Inv w o (n + 1000) → JI w (n + 1000) → AtL x v Q k1 k2 1225 [(3, vI i), (0, .ref b), (1, .ref (vq v 0)), (2, .ref (vq v o))] [] w) : AtL x v Q k1 k2 850 [(3, vI i), (0, .ref b), (1, .ref (vq v 0)), (2, .ref (vq v o))] [] σ := by
  refine l_aload_n C dL_law_850 2 rfl rfl ?_
  refine l_aload_n C dL_law_851 1 rfl rfl ?_
  refine l_iload_n C dL_law_852 0 rfl rfl ?_
  refine l_iconst C dL_law_853 ?_
  refine l_iadd C dL_law_854 ?_
  refine l_sld C (by omega) (by omega) dL_law_855 ?_
  refine l_cVI C (k0 := 1) (As := [vI (scI xs (i + 1))]) (rest := []) (c_X6_keep x.2.1 v σ hS (scI xs (i + 1)) (scI_rg _ _) (hI.1.W (by omega)) (hI.1.V (by omega))) gL_law_X6_keep rfl (by decide +kernel) (by decide) hS.f0 rfl hS.n0 rfl rfl (Nat.le_of_ble_eq_true rfl) dL_law_856 (fun z u r1 p1 => ?_)
  obtain ⟨-, F1⟩ := ic_keep hI.1 hn p1
  have F3 : ∀ a : Nat, o ≤ a → u a = σ a := fun a q => F1 a (by omega)
  refine l_aload_n C dL_law_859 3 rfl rfl ?_
  refine l_aload_n C dL_law_860 1 rfl rfl ?_
  refine l_iload_n C dL_law_861 0 rfl rfl ?_
  refine l_iconst C dL_law_862 ?_
  refine l_iadd C dL_law_863 ?_
  refine l_sld C (by omega) (by omega) dL_law_864 ?_
  refine l_cVI C (k0 := 1) (As := [vI (scI xs (i + 1))]) (rest := [vI z]) (c_X7_keep x.2.1 v u o hM (scI xs (i + 1)) (scI_rg _ _) (fun c c0 c1 => moK_up F3 (hI.K (by omega) c c0 c1))) gL_law_X7_keep rfl (by decide +kernel) (by decide) hM.f0 rfl hM.n0 rfl rfl (Nat.le_of_ble_eq_true rfl) dL_law_865 (fun z9 w r2 p2 => ?_)
  obtain ⟨ez, I2⟩ := st_keep ho hI hn p1 p2
  have J1 := ij_keep hI.1 hn hJ p1
  have F2 := fm_keep p2
  have J2 : JI w (n + 1000) := J1.cg (fun a q1 q2 => F2 a (by omega))
  refine l_icmp_eq C 1225 r1 r2 dL_law_868 (by decide) (fun _ => ?_) (fun q => absurd ez q)
  exact kk w I2 J2
set_option maxHeartbeats 4000000 in
set_option maxRecDepth 100000 in
theorem lw_together {x : XC} {v : VC} {Q : State → Prop} {k1 k2 b L o : Nat} {xs : Nat → Int32} (C : CxL x v k1 k2 b L xs) (hS : shSS v) (ho : 52 ≤ o) (hM : shMo v o) {σ : Mem} {n : Int} (hI : Inv σ o n) (hJ : JI σ n) (hn : 0 ≤ n ∧ n ≤ 511000) {i : Int} (h0 : 0 ≤ i) (h7 : i + 7 ≤ L) (kk : ∀ w : Mem, Inv w o (n + 1000) → JI w (n + 1000) → AtL x v Q k1 k2 1225 [(3, vI i), (0, .ref b), (1, .ref (vq v 0)), (2, .ref (vq v o))] [] w) : AtL x v Q k1 k2 873 [(3, vI i), (0, .ref b), (1, .ref (vq v 0)), (2, .ref (vq v o))] [] σ := by
  refine l_aload_n C dL_law_873 2 rfl rfl ?_
  refine l_aload_n C dL_law_874 1 rfl rfl ?_
  refine l_iload_n C dL_law_875 0 rfl rfl ?_
  refine l_iconst C dL_law_876 ?_
  refine l_iadd C dL_law_877 ?_
  refine l_sld C (by omega) (by omega) dL_law_878 ?_
  refine l_aload_n C dL_law_879 1 rfl rfl ?_
  refine l_iload_n C dL_law_880 0 rfl rfl ?_
  refine l_iconst C dL_law_881 ?_
  refine l_iadd C dL_law_882 ?_
  refine l_sld C (by omega) (by omega) dL_law_883 ?_
  refine l_cVI C (k0 := 2) (As := [vI (scI xs (i + 1)), vI (scI xs (i + 2))]) (rest := []) (c_X6_together x.2.1 v σ hS (scI xs (i + 1)) (scI xs (i + 2)) (scI_rg _ _) (scI_rg _ _) (hI.1.W (by omega)) (fun q1 q2 _ z1 z2 w9 => hI.1.G (by omega) q1 q2 z1 z2 w9)) gL_law_X6_together rfl (by decide +kernel) (by decide) hS.f0 rfl hS.n0 rfl rfl (Nat.le_of_ble_eq_true rfl) dL_law_884 (fun z u r1 p1 => ?_)
  obtain ⟨-, F1⟩ := ic_together hI.1 hn p1
  have F3 : ∀ a : Nat, o ≤ a → u a = σ a := fun a q => F1 a (by omega)
  have hG9 : (0 ≤ (scI xs (i + 1)) ∧ (scI xs (i + 1)) < 3) → (0 ≤ (scI xs (i + 2)) ∧ (scI xs (i + 2)) < 3) → (scI xs (i + 1)) ≠ (scI xs (i + 2)) → (u (o + 11) (scI xs (i + 1))) ≠ 0 → (u (o + 11) (scI xs (i + 2))) ≠ 0 → (hvS (shR (u (o + 14)) (40 * (scI xs (i + 1)))) (shR (u (o + 13)) (40 * (scI xs (i + 1)))) 0 39 + (smR (shR (u (o + 16)) (40 * (scI xs (i + 1)))) 0 (u (o + 11) (scI xs (i + 1))) + smR (shR (u (o + 17)) (40 * (scI xs (i + 1)))) 0 (u (o + 11) (scI xs (i + 1))))) + (hvS (shR (u (o + 14)) (40 * (scI xs (i + 2)))) (shR (u (o + 13)) (40 * (scI xs (i + 2)))) 0 39 + (smR (shR (u (o + 16)) (40 * (scI xs (i + 2)))) 0 (u (o + 11) (scI xs (i + 2))) + smR (shR (u (o + 17)) (40 * (scI xs (i + 2)))) 0 (u (o + 11) (scI xs (i + 2))))) ≤ 100000 → l1 (moV u o (scI xs (i + 1))) ≤ 2000000 ∧ l1 (moV u o (scI xs (i + 2))) ≤ 2000000 ∧ ∀ j : Int, 0 ≤ j → j < 40 → (shR (u (o + 14)) (40 * (scI xs (i + 2)))) j ≠ 0 → -200000 ≤ (shR (u (o + 13)) (40 * (scI xs (i + 2)))) j ∧ (shR (u (o + 13)) (40 * (scI xs (i + 2)))) j ≤ 200000 := by
    rw [F3 (o + 11) (by omega), F3 (o + 13) (by omega), F3 (o + 14) (by omega), F3 (o + 16) (by omega), F3 (o + 17) (by omega), moV_up F3, moV_up F3]
    exact fun q1 q2 _ z1 z2 w9 => hI.G (by omega) q1 q2 z1 z2 w9
  refine l_aload_n C dL_law_887 3 rfl rfl ?_
  refine l_aload_n C dL_law_888 1 rfl rfl ?_
  refine l_iload_n C dL_law_889 0 rfl rfl ?_
  refine l_iconst C dL_law_890 ?_
  refine l_iadd C dL_law_891 ?_
  refine l_sld C (by omega) (by omega) dL_law_892 ?_
  refine l_aload_n C dL_law_893 1 rfl rfl ?_
  refine l_iload_n C dL_law_894 0 rfl rfl ?_
  refine l_iconst C dL_law_895 ?_
  refine l_iadd C dL_law_896 ?_
  refine l_sld C (by omega) (by omega) dL_law_897 ?_
  refine l_cVI C (k0 := 2) (As := [vI (scI xs (i + 1)), vI (scI xs (i + 2))]) (rest := [vI z]) (c_X7_together x.2.1 v u o hM (scI xs (i + 1)) (scI xs (i + 2)) (scI_rg _ _) (scI_rg _ _) (fun c c0 c1 => moK_up F3 (hI.K (by omega) c c0 c1)) hG9) gL_law_X7_together rfl (by decide +kernel) (by decide) hM.f0 rfl hM.n0 rfl rfl (Nat.le_of_ble_eq_true rfl) dL_law_898 (fun z9 w r2 p2 => ?_)
  obtain ⟨ez, I2⟩ := st_together ho hI hn p1 p2
  have J1 := ij_together hI.1 hn hJ p1
  have F2 := fm_together p2
  have J2 : JI w (n + 1000) := J1.cg (fun a q1 q2 => F2 a (by omega))
  refine l_icmp_eq C 1225 r1 r2 dL_law_901 (by decide) (fun _ => ?_) (fun q => absurd ez q)
  exact kk w I2 J2
set_option maxHeartbeats 4000000 in
set_option maxRecDepth 100000 in
theorem lw_drifts {x : XC} {v : VC} {Q : State → Prop} {k1 k2 b L o : Nat} {xs : Nat → Int32} (C : CxL x v k1 k2 b L xs) (hS : shSS v) (ho : 52 ≤ o) (hM : shMo v o) {σ : Mem} {n : Int} (hI : Inv σ o n) (hJ : JI σ n) (hn : 0 ≤ n ∧ n ≤ 511000) {i : Int} (h0 : 0 ≤ i) (h7 : i + 7 ≤ L) (kk : ∀ w : Mem, Inv w o (n + 1000) → JI w (n + 1000) → AtL x v Q k1 k2 1225 [(3, vI i), (0, .ref b), (1, .ref (vq v 0)), (2, .ref (vq v o))] [] w) : AtL x v Q k1 k2 906 [(3, vI i), (0, .ref b), (1, .ref (vq v 0)), (2, .ref (vq v o))] [] σ := by
  refine l_aload_n C dL_law_906 2 rfl rfl ?_
  refine l_aload_n C dL_law_907 1 rfl rfl ?_
  refine l_iload_n C dL_law_908 0 rfl rfl ?_
  refine l_iconst C dL_law_909 ?_
  refine l_iadd C dL_law_910 ?_
  refine l_sld C (by omega) (by omega) dL_law_911 ?_
  refine l_cVI C (k0 := 1) (As := [vI (scI xs (i + 1))]) (rest := []) (c_X6_drifts x.2.1 v σ hS (scI xs (i + 1)) (scI_rg _ _) ) gL_law_X6_drifts rfl (by decide +kernel) (by decide) hS.f0 rfl hS.n0 rfl rfl (Nat.le_of_ble_eq_true rfl) dL_law_912 (fun z u r1 p1 => ?_)
  obtain ⟨-, F1⟩ := ic_drifts hI.1 hn p1
  have F3 : ∀ a : Nat, o ≤ a → u a = σ a := fun a q => F1 a (by omega)
  refine l_aload_n C dL_law_915 3 rfl rfl ?_
  refine l_aload_n C dL_law_916 1 rfl rfl ?_
  refine l_iload_n C dL_law_917 0 rfl rfl ?_
  refine l_iconst C dL_law_918 ?_
  refine l_iadd C dL_law_919 ?_
  refine l_sld C (by omega) (by omega) dL_law_920 ?_
  refine l_cVI C (k0 := 1) (As := [vI (scI xs (i + 1))]) (rest := [vI z]) (c_X7_drifts x.2.1 v u o hM (scI xs (i + 1)) (scI_rg _ _) ) gL_law_X7_drifts rfl (by decide +kernel) (by decide) hM.f0 rfl hM.n0 rfl rfl (Nat.le_of_ble_eq_true rfl) dL_law_921 (fun z9 w r2 p2 => ?_)
  obtain ⟨ez, I2⟩ := st_drifts ho hI hn p1 p2
  have J1 := ij_drifts hI.1 hn hJ p1
  have F2 := fm_drifts p2
  have J2 : JI w (n + 1000) := J1.cg (fun a q1 q2 => F2 a (by omega))
  refine l_icmp_eq C 1225 r1 r2 dL_law_924 (by decide) (fun _ => ?_) (fun q => absurd ez q)
  exact kk w I2 J2
set_option maxHeartbeats 4000000 in
set_option maxRecDepth 100000 in
theorem lw_guess {x : XC} {v : VC} {Q : State → Prop} {k1 k2 b L o : Nat} {xs : Nat → Int32} (C : CxL x v k1 k2 b L xs) (hS : shSS v) (ho : 52 ≤ o) (hM : shMo v o) {σ : Mem} {n : Int} (hI : Inv σ o n) (hJ : JI σ n) (hn : 0 ≤ n ∧ n ≤ 511000) {i : Int} (h0 : 0 ≤ i) (h7 : i + 7 ≤ L) (kk : ∀ w : Mem, Inv w o (n + 1000) → JI w (n + 1000) → AtL x v Q k1 k2 1225 [(3, vI i), (0, .ref b), (1, .ref (vq v 0)), (2, .ref (vq v o))] [] w) : AtL x v Q k1 k2 929 [(3, vI i), (0, .ref b), (1, .ref (vq v 0)), (2, .ref (vq v o))] [] σ := by
  refine l_aload_n C dL_law_929 2 rfl rfl ?_
  refine l_aload_n C dL_law_930 1 rfl rfl ?_
  refine l_iload_n C dL_law_931 0 rfl rfl ?_
  refine l_iconst C dL_law_932 ?_
  refine l_iadd C dL_law_933 ?_
  refine l_sld C (by omega) (by omega) dL_law_934 ?_
  refine l_aload_n C dL_law_935 1 rfl rfl ?_
  refine l_iload_n C dL_law_936 0 rfl rfl ?_
  refine l_iconst C dL_law_937 ?_
  refine l_iadd C dL_law_938 ?_
  refine l_sld C (by omega) (by omega) dL_law_939 ?_
  refine l_aload_n C dL_law_940 1 rfl rfl ?_
  refine l_iload_n C dL_law_941 0 rfl rfl ?_
  refine l_iconst C dL_law_942 ?_
  refine l_iadd C dL_law_943 ?_
  refine l_sld C (by omega) (by omega) dL_law_944 ?_
  refine l_cVI C (k0 := 3) (As := [vI (scI xs (i + 1)), vI (scI xs (i + 2)), vI (scI xs (i + 3))]) (rest := []) (c_X6_guess x.2.1 v σ hS (scI xs (i + 1)) (scI xs (i + 2)) (scI xs (i + 3)) (scI_rg _ _) (scI_rg _ _) (scI_rg _ _) (hI.1.W (by omega)) (fun q1 q2 q3 => hI.1.gu (by omega) q1 q2 q3)) gL_law_X6_guess rfl (by decide +kernel) (by decide) hS.f0 rfl hS.n0 rfl rfl (Nat.le_of_ble_eq_true rfl) dL_law_945 (fun z u r1 p1 => ?_)
  obtain ⟨-, F1⟩ := ic_guess hI.1 hn p1
  have F3 : ∀ a : Nat, o ≤ a → u a = σ a := fun a q => F1 a (by omega)
  refine l_aload_n C dL_law_948 3 rfl rfl ?_
  refine l_aload_n C dL_law_949 1 rfl rfl ?_
  refine l_iload_n C dL_law_950 0 rfl rfl ?_
  refine l_iconst C dL_law_951 ?_
  refine l_iadd C dL_law_952 ?_
  refine l_sld C (by omega) (by omega) dL_law_953 ?_
  refine l_aload_n C dL_law_954 1 rfl rfl ?_
  refine l_iload_n C dL_law_955 0 rfl rfl ?_
  refine l_iconst C dL_law_956 ?_
  refine l_iadd C dL_law_957 ?_
  refine l_sld C (by omega) (by omega) dL_law_958 ?_
  refine l_aload_n C dL_law_959 1 rfl rfl ?_
  refine l_iload_n C dL_law_960 0 rfl rfl ?_
  refine l_iconst C dL_law_961 ?_
  refine l_iadd C dL_law_962 ?_
  refine l_sld C (by omega) (by omega) dL_law_963 ?_
  refine l_cVI C (k0 := 3) (As := [vI (scI xs (i + 1)), vI (scI xs (i + 2)), vI (scI xs (i + 3))]) (rest := [vI z]) (c_X7_guess x.2.1 v u o hM (scI xs (i + 1)) (scI xs (i + 2)) (scI xs (i + 3)) (scI_rg _ _) (scI_rg _ _) (scI_rg _ _) (fun c c0 c1 => moK_up F3 (hI.K (by omega) c c0 c1)) (fun q1 q2 q3 => by rw [moG_up F3]; exact hI.gm (by omega) q1 q2 (by rw [← F3 _ (by omega)]; exact q3))) gL_law_X7_guess rfl (by decide +kernel) (by decide) hM.f0 rfl hM.n0 rfl rfl (Nat.le_of_ble_eq_true rfl) dL_law_964 (fun z9 w r2 p2 => ?_)
  obtain ⟨ez, I2⟩ := st_guess ho hI hn p1 p2
  have J1 := ij_guess hI.1 hn hJ p1
  have F2 := fm_guess p2
  have J2 : JI w (n + 1000) := J1.cg (fun a q1 q2 => F2 a (by omega))
  refine l_icmp_eq C 1225 r1 r2 dL_law_967 (by decide) (fun _ => ?_) (fun q => absurd ez q)
  exact kk w I2 J2
set_option maxHeartbeats 4000000 in
set_option maxRecDepth 100000 in
theorem lw_bound {x : XC} {v : VC} {Q : State → Prop} {k1 k2 b L o : Nat} {xs : Nat → Int32} (C : CxL x v k1 k2 b L xs) (hS : shSS v) (ho : 52 ≤ o) (hM : shMo v o) {σ : Mem} {n : Int} (hI : Inv σ o n) (hJ : JI σ n) (hn : 0 ≤ n ∧ n ≤ 511000) {i : Int} (h0 : 0 ≤ i) (h7 : i + 7 ≤ L) (kk : ∀ w : Mem, Inv w o (n + 1000) → JI w (n + 1000) → AtL x v Q k1 k2 1225 [(3, vI i), (0, .ref b), (1, .ref (vq v 0)), (2, .ref (vq v o))] [] w) : AtL x v Q k1 k2 972 [(3, vI i), (0, .ref b), (1, .ref (vq v 0)), (2, .ref (vq v o))] [] σ := by
  refine l_aload_n C dL_law_972 2 rfl rfl ?_
  refine l_aload_n C dL_law_973 1 rfl rfl ?_
  refine l_iload_n C dL_law_974 0 rfl rfl ?_
  refine l_iconst C dL_law_975 ?_
  refine l_iadd C dL_law_976 ?_
  refine l_sld C (by omega) (by omega) dL_law_977 ?_
  refine l_aload_n C dL_law_978 1 rfl rfl ?_
  refine l_iload_n C dL_law_979 0 rfl rfl ?_
  refine l_iconst C dL_law_980 ?_
  refine l_iadd C dL_law_981 ?_
  refine l_sld C (by omega) (by omega) dL_law_982 ?_
  refine l_aload_n C dL_law_983 1 rfl rfl ?_
  refine l_iload_n C dL_law_984 0 rfl rfl ?_
  refine l_iconst C dL_law_985 ?_
  refine l_iadd C dL_law_986 ?_
  refine l_sld C (by omega) (by omega) dL_law_987 ?_
  refine l_aload_n C dL_law_988 1 rfl rfl ?_
  refine l_iload_n C dL_law_989 0 rfl rfl ?_
  refine l_iconst C dL_law_990 ?_
  refine l_iadd C dL_law_991 ?_
  refine l_sld C (by omega) (by omega) dL_law_992 ?_
  refine l_if_eq C 1000 (scI_rg _ _) dL_law_993 (by decide) (fun c993 => ?_) (fun c993 => ?_)
  · skip
    refine l_iconst C dL_law_1000 ?_
    refine l_cVI C (k0 := 4) (As := [vI (scI xs (i + 1)), vI (scI xs (i + 2)), vI (scI xs (i + 3)), vI 0]) (rest := []) (c_X6_bound x.2.1 v σ hS (scI xs (i + 1)) (scI xs (i + 2)) (scI xs (i + 3)) 0 (scI_rg _ _) (scI_rg _ _) (scI_rg _ _) (by decide) (hI.1.W (by omega))) gL_law_X6_bound rfl (by decide +kernel) (by decide) hS.f0 rfl hS.n0 rfl rfl (Nat.le_of_ble_eq_true rfl) dL_law_1001 (fun z u r1 p1 => ?_)
    obtain ⟨-, F1⟩ := ic_bound hI.1 hn p1
    have F3 : ∀ a : Nat, o ≤ a → u a = σ a := fun a q => F1 a (by omega)
    refine l_aload_n C dL_law_1004 3 rfl rfl ?_
    refine l_aload_n C dL_law_1005 1 rfl rfl ?_
    refine l_iload_n C dL_law_1006 0 rfl rfl ?_
    refine l_iconst C dL_law_1007 ?_
    refine l_iadd C dL_law_1008 ?_
    refine l_sld C (by omega) (by omega) dL_law_1009 ?_
    refine l_aload_n C dL_law_1010 1 rfl rfl ?_
    refine l_iload_n C dL_law_1011 0 rfl rfl ?_
    refine l_iconst C dL_law_1012 ?_
    refine l_iadd C dL_law_1013 ?_
    refine l_sld C (by omega) (by omega) dL_law_1014 ?_
    refine l_aload_n C dL_law_1015 1 rfl rfl ?_
    refine l_iload_n C dL_law_1016 0 rfl rfl ?_
    refine l_iconst C dL_law_1017 ?_
    refine l_iadd C dL_law_1018 ?_
    refine l_sld C (by omega) (by omega) dL_law_1019 ?_
    refine l_aload_n C dL_law_1020 1 rfl rfl ?_
    refine l_iload_n C dL_law_1021 0 rfl rfl ?_
    refine l_iconst C dL_law_1022 ?_
    refine l_iadd C dL_law_1023 ?_
    refine l_sld C (by omega) (by omega) dL_law_1024 ?_
    refine l_if_eq C 1032 (scI_rg _ _) dL_law_1025 (by decide) (fun c1025 => ?_) (fun c1025 => ?_)
    · skip
      refine l_iconst C dL_law_1032 ?_
      refine l_cVI C (k0 := 4) (As := [vI (scI xs (i + 1)), vI (scI xs (i + 2)), vI (scI xs (i + 3)), vI 0]) (rest := [vI z]) (c_X7_bound x.2.1 v u o hM (scI xs (i + 1)) (scI xs (i + 2)) (scI xs (i + 3)) 0 (scI_rg _ _) (scI_rg _ _) (scI_rg _ _) (by decide) (fun c c0 c1 => moK_up F3 (hI.K (by omega) c c0 c1))) gL_law_X7_bound rfl (by decide +kernel) (by decide) hM.f0 rfl hM.n0 rfl rfl (Nat.le_of_ble_eq_true rfl) dL_law_1033 (fun z9 w r2 p2 => ?_)
      obtain ⟨ez, I2⟩ := st_bound ho hI hn p1 p2
      have J1 := ij_bound hI.1 hn hJ p1
      have F2 := fm_bound p2
      have J2 : JI w (n + 1000) := J1.cg (fun a q1 q2 => F2 a (by omega))
      refine l_icmp_eq C 1225 r1 r2 dL_law_1036 (by decide) (fun _ => ?_) (fun q => absurd ez q)
      exact kk w I2 J2
    · skip
      exact absurd c993 c1025
  · skip
    refine l_iconst C dL_law_996 ?_
    refine l_goto C 1001 dL_law_997 (by decide) ?_
    refine l_cVI C (k0 := 4) (As := [vI (scI xs (i + 1)), vI (scI xs (i + 2)), vI (scI xs (i + 3)), vI 1]) (rest := []) (c_X6_bound x.2.1 v σ hS (scI xs (i + 1)) (scI xs (i + 2)) (scI xs (i + 3)) 1 (scI_rg _ _) (scI_rg _ _) (scI_rg _ _) (by decide) (hI.1.W (by omega))) gL_law_X6_bound rfl (by decide +kernel) (by decide) hS.f0 rfl hS.n0 rfl rfl (Nat.le_of_ble_eq_true rfl) dL_law_1001 (fun z u r1 p1 => ?_)
    obtain ⟨-, F1⟩ := ic_bound hI.1 hn p1
    have F3 : ∀ a : Nat, o ≤ a → u a = σ a := fun a q => F1 a (by omega)
    refine l_aload_n C dL_law_1004 3 rfl rfl ?_
    refine l_aload_n C dL_law_1005 1 rfl rfl ?_
    refine l_iload_n C dL_law_1006 0 rfl rfl ?_
    refine l_iconst C dL_law_1007 ?_
    refine l_iadd C dL_law_1008 ?_
    refine l_sld C (by omega) (by omega) dL_law_1009 ?_
    refine l_aload_n C dL_law_1010 1 rfl rfl ?_
    refine l_iload_n C dL_law_1011 0 rfl rfl ?_
    refine l_iconst C dL_law_1012 ?_
    refine l_iadd C dL_law_1013 ?_
    refine l_sld C (by omega) (by omega) dL_law_1014 ?_
    refine l_aload_n C dL_law_1015 1 rfl rfl ?_
    refine l_iload_n C dL_law_1016 0 rfl rfl ?_
    refine l_iconst C dL_law_1017 ?_
    refine l_iadd C dL_law_1018 ?_
    refine l_sld C (by omega) (by omega) dL_law_1019 ?_
    refine l_aload_n C dL_law_1020 1 rfl rfl ?_
    refine l_iload_n C dL_law_1021 0 rfl rfl ?_
    refine l_iconst C dL_law_1022 ?_
    refine l_iadd C dL_law_1023 ?_
    refine l_sld C (by omega) (by omega) dL_law_1024 ?_
    refine l_if_eq C 1032 (scI_rg _ _) dL_law_1025 (by decide) (fun c1025 => ?_) (fun c1025 => ?_)
    · skip
      exact absurd c1025 c993
    · skip
      refine l_iconst C dL_law_1028 ?_
      refine l_goto C 1033 dL_law_1029 (by decide) ?_
      refine l_cVI C (k0 := 4) (As := [vI (scI xs (i + 1)), vI (scI xs (i + 2)), vI (scI xs (i + 3)), vI 1]) (rest := [vI z]) (c_X7_bound x.2.1 v u o hM (scI xs (i + 1)) (scI xs (i + 2)) (scI xs (i + 3)) 1 (scI_rg _ _) (scI_rg _ _) (scI_rg _ _) (by decide) (fun c c0 c1 => moK_up F3 (hI.K (by omega) c c0 c1))) gL_law_X7_bound rfl (by decide +kernel) (by decide) hM.f0 rfl hM.n0 rfl rfl (Nat.le_of_ble_eq_true rfl) dL_law_1033 (fun z9 w r2 p2 => ?_)
      obtain ⟨ez, I2⟩ := st_bound ho hI hn p1 p2
      have J1 := ij_bound hI.1 hn hJ p1
      have F2 := fm_bound p2
      have J2 : JI w (n + 1000) := J1.cg (fun a q1 q2 => F2 a (by omega))
      refine l_icmp_eq C 1225 r1 r2 dL_law_1036 (by decide) (fun _ => ?_) (fun q => absurd ez q)
      exact kk w I2 J2
set_option maxHeartbeats 4000000 in
set_option maxRecDepth 100000 in
theorem lw_join {x : XC} {v : VC} {Q : State → Prop} {k1 k2 b L o : Nat} {xs : Nat → Int32} (C : CxL x v k1 k2 b L xs) (hS : shSS v) (ho : 52 ≤ o) (hM : shMo v o) {σ : Mem} {n : Int} (hI : Inv σ o n) (hJ : JI σ n) (hn : 0 ≤ n ∧ n ≤ 511000) {i : Int} (h0 : 0 ≤ i) (h7 : i + 7 ≤ L) (kk : ∀ w : Mem, Inv w o (n + 1000) → JI w (n + 1000) → AtL x v Q k1 k2 1225 [(3, vI i), (0, .ref b), (1, .ref (vq v 0)), (2, .ref (vq v o))] [] w) : AtL x v Q k1 k2 1041 [(3, vI i), (0, .ref b), (1, .ref (vq v 0)), (2, .ref (vq v o))] [] σ := by
  refine l_aload_n C dL_law_1041 2 rfl rfl ?_
  refine l_aload_n C dL_law_1042 1 rfl rfl ?_
  refine l_iload_n C dL_law_1043 0 rfl rfl ?_
  refine l_iconst C dL_law_1044 ?_
  refine l_iadd C dL_law_1045 ?_
  refine l_sld C (by omega) (by omega) dL_law_1046 ?_
  refine l_aload_n C dL_law_1047 1 rfl rfl ?_
  refine l_iload_n C dL_law_1048 0 rfl rfl ?_
  refine l_iconst C dL_law_1049 ?_
  refine l_iadd C dL_law_1050 ?_
  refine l_sld C (by omega) (by omega) dL_law_1051 ?_
  refine l_cVI C (k0 := 2) (As := [vI (scI xs (i + 1)), vI (scI xs (i + 2))]) (rest := []) (c_X6_join x.2.1 v σ hS (scI xs (i + 1)) (scI xs (i + 2)) (scI_rg _ _) (scI_rg _ _) (hI.1.W (by omega)) (fun q1 q2 q3 q4 => hI.1.jo hn hJ q1 q2 q3 q4)) gL_law_X6_join rfl (by decide +kernel) (by decide) hS.f0 rfl hS.n0 rfl rfl (Nat.le_of_ble_eq_true rfl) dL_law_1052 (fun z u r1 p1 => ?_)
  obtain ⟨-, F1⟩ := ic_join hI.1 hn p1
  have F3 : ∀ a : Nat, o ≤ a → u a = σ a := fun a q => F1 a (by omega)
  refine l_aload_n C dL_law_1055 3 rfl rfl ?_
  refine l_aload_n C dL_law_1056 1 rfl rfl ?_
  refine l_iload_n C dL_law_1057 0 rfl rfl ?_
  refine l_iconst C dL_law_1058 ?_
  refine l_iadd C dL_law_1059 ?_
  refine l_sld C (by omega) (by omega) dL_law_1060 ?_
  refine l_aload_n C dL_law_1061 1 rfl rfl ?_
  refine l_iload_n C dL_law_1062 0 rfl rfl ?_
  refine l_iconst C dL_law_1063 ?_
  refine l_iadd C dL_law_1064 ?_
  refine l_sld C (by omega) (by omega) dL_law_1065 ?_
  refine l_cVI C (k0 := 2) (As := [vI (scI xs (i + 1)), vI (scI xs (i + 2))]) (rest := [vI z]) (c_X7_join x.2.1 v u o hM (scI xs (i + 1)) (scI xs (i + 2)) (scI_rg _ _) (scI_rg _ _) (fun c c0 c1 => moK_up F3 (hI.K (by omega) c c0 c1)) (fun q1 q2 q3 q4 => mjOK_up F3 (mjo_of hn hI hJ q1 q2 (by rw [← F3 _ (by omega)]; exact q3) (by rw [← F3 _ (by omega)]; exact q4)))) gL_law_X7_join rfl (by decide +kernel) (by decide) hM.f0 rfl hM.n0 rfl rfl (Nat.le_of_ble_eq_true rfl) dL_law_1066 (fun z9 w r2 p2 => ?_)
  obtain ⟨ez, I2⟩ := st_join ho hI hn p1 p2
  have J1 := ij_join hI.1 hn hJ p1
  have F2 := fm_join p2
  have J2 : JI w (n + 1000) := J1.cg (fun a q1 q2 => F2 a (by omega))
  refine l_icmp_eq C 1225 r1 r2 dL_law_1069 (by decide) (fun _ => ?_) (fun q => absurd ez q)
  exact kk w I2 J2
set_option maxHeartbeats 4000000 in
set_option maxRecDepth 100000 in
theorem lw_harm {x : XC} {v : VC} {Q : State → Prop} {k1 k2 b L o : Nat} {xs : Nat → Int32} (C : CxL x v k1 k2 b L xs) (hS : shSS v) (ho : 52 ≤ o) (hM : shMo v o) {σ : Mem} {n : Int} (hI : Inv σ o n) (hJ : JI σ n) (hn : 0 ≤ n ∧ n ≤ 511000) {i : Int} (h0 : 0 ≤ i) (h7 : i + 7 ≤ L) (kk : ∀ w : Mem, Inv w o (n + 1000) → JI w (n + 1000) → AtL x v Q k1 k2 1225 [(3, vI i), (0, .ref b), (1, .ref (vq v 0)), (2, .ref (vq v o))] [] w) : AtL x v Q k1 k2 1074 [(3, vI i), (0, .ref b), (1, .ref (vq v 0)), (2, .ref (vq v o))] [] σ := by
  refine l_aload_n C dL_law_1074 2 rfl rfl ?_
  refine l_aload_n C dL_law_1075 1 rfl rfl ?_
  refine l_iload_n C dL_law_1076 0 rfl rfl ?_
  refine l_iconst C dL_law_1077 ?_
  refine l_iadd C dL_law_1078 ?_
  refine l_sld C (by omega) (by omega) dL_law_1079 ?_
  refine l_aload_n C dL_law_1080 1 rfl rfl ?_
  refine l_iload_n C dL_law_1081 0 rfl rfl ?_
  refine l_iconst C dL_law_1082 ?_
  refine l_iadd C dL_law_1083 ?_
  refine l_sld C (by omega) (by omega) dL_law_1084 ?_
  refine l_aload_n C dL_law_1085 1 rfl rfl ?_
  refine l_iload_n C dL_law_1086 0 rfl rfl ?_
  refine l_iconst C dL_law_1087 ?_
  refine l_iadd C dL_law_1088 ?_
  refine l_sld C (by omega) (by omega) dL_law_1089 ?_
  refine l_aload_n C dL_law_1090 1 rfl rfl ?_
  refine l_iload_n C dL_law_1091 0 rfl rfl ?_
  refine l_iconst C dL_law_1092 ?_
  refine l_iadd C dL_law_1093 ?_
  refine l_sld C (by omega) (by omega) dL_law_1094 ?_
  refine l_aload_n C dL_law_1095 1 rfl rfl ?_
  refine l_iload_n C dL_law_1096 0 rfl rfl ?_
  refine l_iconst C dL_law_1097 ?_
  refine l_iadd C dL_law_1098 ?_
  refine l_sld C (by omega) (by omega) dL_law_1099 ?_
  refine l_aload_n C dL_law_1100 1 rfl rfl ?_
  refine l_iload_n C dL_law_1101 0 rfl rfl ?_
  refine l_bipush C dL_law_1102 ?_
  refine l_iadd C dL_law_1104 ?_
  refine l_sld C (by omega) (by omega) dL_law_1105 ?_
  refine l_cVI C (k0 := 6) (As := [vI (scI xs (i + 1)), vI (scI xs (i + 2)), vI (scI xs (i + 3)), vI (scI xs (i + 4)), vI (scI xs (i + 5)), vI (scI xs (i + 6))]) (rest := []) (c_X6_harm x.2.1 v σ hS (scI xs (i + 1)) (scI xs (i + 2)) (scI xs (i + 3)) (scI xs (i + 4)) (scI xs (i + 5)) (scI xs (i + 6)) (scI_rg _ _) (scI_rg _ _) (scI_rg _ _) (scI_rg _ _) (scI_rg _ _) (scI_rg _ _) (hI.1.W (by omega))) gL_law_X6_harm rfl (by decide +kernel) (by decide) hS.f0 rfl hS.n0 rfl rfl (Nat.le_of_ble_eq_true rfl) dL_law_1106 (fun z u r1 p1 => ?_)
  obtain ⟨-, F1⟩ := ic_harm hI.1 hn p1
  have F3 : ∀ a : Nat, o ≤ a → u a = σ a := fun a q => F1 a (by omega)
  refine l_aload_n C dL_law_1109 3 rfl rfl ?_
  refine l_aload_n C dL_law_1110 1 rfl rfl ?_
  refine l_iload_n C dL_law_1111 0 rfl rfl ?_
  refine l_iconst C dL_law_1112 ?_
  refine l_iadd C dL_law_1113 ?_
  refine l_sld C (by omega) (by omega) dL_law_1114 ?_
  refine l_aload_n C dL_law_1115 1 rfl rfl ?_
  refine l_iload_n C dL_law_1116 0 rfl rfl ?_
  refine l_iconst C dL_law_1117 ?_
  refine l_iadd C dL_law_1118 ?_
  refine l_sld C (by omega) (by omega) dL_law_1119 ?_
  refine l_aload_n C dL_law_1120 1 rfl rfl ?_
  refine l_iload_n C dL_law_1121 0 rfl rfl ?_
  refine l_iconst C dL_law_1122 ?_
  refine l_iadd C dL_law_1123 ?_
  refine l_sld C (by omega) (by omega) dL_law_1124 ?_
  refine l_aload_n C dL_law_1125 1 rfl rfl ?_
  refine l_iload_n C dL_law_1126 0 rfl rfl ?_
  refine l_iconst C dL_law_1127 ?_
  refine l_iadd C dL_law_1128 ?_
  refine l_sld C (by omega) (by omega) dL_law_1129 ?_
  refine l_aload_n C dL_law_1130 1 rfl rfl ?_
  refine l_iload_n C dL_law_1131 0 rfl rfl ?_
  refine l_iconst C dL_law_1132 ?_
  refine l_iadd C dL_law_1133 ?_
  refine l_sld C (by omega) (by omega) dL_law_1134 ?_
  refine l_aload_n C dL_law_1135 1 rfl rfl ?_
  refine l_iload_n C dL_law_1136 0 rfl rfl ?_
  refine l_bipush C dL_law_1137 ?_
  refine l_iadd C dL_law_1139 ?_
  refine l_sld C (by omega) (by omega) dL_law_1140 ?_
  refine l_cVI C (k0 := 6) (As := [vI (scI xs (i + 1)), vI (scI xs (i + 2)), vI (scI xs (i + 3)), vI (scI xs (i + 4)), vI (scI xs (i + 5)), vI (scI xs (i + 6))]) (rest := [vI z]) (c_X7_harm x.2.1 v u o hM (scI xs (i + 1)) (scI xs (i + 2)) (scI xs (i + 3)) (scI xs (i + 4)) (scI xs (i + 5)) (scI xs (i + 6)) (scI_rg _ _) (scI_rg _ _) (scI_rg _ _) (scI_rg _ _) (scI_rg _ _) (scI_rg _ _) (fun c c0 c1 => moK_up F3 (hI.K (by omega) c c0 c1))) gL_law_X7_harm rfl (by decide +kernel) (by decide) hM.f0 rfl hM.n0 rfl rfl (Nat.le_of_ble_eq_true rfl) dL_law_1141 (fun z9 w r2 p2 => ?_)
  obtain ⟨ez, I2⟩ := st_harm ho hI hn p1 p2
  have J1 := ij_harm hI.1 hn hJ p1
  have F2 := fm_harm p2
  have J2 : JI w (n + 1000) := J1.cg (fun a q1 q2 => F2 a (by omega))
  refine l_icmp_eq C 1225 r1 r2 dL_law_1144 (by decide) (fun _ => ?_) (fun q => absurd ez q)
  exact kk w I2 J2
set_option maxHeartbeats 4000000 in
set_option maxRecDepth 100000 in
theorem lw_sample {x : XC} {v : VC} {Q : State → Prop} {k1 k2 b L o : Nat} {xs : Nat → Int32} (C : CxL x v k1 k2 b L xs) (hS : shSS v) (ho : 52 ≤ o) (hM : shMo v o) {σ : Mem} {n : Int} (hI : Inv σ o n) (hJ : JI σ n) (hn : 0 ≤ n ∧ n ≤ 511000) {i : Int} (h0 : 0 ≤ i) (h7 : i + 7 ≤ L) (kk : ∀ w : Mem, Inv w o (n + 1000) → JI w (n + 1000) → AtL x v Q k1 k2 1225 [(3, vI i), (0, .ref b), (1, .ref (vq v 0)), (2, .ref (vq v o))] [] w) : AtL x v Q k1 k2 1149 [(3, vI i), (0, .ref b), (1, .ref (vq v 0)), (2, .ref (vq v o))] [] σ := by
  refine l_aload_n C dL_law_1149 2 rfl rfl ?_
  refine l_aload_n C dL_law_1150 1 rfl rfl ?_
  refine l_iload_n C dL_law_1151 0 rfl rfl ?_
  refine l_iconst C dL_law_1152 ?_
  refine l_iadd C dL_law_1153 ?_
  refine l_sld C (by omega) (by omega) dL_law_1154 ?_
  refine l_aload_n C dL_law_1155 1 rfl rfl ?_
  refine l_iload_n C dL_law_1156 0 rfl rfl ?_
  refine l_iconst C dL_law_1157 ?_
  refine l_iadd C dL_law_1158 ?_
  refine l_sld C (by omega) (by omega) dL_law_1159 ?_
  refine l_aload_n C dL_law_1160 1 rfl rfl ?_
  refine l_iload_n C dL_law_1161 0 rfl rfl ?_
  refine l_iconst C dL_law_1162 ?_
  refine l_iadd C dL_law_1163 ?_
  refine l_sld C (by omega) (by omega) dL_law_1164 ?_
  refine l_cVI C (k0 := 3) (As := [vI (scI xs (i + 1)), vI (scI xs (i + 2)), vI (scI xs (i + 3))]) (rest := []) (c_X6_sample x.2.1 v σ hS (scI xs (i + 1)) (scI xs (i + 2)) (scI xs (i + 3)) (scI_rg _ _) (scI_rg _ _) (scI_rg _ _) ) gL_law_X6_sample rfl (by decide +kernel) (by decide) hS.f0 rfl hS.n0 rfl rfl (Nat.le_of_ble_eq_true rfl) dL_law_1165 (fun z u r1 p1 => ?_)
  obtain ⟨-, F1⟩ := ic_sample hI.1 hn (scI_rg _ _) p1
  have F3 : ∀ a : Nat, o ≤ a → u a = σ a := fun a q => F1 a (by omega)
  refine l_aload_n C dL_law_1168 3 rfl rfl ?_
  refine l_aload_n C dL_law_1169 1 rfl rfl ?_
  refine l_iload_n C dL_law_1170 0 rfl rfl ?_
  refine l_iconst C dL_law_1171 ?_
  refine l_iadd C dL_law_1172 ?_
  refine l_sld C (by omega) (by omega) dL_law_1173 ?_
  refine l_aload_n C dL_law_1174 1 rfl rfl ?_
  refine l_iload_n C dL_law_1175 0 rfl rfl ?_
  refine l_iconst C dL_law_1176 ?_
  refine l_iadd C dL_law_1177 ?_
  refine l_sld C (by omega) (by omega) dL_law_1178 ?_
  refine l_aload_n C dL_law_1179 1 rfl rfl ?_
  refine l_iload_n C dL_law_1180 0 rfl rfl ?_
  refine l_iconst C dL_law_1181 ?_
  refine l_iadd C dL_law_1182 ?_
  refine l_sld C (by omega) (by omega) dL_law_1183 ?_
  refine l_cVI C (k0 := 3) (As := [vI (scI xs (i + 1)), vI (scI xs (i + 2)), vI (scI xs (i + 3))]) (rest := [vI z]) (c_X7_sample x.2.1 v u o hM (scI xs (i + 1)) (scI xs (i + 2)) (scI xs (i + 3)) (scI_rg _ _) (scI_rg _ _) (scI_rg _ _) ) gL_law_X7_sample rfl (by decide +kernel) (by decide) hM.f0 rfl hM.n0 rfl rfl (Nat.le_of_ble_eq_true rfl) dL_law_1184 (fun z9 w r2 p2 => ?_)
  obtain ⟨ez, I2⟩ := st_sample ho hI hn (scI_rg _ _) p1 p2
  have J1 := ij_sample hI.1 hn hJ p1
  have F2 := fm_sample p2
  have J2 : JI w (n + 1000) := J1.cg (fun a q1 q2 => F2 a (by omega))
  refine l_icmp_eq C 1225 r1 r2 dL_law_1187 (by decide) (fun _ => ?_) (fun q => absurd ez q)
  exact kk w I2 J2
set_option maxHeartbeats 4000000 in
set_option maxRecDepth 100000 in
theorem lw_drawn {x : XC} {v : VC} {Q : State → Prop} {k1 k2 b L o : Nat} {xs : Nat → Int32} (C : CxL x v k1 k2 b L xs) (hS : shSS v) (ho : 52 ≤ o) (hM : shMo v o) {σ : Mem} {n : Int} (hI : Inv σ o n) (hJ : JI σ n) (hn : 0 ≤ n ∧ n ≤ 511000) {i : Int} (h0 : 0 ≤ i) (h7 : i + 7 ≤ L) (kk : ∀ w : Mem, Inv w o (n + 1000) → JI w (n + 1000) → AtL x v Q k1 k2 1225 [(3, vI i), (0, .ref b), (1, .ref (vq v 0)), (2, .ref (vq v o))] [] w) : AtL x v Q k1 k2 1192 [(3, vI i), (0, .ref b), (1, .ref (vq v 0)), (2, .ref (vq v o))] [] σ := by
  refine l_aload_n C dL_law_1192 2 rfl rfl ?_
  refine l_aload_n C dL_law_1193 1 rfl rfl ?_
  refine l_iload_n C dL_law_1194 0 rfl rfl ?_
  refine l_iconst C dL_law_1195 ?_
  refine l_iadd C dL_law_1196 ?_
  refine l_sld C (by omega) (by omega) dL_law_1197 ?_
  refine l_aload_n C dL_law_1198 1 rfl rfl ?_
  refine l_iload_n C dL_law_1199 0 rfl rfl ?_
  refine l_iconst C dL_law_1200 ?_
  refine l_iadd C dL_law_1201 ?_
  refine l_sld C (by omega) (by omega) dL_law_1202 ?_
  refine l_cVI C (k0 := 2) (As := [vI (scI xs (i + 1)), vI (scI xs (i + 2))]) (rest := []) (c_X6_drawn x.2.1 v σ hS (scI xs (i + 1)) (scI xs (i + 2)) (scI_rg _ _) (scI_rg _ _) ) gL_law_X6_drawn rfl (by decide +kernel) (by decide) hS.f0 rfl hS.n0 rfl rfl (Nat.le_of_ble_eq_true rfl) dL_law_1203 (fun z u r1 p1 => ?_)
  obtain ⟨-, F1⟩ := ic_drawn hI.1 hn p1
  have F3 : ∀ a : Nat, o ≤ a → u a = σ a := fun a q => F1 a (by omega)
  refine l_aload_n C dL_law_1206 3 rfl rfl ?_
  refine l_aload_n C dL_law_1207 1 rfl rfl ?_
  refine l_iload_n C dL_law_1208 0 rfl rfl ?_
  refine l_iconst C dL_law_1209 ?_
  refine l_iadd C dL_law_1210 ?_
  refine l_sld C (by omega) (by omega) dL_law_1211 ?_
  refine l_aload_n C dL_law_1212 1 rfl rfl ?_
  refine l_iload_n C dL_law_1213 0 rfl rfl ?_
  refine l_iconst C dL_law_1214 ?_
  refine l_iadd C dL_law_1215 ?_
  refine l_sld C (by omega) (by omega) dL_law_1216 ?_
  refine l_cVI C (k0 := 2) (As := [vI (scI xs (i + 1)), vI (scI xs (i + 2))]) (rest := [vI z]) (c_X7_drawn x.2.1 v u o hM (scI xs (i + 1)) (scI xs (i + 2)) (scI_rg _ _) (scI_rg _ _) ) gL_law_X7_drawn rfl (by decide +kernel) (by decide) hM.f0 rfl hM.n0 rfl rfl (Nat.le_of_ble_eq_true rfl) dL_law_1217 (fun z9 w r2 p2 => ?_)
  obtain ⟨ez, I2⟩ := st_drawn ho hI hn p1 p2
  have J1 := ij_drawn hI.1 hn hJ p1
  have F2 := fm_drawn p2
  have J2 : JI w (n + 1000) := J1.cg (fun a q1 q2 => F2 a (by omega))
  refine l_icmp_eq C 1225 r1 r2 dL_law_1220 (by decide) (fun _ => ?_) (fun q => absurd ez q)
  exact kk w I2 J2
