/-! ===== the model's make: its tables ===== -/
set_option maxHeartbeats 4000000 in
set_option maxRecDepth 100000 in
theorem mk_s4 {x : XC} {v : VC} {A : Nat → Prop} {Q : State → Prop} (C : Cx x v A cX7_make RX7 10 wsX7_make 2 48) (σ : Mem) (b : Nat) (hM : shMo v b) (i1 b1 n1 d1 : Int)  (k : ∀ τ : Mem, (∀ j : Int, 0 ≤ j → j < 41 → τ (b + 19) j = if j = 40 then 0 else 1000000000) → (∀ j : Int, 0 ≤ j → j < 41 → τ (b + 20) j = if j = 40 then 0 else 1000000000) → (∀ a : Nat, a ≠ b + 19 → a ≠ b + 20 → τ a = σ a) → At x v A Q 10 312 [(0, .ref (vq v b)), (1, vI i1), (2, vI b1), (3, vI n1), (4, vI d1)] [] τ) : At x v A Q 10 248 [(0, .ref (vq v b)), (1, vI i1), (2, vI b1), (3, vI n1), (4, vI d1)] [] σ := by
  have iX7 : ∀ w ∈ wsX70, w ∈ wsX7_make := by decide +kernel
  have k70 : Cond.fieldLink RX7 70 (TX7 21).1 (TX7 21).2.1 (TX7 21).2.2.1 ∈ wsX7_make := by decide +kernel
  have k73 : Cond.fieldLink RX7 73 (TX7 22).1 (TX7 22).2.1 (TX7 22).2.2.1 ∈ wsX7_make := by decide +kernel
  have lp : ∀ (n : Nat) (w1 : Int) (τ : Mem) , (41 - w1).toNat = n → (0 ≤ w1 ∧ w1 ≤ 41) → (∀ j : Int, 0 ≤ j → j < w1 → τ (b + 19) j = if j = 40 then 0 else 1000000000) → (∀ j : Int, 0 ≤ j → j < w1 → τ (b + 20) j = if j = 40 then 0 else 1000000000) → (∀ a : Nat, a ≠ b + 19 → a ≠ b + 20 → τ a = σ a) → At x v A Q 10 251 [(5, vI w1), (0, .ref (vq v b)), (1, vI i1), (2, vI b1), (3, vI n1), (4, vI d1)] [] τ := by
    intro n
    induction n using Nat.strongRecOn with
    | _ n ih =>
      intro w1 τ hn iw iz iy iF
      refine a_iload C dX7_make_251 0 rfl ?_
      refine a_bipush C dX7_make_253 ?_
      refine a_icmp_gt C 312 (by omega) (by decide) dX7_make_255 (by decide) (fun c255 => ?_) (fun c255 => ?_)
      · skip
        refine a_sub [1, 2, 3, 4, 5] [(0, .ref (vq v b)), (1, vI i1), (2, vI b1), (3, vI n1), (4, vI d1)] rfl ?_
        exact k τ (fun j q1 q2 => iz j q1 (by omega)) (fun j q1 q2 => iy j q1 (by omega)) iF
      · skip
        refine a_aload_n C dX7_make_258 1 rfl rfl ?_
        refine a_getf C hM.f0 hM.n0 (Cn := RX7) (T := TX7) (N := 30) rfl iX7 21 (by decide) k70 (w := .ref (vq v (b + 19))) rfl dX7_make_259 ?_
        refine a_iconst C dX7_make_262 ?_
        refine a_iload C dX7_make_263 0 rfl ?_
        refine a_cSI C (k0 := 2) (As := [vI 0, vI w1]) (rest := [.ref (vq v (b + 19))]) (c_X7_at x.2.1 v τ 0 w1 (by omega) (by omega)) gX7_make_X7_at rfl (by decide +kernel) (by decide) rfl rfl (Nat.le_of_ble_eq_true rfl) dX7_make_265 (fun z265 u265 r265 p265 => ?_)
        obtain ⟨e265, p265⟩ := p265
        subst u265
        refine a_iload C dX7_make_268 0 rfl ?_
        refine a_bipush C dX7_make_270 ?_
        refine a_icmp_ne C 279 (by omega) (by decide) dX7_make_272 (by decide) (fun c272 => ?_) (fun c272 => ?_)
        · skip
          refine a_ldc C 1000000000 (w := 1000000000) (by decide +kernel) rfl dX7_make_279 ?_
          refine a_iast C hM.f19 hM.n19 0 hM.tI (by omega) (by omega) (by decide) (by decide) dX7_make_281 ?_
          refine a_aload_n C dX7_make_282 1 rfl rfl ?_
          refine a_getf C hM.f0 hM.n0 (Cn := RX7) (T := TX7) (N := 30) rfl iX7 22 (by decide) k73 (w := .ref (vq v (b + 20))) rfl dX7_make_283 ?_
          refine a_iconst C dX7_make_286 ?_
          refine a_iload C dX7_make_287 0 rfl ?_
          refine a_cSI C (k0 := 2) (As := [vI 0, vI w1]) (rest := [.ref (vq v (b + 20))]) (c_X7_at x.2.1 v (sput τ (b + 19) z265 1000000000) 0 w1 (by omega) (by omega)) gX7_make_X7_at rfl (by decide +kernel) (by decide) rfl rfl (Nat.le_of_ble_eq_true rfl) dX7_make_289 (fun z289 u289 r289 p289 => ?_)
          obtain ⟨e289, p289⟩ := p289
          subst u289
          try simp [sput_r, mset_n, sput, mset] at e289
          refine a_iload C dX7_make_292 0 rfl ?_
          refine a_bipush C dX7_make_294 ?_
          refine a_icmp_ne C 303 (by omega) (by decide) dX7_make_296 (by decide) (fun c296 => ?_) (fun c296 => ?_)
          · skip
            refine a_ldc C 1000000000 (w := 1000000000) (by decide +kernel) rfl dX7_make_303 ?_
            refine a_iast C hM.f20 hM.n20 0 hM.tI (by omega) (by omega) (by decide) (by decide) dX7_make_305 ?_
            refine a_iinc C (w1 + 1) [(5, vI (w1 + 1)), (0, .ref (vq v b)), (1, vI i1), (2, vI b1), (3, vI n1), (4, vI d1)] dX7_make_306 0 rfl (by omega) (by decide) rfl ?_
            refine a_goto C 251 dX7_make_309 (by decide) ?_
            refine ih _ (by omega) (w1 + 1) _ rfl (by omega) (fun j q1 q2 => ?_) (fun j q1 q2 => ?_) (fun a q1 q2 => by rw [sput_r q2, sput_r q1]; exact iF a q1 q2)
            · rw [sput_r (show b + 19 ≠ b + 20 by omega)]
              by_cases z : j = w1
              · rw [show z265 = j by omega, sput_s]; first | (exfalso; omega) | (rw [if_pos (by omega)]) | (rw [if_neg (by omega)])
              · rw [sput_j _ _ _ _ _ (by omega)]; exact iz j q1 (by omega)
            · by_cases z : j = w1
              · rw [show z289 = j by omega, sput_s]; first | (exfalso; omega) | (rw [if_pos (by omega)]) | (rw [if_neg (by omega)])
              · rw [sput_j _ _ _ _ _ (by omega), sput_r (show b + 20 ≠ b + 19 by omega)]; exact iy j q1 (by omega)
          · skip
            refine a_iconst C dX7_make_299 ?_
            refine a_goto C 305 dX7_make_300 (by decide) ?_
            refine a_iast C hM.f20 hM.n20 0 hM.tI (by omega) (by omega) (by decide) (by decide) dX7_make_305 ?_
            refine a_iinc C (w1 + 1) [(5, vI (w1 + 1)), (0, .ref (vq v b)), (1, vI i1), (2, vI b1), (3, vI n1), (4, vI d1)] dX7_make_306 0 rfl (by omega) (by decide) rfl ?_
            refine a_goto C 251 dX7_make_309 (by decide) ?_
            refine ih _ (by omega) (w1 + 1) _ rfl (by omega) (fun j q1 q2 => ?_) (fun j q1 q2 => ?_) (fun a q1 q2 => by rw [sput_r q2, sput_r q1]; exact iF a q1 q2)
            · rw [sput_r (show b + 19 ≠ b + 20 by omega)]
              by_cases z : j = w1
              · rw [show z265 = j by omega, sput_s]; first | (exfalso; omega) | (rw [if_pos (by omega)]) | (rw [if_neg (by omega)])
              · rw [sput_j _ _ _ _ _ (by omega)]; exact iz j q1 (by omega)
            · by_cases z : j = w1
              · rw [show z289 = j by omega, sput_s]; first | (exfalso; omega) | (rw [if_pos (by omega)]) | (rw [if_neg (by omega)])
              · rw [sput_j _ _ _ _ _ (by omega), sput_r (show b + 20 ≠ b + 19 by omega)]; exact iy j q1 (by omega)
        · skip
          refine a_iconst C dX7_make_275 ?_
          refine a_goto C 281 dX7_make_276 (by decide) ?_
          refine a_iast C hM.f19 hM.n19 0 hM.tI (by omega) (by omega) (by decide) (by decide) dX7_make_281 ?_
          refine a_aload_n C dX7_make_282 1 rfl rfl ?_
          refine a_getf C hM.f0 hM.n0 (Cn := RX7) (T := TX7) (N := 30) rfl iX7 22 (by decide) k73 (w := .ref (vq v (b + 20))) rfl dX7_make_283 ?_
          refine a_iconst C dX7_make_286 ?_
          refine a_iload C dX7_make_287 0 rfl ?_
          refine a_cSI C (k0 := 2) (As := [vI 0, vI w1]) (rest := [.ref (vq v (b + 20))]) (c_X7_at x.2.1 v (sput τ (b + 19) z265 0) 0 w1 (by omega) (by omega)) gX7_make_X7_at rfl (by decide +kernel) (by decide) rfl rfl (Nat.le_of_ble_eq_true rfl) dX7_make_289 (fun z289 u289 r289 p289 => ?_)
          obtain ⟨e289, p289⟩ := p289
          subst u289
          try simp [sput_r, mset_n, sput, mset] at e289
          refine a_iload C dX7_make_292 0 rfl ?_
          refine a_bipush C dX7_make_294 ?_
          refine a_icmp_ne C 303 (by omega) (by decide) dX7_make_296 (by decide) (fun c296 => ?_) (fun c296 => ?_)
          · skip
            refine a_ldc C 1000000000 (w := 1000000000) (by decide +kernel) rfl dX7_make_303 ?_
            refine a_iast C hM.f20 hM.n20 0 hM.tI (by omega) (by omega) (by decide) (by decide) dX7_make_305 ?_
            refine a_iinc C (w1 + 1) [(5, vI (w1 + 1)), (0, .ref (vq v b)), (1, vI i1), (2, vI b1), (3, vI n1), (4, vI d1)] dX7_make_306 0 rfl (by omega) (by decide) rfl ?_
            refine a_goto C 251 dX7_make_309 (by decide) ?_
            refine ih _ (by omega) (w1 + 1) _ rfl (by omega) (fun j q1 q2 => ?_) (fun j q1 q2 => ?_) (fun a q1 q2 => by rw [sput_r q2, sput_r q1]; exact iF a q1 q2)
            · rw [sput_r (show b + 19 ≠ b + 20 by omega)]
              by_cases z : j = w1
              · rw [show z265 = j by omega, sput_s]; first | (exfalso; omega) | (rw [if_pos (by omega)]) | (rw [if_neg (by omega)])
              · rw [sput_j _ _ _ _ _ (by omega)]; exact iz j q1 (by omega)
            · by_cases z : j = w1
              · rw [show z289 = j by omega, sput_s]; first | (exfalso; omega) | (rw [if_pos (by omega)]) | (rw [if_neg (by omega)])
              · rw [sput_j _ _ _ _ _ (by omega), sput_r (show b + 20 ≠ b + 19 by omega)]; exact iy j q1 (by omega)
          · skip
            refine a_iconst C dX7_make_299 ?_
            refine a_goto C 305 dX7_make_300 (by decide) ?_
            refine a_iast C hM.f20 hM.n20 0 hM.tI (by omega) (by omega) (by decide) (by decide) dX7_make_305 ?_
            refine a_iinc C (w1 + 1) [(5, vI (w1 + 1)), (0, .ref (vq v b)), (1, vI i1), (2, vI b1), (3, vI n1), (4, vI d1)] dX7_make_306 0 rfl (by omega) (by decide) rfl ?_
            refine a_goto C 251 dX7_make_309 (by decide) ?_
            refine ih _ (by omega) (w1 + 1) _ rfl (by omega) (fun j q1 q2 => ?_) (fun j q1 q2 => ?_) (fun a q1 q2 => by rw [sput_r q2, sput_r q1]; exact iF a q1 q2)
            · rw [sput_r (show b + 19 ≠ b + 20 by omega)]
              by_cases z : j = w1
              · rw [show z265 = j by omega, sput_s]; first | (exfalso; omega) | (rw [if_pos (by omega)]) | (rw [if_neg (by omega)])
              · rw [sput_j _ _ _ _ _ (by omega)]; exact iz j q1 (by omega)
            · by_cases z : j = w1
              · rw [show z289 = j by omega, sput_s]; first | (exfalso; omega) | (rw [if_pos (by omega)]) | (rw [if_neg (by omega)])
              · rw [sput_j _ _ _ _ _ (by omega), sput_r (show b + 20 ≠ b + 19 by omega)]; exact iy j q1 (by omega)
  refine a_iconst C dX7_make_248 ?_
  refine a_istore C [(5, vI 0), (0, .ref (vq v b)), (1, vI i1), (2, vI b1), (3, vI n1), (4, vI d1)] dX7_make_249 (by decide) rfl ?_
  exact lp _ 0 σ rfl (by omega) (fun j q1 q2 => by omega) (fun j q1 q2 => by omega) (fun _ _ _ => rfl)
set_option maxHeartbeats 4000000 in
set_option maxRecDepth 100000 in
theorem mk_s5 {x : XC} {v : VC} {A : Nat → Prop} {Q : State → Prop} (C : Cx x v A cX7_make RX7 10 wsX7_make 2 48) (σ : Mem) (b : Nat) (hM : shMo v b) (i1 b1 n1 d1 : Int) (lv : Int → Int) (hl : ∀ j : Int, 0 ≤ j → j < 40 → -1 ≤ lv j ∧ lv j ≤ 10000) (hb : 1 ≤ b1 ∧ b1 ≤ 12) (hE : ∀ a9 b9 : Int, 0 ≤ a9 → a9 ≤ b9 → b9 < 40 → σ (b + 18) (40 * a9 + b9) = erI lv a9 b9) (hz : ∀ j : Int, 0 ≤ j → j < 41 → σ (b + 19) j = if j = 40 then 0 else 1000000000) (k : ∀ τ : Mem, (∀ (n9 : Nat) (j : Int), (n9 : Int) < b1 + 1 → 0 ≤ j → j ≤ 40 → τ (b + 19) (101 * n9 + j) = dpL lv n9 j) → (∀ a : Nat, a ≠ b + 19 → τ a = σ a) → At x v A Q 10 417 [(0, .ref (vq v b)), (1, vI i1), (2, vI b1), (3, vI n1), (4, vI d1)] [] τ) : At x v A Q 10 312 [(0, .ref (vq v b)), (1, vI i1), (2, vI b1), (3, vI n1), (4, vI d1)] [] σ := by
  have iX7 : ∀ w ∈ wsX70, w ∈ wsX7_make := by decide +kernel
  have k70 : Cond.fieldLink RX7 70 (TX7 21).1 (TX7 21).2.1 (TX7 21).2.2.1 ∈ wsX7_make := by decide +kernel
  have k67 : Cond.fieldLink RX7 67 (TX7 20).1 (TX7 20).2.1 (TX7 20).2.2.1 ∈ wsX7_make := by decide +kernel
  have lpP : ∀ (n : Nat) (p1 : Int) (τ : Mem) , (13 - p1).toNat = n → (1 ≤ p1 ∧ p1 ≤ b1 + 1) → (∀ (n9 : Nat) (j : Int), (n9 : Int) < p1 → 0 ≤ j → j ≤ 40 → τ (b + 19) (101 * n9 + j) = dpL lv n9 j) → (∀ a : Nat, a ≠ b + 19 → τ a = σ a) → At x v A Q 10 315 [(5, vI p1), (0, .ref (vq v b)), (1, vI i1), (2, vI b1), (3, vI n1), (4, vI d1)] [] τ := by
    intro n
    induction n using Nat.strongRecOn with
    | _ n ih =>
      intro p1 τ hn ip iD iF
      refine a_iload C dX7_make_315 0 rfl ?_
      refine a_iload_n C dX7_make_317 3 rfl rfl ?_
      refine a_icmp_gt C 417 (by omega) (by omega) dX7_make_318 (by decide) (fun c318 => ?_) (fun c318 => ?_)
      · skip
        refine a_sub [1, 2, 3, 4, 5] [(0, .ref (vq v b)), (1, vI i1), (2, vI b1), (3, vI n1), (4, vI d1)] rfl ?_
        have hp9 : p1 = b1 + 1 := by omega
        subst hp9
        exact k τ iD iF
      · skip
        refine a_iconst C dX7_make_321 ?_
        refine a_istore C [(6, vI 0), (5, vI p1), (0, .ref (vq v b)), (1, vI i1), (2, vI b1), (3, vI n1), (4, vI d1)] dX7_make_322 (by decide) rfl ?_
        have ihP := ih
        have lpF : ∀ (n : Nat) (f1 : Int) (τ : Mem) , (41 - f1).toNat = n → (0 ≤ f1 ∧ f1 ≤ 41) → (∀ j : Int, 0 ≤ j → j < f1 → τ (b + 19) (101 * p1 + j) = dpL lv p1.toNat j) → (∀ (n9 : Nat) (j : Int), (n9 : Int) < p1 → 0 ≤ j → j ≤ 40 → τ (b + 19) (101 * n9 + j) = dpL lv n9 j) → (∀ a : Nat, a ≠ b + 19 → τ a = σ a) → At x v A Q 10 324 [(6, vI f1), (5, vI p1), (0, .ref (vq v b)), (1, vI i1), (2, vI b1), (3, vI n1), (4, vI d1)] [] τ := by
          intro n
          induction n using Nat.strongRecOn with
          | _ n ih =>
            intro f1 τ hn jf jF iD iF
            refine a_iload C dX7_make_324 0 rfl ?_
            refine a_bipush C dX7_make_326 ?_
            refine a_icmp_gt C 411 (by omega) (by decide) dX7_make_328 (by decide) (fun c328 => ?_) (fun c328 => ?_)
            · skip
              have hf41 : f1 = 41 := by omega
              refine a_iinc C (p1 + 1) [(5, vI (p1 + 1)), (6, vI f1), (0, .ref (vq v b)), (1, vI i1), (2, vI b1), (3, vI n1), (4, vI d1)] dX7_make_411 1 rfl (by omega) (by decide) rfl ?_
              refine a_goto C 315 dX7_make_414 (by decide) ?_
              refine a_sub [0, 2, 3, 4, 5, 6] [(5, vI (p1 + 1)), (0, .ref (vq v b)), (1, vI i1), (2, vI b1), (3, vI n1), (4, vI d1)] rfl ?_
              refine ihP _ (by omega) (p1 + 1) τ rfl (by omega) (fun n9 j q1 q2 q3 => ?_) iF
              by_cases z : (n9 : Int) = p1
              · have h9 := jF j q2 (by omega)
                rw [← z] at h9
                rw [h9, Int.toNat_natCast]
              · exact iD n9 j (by omega) q2 q3
            · skip
              refine a_ldc C 1000000000 (w := 1000000000) (by decide +kernel) rfl dX7_make_331 ?_
              refine a_istore C [(7, vI 1000000000), (6, vI f1), (5, vI p1), (0, .ref (vq v b)), (1, vI i1), (2, vI b1), (3, vI n1), (4, vI d1)] dX7_make_333 (by decide) rfl ?_
              refine a_iload C dX7_make_335 1 rfl ?_
              refine a_istore C [(8, vI f1), (7, vI 1000000000), (6, vI f1), (5, vI p1), (0, .ref (vq v b)), (1, vI i1), (2, vI b1), (3, vI n1), (4, vI d1)] dX7_make_337 (by decide) rfl ?_
              have ihF := ih
              have lpE : ∀ (n : Nat) (e1 m1_ : Int) , (40 - e1).toNat = n → (f1 ≤ e1 ∧ e1 ≤ 40) → (0 ≤ m1_ ∧ m1_ ≤ 1000000000) → itrR (dlF lv (p1 - 1).toNat f1) e1 40 m1_ = dpL lv p1.toNat f1 → At x v A Q 10 339 [(8, vI e1), (7, vI m1_), (6, vI f1), (5, vI p1), (0, .ref (vq v b)), (1, vI i1), (2, vI b1), (3, vI n1), (4, vI d1)] [] τ := by
                intro n
                induction n using Nat.strongRecOn with
                | _ n ih =>
                  intro e1 m1_ hn je jb jm
                  refine a_iload C dX7_make_339 0 rfl ?_
                  refine a_bipush C dX7_make_341 ?_
                  refine a_icmp_ge C 391 (by omega) (by decide) dX7_make_343 (by decide) (fun c343 => ?_) (fun c343 => ?_)
                  · skip
                    refine a_sub [1, 2, 3, 4, 5, 6, 7, 8] [(7, vI m1_), (6, vI f1), (5, vI p1), (0, .ref (vq v b)), (1, vI i1), (2, vI b1), (3, vI n1), (4, vI d1)] rfl ?_
                    have he40 : e1 = 40 := by omega
                    subst he40
                    refine a_aload_n C dX7_make_391 3 rfl rfl ?_
                    refine a_getf C hM.f0 hM.n0 (Cn := RX7) (T := TX7) (N := 30) rfl iX7 21 (by decide) k70 (w := .ref (vq v (b + 19))) rfl dX7_make_392 ?_
                    refine a_iload C dX7_make_395 2 rfl ?_
                    refine a_iload C dX7_make_397 1 rfl ?_
                    refine a_cSI C (k0 := 2) (As := [vI p1, vI f1]) (rest := [.ref (vq v (b + 19))]) (c_X7_at x.2.1 v τ p1 f1 (by omega) (by omega)) gX7_make_X7_at rfl (by decide +kernel) (by decide) rfl rfl (Nat.le_of_ble_eq_true rfl) dX7_make_399 (fun z399 u399 r399 p399 => ?_)
                    obtain ⟨e399, p399⟩ := p399
                    subst u399
                    refine a_iload C dX7_make_402 0 rfl ?_
                    refine a_iast C hM.f19 hM.n19 0 hM.tI (by omega) (by omega) (by decide) (by omega) dX7_make_404 ?_
                    refine a_iinc C (f1 + 1) [(6, vI (f1 + 1)), (7, vI m1_), (5, vI p1), (0, .ref (vq v b)), (1, vI i1), (2, vI b1), (3, vI n1), (4, vI d1)] dX7_make_405 1 rfl (by omega) (by decide) rfl ?_
                    refine a_goto C 324 dX7_make_408 (by decide) ?_
                    refine a_sub [0, 2, 3, 4, 5, 6, 7] [(6, vI (f1 + 1)), (5, vI p1), (0, .ref (vq v b)), (1, vI i1), (2, vI b1), (3, vI n1), (4, vI d1)] rfl ?_
                    refine ihF _ (by omega) (f1 + 1) _ rfl (by omega) (fun j q1 q2 => ?_) (fun n9 j q1 q2 q3 => by rw [sput_j _ _ _ _ _ (by omega)]; exact iD n9 j q1 q2 q3) (fun a q => by rw [sput_r q]; exact iF a q)
                    by_cases z : j = f1
                    · rw [show 101 * p1 + j = z399 by omega, sput_s, z, ← jm, itrR_nil (by omega)]
                    · rw [sput_j _ _ _ _ _ (by omega)]; exact jF j q1 (by omega)
                  · skip
                    refine a_iload C dX7_make_346 1 rfl ?_
                    refine a_aload_n C dX7_make_348 4 rfl rfl ?_
                    refine a_getf C hM.f0 hM.n0 (Cn := RX7) (T := TX7) (N := 30) rfl iX7 20 (by decide) k67 (w := .ref (vq v (b + 18))) rfl dX7_make_349 ?_
                    refine a_bipush C dX7_make_352 ?_
                    refine a_iload C dX7_make_354 2 rfl ?_
                    refine a_imul C dX7_make_356 ?_
                    refine a_iload C dX7_make_357 0 rfl ?_
                    refine a_iadd C dX7_make_359 ?_
                    refine a_iald C hM.f18 hM.n18 0 hM.tI (by omega) (by omega) (by decide) dX7_make_360 (fun z360 e360 r360 => ?_)
                    rw [iF (b + 18) (by omega), hE f1 e1 (by omega) (by omega) (by omega)] at e360
                    have b360 := erI_W hl (a := f1) (b := e1) (by omega) (by omega) (by omega)
                    rw [← e360] at b360
                    refine a_aload_n C dX7_make_361 4 rfl rfl ?_
                    refine a_getf C hM.f0 hM.n0 (Cn := RX7) (T := TX7) (N := 30) rfl iX7 21 (by decide) k70 (w := .ref (vq v (b + 19))) rfl dX7_make_362 ?_
                    refine a_iload C dX7_make_365 3 rfl ?_
                    refine a_iconst C dX7_make_367 ?_
                    refine a_isub C dX7_make_368 ?_
                    refine a_iload C dX7_make_369 0 rfl ?_
                    refine a_iconst C dX7_make_371 ?_
                    refine a_iadd C dX7_make_372 ?_
                    refine a_cSI C (k0 := 2) (As := [vI (p1 - 1), vI (e1 + 1)]) (rest := [.ref (vq v (b + 19)), vI z360, vI m1_]) (c_X7_at x.2.1 v τ (p1 - 1) (e1 + 1) (by omega) (by omega)) gX7_make_X7_at rfl (by decide +kernel) (by decide) rfl rfl (Nat.le_of_ble_eq_true rfl) dX7_make_373 (fun z373 u373 r373 p373 => ?_)
                    obtain ⟨e373, p373⟩ := p373
                    subst u373
                    refine a_iald C hM.f19 hM.n19 0 hM.tI (by omega) (by omega) (by decide) dX7_make_376 (fun z376 e376 r376 => ?_)
                    rw [show z373 = 101 * ((p1 - 1).toNat : Int) + (e1 + 1) by omega, iD (p1 - 1).toNat (e1 + 1) (by omega) (by omega) (by omega)] at e376
                    have b376 := dpL_W lv (p1 - 1).toNat (e1 + 1)
                    rw [← e376] at b376
                    refine a_mmax C r360 r376 (by decide +kernel) ⟨by decide, Nat.le_of_ble_eq_true rfl⟩ dX7_make_377 ?_
                    obtain ⟨z377, e377⟩ : ∃ w : Int, w = max z360 z376 := ⟨_, rfl⟩
                    rw [← e377]
                    refine a_mmin C (by omega) (by omega) (by decide +kernel) ⟨by decide, Nat.le_of_ble_eq_true rfl⟩ dX7_make_380 ?_
                    obtain ⟨z380, e380⟩ : ∃ w : Int, w = min m1_ z377 := ⟨_, rfl⟩
                    rw [← e380]
                    refine a_istore C [(7, vI z380), (8, vI e1), (6, vI f1), (5, vI p1), (0, .ref (vq v b)), (1, vI i1), (2, vI b1), (3, vI n1), (4, vI d1)] dX7_make_383 (by decide) rfl ?_
                    refine a_iinc C (e1 + 1) [(8, vI (e1 + 1)), (7, vI z380), (6, vI f1), (5, vI p1), (0, .ref (vq v b)), (1, vI i1), (2, vI b1), (3, vI n1), (4, vI d1)] dX7_make_385 1 rfl (by omega) (by decide) rfl ?_
                    refine a_goto C 339 dX7_make_388 (by decide) ?_
                    refine ih _ (by omega) (e1 + 1) _ rfl (by omega) (by omega) ?_
                    rw [← jm, itrR_step (a := e1) (by omega)]
                    congr 1
                    unfold dlF
                    rw [← e360, ← e376]
                    omega
              exact lpE _ f1 1000000000 rfl (by omega) (by omega) (by rw [show p1.toNat = (p1 - 1).toNat + 1 by omega]; rfl)
        exact lpF _ 0 τ rfl (by omega) (fun j q1 q2 => by omega) iD iF
  refine a_iconst C dX7_make_312 ?_
  refine a_istore C [(5, vI 1), (0, .ref (vq v b)), (1, vI i1), (2, vI b1), (3, vI n1), (4, vI d1)] dX7_make_313 (by decide) rfl ?_
  refine lpP _ 1 σ rfl (by omega) (fun n9 j q1 q2 q3 => ?_) (fun _ _ => rfl)
  have hn9 : n9 = 0 := by omega
  subst hn9
  rw [show 101 * ((0 : Nat) : Int) + j = j by omega, hz j q2 (by omega)]
  rfl
set_option maxHeartbeats 4000000 in
set_option maxRecDepth 100000 in
theorem mk_s6 {x : XC} {v : VC} {A : Nat → Prop} {Q : State → Prop} (C : Cx x v A cX7_make RX7 10 wsX7_make 2 48) (σ : Mem) (b : Nat) (hM : shMo v b) (i1 b1 n1 d1 : Int) (L1 : Int) (lv : Int → Int) (hl : ∀ j : Int, 0 ≤ j → j < 40 → -1 ≤ lv j ∧ lv j ≤ 10000) (hb : 1 ≤ b1 ∧ b1 ≤ 12) (hL : 0 ≤ L1 ∧ L1 ≤ 10000) (hE : ∀ a9 b9 : Int, 0 ≤ a9 → a9 ≤ b9 → b9 < 40 → σ (b + 18) (40 * a9 + b9) = erI lv a9 b9) (hz : ∀ j : Int, 0 ≤ j → j < 41 → σ (b + 20) j = if j = 40 then 0 else 1000000000) (k : ∀ τ : Mem, (∀ (n9 : Nat) (j : Int), (n9 : Int) < b1 + 1 → 0 ≤ j → j ≤ 40 → τ (b + 20) (101 * n9 + j) = dpS lv L1 n9 j) → (∀ a : Nat, a ≠ b + 20 → τ a = σ a) → At x v A Q 10 571 [(5, vI L1), (0, .ref (vq v b)), (1, vI i1), (2, vI b1), (3, vI n1), (4, vI d1)] [] τ) : At x v A Q 10 429 [(5, vI L1), (0, .ref (vq v b)), (1, vI i1), (2, vI b1), (3, vI n1), (4, vI d1)] [] σ := by
  have iX7 : ∀ w ∈ wsX70, w ∈ wsX7_make := by decide +kernel
  have k73 : Cond.fieldLink RX7 73 (TX7 22).1 (TX7 22).2.1 (TX7 22).2.2.1 ∈ wsX7_make := by decide +kernel
  have k67 : Cond.fieldLink RX7 67 (TX7 20).1 (TX7 20).2.1 (TX7 20).2.2.1 ∈ wsX7_make := by decide +kernel
  have lpP : ∀ (n : Nat) (p1 : Int) (τ : Mem) , (13 - p1).toNat = n → (1 ≤ p1 ∧ p1 ≤ b1 + 1) → (∀ (n9 : Nat) (j : Int), (n9 : Int) < p1 → 0 ≤ j → j ≤ 40 → τ (b + 20) (101 * n9 + j) = dpS lv L1 n9 j) → (∀ a : Nat, a ≠ b + 20 → τ a = σ a) → At x v A Q 10 432 [(6, vI p1), (5, vI L1), (0, .ref (vq v b)), (1, vI i1), (2, vI b1), (3, vI n1), (4, vI d1)] [] τ := by
    intro n
    induction n using Nat.strongRecOn with
    | _ n ih =>
      intro p1 τ hn ip iD iF
      refine a_iload C dX7_make_432 0 rfl ?_
      refine a_iload_n C dX7_make_434 4 rfl rfl ?_
      refine a_icmp_gt C 571 (by omega) (by omega) dX7_make_435 (by decide) (fun c435 => ?_) (fun c435 => ?_)
      · skip
        refine a_sub [1, 2, 3, 4, 5, 6] [(5, vI L1), (0, .ref (vq v b)), (1, vI i1), (2, vI b1), (3, vI n1), (4, vI d1)] rfl ?_
        have hp9 : p1 = b1 + 1 := by omega
        subst hp9
        exact k τ iD iF
      · skip
        refine a_iconst C dX7_make_438 ?_
        refine a_istore C [(7, vI 0), (6, vI p1), (5, vI L1), (0, .ref (vq v b)), (1, vI i1), (2, vI b1), (3, vI n1), (4, vI d1)] dX7_make_439 (by decide) rfl ?_
        have ihP := ih
        have lpF : ∀ (n : Nat) (f1 : Int) (τ : Mem) , (41 - f1).toNat = n → (0 ≤ f1 ∧ f1 ≤ 41) → (∀ j : Int, 0 ≤ j → j < f1 → τ (b + 20) (101 * p1 + j) = dpS lv L1 p1.toNat j) → (∀ (n9 : Nat) (j : Int), (n9 : Int) < p1 → 0 ≤ j → j ≤ 40 → τ (b + 20) (101 * n9 + j) = dpS lv L1 n9 j) → (∀ a : Nat, a ≠ b + 20 → τ a = σ a) → At x v A Q 10 441 [(7, vI f1), (6, vI p1), (5, vI L1), (0, .ref (vq v b)), (1, vI i1), (2, vI b1), (3, vI n1), (4, vI d1)] [] τ := by
          intro n
          induction n using Nat.strongRecOn with
          | _ n ih =>
            intro f1 τ hn jf jF iD iF
            refine a_iload C dX7_make_441 0 rfl ?_
            refine a_bipush C dX7_make_443 ?_
            refine a_icmp_gt C 565 (by omega) (by decide) dX7_make_445 (by decide) (fun c445 => ?_) (fun c445 => ?_)
            · skip
              have hf41 : f1 = 41 := by omega
              refine a_iinc C (p1 + 1) [(6, vI (p1 + 1)), (7, vI f1), (5, vI L1), (0, .ref (vq v b)), (1, vI i1), (2, vI b1), (3, vI n1), (4, vI d1)] dX7_make_565 1 rfl (by omega) (by decide) rfl ?_
              refine a_goto C 432 dX7_make_568 (by decide) ?_
              refine a_sub [0, 2, 3, 4, 5, 6, 7] [(6, vI (p1 + 1)), (5, vI L1), (0, .ref (vq v b)), (1, vI i1), (2, vI b1), (3, vI n1), (4, vI d1)] rfl ?_
              refine ihP _ (by omega) (p1 + 1) τ rfl (by omega) (fun n9 j q1 q2 q3 => ?_) iF
              by_cases z : (n9 : Int) = p1
              · have h9 := jF j q2 (by omega)
                rw [← z] at h9
                rw [h9, Int.toNat_natCast]
              · exact iD n9 j (by omega) q2 q3
            · skip
              refine a_ldc C 1000000000 (w := 1000000000) (by decide +kernel) rfl dX7_make_448 ?_
              refine a_istore C [(8, vI 1000000000), (7, vI f1), (6, vI p1), (5, vI L1), (0, .ref (vq v b)), (1, vI i1), (2, vI b1), (3, vI n1), (4, vI d1)] dX7_make_450 (by decide) rfl ?_
              refine a_iload C dX7_make_452 1 rfl ?_
              refine a_istore C [(9, vI f1), (8, vI 1000000000), (7, vI f1), (6, vI p1), (5, vI L1), (0, .ref (vq v b)), (1, vI i1), (2, vI b1), (3, vI n1), (4, vI d1)] dX7_make_454 (by decide) rfl ?_
              have ihF := ih
              have lpE : ∀ (n : Nat) (e1 m1_ : Int) , (40 - e1).toNat = n → (f1 ≤ e1 ∧ e1 ≤ 40) → (0 ≤ m1_ ∧ m1_ ≤ 1000000000) → itrR (dpF lv L1 (p1 - 1).toNat f1) e1 40 m1_ = dpS lv L1 p1.toNat f1 → At x v A Q 10 456 [(9, vI e1), (8, vI m1_), (7, vI f1), (6, vI p1), (5, vI L1), (0, .ref (vq v b)), (1, vI i1), (2, vI b1), (3, vI n1), (4, vI d1)] [] τ := by
                intro n
                induction n using Nat.strongRecOn with
                | _ n ih =>
                  intro e1 m1_ hn je jb jm
                  refine a_iload C dX7_make_456 0 rfl ?_
                  refine a_bipush C dX7_make_458 ?_
                  refine a_icmp_ge C 545 (by omega) (by decide) dX7_make_460 (by decide) (fun c460 => ?_) (fun c460 => ?_)
                  · skip
                    refine a_sub [1, 2, 3, 4, 5, 6, 7, 8, 9] [(8, vI m1_), (7, vI f1), (6, vI p1), (5, vI L1), (0, .ref (vq v b)), (1, vI i1), (2, vI b1), (3, vI n1), (4, vI d1)] rfl ?_
                    have he40 : e1 = 40 := by omega
                    subst he40
                    refine a_aload_n C dX7_make_545 4 rfl rfl ?_
                    refine a_getf C hM.f0 hM.n0 (Cn := RX7) (T := TX7) (N := 30) rfl iX7 22 (by decide) k73 (w := .ref (vq v (b + 20))) rfl dX7_make_546 ?_
                    refine a_iload C dX7_make_549 2 rfl ?_
                    refine a_iload C dX7_make_551 1 rfl ?_
                    refine a_cSI C (k0 := 2) (As := [vI p1, vI f1]) (rest := [.ref (vq v (b + 20))]) (c_X7_at x.2.1 v τ p1 f1 (by omega) (by omega)) gX7_make_X7_at rfl (by decide +kernel) (by decide) rfl rfl (Nat.le_of_ble_eq_true rfl) dX7_make_553 (fun z553 u553 r553 p553 => ?_)
                    obtain ⟨e553, p553⟩ := p553
                    subst u553
                    refine a_iload C dX7_make_556 0 rfl ?_
                    refine a_iast C hM.f20 hM.n20 0 hM.tI (by omega) (by omega) (by decide) (by omega) dX7_make_558 ?_
                    refine a_iinc C (f1 + 1) [(7, vI (f1 + 1)), (8, vI m1_), (6, vI p1), (5, vI L1), (0, .ref (vq v b)), (1, vI i1), (2, vI b1), (3, vI n1), (4, vI d1)] dX7_make_559 1 rfl (by omega) (by decide) rfl ?_
                    refine a_goto C 441 dX7_make_562 (by decide) ?_
                    refine a_sub [0, 2, 3, 4, 5, 6, 7, 8] [(7, vI (f1 + 1)), (6, vI p1), (5, vI L1), (0, .ref (vq v b)), (1, vI i1), (2, vI b1), (3, vI n1), (4, vI d1)] rfl ?_
                    refine ihF _ (by omega) (f1 + 1) _ rfl (by omega) (fun j q1 q2 => ?_) (fun n9 j q1 q2 q3 => by rw [sput_j _ _ _ _ _ (by omega)]; exact iD n9 j q1 q2 q3) (fun a q => by rw [sput_r q]; exact iF a q)
                    by_cases z : j = f1
                    · rw [show 101 * p1 + j = z553 by omega, sput_s, z, ← jm, itrR_nil (by omega)]
                    · rw [sput_j _ _ _ _ _ (by omega)]; exact jF j q1 (by omega)
                  · skip
                    refine a_aload_n C dX7_make_463 5 rfl rfl ?_
                    refine a_getf C hM.f0 hM.n0 (Cn := RX7) (T := TX7) (N := 30) rfl iX7 20 (by decide) k67 (w := .ref (vq v (b + 18))) rfl dX7_make_464 ?_
                    refine a_bipush C dX7_make_467 ?_
                    refine a_iload C dX7_make_469 2 rfl ?_
                    refine a_imul C dX7_make_471 ?_
                    refine a_iload C dX7_make_472 0 rfl ?_
                    refine a_iadd C dX7_make_474 ?_
                    refine a_iald C hM.f18 hM.n18 0 hM.tI (by omega) (by omega) (by decide) dX7_make_475 (fun z475 e475 r475 => ?_)
                    rw [iF (b + 18) (by omega), hE f1 e1 (by omega) (by omega) (by omega)] at e475
                    have b475 := erI_W hl (a := f1) (b := e1) (by omega) (by omega) (by omega)
                    rw [← e475] at b475
                    refine a_iload C dX7_make_476 4 rfl ?_
                    refine a_icmp_gt C 539 r475 (by omega) dX7_make_478 (by decide) (fun c478 => ?_) (fun c478 => ?_)
                    · skip
                      refine a_iinc C (e1 + 1) [(9, vI (e1 + 1)), (8, vI m1_), (7, vI f1), (6, vI p1), (5, vI L1), (0, .ref (vq v b)), (1, vI i1), (2, vI b1), (3, vI n1), (4, vI d1)] dX7_make_539 0 rfl (by omega) (by decide) rfl ?_
                      refine a_goto C 456 dX7_make_542 (by decide) ?_
                      refine ih _ (by omega) (e1 + 1) _ rfl (by omega) (by omega) ?_
                      rw [← jm, itrR_step (a := e1) (by omega)]
                      congr 1
                      unfold dpF
                      rw [← e475]
                      first | (rw [if_neg (by omega)]) | (rw [if_pos (by omega), ← e496]; omega)
                    · skip
                      refine a_aload_n C dX7_make_481 5 rfl rfl ?_
                      refine a_getf C hM.f0 hM.n0 (Cn := RX7) (T := TX7) (N := 30) rfl iX7 22 (by decide) k73 (w := .ref (vq v (b + 20))) rfl dX7_make_482 ?_
                      refine a_iload C dX7_make_485 3 rfl ?_
                      refine a_iconst C dX7_make_487 ?_
                      refine a_isub C dX7_make_488 ?_
                      refine a_iload C dX7_make_489 0 rfl ?_
                      refine a_iconst C dX7_make_491 ?_
                      refine a_iadd C dX7_make_492 ?_
                      refine a_cSI C (k0 := 2) (As := [vI (p1 - 1), vI (e1 + 1)]) (rest := [.ref (vq v (b + 20))]) (c_X7_at x.2.1 v τ (p1 - 1) (e1 + 1) (by omega) (by omega)) gX7_make_X7_at rfl (by decide +kernel) (by decide) rfl rfl (Nat.le_of_ble_eq_true rfl) dX7_make_493 (fun z493 u493 r493 p493 => ?_)
                      obtain ⟨e493, p493⟩ := p493
                      subst u493
                      refine a_iald C hM.f20 hM.n20 0 hM.tI (by omega) (by omega) (by decide) dX7_make_496 (fun z496 e496 r496 => ?_)
                      rw [show z493 = 101 * ((p1 - 1).toNat : Int) + (e1 + 1) by omega, iD (p1 - 1).toNat (e1 + 1) (by omega) (by omega) (by omega)] at e496
                      have b496 := dpS_W lv L1 (p1 - 1).toNat (e1 + 1)
                      rw [← e496] at b496
                      refine a_ldc C 1000000000 (w := 1000000000) (by decide +kernel) rfl dX7_make_497 ?_
                      refine a_icmp_ge C 539 r496 (by decide) dX7_make_499 (by decide) (fun c499 => ?_) (fun c499 => ?_)
                      · skip
                        refine a_iinc C (e1 + 1) [(9, vI (e1 + 1)), (8, vI m1_), (7, vI f1), (6, vI p1), (5, vI L1), (0, .ref (vq v b)), (1, vI i1), (2, vI b1), (3, vI n1), (4, vI d1)] dX7_make_539 0 rfl (by omega) (by decide) rfl ?_
                        refine a_goto C 456 dX7_make_542 (by decide) ?_
                        refine ih _ (by omega) (e1 + 1) _ rfl (by omega) (by omega) ?_
                        rw [← jm, itrR_step (a := e1) (by omega)]
                        congr 1
                        unfold dpF
                        rw [← e475]
                        first | (rw [if_neg (by omega)]) | (rw [if_pos (by omega), ← e496]; omega)
                      · skip
                        refine a_iload C dX7_make_502 1 rfl ?_
                        refine a_aload_n C dX7_make_504 5 rfl rfl ?_
                        refine a_getf C hM.f0 hM.n0 (Cn := RX7) (T := TX7) (N := 30) rfl iX7 20 (by decide) k67 (w := .ref (vq v (b + 18))) rfl dX7_make_505 ?_
                        refine a_bipush C dX7_make_508 ?_
                        refine a_iload C dX7_make_510 2 rfl ?_
                        refine a_imul C dX7_make_512 ?_
                        refine a_iload C dX7_make_513 0 rfl ?_
                        refine a_iadd C dX7_make_515 ?_
                        refine a_iald C hM.f18 hM.n18 0 hM.tI (by omega) (by omega) (by decide) dX7_make_516 (fun z516 e516 r516 => ?_)
                        rw [iF (b + 18) (by omega), hE f1 e1 (by omega) (by omega) (by omega)] at e516
                        have b516 := erI_W hl (a := f1) (b := e1) (by omega) (by omega) (by omega)
                        rw [← e516] at b516
                        refine a_aload_n C dX7_make_517 5 rfl rfl ?_
                        refine a_getf C hM.f0 hM.n0 (Cn := RX7) (T := TX7) (N := 30) rfl iX7 22 (by decide) k73 (w := .ref (vq v (b + 20))) rfl dX7_make_518 ?_
                        refine a_iload C dX7_make_521 3 rfl ?_
                        refine a_iconst C dX7_make_523 ?_
                        refine a_isub C dX7_make_524 ?_
                        refine a_iload C dX7_make_525 0 rfl ?_
                        refine a_iconst C dX7_make_527 ?_
                        refine a_iadd C dX7_make_528 ?_
                        refine a_cSI C (k0 := 2) (As := [vI (p1 - 1), vI (e1 + 1)]) (rest := [.ref (vq v (b + 20)), vI z516, vI m1_]) (c_X7_at x.2.1 v τ (p1 - 1) (e1 + 1) (by omega) (by omega)) gX7_make_X7_at rfl (by decide +kernel) (by decide) rfl rfl (Nat.le_of_ble_eq_true rfl) dX7_make_529 (fun z529 u529 r529 p529 => ?_)
                        obtain ⟨e529, p529⟩ := p529
                        subst u529
                        refine a_iald C hM.f20 hM.n20 0 hM.tI (by omega) (by omega) (by decide) dX7_make_532 (fun z532 e532 r532 => ?_)
                        rw [show z529 = 101 * ((p1 - 1).toNat : Int) + (e1 + 1) by omega, iD (p1 - 1).toNat (e1 + 1) (by omega) (by omega) (by omega), ← e496] at e532
                        refine a_iadd C dX7_make_533 ?_
                        refine a_mmin C (by omega) (by omega) (by decide +kernel) ⟨by decide, Nat.le_of_ble_eq_true rfl⟩ dX7_make_534 ?_
                        obtain ⟨z534, e534⟩ : ∃ w : Int, w = min m1_ (z516 + z532) := ⟨_, rfl⟩
                        rw [← e534]
                        refine a_istore C [(8, vI z534), (9, vI e1), (7, vI f1), (6, vI p1), (5, vI L1), (0, .ref (vq v b)), (1, vI i1), (2, vI b1), (3, vI n1), (4, vI d1)] dX7_make_537 (by decide) rfl ?_
                        refine a_iinc C (e1 + 1) [(9, vI (e1 + 1)), (8, vI z534), (7, vI f1), (6, vI p1), (5, vI L1), (0, .ref (vq v b)), (1, vI i1), (2, vI b1), (3, vI n1), (4, vI d1)] dX7_make_539 1 rfl (by omega) (by decide) rfl ?_
                        refine a_goto C 456 dX7_make_542 (by decide) ?_
                        refine ih _ (by omega) (e1 + 1) _ rfl (by omega) (by omega) ?_
                        rw [← jm, itrR_step (a := e1) (by omega)]
                        congr 1
                        unfold dpF
                        rw [← e475]
                        first | (rw [if_neg (by omega)]) | (rw [if_pos (by omega), ← e496]; omega)
              exact lpE _ f1 1000000000 rfl (by omega) (by omega) (by rw [show p1.toNat = (p1 - 1).toNat + 1 by omega]; rfl)
        exact lpF _ 0 τ rfl (by omega) (fun j q1 q2 => by omega) iD iF
  refine a_iconst C dX7_make_429 ?_
  refine a_istore C [(6, vI 1), (5, vI L1), (0, .ref (vq v b)), (1, vI i1), (2, vI b1), (3, vI n1), (4, vI d1)] dX7_make_430 (by decide) rfl ?_
  refine lpP _ 1 σ rfl (by omega) (fun n9 j q1 q2 q3 => ?_) (fun _ _ => rfl)
  have hn9 : n9 = 0 := by omega
  subst hn9
  rw [show 101 * ((0 : Nat) : Int) + j = j by omega, hz j q2 (by omega)]
  rfl
