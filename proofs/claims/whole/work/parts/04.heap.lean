section Hp
variable {x : XC} {v : VC} {A : Nat → Prop} {Q : State → Prop} {n pc : Nat} {lv : List (Nat × Value)} {st : List Value} {σ : Mem} {cc : ByteArray} {own : String} {Ts : List Cond} {fr lo : Nat}
/-! fields: what object cell b of class ci holds is 'fs' of its part of the memory -/
theorem a_getf (C : Cx x v A cc own n Ts fr lo) {b ci N index : Nat} {Cn : String} {T : u_T} {fs : (Int → Int) → List Value} {w : Value} (hF : vF v b = fun g => .inr (ci, fs g)) (hb : b < vN v) (hc : vwCl[ci]? = some (Cn, T, N)) (hin : ∀ w ∈ u_ws Cn T N, w ∈ Ts) (j : Nat) (hj : j < N) (hlink : Cond.fieldLink own index (T j).1 (T j).2.1 (T j).2.2.1 ∈ Ts) (hw : (fs (σ b))[j]? = some w) (hd : decode cc pc = .ok (.getfield index, 3)) (k : At x v A Q n (pc + 3) lv (w :: st) σ) : At x v A Q n pc lv (.ref (vq v b) :: st) σ := by
  obtain ⟨p, l, e, R, s, m, args, below, meth, c⟩ := x
  intro H locs ls hM hP hS hl
  exact va_get C.1.1 C.1.2.1 C.1.2.2.2.2 hin C.1.2.2.2.1 C.2.2.2.1 hP b (by rw [wo_get hb, hF]) hc j hj (C.1.2.2.2.2 _ hlink) (fun _ h => h) hw hd (k H locs ls hM hP hS hl)
/-- an int field: the number gets a name and its range -/
theorem a_geti (C : Cx x v A cc own n Ts fr lo) {b ci N index : Nat} {Cn : String} {T : u_T} {fs : (Int → Int) → List Value} (hF : vF v b = fun g => .inr (ci, fs g)) (hb : b < vN v) (hc : vwCl[ci]? = some (Cn, T, N)) (hin : ∀ w ∈ u_ws Cn T N, w ∈ Ts) (j : Nat) (hj : j < N) (hlink : Cond.fieldLink own index (T j).1 (T j).2.1 (T j).2.2.1 ∈ Ts) (i : Int) (hi : i < 100000) (hw : (fs (σ b))[j]? = some (vI (σ b i))) (hd : decode cc pc = .ok (.getfield index, 3)) (k : ∀ z : Int, z = σ b i → rg z → At x v A Q n (pc + 3) lv (vI z :: st) σ) : At x v A Q n pc lv (.ref (vq v b) :: st) σ :=
  a_mem (fun hM => a_getf C hF hb hc hin j hj hlink hw hd (k _ rfl (hM.i b i hi)))
theorem a_getl (C : Cx x v A cc own n Ts fr lo) {b ci N index : Nat} {Cn : String} {T : u_T} {fs : (Int → Int) → List Value} (hF : vF v b = fun g => .inr (ci, fs g)) (hb : b < vN v) (hc : vwCl[ci]? = some (Cn, T, N)) (hin : ∀ w ∈ u_ws Cn T N, w ∈ Ts) (j : Nat) (hj : j < N) (hlink : Cond.fieldLink own index (T j).1 (T j).2.1 (T j).2.2.1 ∈ Ts) (i : Int) (hw : (fs (σ b))[j]? = some (vJ (σ b i))) (hd : decode cc pc = .ok (.getfield index, 3)) (k : ∀ z : Int, z = σ b i → rgL z → At x v A Q n (pc + 3) lv (vJ z :: st) σ) : At x v A Q n pc lv (.ref (vq v b) :: st) σ :=
  a_mem (fun hM => a_getf C hF hb hc hin j hj hlink hw hd (k _ rfl (hM.l b i)))
theorem a_putW (C : Cx x v A cc own n Ts fr lo) {b ci N index : Nat} {Cn : String} {T : u_T} {fs : (Int → Int) → List Value} (hF : vF v b = fun g => .inr (ci, fs g)) (hb : b < vN v) (hc : vwCl[ci]? = some (Cn, T, N)) (hin : ∀ w ∈ u_ws Cn T N, w ∈ Ts) {ty0 : Nat → FieldType} (hty : ∀ k, k < N → parseFieldDescriptor (T k).2.2.1 = some (ty0 k)) (hnm : ∀ a, a < N → ∀ b, b < N → a ≠ b → (T a).2.1 ≠ (T b).2.1) (j : Nat) (hj : j < N) (hlink : Cond.fieldLink own index (T j).1 (T j).2.1 (T j).2.2.1 ∈ Ts) (hfin : (T j).2.2.2 = false) {w : Value} {τ : Mem} (hn : narrow (ty0 j) w = w) (hfit : fits (ty0 j) w = true) (hlen : j < (fs (σ b)).length) (hτ : ∀ i, i ≠ b → τ i = σ i) (hset : fs (τ b) = (fs (σ b)).set j w) (hMτ : MemR σ → MemR τ) (hd : decode cc pc = .ok (.putfield index, 3)) (k : At x v A Q n (pc + 3) lv st τ) : At x v A Q n pc lv (w :: .ref (vq v b) :: st) σ := by
  obtain ⟨p, l, e, R, s, m, args, below, meth, c⟩ := x
  intro H locs ls hM hP hS hl
  refine va_put C.1.1 C.1.2.1 C.1.2.2.2.2 hin ty0 hty hnm C.1.2.2.2.1 C.2.2.2.1 hP (C.2.2.2.2.1 σ) hS b (by rw [wo_get hb, hF]) hc j hj (C.1.2.2.2.2 _ hlink) (fun _ h => h) hfin (hty j hj) hn hfit hlen hd (fun H1 locs1 hP1 hD1 hS1 => ?_)
  rw [wo_set (τ := τ) (by rw [hF]; show Sum.inr (ci, fs (τ b)) = _; rw [hset]) hτ] at hP1
  exact k H1 locs1 ls (hMτ hM) hP1 hS1 hl
theorem fits_int (x : Int32) : fits .int (.int x) = true := by rfl
theorem narrow_int (x : Int32) : narrow .int (.int x) = .int x := by rfl
/-- an int field is written -/
theorem a_puti (C : Cx x v A cc own n Ts fr lo) {b ci N index : Nat} {Cn : String} {T : u_T} {fs : (Int → Int) → List Value} (hF : vF v b = fun g => .inr (ci, fs g)) (hb : b < vN v) (hc : vwCl[ci]? = some (Cn, T, N)) (hin : ∀ w ∈ u_ws Cn T N, w ∈ Ts) {ty0 : Nat → FieldType} (hty : ∀ k, k < N → parseFieldDescriptor (T k).2.2.1 = some (ty0 k)) (hnm : ∀ a, a < N → ∀ b, b < N → a ≠ b → (T a).2.1 ≠ (T b).2.1) (j : Nat) (hj : j < N) (hlink : Cond.fieldLink own index (T j).1 (T j).2.1 (T j).2.2.1 ∈ Ts) (hfin : (T j).2.2.2 = false) (ht : ty0 j = .int) {z : Int} (i : Int) (hz : rg z) (hlen : ∀ g, j < (fs g).length) (hset : ∀ g, fs (fun a => if a = i then z else g a) = (fs g).set j (vI z)) (hd : decode cc pc = .ok (.putfield index, 3)) (k : At x v A Q n (pc + 3) lv st (sput σ b i z)) : At x v A Q n pc lv (vI z :: .ref (vq v b) :: st) σ := by
  refine a_putW C hF hb hc hin hty hnm j hj hlink hfin (by rw [ht]; rfl) (by rw [ht]; rfl) (hlen _) (fun a ha => ?_) ?_ (fun hM => hM.put hz) hd k
  · funext a'
    simp [sput, ha]
  · rw [← hset (σ b)]
    congr 1
    funext a
    simp [sput]
/-- a boolean field is written -/
theorem a_putz (C : Cx x v A cc own n Ts fr lo) {b ci N index : Nat} {Cn : String} {T : u_T} {fs : (Int → Int) → List Value} (hF : vF v b = fun g => .inr (ci, fs g)) (hb : b < vN v) (hc : vwCl[ci]? = some (Cn, T, N)) (hin : ∀ w ∈ u_ws Cn T N, w ∈ Ts) {ty0 : Nat → FieldType} (hty : ∀ k, k < N → parseFieldDescriptor (T k).2.2.1 = some (ty0 k)) (hnm : ∀ a, a < N → ∀ b, b < N → a ≠ b → (T a).2.1 ≠ (T b).2.1) (j : Nat) (hj : j < N) (hlink : Cond.fieldLink own index (T j).1 (T j).2.1 (T j).2.2.1 ∈ Ts) (hfin : (T j).2.2.2 = false) (ht : ty0 j = .boolean) {z : Int} (i : Int) (hz : z = 0 ∨ z = 1) (hlen : ∀ g, j < (fs g).length) (hset : ∀ g, fs (fun a => if a = i then z else g a) = (fs g).set j (vI z)) (hd : decode cc pc = .ok (.putfield index, 3)) (k : At x v A Q n (pc + 3) lv st (sput σ b i z)) : At x v A Q n pc lv (vI z :: .ref (vq v b) :: st) σ := by
  refine a_putW C hF hb hc hin hty hnm j hj hlink hfin (by rw [ht]; exact i32_narB z hz) (by rw [ht]; rcases hz with rfl | rfl <;> decide +kernel) (hlen _) (fun a ha => ?_) ?_ (fun hM => hM.put (by omega)) hd k
  · funext a'
    simp [sput, ha]
  · rw [← hset (σ b)]
    congr 1
    funext a
    simp [sput]
/-- a long field is written -/
theorem a_putl (C : Cx x v A cc own n Ts fr lo) {b ci N index : Nat} {Cn : String} {T : u_T} {fs : (Int → Int) → List Value} (hF : vF v b = fun g => .inr (ci, fs g)) (hb : b < vN v) (hc : vwCl[ci]? = some (Cn, T, N)) (hin : ∀ w ∈ u_ws Cn T N, w ∈ Ts) {ty0 : Nat → FieldType} (hty : ∀ k, k < N → parseFieldDescriptor (T k).2.2.1 = some (ty0 k)) (hnm : ∀ a, a < N → ∀ b, b < N → a ≠ b → (T a).2.1 ≠ (T b).2.1) (j : Nat) (hj : j < N) (hlink : Cond.fieldLink own index (T j).1 (T j).2.1 (T j).2.2.1 ∈ Ts) (hfin : (T j).2.2.2 = false) (ht : ty0 j = .long) {z : Int} (i : Int) (hi : 100000 ≤ i) (hz : rgL z) (hlen : ∀ g, j < (fs g).length) (hset : ∀ g, fs (fun a => if a = i then z else g a) = (fs g).set j (vJ z)) (hd : decode cc pc = .ok (.putfield index, 3)) (k : At x v A Q n (pc + 3) lv st (sput σ b i z)) : At x v A Q n pc lv (vJ z :: .ref (vq v b) :: st) σ := by
  refine a_putW C hF hb hc hin hty hnm j hj hlink hfin (by rw [ht]; rfl) (by rw [ht]; rfl) (hlen _) (fun a ha => ?_) ?_ (fun hM => hM.putL hi hz) hd k
  · funext a'
    simp [sput, ha]
  · rw [← hset (σ b)]
    congr 1
    funext a
    simp [sput]
/-! arrays -/
abbrev eI (c : ClassId) (len : Nat) : (Int → Int) → va_E := fun g => .inl (c, len, .inl fun j : Nat => Int32.ofInt (g (j : Int)))
abbrev eL (c : ClassId) (len : Nat) : (Int → Int) → va_E := fun g => .inl (c, len, .inr (.inl fun j : Nat => Int64.ofInt (g (100000 + (j : Int)))))
theorem a_iald (C : Cx x v A cc own n Ts fr lo) {b len : Nat} {ca : ClassId} (hF : vF v b = eI ca len) (hb : b < vN v) (t0 : Nat) (ht : (vT v)[t0]? = some (ca, .int)) {i : Int} (h0 : 0 ≤ i) (h1 : i < len) (hlen : len ≤ 50000) (hd : decode cc pc = .ok (.iaload, 1)) (k : ∀ z : Int, z = σ b i → rg z → At x v A Q n (pc + 1) lv (vI z :: st) σ) : At x v A Q n pc lv (vI i :: .ref (vq v b) :: st) σ := by
  obtain ⟨p, l, e, R, s, m, args, below, meth, c⟩ := x
  intro H locs ls hM hP hS hl
  have h := k _ rfl (hM.i b i (by omega)) H locs ls hM hP hS hl
  refine va_iald C.1.1 C.1.2.1 C.2.2.2.1 hP b t0 (by rw [wo_get hb, hF]) ht (i32_in h0 h1 (by omega)) hd ?_
  rw [i32_clamp h0 (by omega), Int.toNat_of_nonneg h0]
  exact h
theorem a_zald (C : Cx x v A cc own n Ts fr lo) {b len : Nat} {ca : ClassId} (hF : vF v b = eI ca len) (hb : b < vN v) (t0 : Nat) (ht : (vT v)[t0]? = some (ca, .boolean)) {i : Int} (h0 : 0 ≤ i) (h1 : i < len) (hlen : len ≤ 50000) (hd : decode cc pc = .ok (.baload, 1)) (k : ∀ z : Int, z = σ b i → rg z → At x v A Q n (pc + 1) lv (vI z :: st) σ) : At x v A Q n pc lv (vI i :: .ref (vq v b) :: st) σ := by
  obtain ⟨p, l, e, R, s, m, args, below, meth, c⟩ := x
  intro H locs ls hM hP hS hl
  have h := k _ rfl (hM.i b i (by omega)) H locs ls hM hP hS hl
  refine va_zald C.1.1 C.1.2.1 C.2.2.2.1 hP b t0 (by rw [wo_get hb, hF]) ht (i32_in h0 h1 (by omega)) hd ?_
  rw [i32_clamp h0 (by omega), Int.toNat_of_nonneg h0]
  exact h
theorem a_lald (C : Cx x v A cc own n Ts fr lo) {b len : Nat} {ca : ClassId} (hF : vF v b = eL ca len) (hb : b < vN v) (t0 : Nat) (ht : (vT v)[t0]? = some (ca, .long)) {i : Int} (h0 : 0 ≤ i) (h1 : i < len) (hlen : len ≤ 50000) (hd : decode cc pc = .ok (.laload, 1)) (k : ∀ z : Int, z = σ b (100000 + i) → rgL z → At x v A Q n (pc + 1) lv (vJ z :: st) σ) : At x v A Q n pc lv (vI i :: .ref (vq v b) :: st) σ := by
  obtain ⟨p, l, e, R, s, m, args, below, meth, c⟩ := x
  intro H locs ls hM hP hS hl
  have h := k _ rfl (hM.l b (100000 + i)) H locs ls hM hP hS hl
  refine va_lald C.1.1 C.1.2.1 C.2.2.2.1 hP b t0 (by rw [wo_get hb, hF]) ht (i32_in h0 h1 (by omega)) hd ?_
  rw [i32_clamp h0 (by omega), Int.toNat_of_nonneg h0]
  exact h
theorem a_astC {b : Nat} {i z : Int} (h0 : 0 ≤ i) (h1 : i ≤ 2147483647) (j : Nat) : upd (fun j : Nat => Int32.ofInt (σ b (j : Int))) (Int32.ofInt i).toNatClampNeg (Int32.ofInt z) j = Int32.ofInt (sput σ b i z b (j : Int)) := by
  rw [i32_clamp h0 h1]
  by_cases hj : j = i.toNat
  · rw [hj, pk_us, Int.toNat_of_nonneg h0, sput_s]
  · rw [pk_un hj, sput_j _ _ _ _ _ (by omega)]
theorem a_iast (C : Cx x v A cc own n Ts fr lo) {b len : Nat} {ca : ClassId} (hF : vF v b = eI ca len) (hb : b < vN v) (t0 : Nat) (ht : (vT v)[t0]? = some (ca, .int)) {i z : Int} (h0 : 0 ≤ i) (h1 : i < len) (hlen : len ≤ 50000) (hz : rg z) (hd : decode cc pc = .ok (.iastore, 1)) (k : At x v A Q n (pc + 1) lv st (sput σ b i z)) : At x v A Q n pc lv (vI z :: vI i :: .ref (vq v b) :: st) σ := by
  obtain ⟨p, l, e, R, s, m, args, below, meth, c⟩ := x
  intro H locs ls hM hP hS hl
  refine va_iast C.1.1 C.1.2.1 C.2.2.2.1 hP (C.2.2.2.2.1 σ) hS b t0 (by rw [wo_get hb, hF]) ht (i32_in h0 h1 (by omega)) hd (fun H1 locs1 hP1 hD1 hS1 => ?_)
  rw [wo_set (τ := sput σ b i z) (by rw [hF]; exact congrArg (fun f => (Sum.inl (ca, len, Sum.inl f) : va_E)) (funext fun j => (a_astC h0 (by omega) j).symm)) (fun a ha => by funext a'; simp [sput, ha])] at hP1
  exact k H1 locs1 ls (hM.put hz) hP1 hS1 hl
theorem a_zast (C : Cx x v A cc own n Ts fr lo) {b len : Nat} {ca : ClassId} (hF : vF v b = eI ca len) (hb : b < vN v) (t0 : Nat) (ht : (vT v)[t0]? = some (ca, .boolean)) {i z : Int} (h0 : 0 ≤ i) (h1 : i < len) (hlen : len ≤ 50000) (hz : z = 0 ∨ z = 1) (hd : decode cc pc = .ok (.bastore, 1)) (k : At x v A Q n (pc + 1) lv st (sput σ b i z)) : At x v A Q n pc lv (vI z :: vI i :: .ref (vq v b) :: st) σ := by
  obtain ⟨p, l, e, R, s, m, args, below, meth, c⟩ := x
  intro H locs ls hM hP hS hl
  refine va_zast C.1.1 C.1.2.1 C.2.2.2.1 hP (C.2.2.2.2.1 σ) hS b t0 (by rw [wo_get hb, hF]) ht (i32_in h0 h1 (by omega)) hd (fun H1 locs1 hP1 hD1 hS1 => ?_)
  rw [i32_nar z hz] at hP1
  rw [wo_set (τ := sput σ b i z) (by rw [hF]; exact congrArg (fun f => (Sum.inl (ca, len, Sum.inl f) : va_E)) (funext fun j => (a_astC h0 (by omega) j).symm)) (fun a ha => by funext a'; simp [sput, ha])] at hP1
  exact k H1 locs1 ls (hM.put (by omega)) hP1 hS1 hl
theorem a_last (C : Cx x v A cc own n Ts fr lo) {b len : Nat} {ca : ClassId} (hF : vF v b = eL ca len) (hb : b < vN v) (t0 : Nat) (ht : (vT v)[t0]? = some (ca, .long)) {i z : Int} (h0 : 0 ≤ i) (h1 : i < len) (hlen : len ≤ 50000) (hz : rgL z) (hd : decode cc pc = .ok (.lastore, 1)) (k : At x v A Q n (pc + 1) lv st (sput σ b (100000 + i) z)) : At x v A Q n pc lv (vJ z :: vI i :: .ref (vq v b) :: st) σ := by
  obtain ⟨p, l, e, R, s, m, args, below, meth, c⟩ := x
  intro H locs ls hM hP hS hl
  refine va_last C.1.1 C.1.2.1 C.2.2.2.1 hP (C.2.2.2.2.1 σ) hS b t0 (by rw [wo_get hb, hF]) ht (i32_in h0 h1 (by omega)) hd (fun H1 locs1 hP1 hD1 hS1 => ?_)
  rw [wo_set (τ := sput σ b (100000 + i) z) (by
    rw [hF]
    refine congrArg (fun f => (Sum.inl (ca, len, Sum.inr (Sum.inl f)) : va_E)) (funext fun j => ?_)
    symm
    rw [i32_clamp h0 (by omega)]
    by_cases hj : j = i.toNat
    · rw [hj, pk_uLs, Int.toNat_of_nonneg h0, sput_s]
    · rw [pk_uLn hj, sput_j _ _ _ _ _ (by omega)]) (fun a ha => by funext a'; simp [sput, ha])] at hP1
  exact k H1 locs1 ls (hM.putL (by omega) hz) hP1 hS1 hl
theorem a_aald (C : Cx x v A cc own n Ts fr lo) {b len : Nat} {ca : ClassId} {Cn : String} {f : Nat → Nat} (hF : vF v b = fun _ => .inl (ca, len, .inr (.inr (.inr (.inr fun j => some (vq v (f j))))))) (hb : b < vN v) (t0 : Nat) (ht : (vT v)[t0]? = some (ca, .object Cn)) {i : Int} (h0 : 0 ≤ i) (h1 : i < len) (hlen : len ≤ 50000) (hd : decode cc pc = .ok (.aaload, 1)) (k : At x v A Q n (pc + 1) lv (.ref (vq v (f i.toNat)) :: st) σ) : At x v A Q n pc lv (vI i :: .ref (vq v b) :: st) σ := by
  obtain ⟨p, l, e, R, s, m, args, below, meth, c⟩ := x
  intro H locs ls hM hP hS hl
  refine va_aldq C.1.1 C.1.2.1 C.2.2.2.1 hP b t0 (by rw [wo_get hb, hF]) ht (i32_in h0 h1 (by omega)) hd ?_
  rw [i32_clamp h0 (by omega)]
  exact k H locs ls hM hP hS hl
end Hp
