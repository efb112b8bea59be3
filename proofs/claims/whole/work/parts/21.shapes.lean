/-! ===== shapes: what the cells of each object are ===== -/
def kI (v : VC) : ClassId := ((vT v).getD 0 (0, .int)).1
def kL (v : VC) : ClassId := ((vT v).getD 1 (0, .int)).1
def kB (v : VC) : ClassId := ((vT v).getD 2 (0, .int)).1
def tyOK (v : VC) : Prop := (vT v)[0]? = some (kI v, .int) ∧ (vT v)[1]? = some (kL v, .long) ∧ (vT v)[2]? = some (kB v, .boolean)
def shSk (v : VC) (b : Nat) : Prop := (tyOK v) ∧ (b < vN v) ∧ (vF v b = fun g => (.inr (4, [.ref (vq v (b + 1)), .ref (vq v (b + 2)), .ref (vq v (b + 3)), .ref (vq v (b + 4)), .ref (vq v (b + 5)), vI (g 5), vI (g 6)]) : va_E)) ∧ (b + 1 < vN v) ∧ (vF v (b + 1) = eI (kI v) 24) ∧ (b + 2 < vN v) ∧ (vF v (b + 2) = eI (kI v) 24) ∧ (b + 3 < vN v) ∧ (vF v (b + 3) = eI (kI v) 24) ∧ (b + 4 < vN v) ∧ (vF v (b + 4) = eI (kB v) 40) ∧ (b + 5 < vN v) ∧ (vF v (b + 5) = eI (kI v) 40)
theorem shSk.ty {v : VC} {b : Nat} (h : shSk v b) : tyOK v := h.1
theorem shSk.n0 {v : VC} {b : Nat} (h : shSk v b) : b < vN v := h.2.1
theorem shSk.f0 {v : VC} {b : Nat} (h : shSk v b) : vF v b = fun g => (.inr (4, [.ref (vq v (b + 1)), .ref (vq v (b + 2)), .ref (vq v (b + 3)), .ref (vq v (b + 4)), .ref (vq v (b + 5)), vI (g 5), vI (g 6)]) : va_E) := h.2.2.1
theorem shSk.n1 {v : VC} {b : Nat} (h : shSk v b) : b + 1 < vN v := h.2.2.2.1
theorem shSk.f1 {v : VC} {b : Nat} (h : shSk v b) : vF v (b + 1) = eI (kI v) 24 := h.2.2.2.2.1
theorem shSk.n2 {v : VC} {b : Nat} (h : shSk v b) : b + 2 < vN v := h.2.2.2.2.2.1
theorem shSk.f2 {v : VC} {b : Nat} (h : shSk v b) : vF v (b + 2) = eI (kI v) 24 := h.2.2.2.2.2.2.1
theorem shSk.n3 {v : VC} {b : Nat} (h : shSk v b) : b + 3 < vN v := h.2.2.2.2.2.2.2.1
theorem shSk.f3 {v : VC} {b : Nat} (h : shSk v b) : vF v (b + 3) = eI (kI v) 24 := h.2.2.2.2.2.2.2.2.1
theorem shSk.n4 {v : VC} {b : Nat} (h : shSk v b) : b + 4 < vN v := h.2.2.2.2.2.2.2.2.2.1
theorem shSk.f4 {v : VC} {b : Nat} (h : shSk v b) : vF v (b + 4) = eI (kB v) 40 := h.2.2.2.2.2.2.2.2.2.2.1
theorem shSk.n5 {v : VC} {b : Nat} (h : shSk v b) : b + 5 < vN v := h.2.2.2.2.2.2.2.2.2.2.2.1
theorem shSk.f5 {v : VC} {b : Nat} (h : shSk v b) : vF v (b + 5) = eI (kI v) 40 := h.2.2.2.2.2.2.2.2.2.2.2.2
theorem shSk.tI {v : VC} {b : Nat} (h : shSk v b) : (vT v)[0]? = some (kI v, .int) := h.ty.1
theorem shSk.tL {v : VC} {b : Nat} (h : shSk v b) : (vT v)[1]? = some (kL v, .long) := h.ty.2.1
theorem shSk.tB {v : VC} {b : Nat} (h : shSk v b) : (vT v)[2]? = some (kB v, .boolean) := h.ty.2.2
def shSa (v : VC) (b : Nat) : Prop := (tyOK v) ∧ (b < vN v) ∧ (vF v b = fun g => (.inr (3, [.ref (vq v (b + 1)), vI (g 1), vI (g 2), vI (g 3)]) : va_E)) ∧ (b + 1 < vN v) ∧ (vF v (b + 1) = eI (kI v) 16)
theorem shSa.ty {v : VC} {b : Nat} (h : shSa v b) : tyOK v := h.1
theorem shSa.n0 {v : VC} {b : Nat} (h : shSa v b) : b < vN v := h.2.1
theorem shSa.f0 {v : VC} {b : Nat} (h : shSa v b) : vF v b = fun g => (.inr (3, [.ref (vq v (b + 1)), vI (g 1), vI (g 2), vI (g 3)]) : va_E) := h.2.2.1
theorem shSa.n1 {v : VC} {b : Nat} (h : shSa v b) : b + 1 < vN v := h.2.2.2.1
theorem shSa.f1 {v : VC} {b : Nat} (h : shSa v b) : vF v (b + 1) = eI (kI v) 16 := h.2.2.2.2
theorem shSa.tI {v : VC} {b : Nat} (h : shSa v b) : (vT v)[0]? = some (kI v, .int) := h.ty.1
theorem shSa.tL {v : VC} {b : Nat} (h : shSa v b) : (vT v)[1]? = some (kL v, .long) := h.ty.2.1
theorem shSa.tB {v : VC} {b : Nat} (h : shSa v b) : (vT v)[2]? = some (kB v, .boolean) := h.ty.2.2
def shTr (v : VC) (b : Nat) : Prop := (tyOK v) ∧ (b < vN v) ∧ (vF v b = fun g => (.inr (5, [.ref (vq v (b + 1)), vI (g 1), vI (g 2), vI (g 3)]) : va_E)) ∧ (b + 1 < vN v) ∧ (vF v (b + 1) = eL (kL v) 100)
theorem shTr.ty {v : VC} {b : Nat} (h : shTr v b) : tyOK v := h.1
theorem shTr.n0 {v : VC} {b : Nat} (h : shTr v b) : b < vN v := h.2.1
theorem shTr.f0 {v : VC} {b : Nat} (h : shTr v b) : vF v b = fun g => (.inr (5, [.ref (vq v (b + 1)), vI (g 1), vI (g 2), vI (g 3)]) : va_E) := h.2.2.1
theorem shTr.n1 {v : VC} {b : Nat} (h : shTr v b) : b + 1 < vN v := h.2.2.2.1
theorem shTr.f1 {v : VC} {b : Nat} (h : shTr v b) : vF v (b + 1) = eL (kL v) 100 := h.2.2.2.2
theorem shTr.tI {v : VC} {b : Nat} (h : shTr v b) : (vT v)[0]? = some (kI v, .int) := h.ty.1
theorem shTr.tL {v : VC} {b : Nat} (h : shTr v b) : (vT v)[1]? = some (kL v, .long) := h.ty.2.1
theorem shTr.tB {v : VC} {b : Nat} (h : shTr v b) : (vT v)[2]? = some (kB v, .boolean) := h.ty.2.2
def shCo (v : VC) (b : Nat) : Prop := (tyOK v) ∧ (b < vN v) ∧ (vF v b = fun g => (.inr (0, [.ref (vq v (b + 1)), .ref (vq v (b + 2)), .ref (vq v (b + 8)), vI (g 3), vI (g 4)]) : va_E)) ∧ (b + 1 < vN v) ∧ (vF v (b + 1) = eI (kI v) 40) ∧ (shSk v (b + 2)) ∧ (shSa v (b + 8))
theorem shCo.ty {v : VC} {b : Nat} (h : shCo v b) : tyOK v := h.1
theorem shCo.n0 {v : VC} {b : Nat} (h : shCo v b) : b < vN v := h.2.1
theorem shCo.f0 {v : VC} {b : Nat} (h : shCo v b) : vF v b = fun g => (.inr (0, [.ref (vq v (b + 1)), .ref (vq v (b + 2)), .ref (vq v (b + 8)), vI (g 3), vI (g 4)]) : va_E) := h.2.2.1
theorem shCo.n1 {v : VC} {b : Nat} (h : shCo v b) : b + 1 < vN v := h.2.2.2.1
theorem shCo.f1 {v : VC} {b : Nat} (h : shCo v b) : vF v (b + 1) = eI (kI v) 40 := h.2.2.2.2.1
theorem shCo.o2 {v : VC} {b : Nat} (h : shCo v b) : shSk v (b + 2) := h.2.2.2.2.2.1
theorem shCo.o8 {v : VC} {b : Nat} (h : shCo v b) : shSa v (b + 8) := h.2.2.2.2.2.2
theorem shCo.tI {v : VC} {b : Nat} (h : shCo v b) : (vT v)[0]? = some (kI v, .int) := h.ty.1
theorem shCo.tL {v : VC} {b : Nat} (h : shCo v b) : (vT v)[1]? = some (kL v, .long) := h.ty.2.1
theorem shCo.tB {v : VC} {b : Nat} (h : shCo v b) : (vT v)[2]? = some (kB v, .boolean) := h.ty.2.2
def shPl (v : VC) (b : Nat) : Prop := (tyOK v) ∧ (b < vN v) ∧ (vF v b = fun g => (.inr (2, [.ref (vq v (b + 1)), .ref (vq v (b + 2)), .ref (vq v (b + 3)), vI (g 3), vI (g 4)]) : va_E)) ∧ (b + 1 < vN v) ∧ (vF v (b + 1) = eI (kI v) 12) ∧ (b + 2 < vN v) ∧ (vF v (b + 2) = eI (kI v) 40) ∧ (b + 3 < vN v) ∧ (vF v (b + 3) = eI (kI v) 533)
theorem shPl.ty {v : VC} {b : Nat} (h : shPl v b) : tyOK v := h.1
theorem shPl.n0 {v : VC} {b : Nat} (h : shPl v b) : b < vN v := h.2.1
theorem shPl.f0 {v : VC} {b : Nat} (h : shPl v b) : vF v b = fun g => (.inr (2, [.ref (vq v (b + 1)), .ref (vq v (b + 2)), .ref (vq v (b + 3)), vI (g 3), vI (g 4)]) : va_E) := h.2.2.1
theorem shPl.n1 {v : VC} {b : Nat} (h : shPl v b) : b + 1 < vN v := h.2.2.2.1
theorem shPl.f1 {v : VC} {b : Nat} (h : shPl v b) : vF v (b + 1) = eI (kI v) 12 := h.2.2.2.2.1
theorem shPl.n2 {v : VC} {b : Nat} (h : shPl v b) : b + 2 < vN v := h.2.2.2.2.2.1
theorem shPl.f2 {v : VC} {b : Nat} (h : shPl v b) : vF v (b + 2) = eI (kI v) 40 := h.2.2.2.2.2.2.1
theorem shPl.n3 {v : VC} {b : Nat} (h : shPl v b) : b + 3 < vN v := h.2.2.2.2.2.2.2.1
theorem shPl.f3 {v : VC} {b : Nat} (h : shPl v b) : vF v (b + 3) = eI (kI v) 533 := h.2.2.2.2.2.2.2.2
theorem shPl.tI {v : VC} {b : Nat} (h : shPl v b) : (vT v)[0]? = some (kI v, .int) := h.ty.1
theorem shPl.tL {v : VC} {b : Nat} (h : shPl v b) : (vT v)[1]? = some (kL v, .long) := h.ty.2.1
theorem shPl.tB {v : VC} {b : Nat} (h : shPl v b) : (vT v)[2]? = some (kB v, .boolean) := h.ty.2.2
def shFr (v : VC) (b : Nat) : Prop := (tyOK v) ∧ (b < vN v) ∧ (vF v b = fun g => (.inr (1, [vJ (g 100000), vJ (g 100001)]) : va_E))
theorem shFr.ty {v : VC} {b : Nat} (h : shFr v b) : tyOK v := h.1
theorem shFr.n0 {v : VC} {b : Nat} (h : shFr v b) : b < vN v := h.2.1
theorem shFr.f0 {v : VC} {b : Nat} (h : shFr v b) : vF v b = fun g => (.inr (1, [vJ (g 100000), vJ (g 100001)]) : va_E) := h.2.2
theorem shFr.tI {v : VC} {b : Nat} (h : shFr v b) : (vT v)[0]? = some (kI v, .int) := h.ty.1
theorem shFr.tL {v : VC} {b : Nat} (h : shFr v b) : (vT v)[1]? = some (kL v, .long) := h.ty.2.1
theorem shFr.tB {v : VC} {b : Nat} (h : shFr v b) : (vT v)[2]? = some (kB v, .boolean) := h.ty.2.2
/-- the whole object: cells 0 to 51 -/
def shSS (v : VC) : Prop := tyOK v ∧ 52 ≤ vN v ∧ (vF v 0 = fun g => (.inr (6, [.ref (vq v 1), .ref (vq v 2), .ref (vq v 41), .ref (vq v 45), .ref (vq v 51), vI (g 5)]) : va_E)) ∧ (∃ ca, (vF v 1 = fun _ => (.inl (ca, 4, .inr (.inr (.inr (.inr fun j => some (vq v (3 + 2 * j)))))) : va_E)) ∧ (vT v)[3]? = some (ca, .object "SpanSketch$Tray")) ∧ (∃ ca, (vF v 2 = fun _ => (.inl (ca, 3, .inr (.inr (.inr (.inr fun j => some (vq v (11 + 10 * j)))))) : va_E)) ∧ (vT v)[4]? = some (ca, .object "SpanSketch$Column")) ∧ (∀ i : Nat, i < 4 → shTr v (3 + 2 * i)) ∧ (∀ i : Nat, i < 3 → shCo v (11 + 10 * i)) ∧ shPl v 41 ∧ shSk v 45 ∧ shFr v 51
theorem shSS.f0 {v : VC} (h : shSS v) : vF v 0 = fun g => (.inr (6, [.ref (vq v 1), .ref (vq v 2), .ref (vq v 41), .ref (vq v 45), .ref (vq v 51), vI (g 5)]) : va_E) := h.2.2.1
theorem shSS.n0 {v : VC} (h : shSS v) : 0 < vN v := by have := h.2.1; omega
theorem shSS.o41 {v : VC} (h : shSS v) : shPl v 41 := h.2.2.2.2.2.2.2.1
theorem shSS.o45 {v : VC} (h : shSS v) : shSk v 45 := h.2.2.2.2.2.2.2.2.1
theorem shSS.o51 {v : VC} (h : shSS v) : shFr v 51 := h.2.2.2.2.2.2.2.2.2
theorem shSS.trn {v : VC} (h : shSS v) : 1 < vN v := by have := h.2.1; omega
theorem shSS.con {v : VC} (h : shSS v) : 2 < vN v := by have := h.2.1; omega
def kT (v : VC) : ClassId := ((vT v).getD 3 (0, .int)).1
def kC (v : VC) : ClassId := ((vT v).getD 4 (0, .int)).1
theorem shSS.trf {v : VC} (h : shSS v) : vF v 1 = fun _ => (.inl (kT v, 4, .inr (.inr (.inr (.inr fun j => some (vq v (3 + 2 * j)))))) : va_E) := by
  obtain ⟨ca, h1, h2⟩ := h.2.2.2.1
  rw [h1]
  have : kT v = ca := by unfold kT; rw [List.getD_eq_getElem?_getD, h2]; rfl
  rw [this]
theorem shSS.trt {v : VC} (h : shSS v) : (vT v)[3]? = some (kT v, .object "SpanSketch$Tray") := by
  obtain ⟨ca, h1, h2⟩ := h.2.2.2.1
  have : kT v = ca := by unfold kT; rw [List.getD_eq_getElem?_getD, h2]; rfl
  rw [this]; exact h2
theorem shSS.cof {v : VC} (h : shSS v) : vF v 2 = fun _ => (.inl (kC v, 3, .inr (.inr (.inr (.inr fun j => some (vq v (11 + 10 * j)))))) : va_E) := by
  obtain ⟨ca, h1, h2⟩ := h.2.2.2.2.1
  rw [h1]
  have : kC v = ca := by unfold kC; rw [List.getD_eq_getElem?_getD, h2]; rfl
  rw [this]
theorem shSS.cot {v : VC} (h : shSS v) : (vT v)[4]? = some (kC v, .object "SpanSketch$Column") := by
  obtain ⟨ca, h1, h2⟩ := h.2.2.2.2.1
  have : kC v = ca := by unfold kC; rw [List.getD_eq_getElem?_getD, h2]; rfl
  rw [this]; exact h2
theorem shSS.tr {v : VC} (h : shSS v) (i : Int) (h0 : 0 ≤ i) (h1 : i < 4) : shTr v (3 + 2 * i.toNat) := h.2.2.2.2.2.1 _ (by omega)
theorem shSS.co {v : VC} (h : shSS v) (i : Int) (h0 : 0 ≤ i) (h1 : i < 3) : shCo v (11 + 10 * i.toNat) := h.2.2.2.2.2.2.1 _ (by omega)
theorem sput_r {σ : Mem} {k a : Nat} {j v : Int} (h : a ≠ k) : sput σ k j v a = σ a := by funext x; simp [sput, h]
/-! ===== sums and counts over stretches of places ===== -/
def smU (f : Int → Int) : Int → Nat → Int
  | _, 0 => 0
  | a, n + 1 => f a + smU f (a + 1) n
/-- the sum of f over the places from a on, below b -/
def smR (f : Int → Int) (a b : Int) : Int := smU f a (b - a).toNat
theorem smR_nil {f : Int → Int} {a b : Int} (h : b ≤ a) : smR f a b = 0 := by
  unfold smR
  rw [show (b - a).toNat = 0 by omega]
  rfl
theorem smR_step {f : Int → Int} {a b : Int} (h : a < b) : smR f a b = f a + smR f (a + 1) b := by
  unfold smR
  rw [show (b - a).toNat = (b - (a + 1)).toNat + 1 by omega]
  rfl
theorem smR_ind {f : Int → Int} {b : Int} (P : Int → Int → Prop) (h0 : ∀ a, b ≤ a → P a 0) (h1 : ∀ a s, a < b → P (a + 1) s → P a (f a + s)) : ∀ a, P a (smR f a b) := by
  intro a
  obtain ⟨n, hn⟩ : ∃ n : Nat, n = (b - a).toNat := ⟨_, rfl⟩
  induction n generalizing a with
  | zero => rw [smR_nil (by omega)]; exact h0 a (by omega)
  | succ n ih => rw [smR_step (by omega)]; exact h1 a _ (by omega) (ih (a + 1) (by omega))
theorem smR_congr {f g : Int → Int} {a b : Int} (h : ∀ v, a ≤ v → v < b → f v = g v) : smR f a b = smR g a b := by
  obtain ⟨n, hn⟩ : ∃ n : Nat, n = (b - a).toNat := ⟨_, rfl⟩
  induction n generalizing a with
  | zero => rw [smR_nil (by omega), smR_nil (by omega)]
  | succ n ih => rw [smR_step (f := f) (by omega), smR_step (f := g) (by omega), h a (by omega) (by omega), ih (fun v h1 h2 => h v (by omega) h2) (by omega)]
theorem smR_split {f : Int → Int} {a b c : Int} (h1 : a ≤ b) (h2 : b ≤ c) : smR f a c = smR f a b + smR f b c := by
  obtain ⟨n, hn⟩ : ∃ n : Nat, n = (b - a).toNat := ⟨_, rfl⟩
  induction n generalizing a with
  | zero => rw [smR_nil (a := a) (b := b) (by omega), show a = b by omega]; omega
  | succ n ih => rw [smR_step (a := a) (b := c) (by omega), smR_step (a := a) (b := b) (by omega), ih (a := a + 1) (by omega) (by omega)]; omega
theorem smR_last {f : Int → Int} {a b : Int} (h : a ≤ b) : smR f a (b + 1) = smR f a b + f b := by
  rw [smR_split (b := b) h (by omega), smR_step (a := b) (by omega), smR_nil (a := b + 1) (by omega)]; omega
theorem smR_bd {f : Int → Int} {a b lo hi : Int} (h : ∀ v, a ≤ v → v < b → lo ≤ f v ∧ f v ≤ hi) (hab : a ≤ b) : lo * (b - a) ≤ smR f a b ∧ smR f a b ≤ hi * (b - a) := by
  obtain ⟨n, hn⟩ : ∃ n : Nat, n = (b - a).toNat := ⟨_, rfl⟩
  induction n generalizing a with
  | zero => rw [smR_nil (by omega), show b - a = 0 by omega]; simp
  | succ n ih =>
    rw [smR_step (by omega)]
    have h1 := h a (by omega) (by omega)
    have h2 := ih (a := a + 1) (fun v q1 q2 => h v (by omega) q2) (by omega) (by omega)
    have e1 : lo * (b - a) = lo + lo * (b - (a + 1)) := by rw [show b - a = 1 + (b - (a + 1)) by omega, Int.mul_add, Int.mul_one]
    have e2 : hi * (b - a) = hi + hi * (b - (a + 1)) := by rw [show b - a = 1 + (b - (a + 1)) by omega, Int.mul_add, Int.mul_one]
    omega
theorem smR_add {f g : Int → Int} {a b : Int} : smR (fun v => f v + g v) a b = smR f a b + smR g a b := by
  obtain ⟨n, hn⟩ : ∃ n : Nat, n = (b - a).toNat := ⟨_, rfl⟩
  induction n generalizing a with
  | zero => rw [smR_nil (by omega), smR_nil (by omega), smR_nil (by omega)]; rfl
  | succ n ih => rw [smR_step (by omega), smR_step (f := f) (by omega), smR_step (f := g) (by omega), ih (by omega)]; omega
theorem smR_nn {f : Int → Int} {a b : Int} (h : ∀ v, a ≤ v → v < b → 0 ≤ f v) : 0 ≤ smR f a b := by
  obtain ⟨n, hn⟩ : ∃ n : Nat, n = (b - a).toNat := ⟨_, rfl⟩
  induction n generalizing a with
  | zero => rw [smR_nil (by omega)]; omega
  | succ n ih =>
    rw [smR_step (by omega)]
    have h1 := h a (by omega) (by omega)
    have h2 := ih (a := a + 1) (fun v q1 q2 => h v (by omega) q2) (by omega)
    omega
/-- the first place from k on where p holds, or n places on -/
def fnd (p : Int → Bool) : Nat → Int → Int
  | 0, k => k
  | n + 1, k => if p k then k else fnd p n (k + 1)
theorem fnd_spec (p : Int → Bool) (n : Nat) (k : Int) : k ≤ fnd p n k ∧ fnd p n k ≤ k + n ∧ (∀ j, k ≤ j → j < fnd p n k → p j = false) ∧ (fnd p n k < k + n → p (fnd p n k) = true) := by
  induction n generalizing k with
  | zero => exact ⟨by simp [fnd], by simp [fnd], fun j h1 h2 => by simp only [fnd] at h2; omega, fun h => by simp [fnd] at h⟩
  | succ n ih =>
    simp only [fnd]
    split
    · next hp => exact ⟨by omega, by omega, fun j h1 h2 => by omega, fun _ => hp⟩
    · next hp =>
      obtain ⟨h1, h2, h3, h4⟩ := ih (k + 1)
      refine ⟨by omega, by omega, fun j q1 q2 => ?_, fun q => h4 (by omega)⟩
      by_cases hj : j = k
      · subst hj; simpa using hp
      · exact h3 j (by omega) q2
theorem fnd_uniq (p : Int → Bool) (n : Nat) (k r : Int) (h1 : k ≤ r) (h2 : r ≤ k + n) (h3 : ∀ j, k ≤ j → j < r → p j = false) (h4 : r < k + n → p r = true) : r = fnd p n k := by
  obtain ⟨g1, g2, g3, g4⟩ := fnd_spec p n k
  rcases Int.lt_trichotomy r (fnd p n k) with h | h | h
  · have a := g3 r h1 h; have b := h4 (by omega); rw [a] at b; cases b
  · exact h
  · have a := h3 _ g1 h; have b := g4 (by omega); rw [a] at b; cases b
/-! ===== the words of a sketch ===== -/
/-- the span in which a value is: the first whose end is not below it, or the last -/
def spOf (e : Int → Int) (size val : Int) : Int := fnd (fun k => decide (val ≤ e k)) (size - 1).toNat 0
theorem spOf_bd (e : Int → Int) (size val : Int) : 0 ≤ spOf e size val ∧ (0 < size → spOf e size val < size) ∧ (size ≤ 0 → spOf e size val = 0) := by
  obtain ⟨h1, h2, -, -⟩ := fnd_spec (fun k => decide (val ≤ e k)) (size - 1).toNat 0
  unfold spOf
  omega
/-- where a span begins -/
def foF (e : Int → Int) (k : Int) : Int := if 0 < k then e (k - 1) + 1 else 0
/-- how many values of a stretch are not heavy -/
def ltC (h : Int → Int) (a b : Int) : Int := smR (fun v => if h v = 0 then 1 else 0) (max a 0) (min (b + 1) 40)
theorem ltC_bd (h : Int → Int) (a b : Int) : 0 ≤ ltC h a b ∧ ltC h a b ≤ 40 := by
  unfold ltC
  by_cases hab : max a 0 ≤ min (b + 1) 40
  · have q := smR_bd (f := fun v => if h v = 0 then 1 else 0) (a := max a 0) (b := min (b + 1) 40) (lo := 0) (hi := 1) (fun v _ _ => by split <;> omega) hab
    omega
  · rw [smR_nil (by omega)]; omega
/-- the counts of the heavy values of a stretch -/
def hvS (h c : Int → Int) (a b : Int) : Int := smR (fun v => if h v = 0 then 0 else c v) (max a 0) (min (b + 1) 40)
/-- the memory of a sketch at b is sound: its size, its ends -/
def skW (σ : Mem) (b : Nat) : Prop := 0 ≤ σ b 5 ∧ σ b 5 ≤ 24 ∧ ∀ j : Int, 0 ≤ j → j < σ b 5 → 0 ≤ σ (b + 1) j ∧ σ (b + 1) j ≤ 39
/-- and its numbers stay small -/
def skB (σ : Mem) (b : Nat) : Prop := (∀ j : Int, 0 ≤ j → j < σ b 5 → -20000000 ≤ σ (b + 2) j ∧ σ (b + 2) j ≤ 20000000) ∧ (∀ j : Int, 0 ≤ j → j < σ b 5 → 0 ≤ σ (b + 3) j ∧ σ (b + 3) j ≤ 1000000) ∧ (∀ j : Int, 0 ≤ j → j < 40 → -5000000 ≤ σ (b + 5) j ∧ σ (b + 5) j ≤ 5000000)
def skC (σ : Mem) (b : Nat) : Prop := (∀ j : Int, 0 ≤ j → j < σ b 5 → -400000000 ≤ σ (b + 2) j ∧ σ (b + 2) j ≤ 400000000) ∧ ∀ j : Int, 0 ≤ j → j < σ b 5 → 0 ≤ σ (b + 3) j ∧ σ (b + 3) j ≤ 1000000
theorem skB.C {σ : Mem} {b : Nat} (h : skB σ b) : skC σ b := ⟨fun j q1 q2 => by have := h.1 j q1 q2; omega, h.2.1⟩
/-- how long a span is -/
def loN (h e : Int → Int) (k : Int) : Int := ltC h (foF e k) (e k)
/-- a value carried over the places from a on, below b -/
def itr {α : Type} (f : Int → α → α) : Nat → Int → α → α
  | 0, _, s => s
  | n + 1, k, s => itr f n (k + 1) (f k s)
def itrR {α : Type} (f : Int → α → α) (a b : Int) (s : α) : α := itr f (b - a).toNat a s
theorem itrR_nil {α : Type} {f : Int → α → α} {a b : Int} {s : α} (h : b ≤ a) : itrR f a b s = s := by
  unfold itrR
  rw [show (b - a).toNat = 0 by omega]
  rfl
theorem itrR_step {α : Type} {f : Int → α → α} {a b : Int} {s : α} (h : a < b) : itrR f a b s = itrR f (a + 1) b (f a s) := by
  unfold itrR
  rw [show (b - a).toNat = (b - (a + 1)).toNat + 1 by omega]
  rfl
theorem itrR_congr {α : Type} {f g : Int → α → α} {a b : Int} (h : ∀ k s, a ≤ k → k < b → f k s = g k s) (s : α) : itrR f a b s = itrR g a b s := by
  obtain ⟨n, hn⟩ : ∃ n : Nat, n = (b - a).toNat := ⟨_, rfl⟩
  induction n generalizing a s with
  | zero => rw [itrR_nil (by omega), itrR_nil (by omega)]
  | succ n ih => rw [itrR_step (f := f) (by omega), itrR_step (f := g) (by omega), h a s (by omega) (by omega), ih (fun k s q1 q2 => h k s (by omega) q2) _ (by omega)]
theorem itrR_ind {α : Type} {f : Int → α → α} {b : Int} (P : Int → α → Prop) (h : ∀ k s, k < b → P k s → P (k + 1) (f k s)) : ∀ a s, a ≤ b → P a s → P b (itrR f a b s) := by
  intro a s hab hp
  obtain ⟨n, hn⟩ : ∃ n : Nat, n = (b - a).toNat := ⟨_, rfl⟩
  induction n generalizing a s with
  | zero => rw [itrR_nil (by omega), ← show a = b by omega]; exact hp
  | succ n ih => rw [itrR_step (by omega)]; exact ih _ _ (by omega) (h a s (by omega) hp) (by omega)
/-- the first span of length two and more with the greatest count, or -1 -/
def glF (h e c : Int → Int) (k : Int) (at' : Int) : Int := if 2 ≤ loN h e k ∧ (at' = -1 ∨ c at' < c k) then k else at'
/-- the first pair of neighbours, neither of them w, with the least counts together, or -1 -/
def lpF (c : Int → Int) (w : Int) (k : Int) (at' : Int) : Int := if k = w ∨ k + 1 = w then at' else if at' = -1 ∨ c k + c (k + 1) < c at' + c (at' + 1) then k else at'
/-- the first value of span k with which the left piece has half of it -/
def haF (h e : Int → Int) (k : Int) : Int := fnd (fun w => decide (loN h e k ≤ 2 * ltC h (foF e k) w)) (e k - foF e k).toNat (foF e k)
