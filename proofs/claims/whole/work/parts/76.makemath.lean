/-! ===== the model's choice and plan: mathematics ===== -/
/-- the model's choice of one heavy value: the first with the greatest count of those that reach the part, or -1 -/
def mbF (h tr : Int → Int) (al nn dd v best : Int) : Int := if tr v = 0 ∨ h v ≠ 0 ∨ tr v * dd < al * nn then best else if best = -1 ∨ tr best < tr v then v else best
def mbV (h tr : Int → Int) (al nn dd : Int) : Int := itrR (mbF h tr al nn dd) 0 40 (-1)
def mbJ (h tr : Int → Int) (al nn dd k : Int) (s : (Int × Int) × Int) : Prop :=
  (s.1.2 = -1 ∧ s.1.1 = 0 ∧ s.2 = -1) ∨ ((0 ≤ s.1.2 ∧ s.1.2 < k) ∧ s.1.1 = tr s.1.2 ∧ 0 < s.1.1 ∧ ((tr s.1.2 * dd < al * nn ∧ s.2 = -1) ∨ (¬ tr s.1.2 * dd < al * nn ∧ s.2 = s.1.2)))
theorem mb_step {h tr : Int → Int} {al nn dd k : Int} {s : (Int × Int) × Int} (hd : 0 ≤ dd) (h0 : 0 ≤ k) (ht : 0 ≤ tr k) (hs : mbJ h tr al nn dd k s) : mbJ h tr al nn dd (k + 1) (gpF h tr k s.1, mbF h tr al nn dd k s.2) := by
  obtain ⟨⟨g, gi⟩, m⟩ := s
  unfold mbJ at hs ⊢
  dsimp only at hs ⊢
  by_cases hh : h k = 0
  · by_cases hg : g < tr k
    · have e1 : gpF h tr k (g, gi) = (tr k, k) := by unfold gpF; rw [if_pos ⟨hh, hg⟩]
      rw [e1]
      dsimp only
      right
      by_cases hr : tr k * dd < al * nn
      · have e2 : mbF h tr al nn dd k m = m := by unfold mbF; rw [if_pos (Or.inr (Or.inr hr))]
        rw [e2]
        refine ⟨by omega, rfl, by omega, Or.inl ⟨hr, ?_⟩⟩
        rcases hs with ⟨_, _, q⟩ | ⟨q1, q2, q3, ⟨q4, q5⟩ | ⟨q4, q5⟩⟩
        · exact q
        · exact q5
        · exfalso
          have := Int.mul_le_mul_of_nonneg_right (show tr gi ≤ tr k by omega) hd
          omega
      · have e2 : mbF h tr al nn dd k m = k := by
          unfold mbF
          rw [if_neg (by rintro (q | q | q); omega; exact q hh; exact hr q), if_pos]
          rcases hs with ⟨_, _, q⟩ | ⟨q1, q2, q3, ⟨q4, q5⟩ | ⟨q4, q5⟩⟩
          · exact Or.inl q
          · exact Or.inl q5
          · right; rw [q5]; omega
        rw [e2]
        exact ⟨by omega, rfl, by omega, Or.inr ⟨hr, rfl⟩⟩
    · have e1 : gpF h tr k (g, gi) = (g, gi) := by unfold gpF; rw [if_neg (fun q => hg q.2)]
      have e2 : mbF h tr al nn dd k m = m := by
        unfold mbF
        split
        · rfl
        · next q =>
          rw [if_neg]
          have q1 : ¬ tr k = 0 := fun z => q (Or.inl z)
          have q3 : ¬ tr k * dd < al * nn := fun z => q (Or.inr (Or.inr z))
          rcases hs with ⟨_, a, _⟩ | ⟨a1, a2, a3, ⟨a4, a5⟩ | ⟨a4, a5⟩⟩
          · omega
          · exfalso
            have := Int.mul_le_mul_of_nonneg_right (show tr k ≤ tr gi by omega) hd
            omega
          · rw [a5]; omega
      rw [e1, e2]
      dsimp only
      rcases hs with q | ⟨q1, q2⟩
      · exact Or.inl q
      · exact Or.inr ⟨by omega, q2⟩
  · have e1 : gpF h tr k (g, gi) = (g, gi) := by unfold gpF; rw [if_neg (fun q => hh q.1)]
    have e2 : mbF h tr al nn dd k m = m := by unfold mbF; rw [if_pos (Or.inr (Or.inl hh))]
    rw [e1, e2]
    dsimp only
    rcases hs with q | ⟨q1, q2⟩
    · exact Or.inl q
    · exact Or.inr ⟨by omega, q2⟩
theorem mb_all {h tr : Int → Int} {al nn dd : Int} (hd : 0 ≤ dd) (ht : ∀ j : Int, 0 ≤ j → j < 40 → 0 ≤ tr j) : ∀ n : Nat, n ≤ 40 → mbJ h tr al nn dd n (itrR (gpF h tr) 0 n (0, -1), itrR (mbF h tr al nn dd) 0 n (-1)) := by
  intro n
  induction n with
  | zero => intro _; rw [itrR_nil (by omega), itrR_nil (by omega)]; exact Or.inl ⟨rfl, rfl, rfl⟩
  | succ n ih =>
    intro hn
    rw [show ((n + 1 : Nat) : Int) = (n : Int) + 1 by omega, itrR_right (by omega), itrR_right (by omega)]
    exact mb_step hd (by omega) (ht n (by omega) (by omega)) (ih (by omega))
/-- the class's choice and the model's are the same -/
theorem mb_gp {h tr : Int → Int} {al nn dd : Int} (hd : 0 ≤ dd) (ht : ∀ j : Int, 0 ≤ j → j < 40 → 0 ≤ tr j) : (mbV h tr al nn dd = -1 ∧ (gpV h tr = -1 ∨ tr (gpV h tr) * dd < al * nn)) ∨ (mbV h tr al nn dd = gpV h tr ∧ (0 ≤ gpV h tr ∧ gpV h tr < 40) ∧ ¬ tr (gpV h tr) * dd < al * nn) := by
  have q := mb_all (h := h) (al := al) (nn := nn) hd ht 40 (by omega)
  unfold mbJ at q
  dsimp only at q
  rcases q with ⟨q1, q2, q3⟩ | ⟨q1, q2, q3, ⟨q4, q5⟩ | ⟨q4, q5⟩⟩
  · exact Or.inl ⟨q3, Or.inl q1⟩
  · exact Or.inl ⟨q5, Or.inr q4⟩
  · exact Or.inr ⟨q5, q1, q4⟩
theorem chV_stop {tr : Int → Int} {al nn dd : Int} {m : Nat} {s : (Int → Int) × (Int → Int)} (hd : 0 ≤ dd) (ht : ∀ j : Int, 0 ≤ j → j < 40 → 0 ≤ tr j) (h : mbV s.1 tr al nn dd = -1) : chV tr al nn dd m s = s := by
  cases m with
  | zero => rfl
  | succ m =>
    unfold chV
    rcases mb_gp (h := s.1) (al := al) (nn := nn) hd ht with ⟨_, q⟩ | ⟨q1, q2, _⟩
    · rw [if_pos q]
    · omega
theorem chV_go {tr : Int → Int} {al nn dd : Int} {m : Nat} {s : (Int → Int) × (Int → Int)} (hd : 0 ≤ dd) (ht : ∀ j : Int, 0 ≤ j → j < 40 → 0 ≤ tr j) (h : mbV s.1 tr al nn dd ≠ -1) : (0 ≤ mbV s.1 tr al nn dd ∧ mbV s.1 tr al nn dd < 40) ∧ chV tr al nn dd (m + 1) s = chV tr al nn dd m (upI s.1 (mbV s.1 tr al nn dd) 1, upI s.2 (mbV s.1 tr al nn dd) (tr (mbV s.1 tr al nn dd))) := by
  rcases mb_gp (h := s.1) (al := al) (nn := nn) hd ht with ⟨q, _⟩ | ⟨q1, q2, q3⟩
  · exact absurd q h
  · rw [q1]
    refine ⟨q2, ?_⟩
    conv => lhs; unfold chV
    rw [if_neg (by rintro (z | z); omega; exact q3 z)]
theorem mb_congr {h g tr tr' : Int → Int} {al nn dd : Int} (hh : ∀ v, 0 ≤ v → v < 40 → h v = g v) (ht : ∀ v, 0 ≤ v → v < 40 → tr v = tr' v) : mbV h tr al nn dd = mbV g tr' al nn dd := by
  unfold mbV
  refine itrR_congrI (fun k s => s = -1 ∨ (0 ≤ s ∧ s < k)) (fun k s q1 q2 q3 => ?_) (-1) (Or.inl rfl)
  have e : mbF h tr al nn dd k s = mbF g tr' al nn dd k s := by
    unfold mbF
    rw [hh k q1 q2, ht k q1 q2]
    rcases q3 with q | q
    · simp [q]
    · rw [ht s q.1 (by omega)]
  refine ⟨e, ?_⟩
  unfold mbF
  split
  · omega
  · split
    · right; omega
    · omega
/-- what chV answers: the heavy marks are 0 or 1, and a heavy value has its own count -/
theorem chV_ok {tr : Int → Int} {al nn dd : Int} : ∀ (m : Nat) (s : (Int → Int) × (Int → Int)), (∀ j : Int, (s.1 j = 0 ∨ s.1 j = 1) ∧ (s.1 j ≠ 0 → s.2 j = tr j) ∧ (s.1 j = 0 → s.2 j = 0)) → ∀ j : Int, ((chV tr al nn dd m s).1 j = 0 ∨ (chV tr al nn dd m s).1 j = 1) ∧ ((chV tr al nn dd m s).1 j ≠ 0 → (chV tr al nn dd m s).2 j = tr j) ∧ ((chV tr al nn dd m s).1 j = 0 → (chV tr al nn dd m s).2 j = 0) := by
  intro m
  induction m with
  | zero => intro s hs; exact hs
  | succ m ih =>
    intro s hs
    unfold chV
    split
    · exact hs
    · refine ih _ (fun j => ?_)
      dsimp only
      unfold upI
      by_cases q : j = gpV s.1 tr
      · rw [if_pos q, if_pos q, q]; exact ⟨Or.inr rfl, fun _ => rfl, fun z => by omega⟩
      · rw [if_neg q, if_neg q]; exact hs j
/-! the least greatest error of so many pieces -/
def dpL (lv : Int → Int) : Nat → Int → Int
  | 0, f => if f = 40 then 0 else 1000000000
  | n + 1, f => itrR (fun t acc => min acc (max (erI lv f t) (dpL lv n (t + 1)))) f 40 1000000000
def dlF (lv : Int → Int) (n : Nat) (f t acc : Int) : Int := min acc (max (erI lv f t) (dpL lv n (t + 1)))
theorem dpL_succ (lv : Int → Int) (n : Nat) (f : Int) : dpL lv (n + 1) f = itrR (dlF lv n f) f 40 1000000000 := rfl
theorem erI_0 (lv : Int → Int) (a b : Int) : 0 ≤ erI lv a b := plD_0 _
theorem dpL_W (lv : Int → Int) : ∀ (n : Nat) (f : Int), 0 ≤ dpL lv n f ∧ dpL lv n f ≤ 1000000000 := by
  intro n
  induction n with
  | zero => intro f; unfold dpL; split <;> decide
  | succ n ih =>
    intro f
    rw [dpL_succ]
    rcases Int.lt_or_le f 40 with q | q
    · exact itrR_ind (b := 40) (fun _ acc => 0 ≤ acc ∧ acc ≤ 1000000000) (fun k s _ hs => by have := ih (k + 1); have := erI_0 lv f k; unfold dlF; omega) f 1000000000 (by omega) (by decide)
    · rw [itrR_nil q]; decide
/-- a least value over a stretch is reached within a limit just where one of them is -/
theorem min_le {g : Int → Int} {L M : Int} (hM : L < M) : ∀ (n : Nat) (f acc : Int), 40 = f + n → acc ≤ M → (itrR (fun t a => min a (g t)) f 40 acc ≤ L ↔ acc ≤ L ∨ ∃ t : Int, f ≤ t ∧ t < 40 ∧ g t ≤ L) := by
  intro n
  induction n with
  | zero =>
    intro f acc h ha
    rw [itrR_nil (by omega)]
    exact ⟨Or.inl, fun q => by rcases q with q | ⟨t, t1, t2, _⟩; exact q; omega⟩
  | succ n ih =>
    intro f acc h ha
    rw [itrR_step (by omega), ih (f + 1) _ (by omega) (by omega)]
    constructor
    · rintro (q | ⟨t, t1, t2, t3⟩)
      · rcases Int.le_total acc (g f) with z | z
        · left; omega
        · right; exact ⟨f, Int.le_refl _, by omega, by omega⟩
      · right; exact ⟨t, by omega, t2, t3⟩
    · rintro (q | ⟨t, t1, t2, t3⟩)
      · left; omega
      · by_cases z : t = f
        · left; rw [z] at t3; omega
        · right; exact ⟨t, by omega, t2, t3⟩
theorem dpL_pt {lv : Int → Int} {L : Int} (hL0 : 0 ≤ L) (hL : L < 1000000000) : ∀ (n : Nat) (f : Int), 0 ≤ f → f ≤ 40 → (dpL lv n f ≤ L ↔ ptP lv L n f) := by
  intro n
  induction n with
  | zero => intro f h0 h1; unfold dpL ptP; split <;> omega
  | succ n ih =>
    intro f h0 h1
    rw [dpL_succ]
    have e := min_le (g := fun t => max (erI lv f t) (dpL lv n (t + 1))) hL (40 - f).toNat f 1000000000 (by omega) (Int.le_refl _)
    refine Iff.trans e ?_
    constructor
    · rintro (q | ⟨t, t1, t2, t3⟩)
      · omega
      · exact ⟨t, t1, t2, by omega, (ih (t + 1) (by omega) (by omega)).mp (by omega)⟩
    · rintro ⟨t, t1, t2, t3, t4⟩
      right
      exact ⟨t, t1, t2, by have := (ih (t + 1) (by omega) (by omega)).mpr t4; omega⟩
theorem pt_up {lv : Int → Int} {L : Int} (hL : 0 ≤ L) (hl : ∀ j : Int, 0 ≤ j → j < 40 → -1 ≤ lv j ∧ lv j ≤ 10000) {n : Nat} (hn : 1 ≤ n) (h : ptP lv L n 0) : ∀ m : Nat, n + m ≤ 40 → ptP lv L (n + m) 0 := by
  intro m
  induction m with
  | zero => intro _; exact h
  | succ m ih => intro hm; exact ptP_more hL hl (n + m) 0 (by omega) (by omega) (by omega) (ih (by omega))
theorem fw_pt {lv : Int → Int} {L : Int} (hL : 0 ≤ L) (hl : ∀ j : Int, 0 ≤ j → j < 40 → -1 ≤ lv j ∧ lv j ≤ 10000) {n : Nat} (hn : n ≤ 40) : fwI lv L ≤ n ↔ ptP lv L n 0 := by
  have g := fw_greedy hL hl 40 0 0 1 (by omega) (by omega) (by omega) (by omega) (fun q => by omega)
  rw [itrR_nil (f := peF lv) (by omega)] at g
  obtain ⟨g1, g2, g3⟩ := g
  have e : (itrR (fwF lv L) 0 40 (1, pe0)).1 = fwI lv L := rfl
  rw [e] at g1 g2 g3
  constructor
  · intro h
    obtain ⟨m, hm⟩ : ∃ m : Nat, n = (fwI lv L - 1 + 1).toNat + m := ⟨n - (fwI lv L - 1 + 1).toNat, by omega⟩
    rw [hm]
    exact pt_up hL hl (by omega) g2 m (by omega)
  · intro h
    have := g3 n h
    omega
theorem pt_one {lv : Int → Int} (hl : ∀ j : Int, 0 ≤ j → j < 40 → -1 ≤ lv j ∧ lv j ≤ 10000) : ptP lv 10000 1 0 := ⟨39, by omega, by omega, (erI_W hl (by omega) (by omega) (by omega)).2, show (39 : Int) + 1 = 40 by decide⟩
/-- the class's limit is the model's -/
theorem lim_eq {lv : Int → Int} (hl : ∀ j : Int, 0 ≤ j → j < 40 → -1 ≤ lv j ∧ lv j ≤ 10000) {n : Nat} (hn1 : 1 ≤ n) (hn : n ≤ 40) {z : Int} (h0 : 0 ≤ z ∧ z ≤ 10000) (h1 : z = 10000 ∨ fwI lv z ≤ n) (h2 : z = 0 ∨ n < fwI lv (z - 1)) : z = dpL lv n 0 := by
  have a1 : dpL lv n 0 ≤ z := by
    rw [dpL_pt h0.1 (by omega) n 0 (by omega) (by omega)]
    rcases h1 with q | q
    · rw [q]
      obtain ⟨m, hm⟩ : ∃ m : Nat, n = 1 + m := ⟨n - 1, by omega⟩
      rw [hm]
      exact pt_up (by omega) hl (by omega) (pt_one hl) m (by omega)
    · exact (fw_pt h0.1 hl hn).mp q
  have a2 := (dpL_W lv n 0).1
  rcases h2 with q | q
  · omega
  · by_cases z1 : z = 0
    · omega
    · have b1 : ¬ dpL lv n 0 ≤ z - 1 := by
        rw [dpL_pt (by omega) (by omega) n 0 (by omega) (by omega), ← fw_pt (by omega) hl hn]
        omega
      omega
theorem dpL_bd {lv : Int → Int} (hl : ∀ j : Int, 0 ≤ j → j < 40 → -1 ≤ lv j ∧ lv j ≤ 10000) {n : Nat} (hn1 : 1 ≤ n) (hn : n ≤ 40) : 0 ≤ dpL lv n 0 ∧ dpL lv n 0 ≤ 10000 := by
  refine ⟨(dpL_W lv n 0).1, ?_⟩
  rw [dpL_pt (by omega) (by omega) n 0 (by omega) (by omega)]
  obtain ⟨m, hm⟩ : ∃ m : Nat, n = 1 + m := ⟨n - 1, by omega⟩
  rw [hm]
  exact pt_up (by omega) hl (by omega) (pt_one hl) m (by omega)
/-! sums: what is below FAR is reached by an end -/
theorem dpF_reach {lv : Int → Int} {L : Int} {k : Nat} {f : Int} : ∀ (n : Nat) (a acc : Int), 40 = a + n → itrR (dpF lv L k f) a 40 acc = acc ∨ ∃ t : Int, a ≤ t ∧ t < 40 ∧ erI lv f t ≤ L ∧ erI lv f t + dpS lv L k (t + 1) = itrR (dpF lv L k f) a 40 acc := by
  intro n
  induction n with
  | zero => intro a acc h; rw [itrR_nil (by omega)]; exact Or.inl rfl
  | succ n ih =>
    intro a acc h
    rw [itrR_step (by omega)]
    rcases ih (a + 1) (dpF lv L k f a acc) (by omega) with q | ⟨t, t1, t2, t3, t4⟩
    · rw [q]
      unfold dpF
      split
      · next z =>
        rcases Int.le_total acc (erI lv f a + dpS lv L k (a + 1)) with y | y
        · left; omega
        · right; exact ⟨a, Int.le_refl _, by omega, z, by omega⟩
      · exact Or.inl rfl
    · right; exact ⟨t, by omega, t2, t3, t4⟩
theorem dpS_reach {lv : Int → Int} {L : Int} {n : Nat} {f : Int} (hf : f ≤ 40) (h : dpS lv L (n + 1) f < 1000000000) : ∃ t : Int, f ≤ t ∧ t < 40 ∧ erI lv f t ≤ L ∧ erI lv f t + dpS lv L n (t + 1) = dpS lv L (n + 1) f := by
  rw [dpS_succ] at h ⊢
  rcases dpF_reach (lv := lv) (L := L) (k := n) (f := f) (40 - f).toNat f 1000000000 (by omega) with q | q
  · omega
  · exact q
theorem dpF_low {lv : Int → Int} {L : Int} {k : Nat} {f : Int} : ∀ (n : Nat) (a acc : Int), 40 = a + n → itrR (dpF lv L k f) a 40 acc ≤ acc ∧ ∀ t : Int, a ≤ t → t < 40 → erI lv f t ≤ L → itrR (dpF lv L k f) a 40 acc ≤ erI lv f t + dpS lv L k (t + 1) := by
  intro n
  induction n with
  | zero => intro a acc h; rw [itrR_nil (by omega)]; exact ⟨Int.le_refl _, fun t t1 t2 => by omega⟩
  | succ n ih =>
    intro a acc h
    rw [itrR_step (by omega)]
    obtain ⟨i1, i2⟩ := ih (a + 1) (dpF lv L k f a acc) (by omega)
    have e1 : dpF lv L k f a acc ≤ acc := by unfold dpF; split <;> omega
    refine ⟨by omega, fun t t1 t2 t3 => ?_⟩
    by_cases z : t = a
    · rw [z] at t3 ⊢
      have : dpF lv L k f a acc ≤ erI lv f a + dpS lv L k (a + 1) := by unfold dpF; rw [if_pos t3]; omega
      omega
    · exact i2 t (by omega) t2 t3
/-- within a limit that so many pieces can keep, the sum stays small -/
theorem dpS_pt {lv : Int → Int} {L : Int} : ∀ (n : Nat) (f : Int), 0 ≤ f → f ≤ 40 → ptP lv L n f → dpS lv L n f ≤ n * L := by
  intro n
  induction n with
  | zero => intro f _ _ h; have : f = 40 := h; unfold dpS; rw [if_pos this]; omega
  | succ n ih =>
    intro f h0 h1 h
    obtain ⟨t, t1, t2, t3, t4⟩ := h
    have a := (dpF_low (lv := lv) (L := L) (k := n) (f := f) (40 - f).toNat f 1000000000 (by omega)).2 t t1 t2 t3
    rw [← dpS_succ] at a
    have b := ih (t + 1) (by omega) (by omega) t4
    have e : ((n + 1 : Nat) : Int) * L = n * L + L := by rw [show ((n + 1 : Nat) : Int) = (n : Int) + 1 by omega, Int.add_mul, Int.one_mul]
    omega
theorem feI_spec {lv : Int → Int} {L : Int} {n : Nat} {f : Int} (h0 : 0 ≤ f) (hf : f < 40) (h : dpS lv L (n + 1) f < 1000000000) : (f ≤ feI lv L n f ∧ feI lv L n f < 40) ∧ (erI lv f (feI lv L n f) ≤ L ∧ erI lv f (feI lv L n f) + dpS lv L n (feI lv L n f + 1) = dpS lv L (n + 1) f) ∧ ∀ t : Int, f ≤ t → t < feI lv L n f → ¬ (erI lv f t ≤ L ∧ erI lv f t + dpS lv L n (t + 1) = dpS lv L (n + 1) f) := by
  obtain ⟨t, t1, t2, t3, t4⟩ := dpS_reach (by omega) h
  obtain ⟨g1, g2, g3, g4⟩ := fnd_spec (fun t => decide (erI lv f t ≤ L) && decide (erI lv f t + dpS lv L n (t + 1) = dpS lv L (n + 1) f)) (39 - f).toNat f
  have e : feI lv L n f = fnd (fun t => decide (erI lv f t ≤ L) && decide (erI lv f t + dpS lv L n (t + 1) = dpS lv L (n + 1) f)) (39 - f).toNat f := rfl
  rw [← e] at g1 g2 g3 g4
  have key : ∀ j : Int, f ≤ j → j < feI lv L n f → ¬ (erI lv f j ≤ L ∧ erI lv f j + dpS lv L n (j + 1) = dpS lv L (n + 1) f) := by
    intro j q1 q2 q3
    have := g3 j q1 q2
    simp [q3.1, q3.2] at this
  refine ⟨by omega, ?_, key⟩
  rcases Int.lt_or_le (feI lv L n f) (f + ((39 - f).toNat : Int)) with q | q
  · have := g4 q
    simp at this
    exact this
  · have e39 : feI lv L n f = 39 := by omega
    rcases Int.lt_or_le t 39 with z | z
    · exact absurd ⟨t3, t4⟩ (key t t1 (by omega))
    · rw [e39, ← show t = 39 by omega]; exact ⟨t3, t4⟩
/-- a plan's pieces: each begins where the sum of those behind it stays below FAR -/
theorem plB_ok {lv : Int → Int} {L : Int} {many : Nat} (h : dpS lv L many 0 < 1000000000) : ∀ i : Nat, i ≤ many → (0 ≤ plB lv L many i ∧ plB lv L many i ≤ 40) ∧ dpS lv L (many - i) (plB lv L many i) < 1000000000 ∧ (i < many → plB lv L many i < 40) := by
  intro i
  induction i with
  | zero =>
    intro _
    refine ⟨by unfold plB; omega, h, fun _ => by unfold plB; omega⟩
  | succ i ih =>
    intro hi
    obtain ⟨⟨p0, p1⟩, p2, p3⟩ := ih (by omega)
    have p3 := p3 (by omega)
    have p2 : dpS lv L (many - i - 1 + 1) (plB lv L many i) < 1000000000 := by rw [show many - i - 1 + 1 = many - i by omega]; exact p2
    obtain ⟨f1, ⟨f2, f3⟩, _⟩ := feI_spec p0 p3 p2
    have e : plB lv L many (i + 1) = feI lv L (many - i - 1) (plB lv L many i) + 1 := by
      conv => lhs; unfold plB
      rw [if_pos p3]
    rw [e]
    have g := erI_0 lv (plB lv L many i) (feI lv L (many - i - 1) (plB lv L many i))
    have hs : dpS lv L (many - (i + 1)) (feI lv L (many - i - 1) (plB lv L many i) + 1) < 1000000000 := by rw [show many - (i + 1) = many - i - 1 by omega]; omega
    refine ⟨by omega, hs, fun q => ?_⟩
    rcases Int.lt_or_le (feI lv L (many - i - 1) (plB lv L many i) + 1) 40 with z | z
    · exact z
    · exfalso
      have e40 : feI lv L (many - i - 1) (plB lv L many i) + 1 = 40 := by omega
      rw [e40, dpS_40, if_neg (by omega)] at hs
      omega
/-- the last piece ends with the last value -/
theorem plB_end {lv : Int → Int} {L : Int} {many : Nat} (h : dpS lv L many 0 < 1000000000) : plB lv L many many = 40 := by
  obtain ⟨p0, p1, _⟩ := plB_ok h many (by omega)
  rw [Nat.sub_self] at p1
  unfold dpS at p1
  split at p1
  · next q => exact q
  · omega
