/-! ===== plans of exactly so many pieces within a limit ===== -/
theorem erI_one (lv : Int → Int) (a : Int) (hl : -1 ≤ lv a ∧ lv a ≤ 10000) : erI lv a a = 0 := by
  unfold erI
  rw [itrR_step (by omega), itrR_nil (by omega)]
  unfold peF pe0 plD
  split
  · rfl
  · dsimp only; omega
def ptP (lv : Int → Int) (L : Int) : Nat → Int → Prop
  | 0, f => f = 40
  | n + 1, f => ∃ t : Int, f ≤ t ∧ t < 40 ∧ erI lv f t ≤ L ∧ ptP lv L n (t + 1)
theorem ptP_le {lv : Int → Int} {L : Int} : ∀ (n : Nat) (f : Int), ptP lv L n f → f ≤ 40 - n := by
  intro n
  induction n with
  | zero => intro f h; have : f = 40 := h; omega
  | succ n ih => intro f h; obtain ⟨t, h1, h2, h3, h4⟩ := h; have := ih _ h4; omega
/-- the levels of a piece are ordered: a longer piece reaches farther on both sides -/
theorem pe_sub {lv : Int → Int} : ∀ (n : Nat) (a b : Int) (p q : Int × Int), b = a + n → q.1 ≤ p.1 → p.2 ≤ q.2 → (itrR (peF lv) a b q).1 ≤ (itrR (peF lv) a b p).1 ∧ (itrR (peF lv) a b p).2 ≤ (itrR (peF lv) a b q).2 := by
  intro n
  induction n with
  | zero => intro a b p q h h1 h2; rw [itrR_nil (by omega), itrR_nil (by omega)]; exact ⟨h1, h2⟩
  | succ n ih =>
    intro a b p q h h1 h2
    rw [itrR_step (by omega), itrR_step (s := p) (by omega)]
    refine ih (a + 1) b _ _ (by omega) ?_ ?_
    · unfold peF; split
      · exact h1
      · dsimp only; omega
    · unfold peF; split
      · exact h2
      · dsimp only; omega
theorem erI_front {lv : Int → Int} {a b : Int} (h : a ≤ b) (hl : ∀ j : Int, 0 ≤ j → j < 40 → -1 ≤ lv j ∧ lv j ≤ 10000) (ha : 0 ≤ a) (hb : b < 40) : erI lv (a + 1) b ≤ erI lv a b := by
  unfold erI
  rw [itrR_step (a := a) (by omega)]
  have hla := hl a ha (by omega)
  have := pe_sub (lv := lv) (b + 1 - (a + 1)).toNat (a + 1) (b + 1) pe0 (peF lv a pe0) (by omega) (by unfold peF pe0; split <;> (dsimp only; omega)) (by unfold peF pe0; split <;> (dsimp only; omega))
  unfold plD
  omega
theorem erI_fronts {lv : Int → Int} (hl : ∀ j : Int, 0 ≤ j → j < 40 → -1 ≤ lv j ∧ lv j ≤ 10000) : ∀ (n : Nat) (a c b : Int), c = a + n → c ≤ b + 1 → 0 ≤ a → b < 40 → a ≤ b → erI lv c b ≤ erI lv a b := by
  intro n
  induction n with
  | zero => intro a c b h _ _ _ _; rw [show c = a by omega]; exact Int.le_refl _
  | succ n ih =>
    intro a c b h h1 h2 h3 h4
    have e1 := erI_front (lv := lv) h4 hl h2 h3
    rcases Int.lt_or_le b (a + 1) with q | q
    · rw [show c = a + 1 by omega]; exact e1
    · have e2 := ih (a + 1) c b (by omega) h1 (by omega) h3 q
      omega
theorem ptP_drop {lv : Int → Int} {L : Int} (hl : ∀ j : Int, 0 ≤ j → j < 40 → -1 ≤ lv j ∧ lv j ≤ 10000) : ∀ (n : Nat) (f g : Int), 0 ≤ f → f ≤ g → g ≤ 40 → ptP lv L n f → ∃ m : Nat, m ≤ n ∧ ptP lv L m g := by
  intro n
  induction n with
  | zero => intro f g h0 h1 h2 h; have : f = 40 := h; exact ⟨0, Nat.le_refl _, show g = 40 by omega⟩
  | succ n ih =>
    intro f g h0 h1 h2 h
    obtain ⟨t, k1, k2, k3, k4⟩ := h
    rcases Int.lt_or_le t g with q | q
    · obtain ⟨m, m1, m2⟩ := ih (t + 1) g (by omega) (by omega) h2 k4
      exact ⟨m, by omega, m2⟩
    · have := erI_fronts hl (g - f).toNat f g t (by omega) (by omega) h0 k2 k1
      exact ⟨n + 1, Nat.le_refl _, t, q, k2, by omega, k4⟩
theorem ptP_more {lv : Int → Int} {L : Int} (hL : 0 ≤ L) (hl : ∀ j : Int, 0 ≤ j → j < 40 → -1 ≤ lv j ∧ lv j ≤ 10000) : ∀ (n : Nat) (f : Int), 0 ≤ f → n + 1 ≤ 40 - f → 1 ≤ n → ptP lv L n f → ptP lv L (n + 1) f := by
  intro n
  induction n with
  | zero => intro f _ _ h _; omega
  | succ n ih =>
    intro f h0 h1 _ h
    obtain ⟨t, k1, k2, k3, k4⟩ := h
    have e1 := erI_one lv f (hl f h0 (by omega))
    rcases Int.lt_or_le f t with q | q
    · have := erI_front (lv := lv) (show f ≤ t by omega) hl h0 k2
      exact ⟨f, Int.le_refl _, by omega, by omega, t, by omega, k2, by omega, k4⟩
    · have hft : t = f := by omega
      subst hft
      refine ⟨t, Int.le_refl _, k2, k3, ih (t + 1) (by omega) (by omega) ?_ k4⟩
      rcases Nat.eq_zero_or_pos n with z | z
      · subst z; have : t + 1 = 40 := k4; omega
      · exact z
