/-! ===== put, strike, pack side by side ===== -/
theorem itr_const {α : Type} {g : α → α} : ∀ (n : Nat) (k k' : Int) (s : α), itr (fun _ => g) n k s = itr (fun _ => g) n k' s := by
  intro n
  induction n with
  | zero => intro k k' s; rfl
  | succ n ih => intro k k' s; exact ih (k + 1) (k' + 1) (g s)
theorem itrR_const {α : Type} {g : α → α} (n : Nat) (s : α) : itrR (fun _ => g) 0 ((n + 1 : Nat) : Int) s = itrR (fun _ => g) 0 n (g s) := by
  unfold itrR
  rw [show (((n + 1 : Nat) : Int) - 0).toNat = n + 1 by omega, show ((n : Int) - 0).toNat = n by omega]
  exact itr_const n _ _ _
theorem mc_same {μ : Mem} {b : Nat} {c x s : Int} {a : Nat} (h : a ≠ b + 4 ∧ a ≠ b + 5 ∧ a ≠ b + 6 ∧ a ≠ b + 12 ∧ a ≠ b + 13 ∧ a ≠ b + 16) : mcM μ b c x s a = μ a := by
  funext j
  rw [mcM_inc, mcD_zero h, Int.add_zero]
theorem sa_mc {τ μ : Mem} {b : Nat} {c x s : Int} (h : saR2 τ μ b c) : saR2 τ (mcM μ b c x s) b c := by
  unfold saR2 at *
  rw [mc_same (a := b + 7) (by omega), mc_same (a := b + 8) (by omega), mc_same (a := b + 9) (by omega), mc_same (a := b + 10) (by omega)]
  exact h
theorem sa_run {b : Nat} {c x : Int} (hb : 52 ≤ b) : ∀ (n : Nat) (τ μ : Mem), saR2 τ μ b c → 1 ≤ μ (b + 7) c → 0 ≤ μ (b + 8) c → saR2 (smT (11 + 10 * c.toNat + 8) x n τ) (itrR (fun _ τ => mpS b c x τ) 0 n μ) b c := by
  intro n
  induction n with
  | zero => intro τ μ h _ _; rw [itrR_nil (by omega)]; exact h
  | succ n ih =>
    intro τ μ h h7 h8
    rw [itrR_const]
    have e7 : mcM μ b c x 1 (b + 7) = μ (b + 7) := mc_same (by omega)
    have e8 : mcM μ b c x 1 (b + 8) = μ (b + 8) := mc_same (by omega)
    obtain ⟨g1, g2, g3⟩ := sa_step (x := x) hb (by rw [e7]; exact h7) (by rw [e8]; exact h8) (sa_mc (x := x) (s := 1) h)
    exact ih _ _ g1 (by show 1 ≤ mdOne (mcM μ b c x 1) b c x (b + 7) c; rw [g2, e7]; exact h7) g3
theorem sa_none {b : Nat} {c x : Int} : ∀ (n : Nat) (μ : Mem), μ (b + 7) c = 0 → ∀ a : Nat, b + 7 ≤ a → a ≤ b + 10 → itrR (fun _ τ => mpS b c x τ) 0 n μ a = μ a := by
  intro n
  induction n with
  | zero => intro μ _ a _ _; rw [itrR_nil (by omega)]
  | succ n ih =>
    intro μ h a q1 q2
    have e : mpS b c x μ = mcM μ b c x 1 := by
      unfold mpS mdOne
      rw [mc_same (a := b + 7) (by omega), if_pos h]
    rw [itrR_const, e, ih _ (by rw [mc_same (a := b + 7) (by omega)]; exact h) a q1 q2]
    exact mc_same (by omega)
/-- n rows more on both sides -/
theorem co_step {τ μ : Mem} {b : Nat} {c x : Int} {n : Nat} (hb : 52 ≤ b) (h : coR2 τ μ b c) (hn : 0 ≤ μ (b + 11) c ∧ μ (b + 11) c ≤ 12) (h7 : 0 ≤ μ (b + 7) c) (h8 : 0 ≤ μ (b + 8) c) (hx : -1 ≤ x ∧ x ≤ 39) : coR2 (enM τ (11 + 10 * c.toNat) x n) (itrR (fun _ τ => mpS b c x τ) 0 n μ) b c := by
  obtain ⟨h1, h2, h3⟩ := h
  have ec : ∀ a : Nat, 11 + 10 * c.toNat + 8 ≤ a → chM τ (11 + 10 * c.toNat) x n a = τ a := fun a q => chM_fr a (by omega) (by omega) (by omega) (by omega) (by omega)
  have er : ∀ a : Nat, 11 + 10 * c.toNat ≤ a → a ≤ 11 + 10 * c.toNat + 7 → enM τ (11 + 10 * c.toNat) x n a = chM τ (11 + 10 * c.toNat) x (1 * (n : Int)) a := fun a q1 q2 => by
    unfold enM
    rw [Int.one_mul]
    split
    · rfl
    · exact smT_fr _ _ _ (by omega) (by omega)
  obtain ⟨g1, g2⟩ := rows_n (n := n) (s := 1) (Or.inl rfl) h1 h2 hn hx er (fun a j q => mp_iter n a j q)
  refine ⟨g1, g2, ?_⟩
  have e8 := ec (11 + 10 * c.toNat + 8) (by omega)
  by_cases q : μ (b + 7) c = 0
  · have s := sa_none (x := x) n μ q
    unfold saR2 at *
    unfold enM
    rw [e8, h3.1, if_pos q, e8, ec _ (by omega), s (b + 7) (by omega) (by omega), s (b + 8) (by omega) (by omega), s (b + 9) (by omega) (by omega), s (b + 10) (by omega) (by omega)]
    exact h3
  · unfold enM
    rw [e8, h3.1, if_neg q]
    refine sa_run hb n _ _ ?_ (by omega) h8
    unfold saR2 at *
    rw [e8, ec _ (by omega)]
    exact h3
/-! what a row leaves of the other columns -/
theorem md_sa {μ : Mem} {b : Nat} {c x : Int} (h7 : μ (b + 7) c ≤ 16) (h8 : 0 ≤ μ (b + 8) c) : (mdOne μ b c x (b + 8) c = μ (b + 8) c ∨ mdOne μ b c x (b + 8) c = μ (b + 8) c + 1) ∧ ∀ d : Int, d ≠ c → mdOne μ b c x (b + 8) d = μ (b + 8) d ∧ mdOne μ b c x (b + 10) (100000 + d) = μ (b + 10) (100000 + d) ∧ ∀ j : Int, 0 ≤ j → j < 16 → mdOne μ b c x (b + 9) (16 * d + j) = μ (b + 9) (16 * d + j) := by
  have l0 : 0 ≤ (1103515245 * μ (b + 10) (100000 + c) + 12345) % 2147483648 / 65536 % (μ (b + 8) c + 1) := Int.emod_nonneg _ (by omega)
  unfold mdOne
  by_cases h0 : μ (b + 7) c = 0
  · rw [if_pos h0]; exact ⟨Or.inl rfl, fun d _ => ⟨rfl, rfl, fun _ _ _ => rfl⟩⟩
  · rw [if_neg h0]
    by_cases q : μ (b + 8) c + 1 ≤ μ (b + 7) c
    · rw [if_pos q]
      simp only [sput_e]
      refine ⟨?_, fun d hd => ⟨?_, ?_, fun j j0 j1 => ?_⟩⟩
      · rw [if_neg (by omega), if_pos ⟨trivial, trivial⟩]; exact Or.inr rfl
      · rw [if_neg (by omega), if_neg (by omega)]
      · rw [if_neg (by omega), if_neg (by omega)]
      · rw [if_neg (by omega), if_neg (by omega)]
    · rw [if_neg q]
      by_cases p : (1103515245 * μ (b + 10) (100000 + c) + 12345) % 2147483648 / 65536 % (μ (b + 8) c + 1) < μ (b + 7) c
      · rw [if_pos p]
        generalize (1103515245 * μ (b + 10) (100000 + c) + 12345) % 2147483648 / 65536 % (μ (b + 8) c + 1) = lot at *
        simp only [sput_e]
        refine ⟨?_, fun d hd => ⟨?_, ?_, fun j j0 j1 => ?_⟩⟩
        · rw [if_neg (by omega), if_neg (by omega), if_pos ⟨trivial, trivial⟩]; exact Or.inr rfl
        · rw [if_neg (by omega), if_neg (by omega), if_neg (by omega)]
        · rw [if_neg (by omega), if_neg (by omega), if_neg (by omega)]
        · rw [if_neg (by omega), if_neg (by omega), if_neg (by omega)]
      · rw [if_neg p]
        simp only [sput_e]
        refine ⟨?_, fun d hd => ⟨?_, ?_, fun j j0 j1 => ?_⟩⟩
        · rw [if_neg (by omega), if_pos ⟨trivial, trivial⟩]; exact Or.inr rfl
        · rw [if_neg (by omega), if_neg (by omega)]
        · rw [if_neg (by omega), if_neg (by omega)]
        · rw [if_neg (by omega), if_neg (by omega)]
/-- the frame of one row on the model's side -/
def mpF (μ μ' : Mem) (b : Nat) (c : Int) : Prop := (∀ a : Nat, a ≠ b + 4 ∧ a ≠ b + 5 ∧ a ≠ b + 6 ∧ a ≠ b + 8 ∧ a ≠ b + 9 ∧ a ≠ b + 10 ∧ a ≠ b + 12 ∧ a ≠ b + 13 ∧ a ≠ b + 16 → μ' a = μ a) ∧ 0 ≤ μ' (b + 8) c ∧ ∀ d : Int, d ≠ c → moRw μ μ' b d ∧ moSk μ μ' b d ∧ moSa μ μ' b d
theorem mpF.rf {μ : Mem} {b : Nat} {c : Int} (h : 0 ≤ μ (b + 8) c) : mpF μ μ b c := ⟨fun _ _ => rfl, h, fun _ _ => ⟨moRw.rows rfl rfl rfl, moSk.rows (fun _ _ _ => rfl), moSa.rows (fun _ _ _ => rfl)⟩⟩
theorem mpF.tr {μ ν ρ : Mem} {b : Nat} {c : Int} (h1 : mpF μ ν b c) (h2 : mpF ν ρ b c) : mpF μ ρ b c := by
  refine ⟨fun a q => by rw [h2.1 a q, h1.1 a q], h2.2.1, fun d hd => ?_⟩
  obtain ⟨a1, a2, a3⟩ := h1.2.2 d hd
  obtain ⟨b1, b2, b3⟩ := h2.2.2 d hd
  refine ⟨⟨fun j j0 j1 => (b1.1 j j0 j1).trans (a1.1 j j0 j1), b1.2.1.trans a1.2.1, b1.2.2.trans a1.2.2⟩, ⟨b2.1.trans a2.1, b2.2.1.trans a2.2.1, fun j j0 j1 => ?_⟩, ⟨b3.1.trans a3.1, b3.2.1.trans a3.2.1, b3.2.2.1.trans a3.2.2.1, fun j j0 j1 => (b3.2.2.2 j j0 j1).trans (a3.2.2.2 j j0 j1)⟩⟩
  have x := a2.2.2 j j0 j1
  have y := b2.2.2 j j0 j1
  exact ⟨y.1.trans x.1, y.2.1.trans x.2.1, y.2.2.1.trans x.2.2.1, y.2.2.2.1.trans x.2.2.2.1, y.2.2.2.2.trans x.2.2.2.2⟩
theorem mcM_F {μ : Mem} {b : Nat} {c x s : Int} (hx : -1 ≤ x ∧ x ≤ 39) (hn : 0 ≤ μ (b + 11) c ∧ μ (b + 11) c ≤ 12) (h8 : 0 ≤ μ (b + 8) c) : mpF μ (mcM μ b c x s) b c := by
  refine ⟨fun a q => mc_same (by omega), by rw [mc_same (by omega)]; exact h8, fun d hd => ?_⟩
  obtain ⟨o1, o2, o3, o4⟩ := md_other (σ := μ) (b := b) (c := c) (x := x) (s := s) hx hn hd
  refine ⟨⟨fun j j0 j1 => by rw [mcM_inc, (o1 j j0 j1).1, Int.add_zero], by rw [mcM_inc, o2, Int.add_zero], by rw [mcM_inc, o3, Int.add_zero]⟩, ⟨by rw [mc_same (by omega)], by rw [mcM_inc, o4, Int.add_zero], fun j j0 j1 => ?_⟩, moSa.rows (fun a q1 q2 => mc_same (by omega))⟩
  rw [mcM_inc, (o1 j j0 j1).2.1, mc_same (a := b + 14) (by omega), mc_same (a := b + 15) (by omega), mcM_inc, (o1 j j0 j1).2.2, mc_same (a := b + 17) (by omega), Int.add_zero, Int.add_zero]
  exact ⟨rfl, rfl, rfl, rfl, rfl⟩
theorem mdOne_F {μ : Mem} {b : Nat} {c x : Int} (h7 : μ (b + 7) c ≤ 16) (h8 : 0 ≤ μ (b + 8) c) : mpF μ (mdOne μ b c x) b c := by
  obtain ⟨d1, d2⟩ := md_sa (x := x) h7 h8
  refine ⟨fun a q => mdOne_r0 (by omega), by omega, fun d hd => ⟨moRw.rows (mdOne_r0 (by omega)) (mdOne_r0 (by omega)) (mdOne_r0 (by omega)), moSk.rows (fun a q1 q2 => mdOne_r0 (by omega)), ⟨by rw [mdOne_r0 (by omega)], (d2 d hd).1, (d2 d hd).2.1, (d2 d hd).2.2⟩⟩⟩
theorem mpS_F {μ : Mem} {b : Nat} {c x : Int} (hx : -1 ≤ x ∧ x ≤ 39) (hn : 0 ≤ μ (b + 11) c ∧ μ (b + 11) c ≤ 12) (h7 : μ (b + 7) c ≤ 16) (h8 : 0 ≤ μ (b + 8) c) : mpF μ (mpS b c x μ) b c := by
  have g := mcM_F (s := 1) hx hn h8
  exact g.tr (mdOne_F (by rw [mc_same (by omega)]; exact h7) g.2.1)
theorem mp_F {b : Nat} {c x : Int} (hx : -1 ≤ x ∧ x ≤ 39) : ∀ (n : Nat) (μ : Mem), (0 ≤ μ (b + 11) c ∧ μ (b + 11) c ≤ 12) → μ (b + 7) c ≤ 16 → 0 ≤ μ (b + 8) c → mpF μ (itrR (fun _ τ => mpS b c x τ) 0 n μ) b c := by
  intro n
  induction n with
  | zero => intro μ _ _ h; rw [itrR_nil (by omega)]; exact mpF.rf h
  | succ n ih =>
    intro μ h1 h2 h3
    rw [itrR_const]
    have g := mpS_F (x := x) hx h1 h2 h3
    have e11 := g.1 (b + 11) (by omega)
    have e7 := g.1 (b + 7) (by omega)
    exact g.tr (ih _ (by rw [e11]; exact h1) (by rw [e7]; exact h2) g.2.1)
theorem mc_F {b : Nat} {c x s : Int} (hx : -1 ≤ x ∧ x ≤ 39) : ∀ (n : Nat) (μ : Mem), (0 ≤ μ (b + 11) c ∧ μ (b + 11) c ≤ 12) → 0 ≤ μ (b + 8) c → mpF μ (itrR (fun _ τ => mcM τ b c x s) 0 n μ) b c := by
  intro n
  induction n with
  | zero => intro μ _ h; rw [itrR_nil (by omega)]; exact mpF.rf h
  | succ n ih =>
    intro μ h1 h3
    rw [itrR_const]
    have g := mcM_F (x := x) (s := s) hx h1 h3
    have e11 := g.1 (b + 11) (by omega)
    exact g.tr (ih _ (by rw [e11]; exact h1) g.2.1)
/-- both memories put together again -/
theorem Rel.rows {σ u M w : Mem} {b : Nat} {i : Int} (hb : 52 ≤ b) (hR : Rel σ b) (hZ : szR σ b) (hP : saB σ b) (hi : 0 ≤ i ∧ i < 3) (hu : ∀ a : Nat, a < 11 + 10 * i.toNat ∨ 11 + 10 * i.toNat + 9 < a → a ≠ 0 → u a = σ a) (hu0 : u 0 5 = 0) (hM : mpF u M b i) (hw : w = sput M b 0 0) (hco : coR2 u M b i) : Rel w b := by
  have e1 : ∀ a : Nat, a ≠ b → w a = M a := fun a q => by rw [hw, sput_r q]
  have e2 : ∀ a : Nat, a < b → w a = u a := fun a q => by rw [e1 a (by omega), hM.1 a (by omega)]
  have e3 : ∀ j : Int, j ≠ 0 → w b j = σ b j := fun j q => by rw [hw, sput_j _ _ _ _ _ q, hM.1 b (by omega), hu b (by omega) (by omega)]
  have eu : ∀ a : Nat, b ≤ a → u a = σ a := fun a q => hu a (by omega) (by omega)
  refine hR.col hZ hP hi (by unfold stR; rw [e2 0 (by omega), hu0, hw, sput_s]) (by have h9 := hR.2.1; unfold frR at h9 ⊢; rw [e2 51 (by omega), hu 51 (by omega) (by omega), e3 _ (by decide), e3 _ (by decide)]; exact h9) (fun a q1 q2 q3 => by rw [e2 a (by omega), hu a (by omega) (by omega)]) (fun a q1 q2 => by rw [e1 a (by omega), hM.1 a (by omega), eu a (by omega)]) (fun c c0 c1 q => ?_) ?_
  · obtain ⟨a1, a2, a3⟩ := hM.2.2 c q
    unfold moRw moSk moSa at *
    simp only [e1 (b + 4) (by omega), e1 (b + 5) (by omega), e1 (b + 6) (by omega), e1 (b + 7) (by omega), e1 (b + 8) (by omega), e1 (b + 9) (by omega), e1 (b + 10) (by omega), e1 (b + 11) (by omega), e1 (b + 12) (by omega), e1 (b + 13) (by omega), e1 (b + 14) (by omega), e1 (b + 15) (by omega), e1 (b + 16) (by omega), e1 (b + 17) (by omega)]
    simp only [eu (b + 4) (by omega), eu (b + 5) (by omega), eu (b + 6) (by omega), eu (b + 7) (by omega), eu (b + 8) (by omega), eu (b + 9) (by omega), eu (b + 10) (by omega), eu (b + 11) (by omega), eu (b + 12) (by omega), eu (b + 13) (by omega), eu (b + 14) (by omega), eu (b + 15) (by omega), eu (b + 16) (by omega), eu (b + 17) (by omega)] at a1 a2 a3
    exact ⟨a1, a2, a3⟩
  · rw [← coR2_self]
    unfold coR2 rwR2 skR2 saR2 skV moV at *
    rw [e2 (11 + 10 * i.toNat) (by omega), e2 (11 + 10 * i.toNat + 1) (by omega), e2 (11 + 10 * i.toNat + 2) (by omega), e2 (11 + 10 * i.toNat + 2 + 1) (by omega), e2 (11 + 10 * i.toNat + 2 + 2) (by omega), e2 (11 + 10 * i.toNat + 2 + 3) (by omega), e2 (11 + 10 * i.toNat + 2 + 4) (by omega), e2 (11 + 10 * i.toNat + 2 + 5) (by omega), e2 (11 + 10 * i.toNat + 8) (by omega), e2 (11 + 10 * i.toNat + 8 + 1) (by omega), e1 (b + 4) (by omega), e1 (b + 5) (by omega), e1 (b + 6) (by omega), e1 (b + 7) (by omega), e1 (b + 8) (by omega), e1 (b + 9) (by omega), e1 (b + 10) (by omega), e1 (b + 11) (by omega), e1 (b + 12) (by omega), e1 (b + 13) (by omega), e1 (b + 14) (by omega), e1 (b + 15) (by omega), e1 (b + 16) (by omega), e1 (b + 17) (by omega)]
    exact hco
/-- the class's cells of one memory, the model's of another one -/
theorem coR2_l {τ τ' μ : Mem} {b : Nat} {c : Int} (h : ∀ a : Nat, 11 + 10 * c.toNat ≤ a → a ≤ 11 + 10 * c.toNat + 9 → τ' a = τ a) (hc : coR2 τ μ b c) : coR2 τ' μ b c := by
  unfold coR2 rwR2 skR2 saR2 skV moV at *
  rw [h (11 + 10 * c.toNat) (by omega) (by omega), h (11 + 10 * c.toNat + 1) (by omega) (by omega), h (11 + 10 * c.toNat + 2) (by omega) (by omega), h (11 + 10 * c.toNat + 2 + 1) (by omega) (by omega), h (11 + 10 * c.toNat + 2 + 2) (by omega) (by omega), h (11 + 10 * c.toNat + 2 + 3) (by omega) (by omega), h (11 + 10 * c.toNat + 2 + 4) (by omega) (by omega), h (11 + 10 * c.toNat + 2 + 5) (by omega) (by omega), h (11 + 10 * c.toNat + 8) (by omega) (by omega), h (11 + 10 * c.toNat + 8 + 1) (by omega) (by omega)]
  exact hc
theorem coR2_r {τ μ μ' : Mem} {b : Nat} {c : Int} (h : ∀ a : Nat, b + 4 ≤ a → a ≤ b + 17 → μ' a = μ a) (hc : coR2 τ μ b c) : coR2 τ μ' b c := by
  unfold coR2 rwR2 skR2 saR2 skV moV at *
  rw [h (b + 4) (by omega) (by omega), h (b + 5) (by omega) (by omega), h (b + 6) (by omega) (by omega), h (b + 7) (by omega) (by omega), h (b + 8) (by omega) (by omega), h (b + 9) (by omega) (by omega), h (b + 10) (by omega) (by omega), h (b + 11) (by omega) (by omega), h (b + 12) (by omega) (by omega), h (b + 13) (by omega) (by omega), h (b + 14) (by omega) (by omega), h (b + 15) (by omega) (by omega), h (b + 16) (by omega) (by omega), h (b + 17) (by omega) (by omega)]
  exact hc
