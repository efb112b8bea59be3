/-! ===== ROWS put and struck, side by side: class cells in one memory, model cells in another ===== -/
def rwR2 (τ μ : Mem) (b : Nat) (c : Int) : Prop := (∀ j : Int, 0 ≤ j → j < 40 → τ (11 + 10 * c.toNat + 1) j = shR (μ (b + 4)) (40 * c) j) ∧ τ (11 + 10 * c.toNat) 3 = μ (b + 6) c ∧ τ (11 + 10 * c.toNat) 4 = μ (b + 5) c
def skR2 (τ μ : Mem) (b : Nat) (c : Int) : Prop := τ (11 + 10 * c.toNat + 2) 5 = μ (b + 11) c ∧ (∀ j : Int, 0 ≤ j → j < 40 → τ (11 + 10 * c.toNat + 2 + 4) j = shR (μ (b + 14)) (40 * c) j) ∧ (∀ j : Int, 0 ≤ j → j < 40 → τ (11 + 10 * c.toNat + 2 + 4) j ≠ 0 → τ (11 + 10 * c.toNat + 2 + 5) j = shR (μ (b + 13)) (40 * c) j) ∧ (μ (b + 11) c ≠ 0 → τ (11 + 10 * c.toNat + 2) 6 = μ (b + 12) c ∧ skV τ (11 + 10 * c.toNat + 2) = moV μ b c)
def saR2 (τ μ : Mem) (b : Nat) (c : Int) : Prop := τ (11 + 10 * c.toNat + 8) 1 = μ (b + 7) c ∧ τ (11 + 10 * c.toNat + 8) 3 = μ (b + 8) c ∧ τ (11 + 10 * c.toNat + 8) 2 = μ (b + 10) (100000 + c) ∧ ∀ j : Int, 0 ≤ j → j < μ (b + 7) c → j < μ (b + 8) c → τ (11 + 10 * c.toNat + 8 + 1) j = μ (b + 9) (16 * c + j)
def coR2 (τ μ : Mem) (b : Nat) (c : Int) : Prop := rwR2 τ μ b c ∧ skR2 τ μ b c ∧ saR2 τ μ b c
theorem coR2_self {σ : Mem} {b : Nat} {c : Int} : coR2 σ σ b c ↔ coR σ b c := Iff.rfl
theorem skR2_rows {τ μ : Mem} {b : Nat} {c : Int} (h : skR2 τ μ b c) (hn : μ (b + 11) c ≠ 0) : ∀ j : Int, 0 ≤ j → j < μ (b + 11) c → τ (11 + 10 * c.toNat + 2 + 1) j = shR (μ (b + 15)) (40 * c) j ∧ τ (11 + 10 * c.toNat + 2 + 2) j = shR (μ (b + 16)) (40 * c) j ∧ τ (11 + 10 * c.toNat + 2 + 3) j = shR (μ (b + 17)) (40 * c) j := by
  intro j j0 j1
  have g := (h.2.2.2 hn).2
  have e1 := congrArg (fun S : SV => S.2.1 j) g
  have e2 := congrArg (fun S : SV => S.2.2.1 j) g
  have e3 := congrArg (fun S : SV => S.2.2.2 j) g
  simp only [skV, moV] at e1 e2 e3
  rw [h.1] at e1 e2 e3
  rw [mkR_in j0 j1, mkR_in j0 j1] at e1 e2 e3
  exact ⟨e1, e2, e3⟩
/-- one change of a value's rows on both sides -/
theorem rows_step {τ τ' μ μ' : Mem} {b : Nat} {c x m k : Int} (h1 : rwR2 τ μ b c) (h2 : skR2 τ μ b c) (hn : 0 ≤ μ (b + 11) c ∧ μ (b + 11) c ≤ 12) (hx : 0 ≤ x ∧ x ≤ 39)
    (c1 : ∀ j : Int, τ' (11 + 10 * c.toNat + 1) j = τ (11 + 10 * c.toNat + 1) j + if j = x then m else 0) (c3 : τ' (11 + 10 * c.toNat) 3 = τ (11 + 10 * c.toNat) 3 + m) (c4 : τ' (11 + 10 * c.toNat) 4 = τ (11 + 10 * c.toNat) 4) (c5 : τ' (11 + 10 * c.toNat + 2) 5 = τ (11 + 10 * c.toNat + 2) 5)
    (cE : τ' (11 + 10 * c.toNat + 2 + 1) = τ (11 + 10 * c.toNat + 2 + 1)) (cD : τ' (11 + 10 * c.toNat + 2 + 3) = τ (11 + 10 * c.toNat + 2 + 3)) (cH : τ' (11 + 10 * c.toNat + 2 + 4) = τ (11 + 10 * c.toNat + 2 + 4)) (c6 : τ (11 + 10 * c.toNat + 2) 5 ≠ 0 → τ' (11 + 10 * c.toNat + 2) 6 = τ (11 + 10 * c.toNat + 2) 6 + k)
    (cC : ∀ j : Int, τ' (11 + 10 * c.toNat + 2 + 2) j = τ (11 + 10 * c.toNat + 2 + 2) j + if τ (11 + 10 * c.toNat + 2) 5 ≠ 0 ∧ τ (11 + 10 * c.toNat + 2 + 4) x = 0 ∧ j = spOf (τ (11 + 10 * c.toNat + 2 + 1)) (τ (11 + 10 * c.toNat + 2) 5) x then m else 0)
    (cV : ∀ j : Int, τ' (11 + 10 * c.toNat + 2 + 5) j = τ (11 + 10 * c.toNat + 2 + 5) j + if τ (11 + 10 * c.toNat + 2) 5 ≠ 0 ∧ τ (11 + 10 * c.toNat + 2 + 4) x ≠ 0 ∧ j = x then m else 0)
    (m1 : ∀ j : Int, 0 ≤ j → j < 40 → μ' (b + 4) (40 * c + j) = μ (b + 4) (40 * c + j) + if j = x then m else 0) (m3 : μ' (b + 6) c = μ (b + 6) c + m) (m4 : μ' (b + 5) c = μ (b + 5) c) (m5 : μ' (b + 11) c = μ (b + 11) c) (mE : μ' (b + 15) = μ (b + 15)) (mD : μ' (b + 17) = μ (b + 17)) (mH : μ' (b + 14) = μ (b + 14)) (m6 : μ (b + 11) c ≠ 0 → μ' (b + 12) c = μ (b + 12) c + k)
    (mC : ∀ j : Int, 0 ≤ j → j < 40 → μ' (b + 16) (40 * c + j) = μ (b + 16) (40 * c + j) + if μ (b + 11) c ≠ 0 ∧ shR (μ (b + 14)) (40 * c) x = 0 ∧ j = spOf (shR (μ (b + 15)) (40 * c)) (μ (b + 11) c) x then m else 0)
    (mV : ∀ j : Int, 0 ≤ j → j < 40 → μ' (b + 13) (40 * c + j) = μ (b + 13) (40 * c + j) + if μ (b + 11) c ≠ 0 ∧ shR (μ (b + 14)) (40 * c) x ≠ 0 ∧ j = x then m else 0) : rwR2 τ' μ' b c ∧ skR2 τ' μ' b c := by
  refine ⟨⟨fun j j0 j1 => ?_, by rw [c3, m3, h1.2.1], by rw [c4, m4]; exact h1.2.2⟩, by rw [c5, m5]; exact h2.1, fun j j0 j1 => ?_, fun j j0 j1 q => ?_, fun q => ⟨?_, ?_⟩⟩
  · rw [c1, shR_e, m1 j j0 j1, h1.1 j j0 j1]; rfl
  · rw [cH, mH]; exact h2.2.1 j j0 j1
  · rw [cH] at q
    rw [cV, shR_e, mV j j0 j1, h2.2.2.1 j j0 j1 q, h2.1, h2.2.1 x hx.1 (by omega)]
    rfl
  · rw [m5] at q
    rw [c6 (by rw [h2.1]; exact q), m6 q, (h2.2.2.2 q).1]
  · rw [m5] at q
    have g := skR2_rows h2 q
    have es : spOf (τ (11 + 10 * c.toNat + 2 + 1)) (μ (b + 11) c) x = spOf (shR (μ (b + 15)) (40 * c)) (μ (b + 11) c) x := spOf_congr fun j j0 j1 => (g j j0 j1).1
    unfold skV moV
    rw [c5, m5, cE, cD, mE, mD, h2.1]
    refine Prod.ext rfl (Prod.ext (mkR_congr fun j j0 j1 => (g j j0 j1).1) (Prod.ext ?_ (mkR_congr fun j j0 j1 => (g j j0 j1).2.2)))
    refine mkR_congr fun j j0 j1 => ?_
    rw [cC, shR_e, mC j j0 (by omega), (g j j0 j1).2.1, h2.1, h2.2.1 x hx.1 (by omega), es]
    rfl
/-! the model's change as increments -/
def mcD (σ : Mem) (b : Nat) (c x s : Int) (a : Nat) (j : Int) : Int :=
  if x = -1 then (if a = b + 5 ∧ j = c then s else 0) else (if a = b + 4 ∧ j = 40 * c + x then s else 0) + (if a = b + 6 ∧ j = c then s else 0) + (if σ (b + 11) c = 0 then 0 else (if a = b + 12 ∧ j = c then 1 else 0) + (if σ (b + 14) (40 * c + x) = 0 then (if a = b + 16 ∧ j = 40 * c + spOf (shR (σ (b + 15)) (40 * c)) (σ (b + 11) c) x then s else 0) else (if a = b + 13 ∧ j = 40 * c + x then s else 0)))
theorem sput_e (σ : Mem) (k : Nat) (j v : Int) (a : Nat) (i : Int) : sput σ k j v a i = if a = k ∧ i = j then v else σ a i := rfl
theorem mcM_inc (σ : Mem) (b : Nat) (c x s : Int) (a : Nat) (j : Int) : mcM σ b c x s a j = σ a j + mcD σ b c x s a j := by
  unfold mcM mcD
  by_cases h1 : x = -1
  · rw [if_pos h1, if_pos h1, sput_e]
    by_cases q : a = b + 5 ∧ j = c
    · rw [if_pos q, if_pos q, q.1, q.2]
    · rw [if_neg q, if_neg q]; omega
  · rw [if_neg h1, if_neg h1]
    by_cases h2 : σ (b + 11) c = 0
    · rw [if_pos h2, if_pos h2, sput_e, sput_e]
      by_cases q : a = b + 6 ∧ j = c
      · rw [if_pos q, if_pos q, if_neg (by omega), q.1, q.2]; omega
      · rw [if_neg q, if_neg q]
        by_cases p : a = b + 4 ∧ j = 40 * c + x
        · rw [if_pos p, if_pos p, p.1, p.2]; omega
        · rw [if_neg p, if_neg p]; omega
    · rw [if_neg h2, if_neg h2]
      by_cases h3 : σ (b + 14) (40 * c + x) = 0
      · rw [if_pos h3, if_pos h3, sput_e, sput_e, sput_e, sput_e]
        by_cases r : a = b + 16 ∧ j = 40 * c + spOf (shR (σ (b + 15)) (40 * c)) (σ (b + 11) c) x
        · rw [if_pos r, if_pos r, if_neg (by omega), if_neg (by omega), if_neg (by omega), r.1, r.2]; omega
        · rw [if_neg r, if_neg r]
          by_cases t : a = b + 12 ∧ j = c
          · rw [if_pos t, if_pos t, if_neg (by omega), if_neg (by omega), t.1, t.2]; omega
          · rw [if_neg t, if_neg t]
            by_cases q : a = b + 6 ∧ j = c
            · rw [if_pos q, if_pos q, if_neg (by omega), q.1, q.2]; omega
            · rw [if_neg q, if_neg q]
              by_cases p : a = b + 4 ∧ j = 40 * c + x
              · rw [if_pos p, if_pos p, p.1, p.2]; omega
              · rw [if_neg p, if_neg p]; omega
      · rw [if_neg h3, if_neg h3, sput_e, sput_e, sput_e, sput_e]
        by_cases r : a = b + 13 ∧ j = 40 * c + x
        · rw [if_pos r, if_pos r, if_neg (by omega), if_neg (by omega), if_neg (by omega), r.1, r.2]; omega
        · rw [if_neg r, if_neg r]
          by_cases t : a = b + 12 ∧ j = c
          · rw [if_pos t, if_pos t, if_neg (by omega), if_neg (by omega), t.1, t.2]; omega
          · rw [if_neg t, if_neg t]
            by_cases q : a = b + 6 ∧ j = c
            · rw [if_pos q, if_pos q, if_neg (by omega), q.1, q.2]; omega
            · rw [if_neg q, if_neg q]
              by_cases p : a = b + 4 ∧ j = 40 * c + x
              · rw [if_pos p, if_pos p, p.1, p.2]; omega
              · rw [if_neg p, if_neg p]; omega
theorem mcD_congr {σ τ : Mem} {b : Nat} {c x s : Int} (h11 : τ (b + 11) c = σ (b + 11) c) (h14 : τ (b + 14) = σ (b + 14)) (h15 : τ (b + 15) = σ (b + 15)) : mcD τ b c x s = mcD σ b c x s := by
  funext a j
  unfold mcD
  rw [h11, h14, h15]
/-- rows that no change of rows writes -/
theorem mcD_zero {σ : Mem} {b : Nat} {c x s : Int} {a : Nat} {j : Int} (h : a ≠ b + 4 ∧ a ≠ b + 5 ∧ a ≠ b + 6 ∧ a ≠ b + 12 ∧ a ≠ b + 13 ∧ a ≠ b + 16) : mcD σ b c x s a j = 0 := by
  unfold mcD
  rw [if_neg (show ¬ (a = b + 5 ∧ j = c) by omega), if_neg (show ¬ (a = b + 4 ∧ j = 40 * c + x) by omega), if_neg (show ¬ (a = b + 6 ∧ j = c) by omega), if_neg (show ¬ (a = b + 12 ∧ j = c) by omega), if_neg (show ¬ (a = b + 16 ∧ _) by omega), if_neg (show ¬ (a = b + 13 ∧ _) by omega)]
  (repeat' split) <;> rfl
theorem mc_iter {σ : Mem} {b : Nat} {c x s : Int} : ∀ n : Nat, ∀ (a : Nat) (j : Int), itrR (fun _ τ => mcM τ b c x s) 0 n σ a j = σ a j + n * mcD σ b c x s a j := by
  intro n
  induction n with
  | zero => intro a j; rw [itrR_nil (by omega)]; simp
  | succ n ih =>
    intro a j
    rw [show ((n + 1 : Nat) : Int) = (n : Int) + 1 by omega, itrR_right (by omega), mcM_inc, ih]
    have e : mcD (itrR (fun _ τ => mcM τ b c x s) 0 n σ) b c x s = mcD σ b c x s := by
      refine mcD_congr ?_ ?_ ?_
      · rw [ih, mcD_zero (by omega)]; omega
      · funext i; rw [ih, mcD_zero (by omega)]; omega
      · funext i; rw [ih, mcD_zero (by omega)]; omega
    rw [e, Int.add_mul, Int.one_mul]
    omega
theorem mdOne_r0 {σ : Mem} {b : Nat} {c x : Int} {a : Nat} (h : a ≠ b + 8 ∧ a ≠ b + 9 ∧ a ≠ b + 10) : mdOne σ b c x a = σ a := by
  unfold mdOne
  split
  · rfl
  · split
    · rw [sput_r h.2.1, sput_r h.1]
    · split
      · rw [sput_r h.2.1, sput_r h.2.2, sput_r h.1]
      · rw [sput_r h.2.2, sput_r h.1]
theorem mp_iter {σ : Mem} {b : Nat} {c x : Int} : ∀ n : Nat, ∀ (a : Nat) (j : Int), (a ≠ b + 8 ∧ a ≠ b + 9 ∧ a ≠ b + 10) → itrR (fun _ τ => mpS b c x τ) 0 n σ a j = σ a j + n * mcD σ b c x 1 a j := by
  intro n
  induction n with
  | zero => intro a j _; rw [itrR_nil (by omega)]; simp
  | succ n ih =>
    intro a j ha
    rw [show ((n + 1 : Nat) : Int) = (n : Int) + 1 by omega, itrR_right (by omega)]
    show mdOne (mcM (itrR (fun _ τ => mpS b c x τ) 0 n σ) b c x 1) b c x a j = _
    rw [mdOne_r0 ha, mcM_inc, ih a j ha]
    have e : mcD (itrR (fun _ τ => mpS b c x τ) 0 n σ) b c x 1 = mcD σ b c x 1 := by
      refine mcD_congr ?_ ?_ ?_
      · rw [ih _ _ (by omega), mcD_zero (by omega)]; omega
      · funext i; rw [ih _ _ (by omega), mcD_zero (by omega)]; omega
      · funext i; rw [ih _ _ (by omega), mcD_zero (by omega)]; omega
    rw [e, Int.add_mul, Int.one_mul]
    omega
/-! samples -/
theorem sa_step {τ μ : Mem} {b : Nat} {c x : Int} (hb : 52 ≤ b) (hs : 1 ≤ μ (b + 7) c) (h8 : 0 ≤ μ (b + 8) c) (h : saR2 τ μ b c) : saR2 (smOne τ (11 + 10 * c.toNat + 8) x) (mdOne μ b c x) b c ∧ (mdOne μ b c x) (b + 7) c = μ (b + 7) c ∧ 0 ≤ (mdOne μ b c x) (b + 8) c := by
  obtain ⟨a1, a2, a3, a4⟩ := h
  have l0 : 0 ≤ (1103515245 * μ (b + 10) (100000 + c) + 12345) % 2147483648 / 65536 % (μ (b + 8) c + 1) := Int.emod_nonneg _ (by omega)
  unfold smOne mdOne
  rw [a1, a2, a3, if_neg (show ¬ μ (b + 7) c = 0 by omega)]
  by_cases q : μ (b + 8) c + 1 ≤ μ (b + 7) c
  · rw [if_pos q, if_pos q]
    unfold saR2
    simp only [sput_e]
    refine ⟨⟨?_, ?_, ?_, fun j j0 j1 j2 => ?_⟩, ?_, ?_⟩
    · grind
    · grind
    · grind
    · have := a4 j
      grind
    · grind
    · grind
  · rw [if_neg q, if_neg q]
    by_cases p : (1103515245 * μ (b + 10) (100000 + c) + 12345) % 2147483648 / 65536 % (μ (b + 8) c + 1) < μ (b + 7) c
    · rw [if_pos p, if_pos p]
      generalize (1103515245 * μ (b + 10) (100000 + c) + 12345) % 2147483648 / 65536 % (μ (b + 8) c + 1) = lot at *
      generalize (1103515245 * μ (b + 10) (100000 + c) + 12345) % 2147483648 = sd at *
      unfold saR2
      simp only [sput_e]
      refine ⟨⟨?_, ?_, ?_, fun j j0 j1 j2 => ?_⟩, ?_, ?_⟩
      · grind
      · grind
      · grind
      · have := a4 j
        grind
      · grind
      · grind
    · rw [if_neg p, if_neg p]
      generalize (1103515245 * μ (b + 10) (100000 + c) + 12345) % 2147483648 / 65536 % (μ (b + 8) c + 1) = lot at *
      generalize (1103515245 * μ (b + 10) (100000 + c) + 12345) % 2147483648 = sd at *
      unfold saR2
      simp only [sput_e]
      refine ⟨⟨?_, ?_, ?_, fun j j0 j1 j2 => ?_⟩, ?_, ?_⟩
      · grind
      · grind
      · grind
      · have := a4 j
        grind
      · grind
      · grind
