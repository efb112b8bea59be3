/-! ===== what holds of both between two calls, and what the model's calls ask ===== -/
def moB (σ : Mem) (b : Nat) (n : Int) : Prop := mtW σ b ∧ ∀ c : Int, 0 ≤ c → c < 3 → (-(100000 + n) ≤ σ (b + 12) c ∧ σ (b + 12) c ≤ 100000 + n) ∧ ∀ j : Int, 0 ≤ j → j < 40 → -(100000 + n) ≤ σ (b + 13) (40 * c + j) ∧ σ (b + 13) (40 * c + j) ≤ 100000 + n
def Inv (σ : Mem) (b : Nat) (n : Int) : Prop := BI σ n ∧ Rel σ b ∧ moB σ b n
theorem Inv.sz {σ : Mem} {b : Nat} {n : Int} (h : Inv σ b n) : szR σ b := fun c c0 c1 => by
  have := (h.2.1.2.2.2 c c0 c1).2.1.1
  have := (h.1.2 c c0 c1).2.1.1
  omega
theorem Inv.sa {σ : Mem} {b : Nat} {n : Int} (h : Inv σ b n) : saB σ b := fun c c0 c1 => by
  have := (h.2.1.2.2.2 c c0 c1).2.2.1
  have := (h.1.2 c c0 c1).2.2.2.1
  omega
theorem Inv.sn {σ : Mem} {b : Nat} {n : Int} (h : Inv σ b n) : saN σ b := fun c c0 c1 => by
  have e := (h.2.1.2.2.2 c c0 c1).2.2
  have k := (h.1.2 c c0 c1).2.2
  unfold smW at k
  have := e.1
  have := e.2.1
  omega
theorem Inv.cnt {σ : Mem} {b : Nat} {n c j : Int} (hn : n ≤ 512000) (h : Inv σ b n) (hc : 0 ≤ c ∧ c < 3) (j0 : 0 ≤ j) (j1 : j < σ (b + 11) c) : (-(100000 + n) ≤ σ (b + 16) (40 * c + j) ∧ σ (b + 16) (40 * c + j) ≤ 100000 + n) ∧ 0 ≤ σ (b + 17) (40 * c + j) ∧ σ (b + 17) (40 * c + j) ≤ 1000000 := by
  obtain ⟨-, hs, -⟩ := h.2.1.2.2.2 c hc.1 hc.2
  obtain ⟨hr, ⟨a1, a2, a3, a4⟩, -⟩ := h.1.2 c hc.1 hc.2
  have e5 := hs.1
  have g := (a4 (by omega)).1
  have w := skR_rows hs (by omega) j j0 j1
  simp only [shR_e] at w
  rw [← w.2.1, ← w.2.2]
  have l := skI_l1 hr.1 g
  have q := l1_at (S := skV σ (11 + 10 * c.toNat + 2)) (j := j) j0 (by show j < σ (11 + 10 * c.toNat + 2) 5; omega)
  have d := g.2.1 j j0 (by show j < σ (11 + 10 * c.toNat + 2) 5; omega)
  have k1 : j < σ (11 + 10 * c.toNat + 2) 5 := by omega
  rw [(sk_rows j0 k1).2.1] at q
  rw [(sk_rows j0 k1).2.2] at d
  omega
theorem Inv.svE {σ : Mem} {b : Nat} {n c : Int} (h : Inv σ b n) (hc : 0 ≤ c ∧ c < 3) (hz : σ (b + 11) c ≠ 0) : svE (moE σ b c) := by
  obtain ⟨-, hs, -⟩ := h.2.1.2.2.2 c hc.1 hc.2
  obtain ⟨hr, ⟨a1, a2, a3, a4⟩, -⟩ := h.1.2 c hc.1 hc.2
  have e5 := hs.1
  have g := (a4 (by omega)).1.1
  rw [(hs.2.2.2 hz).2] at g
  exact svE_mo.mp g
theorem Inv.K {σ : Mem} {b : Nat} {n : Int} (hn : n ≤ 512000) (h : Inv σ b n) : ∀ c : Int, 0 ≤ c → c < 3 → moK σ b c := by
  intro c c0 c1
  obtain ⟨hw, hs, -⟩ := h.2.1.2.2.2 c c0 c1
  have hr := (h.1.2 c c0 c1).1
  have z := h.sz c c0 c1
  have r1 := hr.le
  have r2 := hr.2.2
  have w2 := hw.2
  refine ⟨z, fun q => h.svE ⟨c0, c1⟩ q, fun j j0 j1 => ?_, fun j j0 j1 => ?_, fun j j0 j1 => ?_, by omega, by omega⟩
  · have := h.cnt hn ⟨c0, c1⟩ j0 j1
    simp only [shR_e]
    omega
  · have := (h.2.2.2 c c0 c1).2 j j0 j1
    simp only [shR_e]
    omega
  · have := r1.1 j j0 j1
    rw [← hw.1 j j0 j1]
    omega
theorem Inv.B {σ : Mem} {b : Nat} {n M : Int} (hn : n ≤ 512000) (hM : 100000 + n ≤ M) (h0 : 0 ≤ n) (h : Inv σ b n) : ∀ c : Int, 0 ≤ c → c < 3 → mrB σ b c M ∧ msB σ b c M := by
  intro c c0 c1
  obtain ⟨hw, hs, ha⟩ := h.2.1.2.2.2 c c0 c1
  obtain ⟨hr, hk, hm⟩ := h.1.2 c c0 c1
  have z := h.sz c c0 c1
  have r1 := hr.le
  have r2 := hr.2.2
  have w2 := hw.2
  have m9 := h.2.2.2 c c0 c1
  unfold smW at hm
  have a1 := ha.1
  have a2 := ha.2.1
  have a3 := ha.2.2.1
  refine ⟨⟨fun j j0 j1 => ?_, fun j j0 j1 => ?_, by omega, by omega, by omega, z, fun q => h.svE ⟨c0, c1⟩ q⟩, by omega, by omega, by omega, by omega⟩
  · have q1 := r1.1 j j0 j1
    have q2 := hw.1 j j0 j1
    rw [shR_e] at q2
    have := m9.2 j j0 j1
    omega
  · have := h.cnt hn ⟨c0, c1⟩ j0 j1
    omega
/-- the same model, the same bounds -/
theorem moK_up {σ u : Mem} {b : Nat} {c : Int} (h : ∀ a : Nat, b ≤ a → u a = σ a) (k : moK σ b c) : moK u b c := by
  unfold moK moE at *
  rw [h (b + 11) (by omega), h (b + 16) (by omega), h (b + 17) (by omega), h (b + 13) (by omega), h (b + 4) (by omega), h (b + 6) (by omega), h (b + 5) (by omega), h (b + 15) (by omega)]
  exact k
theorem mrB_up {σ u : Mem} {b : Nat} {c M : Int} (h : ∀ a : Nat, b ≤ a → u a = σ a) (k : mrB σ b c M) : mrB u b c M := by
  unfold mrB moE at *
  rw [h (b + 11) (by omega), h (b + 16) (by omega), h (b + 17) (by omega), h (b + 13) (by omega), h (b + 4) (by omega), h (b + 6) (by omega), h (b + 5) (by omega), h (b + 15) (by omega), h (b + 12) (by omega)]
  exact k
theorem msB_up {σ u : Mem} {b : Nat} {c M : Int} (h : ∀ a : Nat, b ≤ a → u a = σ a) (k : msB σ b c M) : msB u b c M := msB_row (h _ (by omega)) (h _ (by omega)) (h _ (by omega)) k
theorem mtW_up {σ u : Mem} {b : Nat} (h1 : u (b + 1) = σ (b + 1)) (h2 : u (b + 2) = σ (b + 2)) (k : mtW σ b) : mtW u b := by unfold mtW at *; rw [h1, h2]; exact k
theorem moB_up {σ u : Mem} {b : Nat} {n m : Int} (hm : n ≤ m) (h1 : u (b + 1) = σ (b + 1)) (h2 : u (b + 2) = σ (b + 2)) (h3 : u (b + 12) = σ (b + 12)) (h4 : u (b + 13) = σ (b + 13)) (k : moB σ b n) : moB u b m := by
  refine ⟨mtW_up h1 h2 k.1, fun c c0 c1 => ?_⟩
  rw [h3, h4]
  have q := k.2 c c0 c1
  exact ⟨by omega, fun j j0 j1 => by have := q.2 j j0 j1; omega⟩
/-- what the model's TOGETHER asks -/
theorem Inv.G {σ : Mem} {b : Nat} {n i k : Int} (hn : n ≤ 512000) (h : Inv σ b n) (hi : 0 ≤ i ∧ i < 3) (hk : 0 ≤ k ∧ k < 3) (z1 : σ (b + 11) i ≠ 0) (z2 : σ (b + 11) k ≠ 0) (hw : (hvS (shR (σ (b + 14)) (40 * i)) (shR (σ (b + 13)) (40 * i)) 0 39 + (smR (shR (σ (b + 16)) (40 * i)) 0 (σ (b + 11) i) + smR (shR (σ (b + 17)) (40 * i)) 0 (σ (b + 11) i))) + (hvS (shR (σ (b + 14)) (40 * k)) (shR (σ (b + 13)) (40 * k)) 0 39 + (smR (shR (σ (b + 16)) (40 * k)) 0 (σ (b + 11) k) + smR (shR (σ (b + 17)) (40 * k)) 0 (σ (b + 11) k))) ≤ 100000) : l1 (moV σ b i) ≤ 2000000 ∧ l1 (moV σ b k) ≤ 2000000 ∧ ∀ j : Int, 0 ≤ j → j < 40 → shR (σ (b + 14)) (40 * k) j ≠ 0 → -200000 ≤ shR (σ (b + 13)) (40 * k) j ∧ shR (σ (b + 13)) (40 * k) j ≤ 200000 := by
  obtain ⟨-, s1, -⟩ := h.2.1.2.2.2 i hi.1 hi.2
  obtain ⟨-, s2, -⟩ := h.2.1.2.2.2 k hk.1 hk.2
  have e1 := wt_eq s1 z1
  have e2 := wt_eq s2 z2
  have t := h.1.G hn hi hk (by have := s1.1; have := (h.sz i hi.1 hi.2); omega) (by have := s2.1; have := (h.sz k hk.1 hk.2); omega) (by rw [e1, e2]; exact hw)
  obtain ⟨-, -, -, -, t1, t2, -, t3, -⟩ := t
  have v1 := (s1.2.2.2 z1).2
  have v2 := (s2.2.2.2 z2).2
  unfold tkP at t1 t2
  rw [v1] at t1
  rw [v2] at t2
  refine ⟨t1.2, t2.2, fun j j0 j1 q => ?_⟩
  rw [← s2.2.2.1 j j0 j1 (by rw [s2.2.1 j j0 j1]; exact q)]
  exact t3 j j0 j1
