/-! ===== both memories side by side: the class's cells 0 to 51, the model's from b on ===== -/
def skR (σ : Mem) (b : Nat) (c : Int) : Prop := σ (11 + 10 * c.toNat + 2) 5 = σ (b + 11) c ∧ (∀ j : Int, 0 ≤ j → j < 40 → σ (11 + 10 * c.toNat + 2 + 4) j = shR (σ (b + 14)) (40 * c) j) ∧ (∀ j : Int, 0 ≤ j → j < 40 → σ (11 + 10 * c.toNat + 2 + 4) j ≠ 0 → σ (11 + 10 * c.toNat + 2 + 5) j = shR (σ (b + 13)) (40 * c) j) ∧ (σ (b + 11) c ≠ 0 → σ (11 + 10 * c.toNat + 2) 6 = σ (b + 12) c ∧ skV σ (11 + 10 * c.toNat + 2) = moV σ b c)
def rwR (σ : Mem) (b : Nat) (c : Int) : Prop := (∀ j : Int, 0 ≤ j → j < 40 → σ (11 + 10 * c.toNat + 1) j = shR (σ (b + 4)) (40 * c) j) ∧ σ (11 + 10 * c.toNat) 3 = σ (b + 6) c ∧ σ (11 + 10 * c.toNat) 4 = σ (b + 5) c
def saR (σ : Mem) (b : Nat) (c : Int) : Prop := σ (11 + 10 * c.toNat + 8) 1 = σ (b + 7) c ∧ σ (11 + 10 * c.toNat + 8) 3 = σ (b + 8) c ∧ σ (11 + 10 * c.toNat + 8) 2 = σ (b + 10) (100000 + c) ∧ ∀ j : Int, 0 ≤ j → j < σ (b + 7) c → j < σ (b + 8) c → σ (11 + 10 * c.toNat + 8 + 1) j = σ (b + 9) (16 * c + j)
def coR (σ : Mem) (b : Nat) (c : Int) : Prop := rwR σ b c ∧ skR σ b c ∧ saR σ b c
def trR (σ : Mem) (b : Nat) (t : Int) : Prop := (σ (3 + 2 * t.toNat) 1 = 0 ∧ σ (b + 2) t = -1) ∨ (σ (3 + 2 * t.toNat) 1 = 1 ∧ σ (b + 2) t = σ (3 + 2 * t.toNat) 3 ∧ σ (b + 1) t = σ (3 + 2 * t.toNat) 2 ∧ 0 ≤ σ (b + 2) t ∧ ∀ j : Int, 0 ≤ j → j < σ (b + 2) t → σ (3 + 2 * t.toNat + 1) (100000 + j) = σ (b + 3) (100000 + (100 * t + j)))
def stR (σ : Mem) (b : Nat) : Prop := σ 0 5 = σ b 0
def frR (σ : Mem) (b : Nat) : Prop := σ 51 100000 = σ b 100001 ∧ σ 51 100001 = σ b 100002
def Rel (σ : Mem) (b : Nat) : Prop := stR σ b ∧ frR σ b ∧ (∀ t : Int, 0 ≤ t → t < 4 → trR σ b t) ∧ ∀ c : Int, 0 ≤ c → c < 3 → coR σ b c
/-! what a part of the relation stands on -/
/-- the class's cells of a column are the same -/
def clS (σ u : Mem) (c : Int) : Prop := ∀ a : Nat, 11 + 10 * c.toNat ≤ a → a ≤ 20 + 10 * c.toNat → u a = σ a
/-- the model's places of a column's rows, sketch, sample are the same -/
def moRw (σ u : Mem) (b : Nat) (c : Int) : Prop := (∀ j : Int, 0 ≤ j → j < 40 → u (b + 4) (40 * c + j) = σ (b + 4) (40 * c + j)) ∧ u (b + 5) c = σ (b + 5) c ∧ u (b + 6) c = σ (b + 6) c
def moSk (σ u : Mem) (b : Nat) (c : Int) : Prop := u (b + 11) c = σ (b + 11) c ∧ u (b + 12) c = σ (b + 12) c ∧ ∀ j : Int, 0 ≤ j → j < 40 → u (b + 13) (40 * c + j) = σ (b + 13) (40 * c + j) ∧ u (b + 14) (40 * c + j) = σ (b + 14) (40 * c + j) ∧ u (b + 15) (40 * c + j) = σ (b + 15) (40 * c + j) ∧ u (b + 16) (40 * c + j) = σ (b + 16) (40 * c + j) ∧ u (b + 17) (40 * c + j) = σ (b + 17) (40 * c + j)
def moSa (σ u : Mem) (b : Nat) (c : Int) : Prop := u (b + 7) c = σ (b + 7) c ∧ u (b + 8) c = σ (b + 8) c ∧ u (b + 10) (100000 + c) = σ (b + 10) (100000 + c) ∧ ∀ j : Int, 0 ≤ j → j < 16 → u (b + 9) (16 * c + j) = σ (b + 9) (16 * c + j)
theorem skV_congr {σ u : Mem} {p : Nat} (h0 : u p 5 = σ p 5) (h1 : u (p + 1) = σ (p + 1)) (h2 : u (p + 2) = σ (p + 2)) (h3 : u (p + 3) = σ (p + 3)) : skV u p = skV σ p := by unfold skV; rw [h0, h1, h2, h3]
theorem moV_congr {σ u : Mem} {b : Nat} {c : Int} (hn : σ (b + 11) c ≤ 40) (h : moSk σ u b c) : moV u b c = moV σ b c := by
  unfold moV
  rw [h.1]
  refine Prod.ext rfl (Prod.ext ?_ (Prod.ext ?_ ?_))
  · exact mkR_congr fun j j0 j1 => (h.2.2 j j0 (by omega)).2.2.1
  · exact mkR_congr fun j j0 j1 => (h.2.2 j j0 (by omega)).2.2.2.1
  · exact mkR_congr fun j j0 j1 => (h.2.2 j j0 (by omega)).2.2.2.2
theorem rwR_congr {σ u : Mem} {b : Nat} {c : Int} (h0 : u (11 + 10 * c.toNat) 3 = σ (11 + 10 * c.toNat) 3) (h1 : u (11 + 10 * c.toNat) 4 = σ (11 + 10 * c.toNat) 4) (h2 : u (11 + 10 * c.toNat + 1) = σ (11 + 10 * c.toNat + 1)) (hm : moRw σ u b c) (h : rwR σ b c) : rwR u b c := by
  obtain ⟨a1, a2, a3⟩ := h
  refine ⟨fun j j0 j1 => ?_, by rw [h0, hm.2.2]; exact a2, by rw [h1, hm.2.1]; exact a3⟩
  rw [h2, shR_e, hm.1 j j0 j1]
  exact a1 j j0 j1
theorem skR_congr {σ u : Mem} {b : Nat} {c : Int} (hn : σ (b + 11) c ≤ 40) (h : ∀ a : Nat, 11 + 10 * c.toNat + 2 ≤ a → a ≤ 11 + 10 * c.toNat + 7 → u a = σ a) (hm : moSk σ u b c) (hs : skR σ b c) : skR u b c := by
  obtain ⟨a1, a2, a3, a4⟩ := hs
  have e2 : u (11 + 10 * c.toNat + 2) = σ (11 + 10 * c.toNat + 2) := h _ (by omega) (by omega)
  have e6 : u (11 + 10 * c.toNat + 2 + 4) = σ (11 + 10 * c.toNat + 2 + 4) := h _ (by omega) (by omega)
  have e7 : u (11 + 10 * c.toNat + 2 + 5) = σ (11 + 10 * c.toNat + 2 + 5) := h _ (by omega) (by omega)
  refine ⟨by rw [e2, hm.1]; exact a1, fun j j0 j1 => ?_, fun j j0 j1 q => ?_, fun q => ?_⟩
  · rw [e6, shR_e, (hm.2.2 j j0 j1).2.1]; exact a2 j j0 j1
  · rw [e7, shR_e, (hm.2.2 j j0 j1).1]; rw [e6] at q; exact a3 j j0 j1 q
  · rw [hm.1] at q
    have g := a4 q
    rw [e2, hm.2.1, moV_congr hn hm, skV_congr (by rw [e2]) (h _ (by omega) (by omega)) (h _ (by omega) (by omega)) (h _ (by omega) (by omega))]
    exact g
theorem saR_congr {σ u : Mem} {b : Nat} {c : Int} (hn : σ (b + 7) c ≤ 16) (h0 : u (11 + 10 * c.toNat + 8) = σ (11 + 10 * c.toNat + 8)) (h1 : u (11 + 10 * c.toNat + 8 + 1) = σ (11 + 10 * c.toNat + 8 + 1)) (hm : moSa σ u b c) (h : saR σ b c) : saR u b c := by
  obtain ⟨a1, a2, a3, a4⟩ := h
  refine ⟨by rw [h0, hm.1]; exact a1, by rw [h0, hm.2.1]; exact a2, by rw [h0, hm.2.2.1]; exact a3, fun j j0 j1 j2 => ?_⟩
  rw [hm.1] at j1
  rw [hm.2.1] at j2
  rw [h1, hm.2.2.2 j j0 (by omega)]
  exact a4 j j0 j1 j2
theorem coR_congr {σ u : Mem} {b : Nat} {c : Int} (hn : σ (b + 11) c ≤ 40) (hp : σ (b + 7) c ≤ 16) (h : clS σ u c) (h1 : moRw σ u b c) (h2 : moSk σ u b c) (h3 : moSa σ u b c) (hs : coR σ b c) : coR u b c :=
  ⟨rwR_congr (by rw [h _ (by omega) (by omega)]) (by rw [h _ (by omega) (by omega)]) (h _ (by omega) (by omega)) h1 hs.1, skR_congr hn (fun a q1 q2 => h a (by omega) (by omega)) h2 hs.2.1, saR_congr hp (h _ (by omega) (by omega)) (h _ (by omega) (by omega)) h3 hs.2.2⟩
theorem moRw.rows {σ u : Mem} {b : Nat} {c : Int} (h4 : u (b + 4) = σ (b + 4)) (h5 : u (b + 5) = σ (b + 5)) (h6 : u (b + 6) = σ (b + 6)) : moRw σ u b c := ⟨fun j _ _ => by rw [h4], by rw [h5], by rw [h6]⟩
theorem moSk.rows {σ u : Mem} {b : Nat} {c : Int} (h : ∀ a : Nat, b + 11 ≤ a → a ≤ b + 17 → u a = σ a) : moSk σ u b c := ⟨by rw [h (b + 11) (by omega) (by omega)], by rw [h (b + 12) (by omega) (by omega)], fun j _ _ => by rw [h (b + 13) (by omega) (by omega), h (b + 14) (by omega) (by omega), h (b + 15) (by omega) (by omega), h (b + 16) (by omega) (by omega), h (b + 17) (by omega) (by omega)]; exact ⟨rfl, rfl, rfl, rfl, rfl⟩⟩
theorem moSa.rows {σ u : Mem} {b : Nat} {c : Int} (h : ∀ a : Nat, b + 7 ≤ a → a ≤ b + 10 → u a = σ a) : moSa σ u b c := ⟨by rw [h (b + 7) (by omega) (by omega)], by rw [h (b + 8) (by omega) (by omega)], by rw [h (b + 10) (by omega) (by omega)], fun j _ _ => by rw [h (b + 9) (by omega) (by omega)]⟩
/-- every column's part stays where its cells do -/
theorem coR_rows {σ u : Mem} {b : Nat} {c : Int} (hc : 0 ≤ c ∧ c < 3) (h : ∀ a : Nat, 11 ≤ a → a ≤ 40 → u a = σ a) (hm : ∀ a : Nat, b + 4 ≤ a → a ≤ b + 17 → u a = σ a) (hs : coR σ b c) : coR u b c := by
  obtain ⟨s1, s2, s3⟩ := hs
  refine ⟨rwR_congr (by rw [h _ (by omega) (by omega)]) (by rw [h _ (by omega) (by omega)]) (h _ (by omega) (by omega)) (moRw.rows (hm _ (by omega) (by omega)) (hm _ (by omega) (by omega)) (hm _ (by omega) (by omega))) s1, ?_, ?_⟩
  · unfold skR at *
    have e : ∀ k : Nat, k ≤ 5 → u (11 + 10 * c.toNat + 2 + k) = σ (11 + 10 * c.toNat + 2 + k) := fun k q => h _ (by omega) (by omega)
    have em : moV u b c = moV σ b c := by unfold moV; rw [hm (b + 11) (by omega) (by omega), hm (b + 15) (by omega) (by omega), hm (b + 16) (by omega) (by omega), hm (b + 17) (by omega) (by omega)]
    have ev : skV u (11 + 10 * c.toNat + 2) = skV σ (11 + 10 * c.toNat + 2) := skV_congr (by have := e 0 (by omega); rw [Nat.add_zero] at this; rw [this]) (e 1 (by omega)) (e 2 (by omega)) (e 3 (by omega))
    have e0 := e 0 (by omega)
    rw [Nat.add_zero] at e0
    rw [em, ev, e0, e 4 (by omega), e 5 (by omega), hm (b + 11) (by omega) (by omega), hm (b + 12) (by omega) (by omega), hm (b + 13) (by omega) (by omega), hm (b + 14) (by omega) (by omega)]
    exact s2
  · unfold saR at *
    rw [h (11 + 10 * c.toNat + 8) (by omega) (by omega), h (11 + 10 * c.toNat + 8 + 1) (by omega) (by omega), hm (b + 7) (by omega) (by omega), hm (b + 8) (by omega) (by omega), hm (b + 9) (by omega) (by omega), hm (b + 10) (by omega) (by omega)]
    exact s3
theorem trR_rows {σ u : Mem} {b : Nat} {t : Int} (ht : 0 ≤ t ∧ t < 4) (h : ∀ a : Nat, 3 ≤ a → a ≤ 10 → u a = σ a) (hm : ∀ a : Nat, b + 1 ≤ a → a ≤ b + 3 → u a = σ a) (hs : trR σ b t) : trR u b t := by
  unfold trR at *
  rw [h (3 + 2 * t.toNat) (by omega) (by omega), h (3 + 2 * t.toNat + 1) (by omega) (by omega), hm (b + 1) (by omega) (by omega), hm (b + 2) (by omega) (by omega), hm (b + 3) (by omega) (by omega)]
  exact hs
/-- a call that writes no more than the status -/
theorem Rel.st {σ : Mem} {b : Nat} {k : Int} (hb : 52 ≤ b) (h : Rel σ b) : Rel (sput (sput σ 0 5 k) b 0 k) b := by
  obtain ⟨h1, h2, h3, h4⟩ := h
  have e : ∀ a : Nat, a ≠ 0 → a ≠ b → sput (sput σ 0 5 k) b 0 k a = σ a := fun a q1 q2 => by rw [sput_r q2, sput_r q1]
  refine ⟨?_, ?_, fun t t0 t1 => trR_rows ⟨t0, t1⟩ (fun a q1 q2 => e a (by omega) (by omega)) (fun a q1 q2 => e a (by omega) (by omega)) (h3 t t0 t1), fun c c0 c1 => coR_rows ⟨c0, c1⟩ (fun a q1 q2 => e a (by omega) (by omega)) (fun a q1 q2 => e a (by omega) (by omega)) (h4 c c0 c1)⟩
  · unfold stR; rw [sput_r (show 0 ≠ b by omega), sput_s, sput_s]
  · unfold frR at *
    rw [e 51 (by omega) (by omega), sput_j _ _ _ _ _ (by omega), sput_j _ _ _ _ _ (by omega), sput_r (show b ≠ 0 by omega)]
    exact h2
