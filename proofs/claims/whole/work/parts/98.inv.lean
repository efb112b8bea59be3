/-! ===== what holds of the class between two calls (n: rows put or struck so far at most) ===== -/
def rwB (σ : Mem) (c : Nat) : Prop := (∀ j : Int, 0 ≤ j → j < 40 → 0 ≤ σ (c + 1) j) ∧ smR (σ (c + 1)) 0 40 = σ c 3 ∧ 0 ≤ σ c 4 ∧ σ c 3 + σ c 4 ≤ 10000
def sbB (σ : Mem) (c : Nat) (n : Int) : Prop := (0 ≤ σ (c + 2) 5 ∧ σ (c + 2) 5 ≤ 12) ∧ (0 ≤ σ (c + 2) 6 ∧ σ (c + 2) 6 ≤ n) ∧ (∀ j : Int, 0 ≤ j → j < 40 → (σ (c + 2 + 4) j = 0 ∨ σ (c + 2 + 4) j = 1) ∧ 0 ≤ σ (c + 2 + 5) j ∧ σ (c + 2 + 5) j ≤ 100000 + n) ∧ (σ (c + 2) 5 ≠ 0 → skI (σ (c + 2 + 4)) (σ (c + 2 + 5)) (σ (c + 1)) (skV σ (c + 2)) (σ c 3) n ∧ ∀ j : Int, 0 ≤ j → j < 40 → σ (c + 2 + 4) j = 0 → σ (c + 2 + 5) j = 0)
def coB (σ : Mem) (c : Nat) (n : Int) : Prop := rwB σ c ∧ sbB σ c n ∧ smW σ (c + 8) n
def BI (σ : Mem) (n : Int) : Prop := trW σ ∧ ∀ i : Int, 0 ≤ i → i < 3 → coB σ (11 + 10 * i.toNat) n
theorem sbB_mono {σ : Mem} {c : Nat} {n m : Int} (hm : n ≤ m) (h : sbB σ c n) : sbB σ c m := ⟨h.1, ⟨h.2.1.1, by have := h.2.1.2; omega⟩, fun j j0 j1 => ⟨(h.2.2.1 j j0 j1).1, (h.2.2.1 j j0 j1).2.1, by have := (h.2.2.1 j j0 j1).2.2; omega⟩, fun q => ⟨skI_mono (h.2.2.2 q).1 hm, (h.2.2.2 q).2⟩⟩
theorem coB_mono {σ : Mem} {c : Nat} {n m : Int} (hm : n ≤ m) (h : coB σ c n) : coB σ c m := ⟨h.1, sbB_mono hm h.2.1, smW_less hm h.2.2⟩
theorem rwB_congr {σ u : Mem} {c : Nat} (h0 : u c = σ c) (h1 : u (c + 1) = σ (c + 1)) (h : rwB σ c) : rwB u c := by unfold rwB at *; rw [h0, h1]; exact h
theorem sbB_congr {σ u : Mem} {c : Nat} {n : Int} (h0 : u c 3 = σ c 3) (h1 : u (c + 1) = σ (c + 1)) (hs : ∀ a : Nat, c + 2 ≤ a → a ≤ c + 7 → u a = σ a) (h : sbB σ c n) : sbB u c n := by
  unfold sbB at *
  rw [h0, h1, hs (c + 2) (by omega) (by omega), hs (c + 2 + 4) (by omega) (by omega), hs (c + 2 + 5) (by omega) (by omega), skV_congr (u := u) (σ := σ) (p := c + 2) (by rw [hs (c + 2) (by omega) (by omega)]) (hs _ (by omega) (by omega)) (hs _ (by omega) (by omega)) (hs _ (by omega) (by omega))]
  exact h
theorem coB_congr {σ u : Mem} {c : Nat} {n : Int} (h : ∀ a : Nat, c ≤ a → a ≤ c + 8 → u a = σ a) (hs : coB σ c n) : coB u c n :=
  ⟨rwB_congr (h _ (by omega) (by omega)) (h _ (by omega) (by omega)) hs.1, sbB_congr (by rw [h c (by omega) (by omega)]) (h _ (by omega) (by omega)) (fun a q1 q2 => h a (by omega) (by omega)) hs.2.1, smW_row (h _ (by omega) (by omega)) hs.2.2⟩
theorem trW_congr {σ u : Mem} (h : ∀ a : Nat, 3 ≤ a → a ≤ 10 → u a = σ a) (ht : trW σ) : trW u := by
  intro i i0 i1
  rw [h (3 + 2 * i.toNat) (by omega) (by omega)]
  exact ht i i0 i1
theorem BI_mono {σ : Mem} {n m : Int} (hm : n ≤ m) (h : BI σ n) : BI σ m := ⟨h.1, fun i i0 i1 => coB_mono hm (h.2 i i0 i1)⟩
theorem BI_congr {σ u : Mem} {n : Int} (h : ∀ a : Nat, 3 ≤ a → a ≤ 40 → u a = σ a) (hb : BI σ n) : BI u n :=
  ⟨trW_congr (fun a q1 q2 => h a q1 (by omega)) hb.1, fun i i0 i1 => coB_congr (fun a q1 q2 => h a (by omega) (by omega)) (hb.2 i i0 i1)⟩
/-- one column changed -/
theorem BI_col {σ u : Mem} {n m i : Int} (hi : 0 ≤ i ∧ i < 3) (hm : n ≤ m) (ht : ∀ a : Nat, 3 ≤ a → a ≤ 10 → u a = σ a) (h : ∀ a : Nat, 11 ≤ a → a ≤ 40 → (a < 11 + 10 * i.toNat ∨ 11 + 10 * i.toNat + 9 < a) → u a = σ a) (hc : coB u (11 + 10 * i.toNat) m) (hb : BI σ n) : BI u m := by
  refine ⟨trW_congr ht hb.1, fun j j0 j1 => ?_⟩
  by_cases z : j = i
  · rw [z]; exact hc
  · exact coB_mono hm (coB_congr (fun a q1 q2 => h a (by omega) (by omega) (by omega)) (hb.2 j j0 j1))
/-! what the calls ask, out of it -/
theorem rwB.le {σ : Mem} {c : Nat} (h : rwB σ c) : (∀ j : Int, 0 ≤ j → j < 40 → 0 ≤ σ (c + 1) j ∧ σ (c + 1) j ≤ σ c 3) ∧ 0 ≤ σ c 3 := by
  obtain ⟨h1, h2, -, -⟩ := h
  have key : ∀ j : Int, 0 ≤ j → j < 40 → σ (c + 1) j ≤ σ c 3 := fun j j0 j1 => by rw [← h2]; exact smR_one h1 j0 j1
  refine ⟨fun j j0 j1 => ⟨h1 j j0 j1, key j j0 j1⟩, ?_⟩
  have := key 0 (by decide) (by decide)
  have := h1 0 (by decide) (by decide)
  omega
theorem sk_rows {σ : Mem} {p : Nat} {j : Int} (h0 : 0 ≤ j) (h1 : j < σ p 5) : (skV σ p).2.1 j = σ (p + 1) j ∧ (skV σ p).2.2.1 j = σ (p + 2) j ∧ (skV σ p).2.2.2 j = σ (p + 3) j := ⟨mkR_in h0 h1, mkR_in h0 h1, mkR_in h0 h1⟩
theorem skI_l1 {h hc tr : Int → Int} {S : SV} {va n : Int} (ht : ∀ j : Int, 0 ≤ j → j < 40 → 0 ≤ tr j) (hI : skI h hc tr S va n) : l1 S ≤ 100000 + n ∧ 0 ≤ hvS h hc 0 39 ∧ hvS h hc 0 39 ≤ 100000 + n := by
  have hH := hv_nn ht hI.2.2.2.1
  have h6 := hI.2.2.2.2.2
  have l0 : 0 ≤ l1 S := smR_nn fun v _ _ => by unfold abI; omega
  omega
/-- the sketch's numbers are sound -/
theorem coB.sk {σ : Mem} {c : Nat} {n : Int} (hn : n ≤ 512000) (h : coB σ c n) : skW σ (c + 2) ∧ ∀ j : Int, 0 ≤ j → j < σ (c + 2) 5 → (-612000 ≤ σ (c + 2 + 2) j ∧ σ (c + 2 + 2) j ≤ 612000) ∧ 0 ≤ σ (c + 2 + 3) j ∧ σ (c + 2 + 3) j ≤ 1000000 := by
  obtain ⟨hr, ⟨a1, a2, a3, a4⟩, -⟩ := h
  refine ⟨⟨a1.1, by omega, fun j j0 j1 => ?_⟩, fun j j0 j1 => ?_⟩
  · have g := (a4 (by omega)).1.1.2.2.1 j j0 j1
    rw [(sk_rows j0 j1).1] at g
    exact g
  · have g := (a4 (by omega)).1
    have e := skI_l1 (fun v v0 v1 => (hr.le.1 v v0 v1).1) g
    have q := l1_at (S := skV σ (c + 2)) (j := j) j0 j1
    have d := g.2.1 j j0 j1
    rw [(sk_rows j0 j1).2.1] at q
    rw [(sk_rows j0 j1).2.2] at d
    omega
theorem coB.W {σ : Mem} {c : Nat} {n : Int} (hn : n ≤ 512000) (h : coB σ c n) : coW σ c := by
  obtain ⟨k1, k2⟩ := h.sk hn
  obtain ⟨hr, ⟨a1, a2, a3, a4⟩, hs⟩ := h
  have r := hr.le
  have r4 := hr.2.2
  refine ⟨fun j j0 j1 => by have := r.1 j j0 j1; omega, by omega, by omega, k1, ⟨fun j j0 j1 => by have := k2 j j0 j1; omega, fun j j0 j1 => (k2 j j0 j1).2, fun j j0 j1 => by have := a3 j j0 j1; omega⟩, by omega, smW_less (by omega) hs⟩
theorem BI.W {σ : Mem} {n : Int} (hn : n ≤ 512000) (h : BI σ n) : ∀ i : Int, 0 ≤ i → i < 3 → coW σ (11 + 10 * i.toNat) := fun i i0 i1 => (h.2 i i0 i1).W hn
theorem BI.P {σ : Mem} {n i s : Int} (hn : n ≤ 512000) (h : BI σ n) (hi : 0 ≤ i ∧ i < 3) (hs : 0 ≤ s ∧ s ≤ 1000) (hq : σ (11 + 10 * i.toNat) 3 + σ (11 + 10 * i.toNat) 4 + s ≤ 10000) : coP σ (11 + 10 * i.toNat) s := by
  have hc := h.2 i hi.1 hi.2
  obtain ⟨k1, k2⟩ := hc.sk hn
  obtain ⟨hr, ⟨a1, a2, a3, a4⟩, hsm⟩ := hc
  have r := hr.le
  have r4 := hr.2.2
  exact ⟨hs.1, r.1, r.2, r4.1, by omega, k1, ⟨fun j j0 j1 => by have := k2 j j0 j1; omega, fun j j0 j1 => (k2 j j0 j1).2, fun j j0 j1 => by have := a3 j j0 j1; omega⟩, by omega, smW_less (by omega) hsm⟩
theorem BI.V {σ : Mem} {n : Int} (hn : n ≤ 512000) (h : BI σ n) : ∀ i : Int, 0 ≤ i → i < 3 → svB (skV σ (11 + 10 * i.toNat + 2)) 10000000 := by
  intro i i0 i1 j j0 j1
  obtain ⟨k1, k2⟩ := (h.2 i i0 i1).sk hn
  have g := k2 j j0 j1
  have e := sk_rows (σ := σ) (p := 11 + 10 * i.toNat + 2) j0 j1
  rw [e.2.1, e.2.2]
  omega
theorem BI.T {σ : Mem} {n : Int} (h : BI σ n) : ∀ c : Int, 0 ≤ c → c < 3 → ∀ j : Int, 0 ≤ j → j < 40 → 0 ≤ σ (11 + 10 * c.toNat + 1) j ∧ σ (11 + 10 * c.toNat + 1) j ≤ 10000 := fun c c0 c1 j j0 j1 => by
  have hr := (h.2 c c0 c1).1
  have := hr.le.1 j j0 j1
  have := hr.2.2
  omega
theorem hv_one {h hc : Int → Int} (hn : ∀ j : Int, 0 ≤ j → j < 40 → 0 ≤ hc j) {j : Int} (j0 : 0 ≤ j) (j1 : j < 40) (hj : h j ≠ 0) : hc j ≤ hvS h hc 0 39 := by
  have q := smR_one (f := fun v => if h v = 0 then 0 else hc v) (a := 0) (b := 40) (fun v v0 v1 => by split; exact Int.le_refl _; exact hn v v0 v1) j0 j1
  rw [if_neg hj] at q
  exact q
/-- what TOGETHER asks -/
theorem BI.G {σ : Mem} {n i k : Int} (hn : n ≤ 512000) (h : BI σ n) (hi : 0 ≤ i ∧ i < 3) (hk : 0 ≤ k ∧ k < 3) (h1 : 0 < σ (11 + 10 * i.toNat + 2) 5) (h2 : 0 < σ (11 + 10 * k.toNat + 2) 5) (hw : wtV σ (11 + 10 * i.toNat + 2) + wtV σ (11 + 10 * k.toNat + 2) ≤ 100000) : tgOK σ (11 + 10 * i.toNat + 2) (11 + 10 * k.toNat + 2) := by
  have nn : ∀ c : Int, 0 ≤ c → c < 3 → 0 < σ (11 + 10 * c.toNat + 2) 5 → 0 ≤ wtV σ (11 + 10 * c.toNat + 2) ∧ (∀ j : Int, 0 ≤ j → j < 40 → 0 ≤ σ (11 + 10 * c.toNat + 2 + 5) j ∧ σ (11 + 10 * c.toNat + 2 + 5) j ≤ wtV σ (11 + 10 * c.toNat + 2)) := by
    intro c c0 c1 hz
    obtain ⟨hr, ⟨a1, a2, a3, a4⟩, -⟩ := h.2 c c0 c1
    obtain ⟨g, g0⟩ := a4 (by omega)
    have l := l1_sd g.1 (fun v v0 v1 => (hr.le.1 v v0 v1).1) g.2.2.1
    have l0 : 0 ≤ l1 (skV σ (11 + 10 * c.toNat + 2)) := smR_nn fun v _ _ => by unfold abI; omega
    have H := hv_nn (fun v v0 v1 => (hr.le.1 v v0 v1).1) g.2.2.2.1
    have s1 : smR (skV σ (11 + 10 * c.toNat + 2)).2.2.1 0 (skV σ (11 + 10 * c.toNat + 2)).1 = smR (σ (11 + 10 * c.toNat + 2 + 2)) 0 (σ (11 + 10 * c.toNat + 2) 5) := smR_congr fun j j0 j1 => (sk_rows j0 j1).2.1
    have s2 : smR (skV σ (11 + 10 * c.toNat + 2)).2.2.2 0 (skV σ (11 + 10 * c.toNat + 2)).1 = smR (σ (11 + 10 * c.toNat + 2 + 3)) 0 (σ (11 + 10 * c.toNat + 2) 5) := smR_congr fun j j0 j1 => (sk_rows j0 j1).2.2
    have W : hvS (σ (11 + 10 * c.toNat + 2 + 4)) (σ (11 + 10 * c.toNat + 2 + 5)) 0 39 ≤ wtV σ (11 + 10 * c.toNat + 2) := by unfold wtV; omega
    refine ⟨by omega, fun j j0 j1 => ⟨(a3 j j0 j1).2.1, ?_⟩⟩
    rcases (a3 j j0 j1).1 with z | z
    · rw [g0 j j0 j1 z]; omega
    · have := hv_one (fun v v0 v1 => (a3 v v0 v1).2.1) j0 j1 (h := σ (11 + 10 * c.toNat + 2 + 4)) (by rw [z]; decide)
      omega
  obtain ⟨w1, v1⟩ := nn i hi.1 hi.2 h1
  obtain ⟨w2, v2⟩ := nn k hk.1 hk.2 h2
  obtain ⟨hr, ⟨a1, a2, a3, a4⟩, -⟩ := h.2 i hi.1 hi.2
  obtain ⟨hr', ⟨b1, b2, b3, b4⟩, -⟩ := h.2 k hk.1 hk.2
  obtain ⟨g, g0⟩ := a4 (by omega)
  obtain ⟨g', g0'⟩ := b4 (by omega)
  have l := skI_l1 (fun v v0 v1 => (hr.le.1 v v0 v1).1) g
  have l' := skI_l1 (fun v v0 v1 => (hr'.le.1 v v0 v1).1) g'
  exact ⟨g.1, g'.1, by omega, by omega, ⟨g.2.1, by omega⟩, ⟨g'.2.1, by omega⟩, fun j j0 j1 => by have := v1 j j0 j1; omega, fun j j0 j1 => by have := v2 j j0 j1; omega, fun j j0 j1 => (b3 j j0 j1).1⟩
