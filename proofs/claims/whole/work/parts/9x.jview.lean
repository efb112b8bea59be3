/-! ===== one sketch's shares, all that JOIN needs of them ===== -/
def jV (W : Int → Int) (D t q : Int) : Prop := ∃ b s : Int → Int, (∀ v : Int, 0 ≤ v → v < 40 → abI (W v) ≤ b v + s v ∧ 0 ≤ b v ∧ 0 ≤ s v) ∧ smR b 0 40 ≤ D * 100000 ∧ smR s 0 40 ≤ D * t ∧ 8 * smR (fun v => s v * s v) 0 40 ≤ D * D * (100000000 * (81 + 9 * q)) ∧ ((D ≤ 16380 ∧ ∀ v : Int, 0 ≤ v → v < 40 → b v ≤ 1638000000 ∧ 4 * s v ≤ 16380 * (t + 30002)) ∨ (D ≤ 20020 ∧ ∀ v : Int, 0 ≤ v → v < 40 → b v ≤ 572000000 ∧ 4 * s v ≤ 11440 * (t + 10000)) ∨ (D ≤ 27720 ∧ ∀ v : Int, 0 ≤ v → v < 40 → b v ≤ 554400000 ∧ 4 * s v ≤ 11088 * (t + 10000)))
theorem jV_of {h hc tr : Int → Int} {S : SV} {va t q D : Int} (hE : svE S) (hD : 1 ≤ D) (hcl : jcl h S D) (hd : ∀ k : Int, 0 ≤ k → k < S.1 → 0 < loN h S.2.1 k → loN h S.2.1 k ∣ D) (hva : smR tr 0 40 = va) (hva0 : 0 ≤ va) (hva2 : va ≤ 10000) (hJ : jK h hc tr S va t q) : jV (wv h S D S.2.2.1 hc) D t q ∧ 0 ≤ q ∧ 0 ≤ t := by
  obtain ⟨β, βh, T, K, ⟨c1, c2, c3, c4, c5, c6⟩, w1, w2, w3, f1, f2⟩ := jW4 hE (by omega) hd hva hva0 hva2 hJ
  have D0 : 0 ≤ D := by omega
  have ab0 : ∀ x : Int, 0 ≤ abI x := fun x => by unfold abI; omega
  have absq : ∀ x : Int, abI x * abI x = x * x := fun x => by
    unfold abI
    rcases Int.le_total 0 x with y | y
    · rw [show max x (-x) = x by omega]
    · rw [show max x (-x) = -x by omega]; grind
  refine ⟨⟨fun v => abI (wv h S D β βh v), fun v => abI (wv h S D (fun k => S.2.2.1 k - β k) (fun v => hc v - βh v) v), fun v v0 v1 => ⟨?_, ab0 _, ab0 _⟩, w1, w2, ?_, ?_⟩, c6, by omega⟩
  · rw [wv_add (f := β) (f' := fun k => S.2.2.1 k - β k) (g := βh) (g' := fun v => hc v - βh v) (fun k => by show S.2.2.1 k = β k + (S.2.2.1 k - β k); omega) (fun v => by show hc v = βh v + (hc v - βh v); omega) v]
    unfold abI
    dsimp only
    omega
  · rw [smR_congr (g := fun v => wv h S D (fun k => S.2.2.1 k - β k) (fun v => hc v - βh v) v * wv h S D (fun k => S.2.2.1 k - β k) (fun v => hc v - βh v) v) (fun v _ _ => absq _)]
    exact w3
  · rcases hcl with z | z | z
    · refine Or.inl ⟨z, fun v v0 v1 => ?_⟩
      have m1 := wv_m1 (f := β) (g := βh) (X := 100000) (Y := 200000) hE D0 hd (fun k k0 k1 => ⟨(f1 k k0 k1).1, fun _ => by have := (f1 k k0 k1).1; omega⟩) (fun v v0 v1 y => by have := (f2 v v0 v1 y).1; omega) v0 v1
      have m2 := wv_m1 (f := fun k => S.2.2.1 k - β k) (g := fun v => hc v - βh v) (X := max T K) (Y := max T K + 10001) hE D0 hd (fun k k0 k1 => ⟨(f1 k k0 k1).2.1, (f1 k k0 k1).2.2⟩) (fun v v0 v1 y => (f2 v v0 v1 y).2) v0 v1
      have n1 := Int.mul_le_mul z (show max (100000 : Int) 200000 ≤ 200000 by decide) (by decide) (by decide)
      have n2 := Int.mul_le_mul z (show max (max T K) (max T K + 10001) ≤ max T K + 10001 by omega) (by omega) (by decide)
      dsimp only
      constructor
      · omega
      · omega
    · refine Or.inr (Or.inl ⟨z.1, fun v v0 v1 => ?_⟩)
      obtain ⟨y1, y2, y3⟩ := z.2 v v0 v1
      have m1 := wv_m2 (f := β) (g := βh) (X := 100000) hE D0 hd (fun k k0 k1 => (f1 k k0 k1).1) v0 v1 y1 y3
      have m2 := wv_m2 (f := fun k => S.2.2.1 k - β k) (g := fun v => hc v - βh v) (X := max T K) hE D0 hd (fun k k0 k1 => (f1 k k0 k1).2.1) v0 v1 y1 y3
      dsimp only
      constructor
      · omega
      · omega
    · refine Or.inr (Or.inr ⟨z.1, fun v v0 v1 => ?_⟩)
      obtain ⟨y1, y2, y3⟩ := z.2 v v0 v1
      have m1 := wv_m2 (f := β) (g := βh) (X := 100000) hE D0 hd (fun k k0 k1 => (f1 k k0 k1).1) v0 v1 y1 y3
      have m2 := wv_m2 (f := fun k => S.2.2.1 k - β k) (g := fun v => hc v - βh v) (X := max T K) hE D0 hd (fun k k0 k1 => (f1 k k0 k1).2.1) v0 v1 y1 y3
      dsimp only
      constructor
      · omega
      · omega
