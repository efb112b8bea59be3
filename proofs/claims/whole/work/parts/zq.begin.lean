/-! ===== what holds at the start ===== -/
theorem m9_sum : smR (fun _ : Int => (0 : Int)) 0 40 = 0 := by decide +kernel
theorem m9_row {k : Nat} (h : k ≠ 51 ∧ k ≠ 52 ∧ k ≠ 54) : m9 k = fun _ => 0 := funext fun j => m9_z h j
theorem m9_B : BI m9 0 := by
  refine ⟨fun i i0 i1 => ?_, fun i i0 i1 => ⟨⟨fun j j0 j1 => ?_, ?_, ?_, ?_⟩, ⟨?_, ?_, fun j j0 j1 => ?_, fun q => ?_⟩, ?_⟩⟩
  · rw [m9_row (by omega)]; dsimp only; omega
  · rw [m9_z (by omega)]; omega
  · rw [m9_row (k := 11 + 10 * i.toNat + 1) (by omega), m9_z (by omega)]; exact m9_sum
  · rw [m9_z (by omega)]; omega
  · rw [m9_z (by omega), m9_z (by omega)]; omega
  · rw [m9_z (by omega)]; omega
  · rw [m9_z (by omega)]; omega
  · rw [m9_z (by omega), m9_z (by omega)]; omega
  · exact absurd (m9_z (by omega) 5) q
  · unfold smW
    rw [m9_row (by omega)]; dsimp only; omega
theorem m9_Rel : Rel m9 52 := by
  refine ⟨?_, ⟨by decide +kernel, by decide +kernel⟩, fun c c0 c1 => Or.inl ⟨m9_z (by omega) 1, m9_54 c⟩, fun c c0 c1 => ⟨⟨fun j j0 j1 => ?_, ?_, ?_⟩, ⟨?_, fun j j0 j1 => ?_, fun j j0 j1 _ => ?_, fun q => ?_⟩, ?_, ?_, ?_, fun j j0 j1 _ => ?_⟩⟩
  · show m9 0 5 = m9 52 0
    decide +kernel
  · rw [shR_e, m9_z (by omega), m9_z (by omega)]
  · rw [m9_z (by omega), m9_z (by omega)]
  · rw [m9_z (by omega), m9_z (by omega)]
  · rw [m9_z (by omega), m9_z (by omega)]
  · rw [shR_e, m9_z (by omega), m9_z (by omega)]
  · rw [shR_e, m9_z (by omega), m9_z (by omega)]
  · exact absurd (m9_z (by omega) c) q
  · rw [m9_z (by omega), m9_z (by omega)]
  · rw [m9_z (by omega), m9_z (by omega)]
  · rw [m9_z (by omega), m9_z (by omega)]
  · rw [m9_z (by omega), m9_z (by omega)]
theorem m9_I : Inv m9 52 0 := by
  refine ⟨m9_B, m9_Rel, fun i i0 i1 => ?_, fun c c0 c1 => ⟨?_, fun j j0 j1 => ?_⟩⟩
  · rw [m9_z (k := 52 + 1) (by omega), show m9 (52 + 2) i = -1 from m9_54 i]; omega
  · rw [m9_z (by omega)]; omega
  · rw [m9_z (by omega)]; omega
theorem m9_J : JI m9 0 := ⟨fun _ => 0, fun i i0 i1 => ⟨Int.le_refl _, fun q => absurd (m9_z (by omega) 5) q⟩, by decide⟩
