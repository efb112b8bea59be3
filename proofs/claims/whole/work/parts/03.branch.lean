section Br
variable {x : XC} {v : VC} {A : Nat → Prop} {Q : State → Prop} {n pc : Nat} {lv : List (Nat × Value)} {st : List Value} {σ : Mem} {cc : ByteArray} {own : String} {Ts : List Cond} {fr lo : Nat}
/-! branches: the taken one first; a is below b on the stack -/
theorem a_icmp_eq (C : Cx x v A cc own n Ts fr lo) {a b : Int} {off : Int} (tgt : Nat) (ha : rg a) (hb : rg b) (hd : decode cc pc = .ok (.if_icmp .eq off, 3)) (ht : (pc : Int) + off = (tgt : Int)) (kt : a = b → At x v A Q n tgt lv st σ) (kf : ¬ a = b → At x v A Q n (pc + 3) lv st σ) : At x v A Q n pc lv (vI b :: vI a :: st) σ := by
  obtain ⟨p, l, e, R, s, m, args, below, meth, c⟩ := x
  intro H locs ls hM hP hS hl
  exact lv_icmp_eq C.1.1 C.1.2.1 hd ht (fun h => kt ((i32_eq ha hb).mp h) H locs ls hM hP hS hl) (fun h => kf (fun q => h ((i32_eq ha hb).mpr q)) H locs ls hM hP hS hl)
theorem a_if_eq (C : Cx x v A cc own n Ts fr lo) {a : Int} {off : Int} (tgt : Nat) (ha : rg a) (hd : decode cc pc = .ok (.ifCond .eq off, 3)) (ht : (pc : Int) + off = (tgt : Int)) (kt : a = 0 → At x v A Q n tgt lv st σ) (kf : ¬ a = 0 → At x v A Q n (pc + 3) lv st σ) : At x v A Q n pc lv (vI a :: st) σ := by
  obtain ⟨p, l, e, R, s, m, args, below, meth, c⟩ := x
  intro H locs ls hM hP hS hl
  have h0 : rg 0 := by omega
  exact lv_if_eq C.1.1 C.1.2.1 hd ht (fun h => kt ((i32_eq ha h0).mp h) H locs ls hM hP hS hl) (fun h => kf (fun q => h ((i32_eq ha h0).mpr q)) H locs ls hM hP hS hl)
theorem a_icmp_ne (C : Cx x v A cc own n Ts fr lo) {a b : Int} {off : Int} (tgt : Nat) (ha : rg a) (hb : rg b) (hd : decode cc pc = .ok (.if_icmp .ne off, 3)) (ht : (pc : Int) + off = (tgt : Int)) (kt : ¬ a = b → At x v A Q n tgt lv st σ) (kf : a = b → At x v A Q n (pc + 3) lv st σ) : At x v A Q n pc lv (vI b :: vI a :: st) σ := by
  obtain ⟨p, l, e, R, s, m, args, below, meth, c⟩ := x
  intro H locs ls hM hP hS hl
  exact lv_icmp_ne C.1.1 C.1.2.1 hd ht (fun h => kt (fun q => h ((i32_eq ha hb).mpr q)) H locs ls hM hP hS hl) (fun h => kf ((i32_eq ha hb).mp (by first | exact h | exact Decidable.not_not.mp h)) H locs ls hM hP hS hl)
theorem a_if_ne (C : Cx x v A cc own n Ts fr lo) {a : Int} {off : Int} (tgt : Nat) (ha : rg a) (hd : decode cc pc = .ok (.ifCond .ne off, 3)) (ht : (pc : Int) + off = (tgt : Int)) (kt : ¬ a = 0 → At x v A Q n tgt lv st σ) (kf : a = 0 → At x v A Q n (pc + 3) lv st σ) : At x v A Q n pc lv (vI a :: st) σ := by
  obtain ⟨p, l, e, R, s, m, args, below, meth, c⟩ := x
  intro H locs ls hM hP hS hl
  have h0 : rg 0 := by omega
  exact lv_if_ne C.1.1 C.1.2.1 hd ht (fun h => kt (fun q => h ((i32_eq ha h0).mpr q)) H locs ls hM hP hS hl) (fun h => kf ((i32_eq ha h0).mp (by first | exact h | exact Decidable.not_not.mp h)) H locs ls hM hP hS hl)
theorem a_icmp_lt (C : Cx x v A cc own n Ts fr lo) {a b : Int} {off : Int} (tgt : Nat) (ha : rg a) (hb : rg b) (hd : decode cc pc = .ok (.if_icmp .lt off, 3)) (ht : (pc : Int) + off = (tgt : Int)) (kt : a < b → At x v A Q n tgt lv st σ) (kf : b ≤ a → At x v A Q n (pc + 3) lv st σ) : At x v A Q n pc lv (vI b :: vI a :: st) σ := by
  obtain ⟨p, l, e, R, s, m, args, below, meth, c⟩ := x
  intro H locs ls hM hP hS hl
  exact lv_icmp_lt C.1.1 C.1.2.1 hd ht (fun h => kt ((i32_lt ha hb).mp h) H locs ls hM hP hS hl) (fun h => kf (by have h2 := mt (i32_lt ha hb).mpr h; omega) H locs ls hM hP hS hl)
theorem a_if_lt (C : Cx x v A cc own n Ts fr lo) {a : Int} {off : Int} (tgt : Nat) (ha : rg a) (hd : decode cc pc = .ok (.ifCond .lt off, 3)) (ht : (pc : Int) + off = (tgt : Int)) (kt : a < 0 → At x v A Q n tgt lv st σ) (kf : 0 ≤ a → At x v A Q n (pc + 3) lv st σ) : At x v A Q n pc lv (vI a :: st) σ := by
  obtain ⟨p, l, e, R, s, m, args, below, meth, c⟩ := x
  intro H locs ls hM hP hS hl
  have h0 : rg 0 := by omega
  exact lv_if_lt C.1.1 C.1.2.1 hd ht (fun h => kt ((i32_lt ha h0).mp h) H locs ls hM hP hS hl) (fun h => kf (by have h2 := mt (i32_lt ha h0).mpr h; omega) H locs ls hM hP hS hl)
theorem a_icmp_ge (C : Cx x v A cc own n Ts fr lo) {a b : Int} {off : Int} (tgt : Nat) (ha : rg a) (hb : rg b) (hd : decode cc pc = .ok (.if_icmp .ge off, 3)) (ht : (pc : Int) + off = (tgt : Int)) (kt : b ≤ a → At x v A Q n tgt lv st σ) (kf : a < b → At x v A Q n (pc + 3) lv st σ) : At x v A Q n pc lv (vI b :: vI a :: st) σ := by
  obtain ⟨p, l, e, R, s, m, args, below, meth, c⟩ := x
  intro H locs ls hM hP hS hl
  exact lv_icmp_ge C.1.1 C.1.2.1 hd ht (fun h => kt ((i32_le hb ha).mp h) H locs ls hM hP hS hl) (fun h => kf (by have h2 := mt (i32_le hb ha).mpr h; omega) H locs ls hM hP hS hl)
theorem a_if_ge (C : Cx x v A cc own n Ts fr lo) {a : Int} {off : Int} (tgt : Nat) (ha : rg a) (hd : decode cc pc = .ok (.ifCond .ge off, 3)) (ht : (pc : Int) + off = (tgt : Int)) (kt : 0 ≤ a → At x v A Q n tgt lv st σ) (kf : a < 0 → At x v A Q n (pc + 3) lv st σ) : At x v A Q n pc lv (vI a :: st) σ := by
  obtain ⟨p, l, e, R, s, m, args, below, meth, c⟩ := x
  intro H locs ls hM hP hS hl
  have h0 : rg 0 := by omega
  exact lv_if_ge C.1.1 C.1.2.1 hd ht (fun h => kt ((i32_le h0 ha).mp h) H locs ls hM hP hS hl) (fun h => kf (by have h2 := mt (i32_le h0 ha).mpr h; omega) H locs ls hM hP hS hl)
theorem a_icmp_gt (C : Cx x v A cc own n Ts fr lo) {a b : Int} {off : Int} (tgt : Nat) (ha : rg a) (hb : rg b) (hd : decode cc pc = .ok (.if_icmp .gt off, 3)) (ht : (pc : Int) + off = (tgt : Int)) (kt : b < a → At x v A Q n tgt lv st σ) (kf : a ≤ b → At x v A Q n (pc + 3) lv st σ) : At x v A Q n pc lv (vI b :: vI a :: st) σ := by
  obtain ⟨p, l, e, R, s, m, args, below, meth, c⟩ := x
  intro H locs ls hM hP hS hl
  exact lv_icmp_gt C.1.1 C.1.2.1 hd ht (fun h => kt ((i32_lt hb ha).mp h) H locs ls hM hP hS hl) (fun h => kf (by have h2 := mt (i32_lt hb ha).mpr h; omega) H locs ls hM hP hS hl)
theorem a_if_gt (C : Cx x v A cc own n Ts fr lo) {a : Int} {off : Int} (tgt : Nat) (ha : rg a) (hd : decode cc pc = .ok (.ifCond .gt off, 3)) (ht : (pc : Int) + off = (tgt : Int)) (kt : 0 < a → At x v A Q n tgt lv st σ) (kf : a ≤ 0 → At x v A Q n (pc + 3) lv st σ) : At x v A Q n pc lv (vI a :: st) σ := by
  obtain ⟨p, l, e, R, s, m, args, below, meth, c⟩ := x
  intro H locs ls hM hP hS hl
  have h0 : rg 0 := by omega
  exact lv_if_gt C.1.1 C.1.2.1 hd ht (fun h => kt ((i32_lt h0 ha).mp h) H locs ls hM hP hS hl) (fun h => kf (by have h2 := mt (i32_lt h0 ha).mpr h; omega) H locs ls hM hP hS hl)
theorem a_icmp_le (C : Cx x v A cc own n Ts fr lo) {a b : Int} {off : Int} (tgt : Nat) (ha : rg a) (hb : rg b) (hd : decode cc pc = .ok (.if_icmp .le off, 3)) (ht : (pc : Int) + off = (tgt : Int)) (kt : a ≤ b → At x v A Q n tgt lv st σ) (kf : b < a → At x v A Q n (pc + 3) lv st σ) : At x v A Q n pc lv (vI b :: vI a :: st) σ := by
  obtain ⟨p, l, e, R, s, m, args, below, meth, c⟩ := x
  intro H locs ls hM hP hS hl
  exact lv_icmp_le C.1.1 C.1.2.1 hd ht (fun h => kt ((i32_le ha hb).mp h) H locs ls hM hP hS hl) (fun h => kf (by have h2 := mt (i32_le ha hb).mpr h; omega) H locs ls hM hP hS hl)
theorem a_if_le (C : Cx x v A cc own n Ts fr lo) {a : Int} {off : Int} (tgt : Nat) (ha : rg a) (hd : decode cc pc = .ok (.ifCond .le off, 3)) (ht : (pc : Int) + off = (tgt : Int)) (kt : a ≤ 0 → At x v A Q n tgt lv st σ) (kf : 0 < a → At x v A Q n (pc + 3) lv st σ) : At x v A Q n pc lv (vI a :: st) σ := by
  obtain ⟨p, l, e, R, s, m, args, below, meth, c⟩ := x
  intro H locs ls hM hP hS hl
  have h0 : rg 0 := by omega
  exact lv_if_le C.1.1 C.1.2.1 hd ht (fun h => kt ((i32_le ha h0).mp h) H locs ls hM hP hS hl) (fun h => kf (by have h2 := mt (i32_le ha h0).mpr h; omega) H locs ls hM hP hS hl)
end Br
