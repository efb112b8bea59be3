/-! ===== the model: one object at b, its rows behind it ===== -/
def shMo (v : VC) (b : Nat) : Prop := (tyOK v) ∧ (b < vN v) ∧ (vF v b = fun g => (.inr (7, [vI (g 0), vJ (g 100001), vJ (g 100002), .ref (vq v (b + 1)), .ref (vq v (b + 2)), .ref (vq v (b + 3)), .ref (vq v (b + 4)), .ref (vq v (b + 5)), .ref (vq v (b + 6)), .ref (vq v (b + 7)), .ref (vq v (b + 8)), .ref (vq v (b + 9)), .ref (vq v (b + 10)), .ref (vq v (b + 11)), .ref (vq v (b + 12)), .ref (vq v (b + 13)), .ref (vq v (b + 14)), .ref (vq v (b + 15)), .ref (vq v (b + 16)), .ref (vq v (b + 17)), .ref (vq v (b + 18)), .ref (vq v (b + 19)), .ref (vq v (b + 20)), vI (g 23), vI (g 24), vI (g 25), vI (g 26), .ref (vq v (b + 21)), .ref (vq v (b + 22)), .ref (vq v (b + 23))]) : va_E)) ∧ (b + 1 < vN v) ∧ (vF v (b + 1) = eI (kI v) 4) ∧ (b + 2 < vN v) ∧ (vF v (b + 2) = eI (kI v) 4) ∧ (b + 3 < vN v) ∧ (vF v (b + 3) = eL (kL v) 400) ∧ (b + 4 < vN v) ∧ (vF v (b + 4) = eI (kI v) 300) ∧ (b + 5 < vN v) ∧ (vF v (b + 5) = eI (kI v) 3) ∧ (b + 6 < vN v) ∧ (vF v (b + 6) = eI (kI v) 3) ∧ (b + 7 < vN v) ∧ (vF v (b + 7) = eI (kI v) 3) ∧ (b + 8 < vN v) ∧ (vF v (b + 8) = eI (kI v) 3) ∧ (b + 9 < vN v) ∧ (vF v (b + 9) = eI (kI v) 48) ∧ (b + 10 < vN v) ∧ (vF v (b + 10) = eL (kL v) 3) ∧ (b + 11 < vN v) ∧ (vF v (b + 11) = eI (kI v) 3) ∧ (b + 12 < vN v) ∧ (vF v (b + 12) = eI (kI v) 3) ∧ (b + 13 < vN v) ∧ (vF v (b + 13) = eI (kI v) 300) ∧ (b + 14 < vN v) ∧ (vF v (b + 14) = eI (kB v) 300) ∧ (b + 15 < vN v) ∧ (vF v (b + 15) = eI (kI v) 120) ∧ (b + 16 < vN v) ∧ (vF v (b + 16) = eI (kI v) 120) ∧ (b + 17 < vN v) ∧ (vF v (b + 17) = eI (kI v) 120) ∧ (b + 18 < vN v) ∧ (vF v (b + 18) = eI (kI v) 10000) ∧ (b + 19 < vN v) ∧ (vF v (b + 19) = eI (kI v) 1313) ∧ (b + 20 < vN v) ∧ (vF v (b + 20) = eI (kI v) 1313) ∧ (b + 21 < vN v) ∧ (vF v (b + 21) = eI (kI v) 100) ∧ (b + 22 < vN v) ∧ (vF v (b + 22) = eI (kI v) 40) ∧ (b + 23 < vN v) ∧ (vF v (b + 23) = eI (kI v) 40)
theorem shMo.ty {v : VC} {b : Nat} (h : shMo v b) : tyOK v := h.1
theorem shMo.n0 {v : VC} {b : Nat} (h : shMo v b) : b < vN v := h.2.1
theorem shMo.f0 {v : VC} {b : Nat} (h : shMo v b) : vF v b = fun g => (.inr (7, [vI (g 0), vJ (g 100001), vJ (g 100002), .ref (vq v (b + 1)), .ref (vq v (b + 2)), .ref (vq v (b + 3)), .ref (vq v (b + 4)), .ref (vq v (b + 5)), .ref (vq v (b + 6)), .ref (vq v (b + 7)), .ref (vq v (b + 8)), .ref (vq v (b + 9)), .ref (vq v (b + 10)), .ref (vq v (b + 11)), .ref (vq v (b + 12)), .ref (vq v (b + 13)), .ref (vq v (b + 14)), .ref (vq v (b + 15)), .ref (vq v (b + 16)), .ref (vq v (b + 17)), .ref (vq v (b + 18)), .ref (vq v (b + 19)), .ref (vq v (b + 20)), vI (g 23), vI (g 24), vI (g 25), vI (g 26), .ref (vq v (b + 21)), .ref (vq v (b + 22)), .ref (vq v (b + 23))]) : va_E) := h.2.2.1
theorem shMo.n1 {v : VC} {b : Nat} (h : shMo v b) : b + 1 < vN v := h.2.2.2.1
theorem shMo.f1 {v : VC} {b : Nat} (h : shMo v b) : vF v (b + 1) = eI (kI v) 4 := h.2.2.2.2.1
theorem shMo.n2 {v : VC} {b : Nat} (h : shMo v b) : b + 2 < vN v := h.2.2.2.2.2.1
theorem shMo.f2 {v : VC} {b : Nat} (h : shMo v b) : vF v (b + 2) = eI (kI v) 4 := h.2.2.2.2.2.2.1
theorem shMo.n3 {v : VC} {b : Nat} (h : shMo v b) : b + 3 < vN v := h.2.2.2.2.2.2.2.1
theorem shMo.f3 {v : VC} {b : Nat} (h : shMo v b) : vF v (b + 3) = eL (kL v) 400 := h.2.2.2.2.2.2.2.2.1
theorem shMo.n4 {v : VC} {b : Nat} (h : shMo v b) : b + 4 < vN v := h.2.2.2.2.2.2.2.2.2.1
theorem shMo.f4 {v : VC} {b : Nat} (h : shMo v b) : vF v (b + 4) = eI (kI v) 300 := h.2.2.2.2.2.2.2.2.2.2.1
theorem shMo.n5 {v : VC} {b : Nat} (h : shMo v b) : b + 5 < vN v := h.2.2.2.2.2.2.2.2.2.2.2.1
theorem shMo.f5 {v : VC} {b : Nat} (h : shMo v b) : vF v (b + 5) = eI (kI v) 3 := h.2.2.2.2.2.2.2.2.2.2.2.2.1
theorem shMo.n6 {v : VC} {b : Nat} (h : shMo v b) : b + 6 < vN v := h.2.2.2.2.2.2.2.2.2.2.2.2.2.1
theorem shMo.f6 {v : VC} {b : Nat} (h : shMo v b) : vF v (b + 6) = eI (kI v) 3 := h.2.2.2.2.2.2.2.2.2.2.2.2.2.2.1
theorem shMo.n7 {v : VC} {b : Nat} (h : shMo v b) : b + 7 < vN v := h.2.2.2.2.2.2.2.2.2.2.2.2.2.2.2.1
theorem shMo.f7 {v : VC} {b : Nat} (h : shMo v b) : vF v (b + 7) = eI (kI v) 3 := h.2.2.2.2.2.2.2.2.2.2.2.2.2.2.2.2.1
theorem shMo.n8 {v : VC} {b : Nat} (h : shMo v b) : b + 8 < vN v := h.2.2.2.2.2.2.2.2.2.2.2.2.2.2.2.2.2.1
theorem shMo.f8 {v : VC} {b : Nat} (h : shMo v b) : vF v (b + 8) = eI (kI v) 3 := h.2.2.2.2.2.2.2.2.2.2.2.2.2.2.2.2.2.2.1
theorem shMo.n9 {v : VC} {b : Nat} (h : shMo v b) : b + 9 < vN v := h.2.2.2.2.2.2.2.2.2.2.2.2.2.2.2.2.2.2.2.1
theorem shMo.f9 {v : VC} {b : Nat} (h : shMo v b) : vF v (b + 9) = eI (kI v) 48 := h.2.2.2.2.2.2.2.2.2.2.2.2.2.2.2.2.2.2.2.2.1
theorem shMo.n10 {v : VC} {b : Nat} (h : shMo v b) : b + 10 < vN v := h.2.2.2.2.2.2.2.2.2.2.2.2.2.2.2.2.2.2.2.2.2.1
theorem shMo.f10 {v : VC} {b : Nat} (h : shMo v b) : vF v (b + 10) = eL (kL v) 3 := h.2.2.2.2.2.2.2.2.2.2.2.2.2.2.2.2.2.2.2.2.2.2.1
theorem shMo.n11 {v : VC} {b : Nat} (h : shMo v b) : b + 11 < vN v := h.2.2.2.2.2.2.2.2.2.2.2.2.2.2.2.2.2.2.2.2.2.2.2.1
theorem shMo.f11 {v : VC} {b : Nat} (h : shMo v b) : vF v (b + 11) = eI (kI v) 3 := h.2.2.2.2.2.2.2.2.2.2.2.2.2.2.2.2.2.2.2.2.2.2.2.2.1
theorem shMo.n12 {v : VC} {b : Nat} (h : shMo v b) : b + 12 < vN v := h.2.2.2.2.2.2.2.2.2.2.2.2.2.2.2.2.2.2.2.2.2.2.2.2.2.1
theorem shMo.f12 {v : VC} {b : Nat} (h : shMo v b) : vF v (b + 12) = eI (kI v) 3 := h.2.2.2.2.2.2.2.2.2.2.2.2.2.2.2.2.2.2.2.2.2.2.2.2.2.2.1
theorem shMo.n13 {v : VC} {b : Nat} (h : shMo v b) : b + 13 < vN v := h.2.2.2.2.2.2.2.2.2.2.2.2.2.2.2.2.2.2.2.2.2.2.2.2.2.2.2.1
theorem shMo.f13 {v : VC} {b : Nat} (h : shMo v b) : vF v (b + 13) = eI (kI v) 300 := h.2.2.2.2.2.2.2.2.2.2.2.2.2.2.2.2.2.2.2.2.2.2.2.2.2.2.2.2.1
theorem shMo.n14 {v : VC} {b : Nat} (h : shMo v b) : b + 14 < vN v := h.2.2.2.2.2.2.2.2.2.2.2.2.2.2.2.2.2.2.2.2.2.2.2.2.2.2.2.2.2.1
theorem shMo.f14 {v : VC} {b : Nat} (h : shMo v b) : vF v (b + 14) = eI (kB v) 300 := h.2.2.2.2.2.2.2.2.2.2.2.2.2.2.2.2.2.2.2.2.2.2.2.2.2.2.2.2.2.2.1
theorem shMo.n15 {v : VC} {b : Nat} (h : shMo v b) : b + 15 < vN v := h.2.2.2.2.2.2.2.2.2.2.2.2.2.2.2.2.2.2.2.2.2.2.2.2.2.2.2.2.2.2.2.1
theorem shMo.f15 {v : VC} {b : Nat} (h : shMo v b) : vF v (b + 15) = eI (kI v) 120 := h.2.2.2.2.2.2.2.2.2.2.2.2.2.2.2.2.2.2.2.2.2.2.2.2.2.2.2.2.2.2.2.2.1
theorem shMo.n16 {v : VC} {b : Nat} (h : shMo v b) : b + 16 < vN v := h.2.2.2.2.2.2.2.2.2.2.2.2.2.2.2.2.2.2.2.2.2.2.2.2.2.2.2.2.2.2.2.2.2.1
theorem shMo.f16 {v : VC} {b : Nat} (h : shMo v b) : vF v (b + 16) = eI (kI v) 120 := h.2.2.2.2.2.2.2.2.2.2.2.2.2.2.2.2.2.2.2.2.2.2.2.2.2.2.2.2.2.2.2.2.2.2.1
theorem shMo.n17 {v : VC} {b : Nat} (h : shMo v b) : b + 17 < vN v := h.2.2.2.2.2.2.2.2.2.2.2.2.2.2.2.2.2.2.2.2.2.2.2.2.2.2.2.2.2.2.2.2.2.2.2.1
theorem shMo.f17 {v : VC} {b : Nat} (h : shMo v b) : vF v (b + 17) = eI (kI v) 120 := h.2.2.2.2.2.2.2.2.2.2.2.2.2.2.2.2.2.2.2.2.2.2.2.2.2.2.2.2.2.2.2.2.2.2.2.2.1
theorem shMo.n18 {v : VC} {b : Nat} (h : shMo v b) : b + 18 < vN v := h.2.2.2.2.2.2.2.2.2.2.2.2.2.2.2.2.2.2.2.2.2.2.2.2.2.2.2.2.2.2.2.2.2.2.2.2.2.1
theorem shMo.f18 {v : VC} {b : Nat} (h : shMo v b) : vF v (b + 18) = eI (kI v) 10000 := h.2.2.2.2.2.2.2.2.2.2.2.2.2.2.2.2.2.2.2.2.2.2.2.2.2.2.2.2.2.2.2.2.2.2.2.2.2.2.1
theorem shMo.n19 {v : VC} {b : Nat} (h : shMo v b) : b + 19 < vN v := h.2.2.2.2.2.2.2.2.2.2.2.2.2.2.2.2.2.2.2.2.2.2.2.2.2.2.2.2.2.2.2.2.2.2.2.2.2.2.2.1
theorem shMo.f19 {v : VC} {b : Nat} (h : shMo v b) : vF v (b + 19) = eI (kI v) 1313 := h.2.2.2.2.2.2.2.2.2.2.2.2.2.2.2.2.2.2.2.2.2.2.2.2.2.2.2.2.2.2.2.2.2.2.2.2.2.2.2.2.1
theorem shMo.n20 {v : VC} {b : Nat} (h : shMo v b) : b + 20 < vN v := h.2.2.2.2.2.2.2.2.2.2.2.2.2.2.2.2.2.2.2.2.2.2.2.2.2.2.2.2.2.2.2.2.2.2.2.2.2.2.2.2.2.1
theorem shMo.f20 {v : VC} {b : Nat} (h : shMo v b) : vF v (b + 20) = eI (kI v) 1313 := h.2.2.2.2.2.2.2.2.2.2.2.2.2.2.2.2.2.2.2.2.2.2.2.2.2.2.2.2.2.2.2.2.2.2.2.2.2.2.2.2.2.2.1
theorem shMo.n21 {v : VC} {b : Nat} (h : shMo v b) : b + 21 < vN v := h.2.2.2.2.2.2.2.2.2.2.2.2.2.2.2.2.2.2.2.2.2.2.2.2.2.2.2.2.2.2.2.2.2.2.2.2.2.2.2.2.2.2.2.1
theorem shMo.f21 {v : VC} {b : Nat} (h : shMo v b) : vF v (b + 21) = eI (kI v) 100 := h.2.2.2.2.2.2.2.2.2.2.2.2.2.2.2.2.2.2.2.2.2.2.2.2.2.2.2.2.2.2.2.2.2.2.2.2.2.2.2.2.2.2.2.2.1
theorem shMo.n22 {v : VC} {b : Nat} (h : shMo v b) : b + 22 < vN v := h.2.2.2.2.2.2.2.2.2.2.2.2.2.2.2.2.2.2.2.2.2.2.2.2.2.2.2.2.2.2.2.2.2.2.2.2.2.2.2.2.2.2.2.2.2.1
theorem shMo.f22 {v : VC} {b : Nat} (h : shMo v b) : vF v (b + 22) = eI (kI v) 40 := h.2.2.2.2.2.2.2.2.2.2.2.2.2.2.2.2.2.2.2.2.2.2.2.2.2.2.2.2.2.2.2.2.2.2.2.2.2.2.2.2.2.2.2.2.2.2.1
theorem shMo.n23 {v : VC} {b : Nat} (h : shMo v b) : b + 23 < vN v := h.2.2.2.2.2.2.2.2.2.2.2.2.2.2.2.2.2.2.2.2.2.2.2.2.2.2.2.2.2.2.2.2.2.2.2.2.2.2.2.2.2.2.2.2.2.2.2.1
theorem shMo.f23 {v : VC} {b : Nat} (h : shMo v b) : vF v (b + 23) = eI (kI v) 40 := h.2.2.2.2.2.2.2.2.2.2.2.2.2.2.2.2.2.2.2.2.2.2.2.2.2.2.2.2.2.2.2.2.2.2.2.2.2.2.2.2.2.2.2.2.2.2.2.2
theorem shMo.tI {v : VC} {b : Nat} (h : shMo v b) : (vT v)[0]? = some (kI v, .int) := h.ty.1
theorem shMo.tL {v : VC} {b : Nat} (h : shMo v b) : (vT v)[1]? = some (kL v, .long) := h.ty.2.1
theorem shMo.tB {v : VC} {b : Nat} (h : shMo v b) : (vT v)[2]? = some (kB v, .boolean) := h.ty.2.2
