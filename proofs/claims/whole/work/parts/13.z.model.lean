theorem awb_1 {q : Nat → Bool} {b v z a : Nat} (h : b + ctB q v = a) (hv : v ≤ z) (hc : ctB q z = a) (hq : q v = true) (hb : 0 < b) : v + 1 ≤ z ∧ b - 1 + ctB q (v + 1) = a := by
  have e : ctB q (v + 1) = ctB q v + 1 := by show ctB q v + (if q v = true then 1 else 0) = _; rw [if_pos hq]
  refine ⟨?_, by omega⟩
  rcases Nat.lt_or_ge v z with d | d
  · exact d
  · have : v = z := by omega
    subst this
    omega
theorem awb_0 {q : Nat → Bool} {b v z a : Nat} (h : b + ctB q v = a) (hv : v ≤ z) (hz : q z = true) (hq : q v = false) : v + 1 ≤ z ∧ b - 0 + ctB q (v + 1) = a := by
  have e : ctB q (v + 1) = ctB q v := by show ctB q v + (if q v = true then 1 else 0) = _; rw [hq]; rfl
  refine ⟨?_, by omega⟩
  rcases Nat.lt_or_ge v z with d | d
  · exact d
  · have : v = z := by omega
    subst this
    rw [hz] at hq
    cases hq
