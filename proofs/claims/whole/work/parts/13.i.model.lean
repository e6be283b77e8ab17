/-! the model's row changed -/
theorem mR_c {al : Nat → Nat} {a : Nat} : mR (pu al 0 a) = mkR a (al 1) (fun j => al (2 + j)) (fun j => al (22 + j)) := by
  unfold mR
  rw [pu_s, pu_n (show 1 ≠ 0 by omega)]
  exact mkR_eq (fun j _ => pu_n (by omega)) (fun j _ => pu_n (by omega))
theorem mR_t {al : Nat → Nat} {i v : Nat} (hi : i < 20) (hn : al 1 ≤ 20) : mR (pu al (22 + i) v) = mkR (al 0) (al 1) (fun j => al (2 + j)) (pu (fun j => al (22 + j)) i v) := by
  unfold mR
  rw [pu_n (show 0 ≠ 22 + i by omega), pu_n (show 1 ≠ 22 + i by omega)]
  refine mkR_eq (fun j hj => pu_n (by omega)) (fun j hj => ?_)
  show pu al (22 + i) v (22 + j) = pu (fun j => al (22 + j)) i v j
  by_cases e : j = i
  · rw [e, pu_s, pu_s]
  · rw [pu_n (by omega), pu_n e]
theorem mR_a {al : Nat → Nat} {w y : Nat} (hn : al 1 < 20) : mR (pu (pu (pu al (2 + al 1) w) (22 + al 1) y) 1 (al 1 + 1)) = mkR (al 0) (al 1 + 1) (pu (fun j => al (2 + j)) (al 1) w) (pu (fun j => al (22 + j)) (al 1) y) := by
  unfold mR
  rw [pu_s, pu_n (show 0 ≠ 1 by omega), pu_n (show 0 ≠ 22 + al 1 by omega), pu_n (show 0 ≠ 2 + al 1 by omega)]
  refine mkR_eq (fun j hj => ?_) (fun j hj => ?_)
  · show pu (pu (pu al (2 + al 1) w) (22 + al 1) y) 1 (al 1 + 1) (2 + j) = pu (fun j => al (2 + j)) (al 1) w j
    rw [pu_n (by omega), pu_n (by omega)]
    by_cases e : j = al 1
    · rw [e, pu_s, pu_s]
    · rw [pu_n (by omega), pu_n e]
  · show pu (pu (pu al (2 + al 1) w) (22 + al 1) y) 1 (al 1 + 1) (22 + j) = pu (fun j => al (22 + j)) (al 1) y j
    rw [pu_n (by omega)]
    by_cases e : j = al 1
    · rw [e, pu_s, pu_s]
    · rw [pu_n (by omega), pu_n (by omega), pu_n e]
theorem keep_R {al ka : Nat → Nat} (h : ∀ j, j < 42 → ka j = al j) (hn : al 1 ≤ 20) : mR ka = mR al ∧ ka 1 ≤ 20 := by
  have h1 := h 1 (by omega)
  exact ⟨mR_eq h (by omega), by omega⟩
theorem mru {al : Nat → Nat} {x y : Int32} (h1 : 1 ≤ x.toInt ∧ x.toInt < ((2 ^ al 0 : Nat) : Int)) (h2 : 0 ≤ y.toInt ∧ y.toInt ≤ 1) : isRu (al 0) x y = true := decide_eq_true ⟨h1.1, h1.2, h2.1, h2.2⟩
theorem mrf {al : Nat → Nat} {x y : Int32} (h : ¬ (1 ≤ x.toInt ∧ x.toInt < ((2 ^ al 0 : Nat) : Int)) ∨ ¬ (0 ≤ y.toInt ∧ y.toInt ≤ 1)) : isRu (al 0) x y = false := decide_eq_false (fun z => h.elim (fun q => q ⟨z.1, z.2.1⟩) (fun q => q z.2.2))
