theorem mv_31 {al st re le wh : Nat → Nat} (h : MV (fun j => al (2 + j)) (fun j => al (22 + j)) (al 1) st re le wh) (hn : al 1 ≤ 20) : ∀ j, j < al 1 → ¬ st j = 0 → re j < 2147483648 := by
  intro j hj h0
  rw [h.2.1 j hj h0]
  have hs : spn (fun j => al (2 + j)) j (kp (fun j => al (2 + j)) j) (al (2 + j)) := Classical.byContradiction (fun z => h0 (by rw [h.1 j hj]; exact stt_k z))
  have h1 := sbs_lt (rsn_ok hs).1 (kp_lt _ j)
  have h2 : 2 ^ j ≤ 2 ^ 20 := Nat.pow_le_pow_right (by decide) (by omega)
  exact Nat.lt_of_lt_of_le h1 (by omega)
theorem mv_r3 {al st re le wh : Nat → Nat} {i : Nat} (h : MV (fun j => al (2 + j)) (fun j => al (22 + j)) (al 1) st re le wh) (hi : i < al 1) : (if st i = 0 then -6 else nI (re i) : Int32) = ruF (mR al) i (nI 3) := by
  rw [← ruF_3, ← mv_st h i hi]
  by_cases e : st i = 0
  · rw [if_pos e, if_pos e]
  · rw [if_neg e, if_neg e, h.2.1 i hi e]
    exact congrArg nI (rsS_mk (c := al 0) (f := fun j => al (2 + j)) (g := fun j => al (22 + j)) hi).symm
theorem mv_r5 {al st re le wh : Nat → Nat} {i : Nat} (h : MV (fun j => al (2 + j)) (fun j => al (22 + j)) (al 1) st re le wh) (hi : i < al 1) : (if st i = 2 then nI 0 else nI (naS (mR al)) : Int32) = ruF (mR al) i (nI 5) := by
  rw [← ruF_5, ← mv_st h i hi]
theorem mH_pop {q : Nat} {hy : Nat → Nat} : mH (q - 1) hy = popH (mH q hy) := by
  show (q - 1, _) = (q - 1, _)
  congr 1
  funext k
  show (if k < q - 1 then _ else R0) = if k < q - 1 then (if k < q then _ else R0) else R0
  by_cases d : k < q - 1
  · rw [if_pos d, if_pos d, if_pos (by omega)]
  · rw [if_neg d, if_neg d]
theorem mun_1 {R : RT} {q : Nat} {hy al : Nat → Nat} (e : 0 < q) (h : ∀ j, j < 42 → al j = hy (42 * (q - 1) + j)) (hn : al 1 ≤ 20) : nI (q - 1) = r_undo (mH q hy) ∧ (mR al, mH (q - 1) hy) = n_undo R (mH q hy) := by
  unfold r_undo n_undo
  have e2 : ¬ (mH q hy).1 = 0 := by show ¬ q = 0; omega
  rw [if_neg e2, if_neg e2, mH_pop]
  refine ⟨rfl, ?_⟩
  congr 1
  refine Eq.trans ?_ (if_pos (show q - 1 < q by omega)).symm
  exact mR_eq h hn
