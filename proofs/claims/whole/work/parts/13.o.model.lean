/-! a rule taken out -/
def TO (al k1 : Nat → Nat) (i r : Nat) : Prop := k1 0 = al 0 ∧ k1 1 = al 1 - 1 ∧ (∀ j, j < 20 → k1 (2 + j) = if i ≤ j ∧ j < r then al (2 + j + 1) else al (2 + j)) ∧ ∀ j, j < 20 → k1 (22 + j) = if i ≤ j ∧ j < r then al (22 + j + 1) else al (22 + j)
theorem to_0 {al : Nat → Nat} {i : Nat} : TO al (pu al 1 (al 1 - 1)) i i :=
  ⟨pu_n (by omega), pu_s, fun j _ => by rw [pu_n (by omega), if_neg (by omega)], fun j _ => by rw [pu_n (by omega), if_neg (by omega)]⟩
theorem to_s {al k1 : Nat → Nat} {i r : Nat} (h : TO al k1 i r) (hi : i ≤ r) (hr : r < 19) : TO al (pu (pu k1 (2 + r) (k1 (2 + r + 1))) (22 + r) ((pu k1 (2 + r) (k1 (2 + r + 1))) (22 + r + 1))) i (r + 1) := by
  obtain ⟨h0, h1, h2, h3⟩ := h
  refine ⟨?_, ?_, fun j hj => ?_, fun j hj => ?_⟩
  · rw [pu_n (by omega), pu_n (by omega)]; exact h0
  · rw [pu_n (by omega), pu_n (by omega)]; exact h1
  · rw [pu_n (by omega)]
    by_cases e : j = r
    · subst e
      rw [pu_s, if_pos (by omega), show 2 + j + 1 = 2 + (j + 1) by omega, h2 _ (by omega), if_neg (by omega)]
    · rw [pu_n (by omega), h2 j hj]
      by_cases d : i ≤ j ∧ j < r
      · rw [if_pos d, if_pos (by omega)]
      · rw [if_neg d, if_neg (by omega)]
  · by_cases e : j = r
    · subst e
      rw [pu_s, pu_n (by omega), if_pos (by omega), show 22 + j + 1 = 22 + (j + 1) by omega, h3 _ (by omega), if_neg (by omega)]
    · rw [pu_n (by omega), pu_n (by omega), h3 j hj]
      by_cases d : i ≤ j ∧ j < r
      · rw [if_pos d, if_pos (by omega)]
      · rw [if_neg d, if_neg (by omega)]
theorem to_c {F : Nat → Nat} {i n j : Nat} (hi : i < n) (hj : j < n - 1) : (if i ≤ j ∧ j < n - 1 then F (j + 1) else F j) = carF F i (n - 1) j := by
  unfold carF
  rw [if_neg (show ¬ j = n - 1 by omega)]
  by_cases d : i ≤ j ∧ j < n - 1
  · rw [if_pos d, if_pos d]
  · rw [if_neg d, if_neg d, if_neg (by omega)]
theorem to_R {al k1 : Nat → Nat} {i : Nat} (h : TO al k1 i (al 1 - 1)) (hi : i < al 1) (hn : al 1 ≤ 20) : mR k1 = drR (mR al) i := by
  obtain ⟨h0, h1, h2, h3⟩ := h
  unfold mR
  rw [dr_mk hi, h0, h1]
  refine mkR_eq (fun j hj => ?_) (fun j hj => ?_)
  · rw [h2 j (by omega), ← to_c (F := fun j => al (2 + j)) hi hj]
    rfl
  · rw [h3 j (by omega), ← to_c (F := fun j => al (22 + j)) hi hj]
    rfl
theorem dm_1 {al k1 : Nat → Nat} {i : Nat} {h : HT} {x : Int32} (e : x = nI i) (hi : i < al 1) (hn : al 1 ≤ 20) (hk : mR k1 = drR (mR al) i) : nI (al 1 - 1) = r_drop (mR al) x ∧ (mR k1, pushH h (mR al)) = n_drop (mR al) h x := by
  unfold r_drop n_drop
  have e2 : hasP (mR al).2.1 x = true := hasP_n (n := al 1) e hi (by omega)
  rw [if_pos e2, if_pos e2, e, tN_I (by omega), hk]
  exact ⟨rfl, rfl⟩
