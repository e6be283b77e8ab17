theorem mrs_1 {R : RT} {h : HT} {iv so : Nat → Nat} {a : Nat} {x : Int32} (e : x = nI a) (ha : a < 2) (hs : iv a = 0) : (-5 : Int32) = r_restore (mS iv so) x ∧ (R, h) = n_restore R h (mS iv so) x := by
  have e2 : hasP 2 x = true := by rw [e]; exact hasP_I ha (by omega)
  have e3 : (mS iv so (tN x)).1 = 0 := by
    rw [e, tN_I (by omega), show mS iv so a = R0 from if_neg (fun z => z.2 hs)]
    rfl
  unfold r_restore n_restore
  rw [if_pos e2, if_pos e3, if_neg (fun z => z.2 e3)]
  exact ⟨rfl, rfl⟩
theorem mrs_2 {R : RT} {h : HT} {iv so k1 : Nat → Nat} {a : Nat} {x : Int32} (e : x = nI a) (ha : a < 2) (hs : ¬ iv a = 0) (hS : RowOK (mR (fun j => so (42 * a + j)))) (hk : ∀ j, j < 42 → k1 j = so (42 * a + j)) : nI (k1 1) = r_restore (mS iv so) x ∧ (mR k1, pushH h R) = n_restore R h (mS iv so) x := by
  have e2 : hasP 2 x = true := by rw [e]; exact hasP_I ha (by omega)
  obtain ⟨s1, -, s3, -⟩ := mrow hS
  have s1 : 1 ≤ so (42 * a + 0) := s1
  have s3 : so (42 * a + 1) ≤ 20 := s3
  have hm : mR k1 = mR (fun j => so (42 * a + j)) := mR_eq hk (by have := hk 1 (by omega); omega)
  have e4 : mS iv so (tN x) = mR k1 := by
    rw [e, tN_I (by omega), hm]
    exact if_pos ⟨ha, hs⟩
  have e3 : ¬ (mS iv so (tN x)).1 = 0 := by
    rw [e4]
    show ¬ k1 0 = 0
    have := hk 0 (by omega)
    omega
  unfold r_restore n_restore
  rw [if_pos e2, if_neg e3, if_pos ⟨e2, e3⟩, e4]
  exact ⟨rfl, rfl⟩
