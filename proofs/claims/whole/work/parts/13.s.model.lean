def mS (iv so : Nat → Nat) : Nat → RT := fun k => if k < 2 ∧ ¬ iv k = 0 then mR (fun j => so (42 * k + j)) else R0
theorem msv_1 {al iv so so2 : Nat → Nat} {a : Nat} {x : Int32} (e : x = nI a) (ha : a < 2) (hk : ∀ j, so2 j = if 42 * a ≤ j ∧ j < 42 * a + 42 then al (j - 42 * a) else so j) (hn : al 1 ≤ 20) (hs : ∀ k, k < 2 → so (42 * k + 1) ≤ 20) : nI (al 1) = r_save (mR al) x ∧ mS (pu iv a 1) so2 = n_save (mR al) (mS iv so) x := by
  have e2 : hasP 2 x = true := by rw [e]; exact hasP_I ha (by omega)
  unfold r_save n_save
  rw [if_pos e2, if_pos e2, e, tN_I (by omega)]
  refine ⟨rfl, ?_⟩
  funext k
  show (if k < 2 ∧ ¬ pu iv a 1 k = 0 then mR (fun j => so2 (42 * k + j)) else R0) = if k = a then mR al else if k < 2 ∧ ¬ iv k = 0 then mR (fun j => so (42 * k + j)) else R0
  by_cases d : k = a
  · subst d
    rw [pu_s, if_pos ⟨ha, by omega⟩, if_pos rfl]
    exact (mR_eq (a := al) (fun j hj => by
      show al j = so2 (42 * k + j)
      rw [hk, if_pos (by omega), show 42 * k + j - 42 * k = j by omega]) hn).symm
  · rw [pu_n d, if_neg d]
    by_cases b : k < 2 ∧ ¬ iv k = 0
    · rw [if_pos b, if_pos b]
      exact (mR_eq (a := fun j => so (42 * k + j)) (fun j hj => by
        show so (42 * k + j) = so2 (42 * k + j)
        rw [hk, if_neg (by omega)]) (hs k b.1)).symm
    · rw [if_neg b, if_neg b]
