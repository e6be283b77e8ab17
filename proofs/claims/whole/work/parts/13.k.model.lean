theorem te_m {al ms mr le wh : Nat → Nat} {a b : Nat} (hn : al 1 < 20) (h : MV (fun j => (pu (pu (pu al (2 + al 1) a) (22 + al 1) b) 1 (al 1 + 1)) (2 + j)) (fun j => (pu (pu (pu al (2 + al 1) a) (22 + al 1) b) 1 (al 1 + 1)) (22 + j)) ((pu (pu (pu al (2 + al 1) a) (22 + al 1) b) 1 (al 1 + 1)) 1) ms mr le wh) : ms (al 1 + 1 - 1) = stt (fun j => al (2 + j)) (fun j => al (22 + j)) (al 1) a b := by
  have h1 := mv_st h (al 1) (by rw [pu_s]; omega)
  rw [mR_a hn, stS_mk (by omega), pu_s, pu_s] at h1
  rw [show al 1 + 1 - 1 = al 1 by omega, h1]
  exact stt_cong (fun j hj => pu_n (by omega)) (fun j hj => pu_n (by omega))
theorem tu_m {al ms mr le wh : Nat → Nat} {i v : Nat} (hi : i < al 1) (hn : al 1 ≤ 20) (h : MV (fun j => (pu al (22 + i) v) (2 + j)) (fun j => (pu al (22 + i) v) (22 + j)) ((pu al (22 + i) v) 1) ms mr le wh) : ms i = stS (mkR (al 0) (al 1) (fun j => al (2 + j)) (pu (fun j => al (22 + j)) i v)) i := by
  have h1 := mv_st h i (by rw [pu_n (show 1 ≠ 22 + i by omega)]; exact hi)
  rw [mR_t (by omega) hn] at h1
  exact h1
