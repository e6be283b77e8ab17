/-! the outcomes of the calls, on rows as they lie -/
variable {c n i k a b : Nat} {f g f2 g2 : Nat → Nat} {x y : Int32} {h : HT}
theorem hasP_f (e : ¬ (0 ≤ x.toInt ∧ x.toInt < (n : Int))) : ¬ hasP n x = true := fun z => e (of_decide_eq_true z)
theorem hasP_n (e : x = nI a) (h1 : a < n) (h2 : n ≤ 4096) : hasP n x = true := by rw [e]; exact hasP_I h1 h2
theorem ch_0 {R : RT} (e : ¬ (1 ≤ x.toInt ∧ x.toInt ≤ 12)) : (-2 : Int32) = r_choices R x ∧ (R, h) = n_choices R h x := by
  unfold r_choices n_choices
  rw [if_neg e, if_neg (fun z => e z.1)]
  exact ⟨rfl, rfl⟩
theorem ch_1 (e : x = nI a) (h1 : 1 ≤ a ∧ a ≤ 12) (hb : ¬ ∀ j, j < n → f j >>> a = 0) : (-5 : Int32) = r_choices (mkR c n f g) x ∧ (mkR c n f g, h) = n_choices (mkR c n f g) h x := by
  subst e
  have e1 : 1 ≤ (nI a).toInt ∧ (nI a).toInt ≤ 12 := by rw [nI_toInt (by omega)]; omega
  have e2 : ¬ belR (mkR c n f g) (tN (nI a)) = true := by rw [tN_I (by omega), bel_mk]; exact fun z => hb (of_decide_eq_true z)
  unfold r_choices n_choices
  rw [if_pos e1, if_neg e2, if_neg (fun z => e2 z.2)]
  exact ⟨rfl, rfl⟩
theorem ch_2 (e : x = nI a) (h1 : 1 ≤ a ∧ a ≤ 12) (hb : ∀ j, j < n → f j >>> a = 0) : nI c = r_choices (mkR c n f g) x ∧ (mkR a n f g, pushH h (mkR c n f g)) = n_choices (mkR c n f g) h x := by
  subst e
  have e1 : 1 ≤ (nI a).toInt ∧ (nI a).toInt ≤ 12 := by rw [nI_toInt (by omega)]; omega
  have e2 : belR (mkR c n f g) (tN (nI a)) = true := by rw [tN_I (by omega), bel_mk]; exact decide_eq_true hb
  unfold r_choices n_choices
  rw [if_pos e1, if_pos e2, if_pos ⟨e1, e2⟩, tN_I (by omega)]
  exact ⟨rfl, rfl⟩
theorem te_0 {R : RT} (e : isRu R.1 x y = false) : (-2 : Int32) = r_tell R x y ∧ (R, h) = n_tell R h x y := by
  have e : ¬ isRu R.1 x y = true := by rw [e]; exact fun z => by cases z
  unfold r_tell n_tell
  rw [if_neg e, if_neg (fun z => e z.1)]
  exact ⟨rfl, rfl⟩
theorem te_1 (e : isRu c x y = true) (hn : n = 20) : (-4 : Int32) = r_tell (mkR c n f g) x y ∧ (mkR c n f g, h) = n_tell (mkR c n f g) h x y := by
  unfold r_tell n_tell
  rw [if_pos (show isRu (mkR c n f g).1 x y = true from e), if_pos (show (mkR c n f g).2.1 = 20 from hn), if_neg (fun z => z.2 hn)]
  exact ⟨rfl, rfl⟩
theorem te_2 (e : isRu c x y = true) (hn : n < 20) (ex : x = nI a) (ey : y = nI b) (ha : a < 4096) (hb : b ≤ 1) : nI (stt f g n a b) = r_tell (mkR c n f g) x y ∧ (mkR c (n + 1) (pu f n a) (pu g n b), pushH h (mkR c n f g)) = n_tell (mkR c n f g) h x y := by
  unfold r_tell n_tell
  have hn2 : ¬ (mkR c n f g).2.1 = 20 := by show ¬ n = 20; omega
  rw [if_pos (show isRu (mkR c n f g).1 x y = true from e), if_neg hn2, if_pos ⟨e, hn2⟩, ex, ey, tN_I (by omega), tN_I (by omega), app_mk]
  exact ⟨congrArg nI (stN n a b f g).symm, rfl⟩
theorem dr_0 {R : RT} (e : ¬ (0 ≤ x.toInt ∧ x.toInt < (R.2.1 : Int))) : (-1 : Int32) = r_drop R x ∧ (R, h) = n_drop R h x := by
  unfold r_drop n_drop
  rw [if_neg (hasP_f e), if_neg (hasP_f e)]
  exact ⟨rfl, rfl⟩
theorem dr_1 (e : x = nI i) (hi : i < n) (hn : n ≤ 20) (hf : ∀ j, j < n - 1 → f2 j = carF f i (n - 1) j) (hg : ∀ j, j < n - 1 → g2 j = carF g i (n - 1) j) : nI (n - 1) = r_drop (mkR c n f g) x ∧ (mkR c (n - 1) f2 g2, pushH h (mkR c n f g)) = n_drop (mkR c n f g) h x := by
  unfold r_drop n_drop
  have e2 : hasP (mkR c n f g).2.1 x = true := hasP_n e hi (by show n ≤ 4096; omega)
  rw [if_pos e2, if_pos e2, e, tN_I (by omega), dr_mk hi, mkR_eq hf hg]
  exact ⟨rfl, rfl⟩
theorem mo_0 {R : RT} (e : ¬ (0 ≤ x.toInt ∧ x.toInt < (R.2.1 : Int)) ∨ ¬ (0 ≤ y.toInt ∧ y.toInt < (R.2.1 : Int))) : (-1 : Int32) = r_move R x y ∧ (R, h) = n_move R h x y := by
  unfold r_move n_move
  have e2 : ¬ (hasP R.2.1 x = true ∧ hasP R.2.1 y = true) := fun z => e.elim (fun q => hasP_f q z.1) (fun q => hasP_f q z.2)
  rw [if_neg e2, if_neg e2]
  exact ⟨rfl, rfl⟩
theorem mo_1 {v : Nat} (ex : x = nI i) (ey : y = nI k) (hi : i < n) (hk : k < n) (hn : n ≤ 20) (hf : ∀ j, j < n → f2 j = carF f i k j) (hg : ∀ j, j < n → g2 j = carF g i k j) (hv : v = mcS (mkR c n f g) i k) : nI v = r_move (mkR c n f g) x y ∧ (mkR c n f2 g2, pushH h (mkR c n f g)) = n_move (mkR c n f g) h x y := by
  unfold r_move n_move
  have e2 : hasP (mkR c n f g).2.1 x = true ∧ hasP (mkR c n f g).2.1 y = true := ⟨hasP_n ex hi (by show n ≤ 4096; omega), hasP_n ey hk (by show n ≤ 4096; omega)⟩
  rw [if_pos e2, if_pos e2, ex, ey, tN_I (by omega), tN_I (by omega), mv_mk hi hk, mkR_eq hf hg, hv]
  exact ⟨rfl, rfl⟩
theorem tu_0 {R : RT} (e : ¬ (0 ≤ x.toInt ∧ x.toInt < (R.2.1 : Int))) : (-1 : Int32) = r_turn R x ∧ (R, h) = n_turn R h x := by
  unfold r_turn n_turn
  rw [if_neg (hasP_f e), if_neg (hasP_f e)]
  exact ⟨rfl, rfl⟩
theorem tu_1 {v : Nat} (e : x = nI i) (hi : i < n) (hn : n ≤ 20) (hv : v = stS (mkR c n f (pu g i (1 - g i))) i) : nI v = r_turn (mkR c n f g) x ∧ (mkR c n f (pu g i (1 - g i)), pushH h (mkR c n f g)) = n_turn (mkR c n f g) h x := by
  unfold r_turn n_turn
  have e2 : hasP (mkR c n f g).2.1 x = true := hasP_n e hi (by show n ≤ 4096; omega)
  rw [if_pos e2, if_pos e2, e, tN_I (by omega), tu_mk hi, hv]
  exact ⟨rfl, rfl⟩
theorem un_0 {R : RT} (e : h.1 = 0) : (-5 : Int32) = r_undo h ∧ (R, h) = n_undo R h := by
  unfold r_undo n_undo
  rw [if_pos e, if_pos e]
  exact ⟨rfl, rfl⟩
theorem un_1 {R : RT} {q : Nat} {zc zn : Nat → Nat} {zf zg : Nat → Nat → Nat} (e : 0 < q) : nI (q - 1) = r_undo (absH q zc zn zf zg) ∧ (mkR (zc (q - 1)) (zn (q - 1)) (zf (q - 1)) (zg (q - 1)), absH (q - 1) zc zn zf zg) = n_undo R (absH q zc zn zf zg) := by
  unfold r_undo n_undo
  have e2 : ¬ (absH q zc zn zf zg).1 = 0 := by show ¬ q = 0; omega
  rw [if_neg e2, if_neg e2, pop_abs]
  refine ⟨rfl, ?_⟩
  congr 1
  exact (abs_at (k := q - 1) (by omega)).symm
/-! answers that change nothing -/
theorem t1 (v s : Nat) : v >>> s &&& 1 = if v.testBit s = true then 1 else 0 := by
  have h1 := tb_1 v s
  have h2 : v >>> s &&& 1 ≤ 1 := Nat.and_le_right
  split
  · rename_i q; exact h1.mpr q
  · rename_i q
    have : ¬ v >>> s &&& 1 = 1 := fun z => q (h1.mp z)
    omega
theorem ru_n {R : RT} (e : ¬ (0 ≤ x.toInt ∧ x.toInt < (R.2.1 : Int))) : (-1 : Int32) = r_rule R x y := by
  unfold r_rule
  rw [if_neg (hasP_f e)]
theorem ru_y (e : x = nI i) (hi : i < n) (hn : n ≤ 20) {v : Int32} (hv : v = ruF (mkR c n f g) i y) : v = r_rule (mkR c n f g) x y := by
  unfold r_rule
  rw [if_pos (show hasP (mkR c n f g).2.1 x = true from hasP_n (n := n) e hi (by omega)), e, tN_I (by omega), hv]
theorem ruF_o {R : RT} (e : y.toInt < 0 ∨ (5 : Int) < y.toInt) : (-2 : Int32) = ruF R i y := by
  unfold ruF
  rw [if_neg (y_out (m := 5) e (by omega) (by omega)), if_neg (y_out (m := 5) e (by omega) (by omega)), if_neg (y_out (m := 5) e (by omega) (by omega)), if_neg (y_out (m := 5) e (by omega) (by omega)), if_neg (y_out (m := 5) e (by omega) (by omega)), if_neg (y_out (m := 5) e (by omega) (by omega))]
theorem ruF_0 (hi : i < n) : nI (f i) = ruF (mkR c n f g) i (nI 0) := by
  unfold ruF
  rw [if_pos rfl]
  exact congrArg nI (nrm_lt hi).symm
theorem ruF_1 (hi : i < n) : nI (g i) = ruF (mkR c n f g) i (nI 1) := by
  unfold ruF
  rw [if_neg (by decide), if_pos rfl]
  exact congrArg nI (nrm_lt hi).symm
theorem ruF_2 {R : RT} : nI (stS R i) = ruF R i (nI 2) := by
  unfold ruF
  rw [if_neg (by decide), if_neg (by decide), if_pos rfl]
theorem ruF_3 {R : RT} : (if stS R i = 0 then -6 else nI (rsS R i)) = ruF R i (nI 3) := by
  unfold ruF
  rw [if_neg (show ¬ nI 3 = nI 0 by decide), if_neg (show ¬ nI 3 = nI 1 by decide), if_neg (show ¬ nI 3 = nI 2 by decide), if_pos (rfl : nI 3 = nI 3)]
theorem ruF_4 {R : RT} : nI (rwS R i) = ruF R i (nI 4) := by
  unfold ruF
  rw [if_neg (by decide), if_neg (by decide), if_neg (by decide), if_neg (by decide), if_pos rfl]
theorem ruF_5 {R : RT} : (if stS R i = 2 then nI 0 else nI (naS R)) = ruF R i (nI 5) := by
  unfold ruF
  rw [if_neg (show ¬ nI 5 = nI 0 by decide), if_neg (show ¬ nI 5 = nI 1 by decide), if_neg (show ¬ nI 5 = nI 2 by decide), if_neg (show ¬ nI 5 = nI 3 by decide), if_neg (show ¬ nI 5 = nI 4 by decide), if_pos (rfl : nI 5 = nI 5)]
theorem cf_n {R : RT} (e : ¬ (0 ≤ x.toInt ∧ x.toInt < (R.1 : Int))) : (-1 : Int32) = r_choice R x y := by
  unfold r_choice
  rw [if_neg (hasP_f e)]
theorem cf_y (e : x = nI a) (ha : a < c) (hc : c ≤ 12) {v : Int32} (hv : v = chF (mkR c n f g) a y) : v = r_choice (mkR c n f g) x y := by
  unfold r_choice
  rw [if_pos (show hasP (mkR c n f g).1 x = true from hasP_n (n := c) e ha (by omega)), e, tN_I (by omega), hv]
theorem chF_o {R : RT} (e : y.toInt < 0 ∨ (2 : Int) < y.toInt) : (-2 : Int32) = chF R a y := by
  unfold chF
  rw [if_neg (y_out (m := 2) e (by omega) (by omega)), if_neg (y_out (m := 2) e (by omega) (by omega)), if_neg (y_out (m := 2) e (by omega) (by omega))]
theorem chF_0 {R : RT} : knS R (1 <<< a) = chF R a (nI 0) := by
  unfold chF
  rw [if_pos rfl]
theorem chF_1 : nI (smF (fun j => f j >>> a &&& 1) n) = chF (mkR c n f g) a (nI 1) := by
  unfold chF
  rw [if_neg (by decide), if_pos rfl]
  exact congrArg nI (smF_cong n (fun j hj => by show _ = nrm n f j >>> a &&& 1; rw [nrm_lt hj]))
theorem chF_2 {R : RT} : nI (boS R a) = chF R a (nI 2) := by
  unfold chF
  rw [if_neg (by decide), if_neg (by decide), if_pos rfl]
theorem co_o {R : RT} {q pl : Nat} (e : y.toInt < 0 ∨ (8 : Int) < y.toInt) : (-2 : Int32) = r_count R q pl y := by
  unfold r_count
  rw [if_neg (y_out (m := 8) e (by omega) (by omega)), if_neg (y_out (m := 8) e (by omega) (by omega)), if_neg (y_out (m := 8) e (by omega) (by omega)), if_neg (y_out (m := 8) e (by omega) (by omega)), if_neg (y_out (m := 8) e (by omega) (by omega)), if_neg (y_out (m := 8) e (by omega) (by omega)), if_neg (y_out (m := 8) e (by omega) (by omega)), if_neg (y_out (m := 8) e (by omega) (by omega)), if_neg (y_out (m := 8) e (by omega) (by omega))]
theorem aw_n {R : RT} (e : ¬ (0 ≤ x.toInt ∧ x.toInt < (naS R : Int))) : (-1 : Int32) = r_answer R x := by
  unfold r_answer
  rw [if_neg (hasP_f e)]
theorem aw_y {R : RT} (e : x = nI a) (ha : a < naS R) (h2 : naS R ≤ 4096) {v : Nat} (hv : v = anS R a) : nI v = r_answer R x := by
  unfold r_answer
  rw [if_pos (hasP_n e ha h2), e, tN_I (by omega), hv]
theorem kw_n {R : RT} (e : ¬ (0 ≤ x.toInt ∧ x.toInt < ((2 ^ R.1 : Nat) : Int))) : (-2 : Int32) = r_known R x := by
  unfold r_known
  rw [if_neg (hasP_f e)]
theorem kw_y {R : RT} (e : x = nI a) (ha : a < 2 ^ R.1) (h2 : R.1 ≤ 12) {v : Int32} (hv : v = knS R a) : v = r_known R x := by
  have := p12 h2
  unfold r_known
  rw [if_pos (hasP_n e ha (by omega)), e, tN_I (by omega), hv]
theorem ne_n {R : RT} (e : ¬ (0 ≤ x.toInt ∧ x.toInt < ((2 ^ R.1 : Nat) : Int))) : (-2 : Int32) = r_nearest R x y := by
  unfold r_nearest
  rw [if_neg (hasP_f e)]
theorem ne_o {R : RT} (e : y.toInt < 0 ∨ (1 : Int) < y.toInt) : (-2 : Int32) = r_nearest R x y := by
  unfold r_nearest
  rw [if_neg (y_out (m := 1) e (by omega) (by omega)), if_neg (y_out (m := 1) e (by omega) (by omega))]
  split <;> rfl
theorem ne_0 {R : RT} (e : x = nI a) (ha : a < 2 ^ R.1) (h2 : R.1 ≤ 12) {v : Nat} (hv : v = neS R a) (hy : y = nI 0) : nI v = r_nearest R x y := by
  have := p12 h2
  unfold r_nearest
  rw [if_pos (hasP_n e ha (by omega)), if_pos hy, e, tN_I (by omega), hv]
theorem ne_1 {R : RT} (e : x = nI a) (ha : a < 2 ^ R.1) (h2 : R.1 ≤ 12) {v : Nat} (hv : v = neS R a) (hy : y = nI 1) : nI (pcn (v ^^^ a)) = r_nearest R x y := by
  have := p12 h2
  unfold r_nearest
  rw [if_pos (hasP_n e ha (by omega)), hy, if_neg (by decide), if_pos rfl, e, tN_I (by omega), hv]
theorem be_o {R : RT} (e : y.toInt < 0 ∨ (2 : Int) < y.toInt) : (-2 : Int32) = r_best R y := by
  unfold r_best
  rw [if_neg (y_out (m := 2) e (by omega) (by omega)), if_neg (y_out (m := 2) e (by omega) (by omega)), if_neg (y_out (m := 2) e (by omega) (by omega))]
theorem be_0 {R : RT} {u v w : Nat} (e : brS R = (u, v, w)) (hy : y = nI 0) : nI u = r_best R y := by
  unfold r_best
  rw [if_pos hy, e]
theorem be_1 {R : RT} {u v w : Nat} (e : brS R = (u, v, w)) (hy : y = nI 1) : nI v = r_best R y := by
  unfold r_best
  rw [hy, if_neg (by decide), if_pos rfl, e]
theorem be_2 {R : RT} {u v w : Nat} (e : brS R = (u, v, w)) (hy : y = nI 2) : nI w = r_best R y := by
  unfold r_best
  rw [hy, if_neg (by decide), if_neg (by decide), if_pos rfl, e]
theorem it_0 {R : RT} (e : isRu R.1 x y = false) : (-2 : Int32) = r_ifTold R x y := by
  unfold r_ifTold
  rw [if_neg (by rw [e]; exact fun z => by cases z)]
theorem it_1 (e : isRu c x y = true) (ex : x = nI a) (ey : y = nI b) (ha : a < 4096) (hb : b ≤ 1) : nI (stt f g n a b) = r_ifTold (mkR c n f g) x y := by
  unfold r_ifTold
  rw [if_pos (show isRu (mkR c n f g).1 x y = true from e), ex, ey, tN_I (by omega), tN_I (by omega)]
  exact congrArg nI (stN n a b f g).symm
theorem id_0 {R : RT} (e : ¬ (0 ≤ x.toInt ∧ x.toInt < (R.2.1 : Int))) : (-1 : Int32) = r_ifDropped R x := by
  unfold r_ifDropped
  rw [if_neg (hasP_f e)]
theorem id_1 {v : Nat} (e : x = nI i) (hi : i < n) (hn : n ≤ 20) (hf : ∀ j, j < n - 1 → f2 j = carF f i (n - 1) j) (hg : ∀ j, j < n - 1 → g2 j = carF g i (n - 1) j) (hv : v = naS (mkR c (n - 1) f2 g2)) : nI v = r_ifDropped (mkR c n f g) x := by
  unfold r_ifDropped
  rw [if_pos (show hasP (mkR c n f g).2.1 x = true from hasP_n (n := n) e hi (by omega)), e, tN_I (by omega), dr_mk hi, hv, mkR_eq hf hg]
theorem im_0 {R : RT} (e : ¬ (0 ≤ x.toInt ∧ x.toInt < (R.2.1 : Int)) ∨ ¬ (0 ≤ y.toInt ∧ y.toInt < (R.2.1 : Int))) : (-1 : Int32) = r_ifMoved R x y := by
  unfold r_ifMoved
  have e2 : ¬ (hasP R.2.1 x = true ∧ hasP R.2.1 y = true) := fun z => e.elim (fun q => hasP_f q z.1) (fun q => hasP_f q z.2)
  rw [if_neg e2]
theorem im_1 {v : Nat} (ex : x = nI i) (ey : y = nI k) (hi : i < n) (hk : k < n) (hn : n ≤ 20) (hf : ∀ j, j < n → f2 j = carF f i k j) (hg : ∀ j, j < n → g2 j = carF g i k j) (hv : v = ctS (mkR c n f2 g2) 2) : nI v = r_ifMoved (mkR c n f g) x y := by
  unfold r_ifMoved
  have e2 : hasP (mkR c n f g).2.1 x = true ∧ hasP (mkR c n f g).2.1 y = true := ⟨hasP_n ex hi (by show n ≤ 4096; omega), hasP_n ey hk (by show n ≤ 4096; omega)⟩
  rw [if_pos e2, ex, ey, tN_I (by omega), tN_I (by omega), mv_mk hi hk, hv, mkR_eq hf hg]
