/-! what the calls leave in the two objects -/
section ST
variable {p q o : Nat} {R : RT} {h : HT}
theorem nrm_0 (f : Nat → Nat) : nrm 0 f = z0 := funext (fun j => nrm_ge (Nat.zero_le j))
theorem tr_R0 : trR p q o R0 = R0 := by
  show (0, 0, nrm 0 _, nrm 0 _) = (0, 0, z0, z0)
  rw [nrm_0, nrm_0]
theorem tr_push : pushH (trH p q o h) (trR p q o R) = trH p q o (pushH h R) := by
  unfold pushH
  by_cases e : h.1 < 6
  · rw [if_pos (show (trH p q o h).1 < 6 from e), if_pos e]
    show (h.1 + 1, _) = (h.1 + 1, _)
    congr 1
    funext k
    show (if k = h.1 then trR p q o R else trR p q o (h.2 k)) = trR p q o (if k = h.1 then R else h.2 k)
    split <;> rfl
  · rw [if_neg (show ¬ (trH p q o h).1 < 6 from e), if_neg e]
    show (6, _) = (6, _)
    congr 1
    funext k
    show (if k = 5 then trR p q o R else trR p q o (h.2 (k + 1))) = trR p q o (if k = 5 then R else h.2 (k + 1))
    split <;> rfl
theorem tr_pop : popH (trH p q o h) = trH p q o (popH h) := by
  show (h.1 - 1, _) = (h.1 - 1, _)
  congr 1
  funext k
  show (if k < h.1 - 1 then trR p q o (h.2 k) else R0) = trR p q o (if k < h.1 - 1 then h.2 k else R0)
  split
  · rfl
  · exact tr_R0.symm
theorem tr_app (n : Nat) (hn : R.2.1 = n) {v b : Nat} : appR (trR p q o R) (thR p q v) (b ^^^ pty (v &&& o)) = trR p q o (appR R v b) := by
  subst hn
  refine mkR_eq (n := R.2.1 + 1) (fun j hj => ?_) (fun j hj => ?_)
  · show pu (trR p q o R).2.2.1 R.2.1 (thR p q v) j = thR p q (nrm (R.2.1 + 1) (pu R.2.2.1 R.2.1 v) j)
    rw [nrm_lt hj]
    by_cases e : j = R.2.1
    · rw [e, pu_s, pu_s]
    · rw [pu_n e, pu_n e, tr_f (by omega)]
  · show pu (trR p q o R).2.2.2 R.2.1 (b ^^^ pty (v &&& o)) j = nrm (R.2.1 + 1) (pu R.2.2.2 R.2.1 b) j ^^^ pty (nrm (R.2.1 + 1) (pu R.2.2.1 R.2.1 v) j &&& o)
    rw [nrm_lt hj, nrm_lt hj]
    by_cases e : j = R.2.1
    · rw [e, pu_s, pu_s, pu_s]
    · rw [pu_n e, pu_n e, pu_n e, tr_g (by omega)]
theorem tr_mv {i k : Nat} (hi : i < R.2.1) (hk : k < R.2.1) : mvR (trR p q o R) i k = trR p q o (mvR R i k) := by
  refine mkR_eq (n := R.2.1) (fun j hj => ?_) (fun j hj => ?_)
  · obtain ⟨j', a, b⟩ := car_in R.2.1 i k j hi hk hj
    show carF (trR p q o R).2.2.1 i k j = thR p q (nrm R.2.1 (carF R.2.2.1 i k) j)
    rw [nrm_lt hj, b, b, tr_f a]
  · obtain ⟨j', a, b⟩ := car_in R.2.1 i k j hi hk hj
    show carF (trR p q o R).2.2.2 i k j = nrm R.2.1 (carF R.2.2.2 i k) j ^^^ pty (nrm R.2.1 (carF R.2.2.1 i k) j &&& o)
    rw [nrm_lt hj, nrm_lt hj, b, b, b, tr_g a]
theorem tr_dr {i : Nat} (hi : i < R.2.1) : drR (trR p q o R) i = trR p q o (drR R i) := by
  refine mkR_eq (n := R.2.1 - 1) (fun j hj => ?_) (fun j hj => ?_)
  · obtain ⟨j', a, b⟩ := car_in R.2.1 i (R.2.1 - 1) j hi (by omega) (by omega)
    show carF (trR p q o R).2.2.1 i (R.2.1 - 1) j = thR p q (nrm (R.2.1 - 1) (carF R.2.2.1 i (R.2.1 - 1)) j)
    rw [nrm_lt hj, b, b, tr_f a]
  · obtain ⟨j', a, b⟩ := car_in R.2.1 i (R.2.1 - 1) j hi (by omega) (by omega)
    show carF (trR p q o R).2.2.2 i (R.2.1 - 1) j = nrm (R.2.1 - 1) (carF R.2.2.2 i (R.2.1 - 1)) j ^^^ pty (nrm (R.2.1 - 1) (carF R.2.2.1 i (R.2.1 - 1)) j &&& o)
    rw [nrm_lt hj, nrm_lt hj, b, b, b, tr_g a]
theorem neg_xor {x y : Nat} (hx : x ≤ 1) (hy : y ≤ 1) : 1 - (x ^^^ y) = (1 - x) ^^^ y := by
  have h1 : x = 0 ∨ x = 1 := by omega
  have h2 : y = 0 ∨ y = 1 := by omega
  rcases h1 with e | e <;> rcases h2 with d | d <;> subst e <;> subst d <;> rfl
theorem tr_tu (hR : RowOK R) {i : Nat} (hi : i < R.2.1) : tuR (trR p q o R) i = trR p q o (tuR R i) := by
  refine mkR_eq (n := R.2.1) (fun j hj => ?_) (fun j hj => ?_)
  · show (trR p q o R).2.2.1 j = thR p q (nrm R.2.1 R.2.2.1 j)
    rw [nrm_lt hj, tr_f hj]
  · show pu (trR p q o R).2.2.2 i (1 - (trR p q o R).2.2.2 i) j = nrm R.2.1 (pu R.2.2.2 i (1 - R.2.2.2 i)) j ^^^ pty (nrm R.2.1 R.2.2.1 j &&& o)
    rw [nrm_lt hj, nrm_lt hj]
    by_cases e : j = i
    · rw [e, pu_s, pu_s, tr_g hi]
      exact neg_xor (hR.2.2.2 i hi).2.2 (pty_le _)
    · rw [pu_n e, pu_n e, tr_g hj]
/-! the answers of a change -/
theorem isRu_I {c v b : Nat} (hc : c ≤ 12) (h0 : 0 < v) (hv : v < 2 ^ c) (hb : b ≤ 1) : isRu c (nI v) (nI b) = true := by
  have := p12 hc
  exact decide_eq_true (by rw [nI_toInt (by omega), nI_toInt (by omega)]; omega)
theorem a_tell (hR : RowOK R) (hc : R.1 = p + q) {v b : Nat} (h0 : 0 < v) (hv : v < 2 ^ (p + q)) (hb : b ≤ 1) : r_tell (trR p q o R) (nI (thR p q v)) (nI (b ^^^ pty (v &&& o))) = r_tell R (nI v) (nI b) ∧ n_tell (trR p q o R) (trH p q o h) (nI (thR p q v)) (nI (b ^^^ pty (v &&& o))) = (trR p q o (n_tell R h (nI v) (nI b)).1, trH p q o (n_tell R h (nI v) (nI b)).2) := by
  have h12 := tr_32 hR hc
  have hp := p12 h12
  have hl := thR_lt p q v
  have hb2 := xor_le1 hb (pty_le (v &&& o))
  have e1 : isRu R.1 (nI v) (nI b) = true := isRu_I hR.2.1 h0 (by rw [hc]; exact hv) hb
  have e2 : isRu (trR p q o R).1 (nI (thR p q v)) (nI (b ^^^ pty (v &&& o))) = true := isRu_I hR.2.1 (th_pos hv h0) (by show _ < 2 ^ R.1; rw [hc]; exact hl) hb2
  unfold r_tell n_tell
  rw [if_pos e1, if_pos e2, tN_I (by omega), tN_I (by omega), tN_I (by omega), tN_I (by omega)]
  by_cases e : R.2.1 = 20
  · rw [if_pos (show (trR p q o R).2.1 = 20 from e), if_pos e, if_neg (fun z => z.2 e), if_neg (fun z => z.2 e)]
    exact ⟨rfl, rfl⟩
  · rw [if_neg (show ¬ (trR p q o R).2.1 = 20 from e), if_neg e, if_pos ⟨e2, e⟩, if_pos ⟨e1, e⟩, tr_push, tr_app _ rfl]
    exact ⟨congrArg nI (tw_stt (tr_tw hR hc) (Nat.le_refl _) hv), rfl⟩
theorem hasP_o {n a : Nat} (h : n ≤ a) (ha : a < 2147483648) : ¬ hasP n (nI a) = true := hasP_f (by rw [nI_toInt ha]; omega)
theorem a_drop (hR : RowOK R) {i : Nat} (hi : i ≤ R.2.1) : r_drop (trR p q o R) (nI i) = r_drop R (nI i) ∧ n_drop (trR p q o R) (trH p q o h) (nI i) = (trR p q o (n_drop R h (nI i)).1, trH p q o (n_drop R h (nI i)).2) := by
  have h20 := hR.2.2.1
  refine ⟨rfl, ?_⟩
  unfold n_drop
  by_cases e : i < R.2.1
  · have e1 : hasP R.2.1 (nI i) = true := hasP_I e (by omega)
    rw [if_pos (show hasP (trR p q o R).2.1 (nI i) = true from e1), if_pos e1, tN_I (by omega), tr_push, tr_dr e]
  · have e1 : ¬ hasP R.2.1 (nI i) = true := hasP_o (by omega) (by omega)
    rw [if_neg (show ¬ hasP (trR p q o R).2.1 (nI i) = true from e1), if_neg e1]
theorem mc_tr (hR : RowOK R) (hc : R.1 = p + q) {i k : Nat} (hi : i < R.2.1) (hk : k < R.2.1) : mcS (trR p q o R) i k = mcS R i k := smF_cong R.2.1 (fun j hj => by
  obtain ⟨j', a, b⟩ := car_in R.2.1 i k j hi hk hj
  rw [tr_mv hi hk, tr_st (mv_ok hR hi hk) (show (mvR R i k).1 = p + q from hc) hj, b, b, tr_st hR hc a])
theorem a_move (hR : RowOK R) (hc : R.1 = p + q) {i k : Nat} (hi : i ≤ R.2.1) (hk : k ≤ R.2.1) : r_move (trR p q o R) (nI i) (nI k) = r_move R (nI i) (nI k) ∧ n_move (trR p q o R) (trH p q o h) (nI i) (nI k) = (trR p q o (n_move R h (nI i) (nI k)).1, trH p q o (n_move R h (nI i) (nI k)).2) := by
  have h20 := hR.2.2.1
  unfold r_move n_move
  by_cases e : i < R.2.1 ∧ k < R.2.1
  · have e1 : hasP R.2.1 (nI i) = true ∧ hasP R.2.1 (nI k) = true := ⟨hasP_I e.1 (by omega), hasP_I e.2 (by omega)⟩
    have e2 : hasP (trR p q o R).2.1 (nI i) = true ∧ hasP (trR p q o R).2.1 (nI k) = true := e1
    rw [if_pos e1, if_pos e2, if_pos e1, if_pos e2, tN_I (by omega), tN_I (by omega), tr_push, tr_mv e.1 e.2, mc_tr hR hc e.1 e.2]
    exact ⟨rfl, rfl⟩
  · have e1 : ¬ (hasP R.2.1 (nI i) = true ∧ hasP R.2.1 (nI k) = true) := fun z => e ⟨by
      rcases Nat.lt_or_ge i R.2.1 with c | c
      · exact c
      · exact absurd z.1 (hasP_o c (by omega)), by
      rcases Nat.lt_or_ge k R.2.1 with c | c
      · exact c
      · exact absurd z.2 (hasP_o c (by omega))⟩
    have e2 : ¬ (hasP (trR p q o R).2.1 (nI i) = true ∧ hasP (trR p q o R).2.1 (nI k) = true) := e1
    rw [if_neg e1, if_neg e2, if_neg e1, if_neg e2]
    exact ⟨rfl, rfl⟩
theorem a_turn (hR : RowOK R) (hc : R.1 = p + q) {i : Nat} (hi : i ≤ R.2.1) : r_turn (trR p q o R) (nI i) = r_turn R (nI i) ∧ n_turn (trR p q o R) (trH p q o h) (nI i) = (trR p q o (n_turn R h (nI i)).1, trH p q o (n_turn R h (nI i)).2) := by
  have h20 := hR.2.2.1
  unfold r_turn n_turn
  by_cases e : i < R.2.1
  · have e1 : hasP R.2.1 (nI i) = true := hasP_I e (by omega)
    have e2 : hasP (trR p q o R).2.1 (nI i) = true := e1
    rw [if_pos e1, if_pos e2, if_pos e1, if_pos e2, tN_I (by omega), tr_push, tr_tu hR e, tr_st (tu_ok hR) (show (tuR R i).1 = p + q from hc) (show i < (tuR R i).2.1 from e)]
    exact ⟨rfl, rfl⟩
  · have e1 : ¬ hasP R.2.1 (nI i) = true := hasP_o (by omega) (by omega)
    have e2 : ¬ hasP (trR p q o R).2.1 (nI i) = true := e1
    rw [if_neg e1, if_neg e2, if_neg e1, if_neg e2]
    exact ⟨rfl, rfl⟩
theorem a_undo : r_undo (trH p q o h) = r_undo h ∧ n_undo (trR p q o R) (trH p q o h) = (trR p q o (n_undo R h).1, trH p q o (n_undo R h).2) := by
  refine ⟨rfl, ?_⟩
  unfold n_undo
  by_cases e : h.1 = 0
  · rw [if_pos (show (trH p q o h).1 = 0 from e), if_pos e]
  · rw [if_neg (show ¬ (trH p q o h).1 = 0 from e), if_neg e, tr_pop]
    rfl
/-- a turn exchanges FOLLOWS and AGAINST -/
theorem turn_st (hR : RowOK R) {i : Nat} (hi : i < R.2.1) : stS (tuR R i) i = if stS R i = 0 then 0 else 3 - stS R i := by
  have e1 : stS (tuR R i) i = stt R.2.2.1 R.2.2.2 i (R.2.2.1 i) (1 - R.2.2.2 i) := by
    have h1 : stS (tuR R i) i = stt R.2.2.1 (pu R.2.2.2 i (1 - R.2.2.2 i)) i (R.2.2.1 i) (pu R.2.2.2 i (1 - R.2.2.2 i) i) := stS_mk hi
    rw [h1, pu_s]
    exact stt_cong (fun j hj => rfl) (fun j hj => pu_n (by omega))
  have e2 : stS R i = stt R.2.2.1 R.2.2.2 i (R.2.2.1 i) (R.2.2.2 i) := rfl
  rw [e1, e2]
  by_cases hs : spn R.2.2.1 i (kp R.2.2.1 i) (R.2.2.1 i)
  · rw [stt_n hs, stt_n hs]
    have h3 := cmb_le1 (g := R.2.2.2) (n := i) (fun j hj => (hR.2.2.2 j (by omega)).2.2) (rsn R.2.2.1 i (R.2.2.1 i))
    have h4 := (hR.2.2.2 i hi).2.2
    by_cases c : cmb R.2.2.2 i (rsn R.2.2.1 i (R.2.2.1 i)) = R.2.2.2 i
    · rw [if_pos c, if_neg (by omega)]
      rfl
    · rw [if_neg c, if_pos (by omega)]
      rfl
  · rw [stt_k hs, stt_k hs, if_pos rfl]
/-! the number of choices stays -/
def LM (w : Nat) (R : RT) (h : HT) : Prop := R.1 = w ∧ 1 ≤ h.1 ∧ ∀ k, 1 ≤ k → k < h.1 → (h.2 k).1 = w
theorem lm_push {w : Nat} {R2 : RT} (hL : LM w R h) (h2 : R2.1 = w) : LM w R2 (pushH h R) := by
  obtain ⟨h1, h3, h4⟩ := hL
  unfold pushH
  by_cases e : h.1 < 6
  · rw [if_pos e]
    refine ⟨h2, by show 1 ≤ h.1 + 1; omega, fun k hk hk2 => ?_⟩
    have hk2 : k < h.1 + 1 := hk2
    show (if k = h.1 then R else h.2 k).1 = w
    by_cases d : k = h.1
    · rw [if_pos d]; exact h1
    · rw [if_neg d]; exact h4 k hk (by omega)
  · rw [if_neg e]
    refine ⟨h2, by show 1 ≤ 6; omega, fun k hk hk2 => ?_⟩
    have hk2 : k < 6 := hk2
    show (if k = 5 then R else h.2 (k + 1)).1 = w
    by_cases d : k = 5
    · rw [if_pos d]; exact h1
    · rw [if_neg d]; exact h4 (k + 1) (by omega) (by omega)
theorem lm_tell {w : Nat} {x y : Int32} (hL : LM w R h) : LM w (n_tell R h x y).1 (n_tell R h x y).2 := by
  unfold n_tell
  split
  · exact lm_push hL hL.1
  · exact hL
theorem lm_drop {w : Nat} {x : Int32} (hL : LM w R h) : LM w (n_drop R h x).1 (n_drop R h x).2 := by
  unfold n_drop
  split
  · exact lm_push hL hL.1
  · exact hL
theorem lm_move {w : Nat} {x y : Int32} (hL : LM w R h) : LM w (n_move R h x y).1 (n_move R h x y).2 := by
  unfold n_move
  split
  · exact lm_push hL hL.1
  · exact hL
theorem lm_turn {w : Nat} {x : Int32} (hL : LM w R h) : LM w (n_turn R h x).1 (n_turn R h x).2 := by
  unfold n_turn
  split
  · exact lm_push hL hL.1
  · exact hL
theorem lm_undo {w : Nat} (hL : LM w R h) (h2 : 2 ≤ h.1) : LM w (n_undo R h).1 (n_undo R h).2 := by
  obtain ⟨h1, h3, h4⟩ := hL
  unfold n_undo
  rw [if_neg (by omega)]
  refine ⟨h4 (h.1 - 1) (by omega) (by omega), by show 1 ≤ h.1 - 1; omega, fun k hk hk2 => ?_⟩
  have hk2 : k < h.1 - 1 := hk2
  show (if k < h.1 - 1 then h.2 k else R0).1 = w
  rw [if_pos hk2]
  exact h4 k hk (by omega)
end ST
