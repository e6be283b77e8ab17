/-! the calls: what each answers and what it leaves -/
noncomputable def r_choices (R : RT) (x : Int32) : Int32 := if 1 ≤ x.toInt ∧ x.toInt ≤ 12 then (if belR R (tN x) = true then nI R.1 else -5) else -2
def n_choices (R : RT) (h : HT) (x : Int32) : RT × HT := if (1 ≤ x.toInt ∧ x.toInt ≤ 12) ∧ belR R (tN x) = true then ((tN x, R.2), pushH h R) else (R, h)
noncomputable def r_tell (R : RT) (x y : Int32) : Int32 := if isRu R.1 x y = true then (if R.2.1 = 20 then -4 else nI (stt R.2.2.1 R.2.2.2 R.2.1 (tN x) (tN y))) else -2
def n_tell (R : RT) (h : HT) (x y : Int32) : RT × HT := if isRu R.1 x y = true ∧ ¬ R.2.1 = 20 then (appR R (tN x) (tN y), pushH h R) else (R, h)
def r_drop (R : RT) (x : Int32) : Int32 := if hasP R.2.1 x = true then nI (R.2.1 - 1) else -1
def n_drop (R : RT) (h : HT) (x : Int32) : RT × HT := if hasP R.2.1 x = true then (drR R (tN x), pushH h R) else (R, h)
noncomputable def mcS (R : RT) (i k : Nat) : Nat := smF (fun p => if stS (mvR R i k) p = carF (stS R) i k p then 0 else 1) R.2.1
noncomputable def r_move (R : RT) (x y : Int32) : Int32 := if hasP R.2.1 x = true ∧ hasP R.2.1 y = true then nI (mcS R (tN x) (tN y)) else -1
def n_move (R : RT) (h : HT) (x y : Int32) : RT × HT := if hasP R.2.1 x = true ∧ hasP R.2.1 y = true then (mvR R (tN x) (tN y), pushH h R) else (R, h)
noncomputable def r_turn (R : RT) (x : Int32) : Int32 := if hasP R.2.1 x = true then nI (stS (tuR R (tN x)) (tN x)) else -1
def n_turn (R : RT) (h : HT) (x : Int32) : RT × HT := if hasP R.2.1 x = true then (tuR R (tN x), pushH h R) else (R, h)
noncomputable def rwS (R : RT) (b : Nat) : Nat := smF (fun j => if ¬ stS R j = 0 ∧ (rsS R j).testBit b = true then 1 else 0) R.2.1
noncomputable def ruF (R : RT) (i : Nat) (y : Int32) : Int32 := if y = nI 0 then nI (R.2.2.1 i) else if y = nI 1 then nI (R.2.2.2 i) else if y = nI 2 then nI (stS R i) else if y = nI 3 then (if stS R i = 0 then -6 else nI (rsS R i)) else if y = nI 4 then nI (rwS R i) else if y = nI 5 then (if stS R i = 2 then nI 0 else nI (naS R)) else -2
noncomputable def r_rule (R : RT) (x y : Int32) : Int32 := if hasP R.2.1 x = true then ruF R (tN x) y else -1
noncomputable def chF (R : RT) (a : Nat) (y : Int32) : Int32 := if y = nI 0 then knS R (1 <<< a) else if y = nI 1 then nI (smF (fun j => R.2.2.1 j >>> a &&& 1) R.2.1) else if y = nI 2 then nI (boS R a) else -2
noncomputable def r_choice (R : RT) (x y : Int32) : Int32 := if hasP R.1 x = true then chF R (tN x) y else -1
noncomputable def r_count (R : RT) (q pl : Nat) (y : Int32) : Int32 := if y = nI 0 then nI R.2.1 else if y = nI 1 then nI (ctS R 0) else if y = nI 2 then nI (ctS R 1) else if y = nI 3 then nI (ctS R 2) else if y = nI 4 then nI (naS R) else if y = nI 5 then nI (seS R) else if y = nI 6 then nI R.1 else if y = nI 7 then nI pl else if y = nI 8 then nI q else -2
noncomputable def r_answer (R : RT) (x : Int32) : Int32 := if hasP (naS R) x = true then nI (anS R (tN x)) else -1
noncomputable def r_known (R : RT) (x : Int32) : Int32 := if hasP (2 ^ R.1) x = true then knS R (tN x) else -2
noncomputable def r_nearest (R : RT) (x y : Int32) : Int32 := if hasP (2 ^ R.1) x = true then (if y = nI 0 then nI (neS R (tN x)) else if y = nI 1 then nI (pcn (neS R (tN x) ^^^ tN x)) else -2) else -2
noncomputable def r_best (R : RT) (y : Int32) : Int32 := if y = nI 0 then nI (brS R).1 else if y = nI 1 then nI (brS R).2.1 else if y = nI 2 then nI (brS R).2.2 else -2
noncomputable def r_ifTold (R : RT) (x y : Int32) : Int32 := if isRu R.1 x y = true then nI (stt R.2.2.1 R.2.2.2 R.2.1 (tN x) (tN y)) else -2
noncomputable def r_ifDropped (R : RT) (x : Int32) : Int32 := if hasP R.2.1 x = true then nI (naS (drR R (tN x))) else -1
noncomputable def r_ifMoved (R : RT) (x y : Int32) : Int32 := if hasP R.2.1 x = true ∧ hasP R.2.1 y = true then nI (ctS (mvR R (tN x) (tN y)) 2) else -1
def r_undo (h : HT) : Int32 := if h.1 = 0 then -5 else nI (h.1 - 1)
def n_undo (R : RT) (h : HT) : RT × HT := if h.1 = 0 then (R, h) else (h.2 (h.1 - 1), popH h)
def absS (sd yc yn : Nat → Nat) (yf yg : Nat → Nat → Nat) : Nat → RT := fun k => if k < 2 ∧ ¬ sd k = 0 then mkR (yc k) (yn k) (yf k) (yg k) else R0
def r_save (R : RT) (x : Int32) : Int32 := if hasP 2 x = true then nI R.2.1 else -2
def n_save (R : RT) (Z : Nat → RT) (x : Int32) : Nat → RT := if hasP 2 x = true then (fun k => if k = tN x then R else Z k) else Z
def r_restore (Z : Nat → RT) (x : Int32) : Int32 := if hasP 2 x = true then (if (Z (tN x)).1 = 0 then -5 else nI (Z (tN x)).2.1) else -2
def n_restore (R : RT) (h : HT) (Z : Nat → RT) (x : Int32) : RT × HT := if hasP 2 x = true ∧ ¬ (Z (tN x)).1 = 0 then (Z (tN x), pushH h R) else (R, h)
/-! numbers that choose -/
theorem y_out {y : Int32} {m k : Nat} (h : y.toInt < 0 ∨ (m : Int) < y.toInt) (hk : k ≤ m) (hm : m ≤ 8) : ¬ y = nI k := by
  intro e
  rw [e, nI_toInt (by omega)] at h
  omega
theorem y_in {y : Int32} {m : Nat} (h : ¬ (y.toInt < 0 ∨ (m : Int) < y.toInt)) : ∃ k, k ≤ m ∧ y = nI k := by
  obtain ⟨k, h1, h2, h3⟩ := z_of (x := y) (by omega)
  exact ⟨k, by omega, h2⟩
theorem y2 (y : Int32) : y = nI 0 ∨ y = nI 1 ∨ y = nI 2 ∨ (y.toInt < 0 ∨ (2 : Int) < y.toInt) := by
  by_cases h : y.toInt < 0 ∨ ((2 : Nat) : Int) < y.toInt
  · exact Or.inr (Or.inr (Or.inr h))
  · obtain ⟨k, h1, rfl⟩ := y_in h
    have h6 : k = 0 ∨ k = 1 ∨ k = 2 := by omega
    rcases h6 with e | e | e <;> subst e <;> simp
theorem y5 (y : Int32) : y = nI 0 ∨ y = nI 1 ∨ y = nI 2 ∨ y = nI 3 ∨ y = nI 4 ∨ y = nI 5 ∨ (y.toInt < 0 ∨ (5 : Int) < y.toInt) := by
  by_cases h : y.toInt < 0 ∨ ((5 : Nat) : Int) < y.toInt
  · exact Or.inr (Or.inr (Or.inr (Or.inr (Or.inr (Or.inr h)))))
  · obtain ⟨k, h1, rfl⟩ := y_in h
    have h6 : k = 0 ∨ k = 1 ∨ k = 2 ∨ k = 3 ∨ k = 4 ∨ k = 5 := by omega
    rcases h6 with e | e | e | e | e | e <;> subst e <;> simp
theorem y8 (y : Int32) : y = nI 0 ∨ y = nI 1 ∨ y = nI 2 ∨ y = nI 3 ∨ y = nI 4 ∨ y = nI 5 ∨ y = nI 6 ∨ y = nI 7 ∨ y = nI 8 ∨ (y.toInt < 0 ∨ (8 : Int) < y.toInt) := by
  by_cases h : y.toInt < 0 ∨ ((8 : Nat) : Int) < y.toInt
  · exact Or.inr (Or.inr (Or.inr (Or.inr (Or.inr (Or.inr (Or.inr (Or.inr (Or.inr h))))))))
  · obtain ⟨k, h1, rfl⟩ := y_in h
    have h6 : k = 0 ∨ k = 1 ∨ k = 2 ∨ k = 3 ∨ k = 4 ∨ k = 5 ∨ k = 6 ∨ k = 7 ∨ k = 8 := by omega
    rcases h6 with e | e | e | e | e | e | e | e | e <;> subst e <;> simp
/-! what the calls leave is in order -/
def TabOK (R : RT) (h : HT) : Prop := RowOK R ∧ h.1 ≤ 6 ∧ ∀ k, k < h.1 → RowOK (h.2 k)
theorem push_ok {R R2 : RT} {h : HT} (hT : TabOK R h) (h2 : RowOK R2) : TabOK R2 (pushH h R) := by
  obtain ⟨a, b, d⟩ := hT
  unfold pushH
  split
  · refine ⟨h2, by show h.1 + 1 ≤ 6; omega, fun k hk => ?_⟩
    show RowOK (if k = h.1 then R else h.2 k)
    split
    · exact a
    · exact d k (by have : k < h.1 + 1 := hk; omega)
  · refine ⟨h2, Nat.le_refl _, fun k hk => ?_⟩
    show RowOK (if k = 5 then R else h.2 (k + 1))
    have : k < 6 := hk
    split
    · exact a
    · exact d _ (by omega)
theorem row_f {R : RT} (h : RowOK R) : 1 ≤ R.1 ∧ R.1 ≤ 12 ∧ R.2.1 ≤ 20 := ⟨h.1, h.2.1, h.2.2.1⟩
theorem app_ok {R : RT} {a b : Nat} (h : RowOK R) (hn : R.2.1 < 20) (ha : 0 < a ∧ a < 2 ^ R.1) (hb : b ≤ 1) : RowOK (appR R a b) := by
  obtain ⟨h1, h2, h3, h4⟩ := h
  refine row_raw.mpr ⟨h1, h2, by omega, fun j hj => ?_⟩
  by_cases e : j = R.2.1
  · rw [e, pu_s, pu_s]
    exact ⟨ha.1, ha.2, hb⟩
  · rw [pu_n e, pu_n e]
    exact h4 j (by omega)
theorem car_in (n i k j : Nat) (hi : i < n) (hk : k < n) (hj : j < n) : ∃ j', j' < n ∧ ∀ {α : Type} (f : Nat → α), carF f i k j = f j' := by
  unfold carF
  by_cases e : j = k
  · exact ⟨i, hi, fun f => if_pos e⟩
  · by_cases d : i ≤ j ∧ j < k
    · exact ⟨j + 1, by omega, fun f => by rw [if_neg e, if_pos d]⟩
    · by_cases b : k < j ∧ j ≤ i
      · exact ⟨j - 1, by omega, fun f => by rw [if_neg e, if_neg d, if_pos b]⟩
      · exact ⟨j, hj, fun f => by rw [if_neg e, if_neg d, if_neg b]⟩
theorem mv_ok {R : RT} {i k : Nat} (h : RowOK R) (hi : i < R.2.1) (hk : k < R.2.1) : RowOK (mvR R i k) := by
  obtain ⟨h1, h2, h3, h4⟩ := h
  refine row_raw.mpr ⟨h1, h2, h3, fun j hj => ?_⟩
  obtain ⟨j', a, b⟩ := car_in _ i k j hi hk hj
  rw [b, b]
  exact h4 j' a
theorem dr_ok {R : RT} {i : Nat} (h : RowOK R) (hi : i < R.2.1) : RowOK (drR R i) := by
  obtain ⟨h1, h2, h3, h4⟩ := h
  refine row_raw.mpr ⟨h1, h2, by omega, fun j hj => ?_⟩
  obtain ⟨j', a, b⟩ := car_in R.2.1 i (R.2.1 - 1) j hi (by omega) (by omega)
  rw [b, b]
  exact h4 j' a
theorem tu_ok {R : RT} {i : Nat} (h : RowOK R) : RowOK (tuR R i) := by
  obtain ⟨h1, h2, h3, h4⟩ := h
  refine row_raw.mpr ⟨h1, h2, h3, fun j hj => ⟨(h4 j hj).1, (h4 j hj).2.1, ?_⟩⟩
  by_cases e : j = i
  · rw [e, pu_s]; omega
  · rw [pu_n e]
    exact (h4 j hj).2.2
theorem tN_lt {n : Nat} {x : Int32} (h : hasP n x = true) : tN x < n := by
  have := of_decide_eq_true h
  unfold tN
  omega
theorem tab_choices {R : RT} {h : HT} {x : Int32} (hT : TabOK R h) : TabOK (n_choices R h x).1 (n_choices R h x).2 := by
  unfold n_choices
  split
  · rename_i q
    refine push_ok hT ?_
    obtain ⟨⟨h1, h2, h3, h4⟩, -⟩ := hT
    have hb := of_decide_eq_true q.2
    have hx : 1 ≤ tN x ∧ tN x ≤ 12 := by unfold tN; omega
    exact ⟨hx.1, hx.2, h3, fun j hj => ⟨(h4 j hj).1, shr_bel.mp (hb j hj), (h4 j hj).2.2⟩⟩
  · exact hT
theorem tab_tell {R : RT} {h : HT} {x y : Int32} (hT : TabOK R h) : TabOK (n_tell R h x y).1 (n_tell R h x y).2 := by
  unfold n_tell
  split
  · rename_i q
    have hc := row_f hT.1
    obtain ⟨a, b, h1, h2, h3, rfl, rfl⟩ := isRu_t q.1 hc.2.1
    have := p12 hc.2.1
    rw [tN_I (by omega), tN_I (by omega)]
    exact push_ok hT (app_ok hT.1 (by have := q.2; omega) ⟨h1, h2⟩ h3)
  · exact hT
theorem tab_drop {R : RT} {h : HT} {x : Int32} (hT : TabOK R h) : TabOK (n_drop R h x).1 (n_drop R h x).2 := by
  unfold n_drop
  split
  · rename_i q
    exact push_ok hT (dr_ok hT.1 (tN_lt q))
  · exact hT
theorem tab_move {R : RT} {h : HT} {x y : Int32} (hT : TabOK R h) : TabOK (n_move R h x y).1 (n_move R h x y).2 := by
  unfold n_move
  split
  · rename_i q
    exact push_ok hT (mv_ok hT.1 (tN_lt q.1) (tN_lt q.2))
  · exact hT
theorem tab_turn {R : RT} {h : HT} {x : Int32} (hT : TabOK R h) : TabOK (n_turn R h x).1 (n_turn R h x).2 := by
  unfold n_turn
  split
  · exact push_ok hT (tu_ok hT.1)
  · exact hT
theorem tab_undo {R : RT} {h : HT} (hT : TabOK R h) : TabOK (n_undo R h).1 (n_undo R h).2 := by
  unfold n_undo
  split
  · exact hT
  · rename_i q
    obtain ⟨a, b, d⟩ := hT
    refine ⟨d _ (by omega), by show h.1 - 1 ≤ 6; omega, fun k hk => ?_⟩
    have hk : k < h.1 - 1 := hk
    show RowOK (if k < h.1 - 1 then h.2 k else R0)
    rw [if_pos hk]
    exact d k (by omega)
def SlOK (Z : Nat → RT) : Prop := ∀ k, ¬ (Z k).1 = 0 → k < 2 ∧ RowOK (Z k)
theorem sl_save {R : RT} {Z : Nat → RT} {x : Int32} (hR : RowOK R) (hZ : SlOK Z) : SlOK (n_save R Z x) := by
  unfold n_save
  split
  · rename_i q
    have := tN_lt q
    intro k hk
    show k < 2 ∧ RowOK (if k = tN x then R else Z k)
    by_cases e : k = tN x
    · rw [if_pos e]
      exact ⟨by omega, hR⟩
    · have hk : ¬ (if k = tN x then R else Z k).1 = 0 := hk
      rw [if_neg e] at hk ⊢
      exact hZ k hk
  · exact hZ
theorem tab_restore {R : RT} {h : HT} {Z : Nat → RT} {x : Int32} (hT : TabOK R h) (hZ : SlOK Z) : TabOK (n_restore R h Z x).1 (n_restore R h Z x).2 := by
  unfold n_restore
  split
  · rename_i q
    exact push_ok hT (hZ _ q.2).2
  · exact hT
