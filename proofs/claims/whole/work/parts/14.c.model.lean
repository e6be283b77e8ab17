/-! the model reads a text -/
def FA (f0 g0 pad : Nat → Nat) (len sp : Nat) (y : Nat × (Nat → Nat) × (Nat → Nat)) : Prop := (sp < len ∧ ∃ x, runP f0 g0 pad sp = some x ∧ cst x (pad sp) = none) ∨ (sp = len ∧ ∃ x, runP f0 g0 pad len = some x ∧ x.1 ≠ 3 ∧ x.2.2.2.2 = y)
theorem fa_ft {f0 g0 pad f g : Nat → Nat} {len sp m : Nat} (h : FA f0 g0 pad len sp (m, f, g)) : FT f0 g0 pad len (nI sp) m f g := by
  rcases h with ⟨h1, x, h2, h3⟩ | ⟨rfl, x, h2, h3, h4⟩
  · exact Or.inl ⟨sp, x, h1, h2, h3, rfl⟩
  · exact Or.inr ⟨x, h2, (if_neg h3).symm, h4⟩
section
variable {f0 g0 pad : Nat → Nat} {len sp k h set : Nat} {y : Nat × (Nat → Nat) × (Nat → Nat)}
theorem ch0_f (hR : runP f0 g0 pad sp = some (0, k, h, set, y)) (hs : sp ≤ len) (hc : sp < len → ¬ (48 ≤ pad sp ∧ pad sp ≤ 57 ∧ k ≤ topc (pad sp - 48))) : FA f0 g0 pad len sp y := by
  rcases Nat.lt_or_ge sp len with c | c
  · refine Or.inl ⟨c, _, hR, ?_⟩
    show cst0 (0, k, h, set, y) (pad sp) = none
    exact if_neg (hc c)
  · have e : sp = len := by omega
    subst e
    exact Or.inr ⟨rfl, _, hR, by show (0 : Nat) ≠ 3; omega, rfl⟩
theorem ch0_t (hR : runP f0 g0 pad sp = some (0, k, h, set, y)) (h1 : 48 ≤ pad sp ∧ pad sp ≤ 57) (h2 : k ≤ topc (pad sp - 48)) : runP f0 g0 pad (sp + 1) = some (1, k, pad sp - 48, set, y) := by
  rw [runP_s hR]
  show cst0 (0, k, h, set, y) (pad sp) = _
  exact if_pos ⟨h1.1, h1.2, h2⟩
theorem tpc_1 {a : Nat} (h1 : a = 1) (h2 : k ≤ 11) : k ≤ topc a := by unfold topc; rw [if_pos h1]; exact h2
theorem tpc_2 {a : Nat} (h1 : ¬ a = 1) (h2 : k ≤ a) : k ≤ topc a := by unfold topc; rw [if_neg h1]; exact h2
theorem tpc_n {a : Nat} (h : k ≤ topc a) : (a = 1 ∧ k ≤ 11) ∨ (¬ a = 1 ∧ k ≤ a) := by
  unfold topc at h
  split at h
  · rename_i q; exact Or.inl ⟨q, h⟩
  · rename_i q; exact Or.inr ⟨q, h⟩
theorem ch1_t (hR : runP f0 g0 pad sp = some (1, k, h, set, y)) (h1 : h = 1) (h2 : pad sp = 48 ∨ pad sp = 49) (h3 : k ≤ 10 + pad sp - 48) : runP f0 g0 pad (sp + 1) = some (1, k, 10 + pad sp - 48, set, y) := by
  rw [runP_s hR]
  show cst1 (1, k, h, set, y) (pad sp) = _
  unfold cst1
  rw [if_pos ⟨h1, h2⟩]
  exact if_pos h3
theorem ch1_f1 (hR : runP f0 g0 pad sp = some (1, k, h, set, y)) (hs : sp < len) (h1 : h = 1) (h2 : pad sp = 48 ∨ pad sp = 49) (h3 : ¬ k ≤ 10 + pad sp - 48) : FA f0 g0 pad len sp y := by
  refine Or.inl ⟨hs, _, hR, ?_⟩
  show cst1 (1, k, h, set, y) (pad sp) = none
  unfold cst1
  rw [if_pos ⟨h1, h2⟩]
  exact if_neg h3
theorem ch1_f2 (hR : runP f0 g0 pad sp = some (1, k, h, set, y)) (hs : sp ≤ len) (hn : sp < len → ¬ (h = 1 ∧ (pad sp = 48 ∨ pad sp = 49))) (h3 : sp < len → ¬ ((pad sp = 61 ∨ pad sp = 43 ∧ h < 11) ∧ k ≤ h)) : FA f0 g0 pad len sp y := by
  rcases Nat.lt_or_ge sp len with c | c
  · refine Or.inl ⟨c, _, hR, ?_⟩
    show cst1 (1, k, h, set, y) (pad sp) = none
    unfold cst1
    rw [if_neg (hn c)]
    exact if_neg (h3 c)
  · have e : sp = len := by omega
    subst e
    exact Or.inr ⟨rfl, _, hR, by show (1 : Nat) ≠ 3; omega, rfl⟩
theorem ch1_p (hR : runP f0 g0 pad sp = some (1, k, h, set, y)) (h1 : pad sp = 43) (h2 : h < 11) (h3 : k ≤ h) : runP f0 g0 pad (sp + 1) = some (0, h + 1, h, set ||| 1 <<< h, y) := by
  rw [runP_s hR]
  show cst1 (1, k, h, set, y) (pad sp) = _
  unfold cst1
  rw [if_neg (by rw [h1]; omega), if_pos ⟨Or.inr ⟨h1, h2⟩, h3⟩, if_pos h1]
theorem ch1_q (hR : runP f0 g0 pad sp = some (1, k, h, set, y)) (h1 : pad sp = 61) (h3 : k ≤ h) : runP f0 g0 pad (sp + 1) = some (2, h + 1, h, set ||| 1 <<< h, y) := by
  rw [runP_s hR]
  show cst1 (1, k, h, set, y) (pad sp) = _
  unfold cst1
  rw [if_neg (by rw [h1]; omega), if_pos ⟨Or.inl h1, h3⟩, if_neg (by rw [h1]; omega)]
theorem ch2_f (hR : runP f0 g0 pad sp = some (2, k, h, set, y)) (hs : sp ≤ len) (hc : sp < len → ¬ (48 ≤ pad sp ∧ pad sp ≤ 49)) : FA f0 g0 pad len sp y := by
  rcases Nat.lt_or_ge sp len with c | c
  · refine Or.inl ⟨c, _, hR, ?_⟩
    show cst2 (2, k, h, set, y) (pad sp) = none
    exact if_neg (fun z => hc c (by omega))
  · have e : sp = len := by omega
    subst e
    exact Or.inr ⟨rfl, _, hR, by show (2 : Nat) ≠ 3; omega, rfl⟩
theorem ch2_t {m : Nat} {f g : Nat → Nat} (hR : runP f0 g0 pad sp = some (2, k, h, set, m, f, g)) (hc : 48 ≤ pad sp ∧ pad sp ≤ 49) : runP f0 g0 pad (sp + 1) = some (3, k, h, set, m + 1, pu f m set, pu g m (pad sp - 48)) := by
  rw [runP_s hR]
  show cst2 (2, k, h, set, m, f, g) (pad sp) = _
  exact if_pos (by omega)
theorem ch3_t (hR : runP f0 g0 pad sp = some (3, k, h, set, y)) (hc : pad sp = 59) : runP f0 g0 pad (sp + 1) = some (0, 0, h, 0, y) := by
  rw [runP_s hR]
  show cst3 (3, k, h, set, y) (pad sp) = _
  exact if_pos hc
theorem ch3_e {m : Nat} {f g : Nat → Nat} (hR : runP f0 g0 pad sp = some (3, k, h, set, m, f, g)) (e : sp = len) : FT f0 g0 pad len (-6) m f g := by
  subst e
  exact Or.inr ⟨_, hR, (if_pos rfl).symm, rfl⟩
theorem ch3_n {m : Nat} {f g : Nat → Nat} (hR : runP f0 g0 pad sp = some (3, k, h, set, m, f, g)) (hs : sp < len) (hc : ¬ pad sp = 59) : FT f0 g0 pad len (nI sp) m f g := by
  refine Or.inl ⟨sp, _, hs, hR, ?_, rfl⟩
  show cst3 (3, k, h, set, m, f, g) (pad sp) = none
  exact if_neg hc
theorem ch3_b {sp2 : Nat} (hR : runP f0 g0 pad sp = some (3, k, h, set, y)) (hw : (sp < len ∧ pad sp = 59 → sp2 = sp + 1) ∧ (¬ (sp < len ∧ pad sp = 59) → sp2 = sp)) : (bN (decide (sp < len ∧ pad sp = 59)) = 1 ∧ runP f0 g0 pad sp2 = some (0, 0, h, 0, y)) ∨ (bN (decide (sp < len ∧ pad sp = 59)) = 0 ∧ (∃ k s, runP f0 g0 pad sp2 = some (3, k, h, s, y)) ∧ ¬ (sp2 < len ∧ pad sp2 = 59)) := by
  by_cases c : sp < len ∧ pad sp = 59
  · rw [bN_t c, hw.1 c]
    exact Or.inl ⟨rfl, ch3_t hR c.2⟩
  · rw [bN_f c, hw.2 c]
    exact Or.inr ⟨rfl, ⟨k, set, hR⟩, c⟩
theorem hm_20 {m i : Nat} {f g : Nat → Nat} (hR : runP f0 g0 pad i = some (2, k, h, set, m, f, g)) (hi : i ≤ 80) : m < 20 ∧ set < 4096 := by
  obtain ⟨-, -, -, v4, v5, -⟩ := pinv_run hR
  dsimp only at v4 v5
  omega
end
/-! the model's rows that are read -/
def RI (al f g al3 : Nat → Nat) (i : Nat) : Prop := al3 0 = al 0 ∧ al3 1 = al 1 + i ∧ (∀ j, j < al 1 + i → al3 (2 + j) = if j < al 1 then al (2 + j) else f (j - al 1)) ∧ ∀ j, j < al 1 + i → al3 (22 + j) = if j < al 1 then al (22 + j) else g (j - al 1)
theorem ri_0 {al f g : Nat → Nat} : RI al f g al 0 := ⟨rfl, rfl, fun j hj => (if_pos (by omega)).symm, fun j hj => (if_pos (by omega)).symm⟩
theorem ri_s {al f g al3 : Nat → Nat} {i : Nat} (h : RI al f g al3 i) (hn : al 1 + i < 20) : RI al f g (pu (pu (pu al3 (2 + al3 1) (f i)) (22 + al3 1) (g i)) 1 (al3 1 + 1)) (i + 1) := by
  obtain ⟨h0, h1, h2, h3⟩ := h
  rw [h1]
  refine ⟨?_, pu_s, fun j hj => ?_, fun j hj => ?_⟩
  · rw [pu_n (by omega), pu_n (by omega), pu_n (by omega)]; exact h0
  · rw [pu_n (by omega), pu_n (by omega)]
    by_cases e : j = al 1 + i
    · subst e
      rw [pu_s, if_neg (by omega), show al 1 + i - al 1 = i by omega]
    · rw [pu_n (by omega)]
      exact h2 j (by omega)
  · rw [pu_n (by omega)]
    by_cases e : j = al 1 + i
    · subst e
      rw [pu_s, if_neg (by omega), show al 1 + i - al 1 = i by omega]
    · rw [pu_n (by omega), pu_n (by omega)]
      exact h3 j (by omega)
theorem mrd_3 {al f g al3 : Nat → Nat} {m pl : Nat} {h : HT} {pc : Nat → Nat} (e : (ftX pl pc).1 = -6) (eP : mkR 0 m f g = (ftX pl pc).2) (hb : ∀ j, j < m → f j >>> al 0 = 0) (hm : al 1 + m ≤ 20) (hA : RI al f g al3 m) : nI (al3 1) = r_read (mR al) pl pc ∧ ((mR al3, pushH h (mR al)), 0, nrm 0 pc) = n_read (mR al) h pl pc := by
  obtain ⟨q1, q2⟩ := rd_3 (c := al 0) (n := al 1) (f := fun j => al (2 + j)) (g := fun j => al (22 + j)) (f3 := fun j => al3 (2 + j)) (g3 := fun j => al3 (22 + j)) (t := al3 1) (h := h) e eP hb hm hA.2.1 (fun j hj => hA.2.2.1 j (by rw [← hA.2.1]; exact hj)) (fun j hj => hA.2.2.2 j (by rw [← hA.2.1]; exact hj))
  refine ⟨q1, Eq.trans ?_ q2⟩
  show ((mkR (al3 0) (al3 1) _ _, _), _) = _
  rw [hA.1]
  rfl
theorem cin_00 {w : Nat} (h : byt w 0 = 0) : cin w = 0 := by
  by_cases e : w = 0
  · subst e
    exact cin_eq ⟨Nat.zero_le _, fun k hk => absurd hk (Nat.not_lt_zero _), Nat.zero_shiftRight _⟩
  · exact cin_left (m := 0) (Or.inr h) e
