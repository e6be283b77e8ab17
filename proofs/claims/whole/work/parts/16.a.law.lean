/-! what the law's loop keeps: slots, texts -/
def MSOK (iv so : Nat → Nat) : Prop := (∀ k, k < 2 → so (42 * k + 1) ≤ 20) ∧ (∀ k, k < 2 → iv k ≤ 1) ∧ ∀ k, k < 2 → ¬ iv k = 0 → RowOK (mR (fun j => so (42 * k + j)))
theorem sv_ok {nc nn a : Nat} {nf ng sd yc yn : Nat → Nat} {yf yg : Nat → Nat → Nat} (hR : RowOK (mkR nc nn nf ng)) (z : SvOK sd yc yn yf yg) : SvOK (pu sd a 1) (va_up yc a nc) (va_up yn a nn) (va_up yf a nf) (va_up yg a ng) := by
  intro k hk
  by_cases e : k = a
  · subst e
    have e1 : va_up yc k nc k = nc := by simp [va_up]
    have e2 : va_up yn k nn k = nn := by simp [va_up]
    have e3 : va_up yf k nf k = nf := by simp [va_up]
    have e4 : va_up yg k ng k = ng := by simp [va_up]
    rw [pu_s, e1, e2, e3, e4]
    exact ⟨Nat.le_refl _, fun _ => hR⟩
  · have e1 : va_up yc a nc k = yc k := by simp [va_up, e]
    have e2 : va_up yn a nn k = yn k := by simp [va_up, e]
    have e3 : va_up yf a nf k = yf k := by simp [va_up, e]
    have e4 : va_up yg a ng k = yg k := by simp [va_up, e]
    rw [pu_n e, e1, e2, e3, e4]
    exact z k hk
theorem sl_sv {sd yc yn : Nat → Nat} {yf yg : Nat → Nat → Nat} (z : SvOK sd yc yn yf yg) : SlOK (absS sd yc yn yf yg) := by
  intro k hk
  unfold absS at hk ⊢
  by_cases d : k < 2 ∧ ¬ sd k = 0
  · rw [if_pos d]
    exact ⟨d.1, (z k d.1).2 d.2⟩
  · rw [if_neg d] at hk
    exact absurd rfl hk
theorem ms_ok {al iv so so2 : Nat → Nat} {a : Nat} (hR : RowOK (mR al)) (ha : a < 2) (hk : ∀ j, so2 j = if 42 * a ≤ j ∧ j < 42 * a + 42 then al (j - 42 * a) else so j) (z : MSOK iv so) : MSOK (pu iv a 1) so2 := by
  obtain ⟨z1, z2, z3⟩ := z
  have hn : al 1 ≤ 20 := (mrow hR).2.2.1
  have ht : ∀ j, j < 42 → so2 (42 * a + j) = al j := fun j hj => by rw [hk, if_pos (by omega), show 42 * a + j - 42 * a = j by omega]
  have hf : ∀ k, k < 2 → k ≠ a → ∀ j, j < 42 → so2 (42 * k + j) = so (42 * k + j) := fun k _ h j hj => by rw [hk, if_neg (by omega)]
  refine ⟨fun k hk2 => ?_, fun k hk2 => ?_, fun k hk2 h => ?_⟩
  · by_cases e : k = a
    · subst e; rw [ht 1 (by omega)]; exact hn
    · rw [hf k hk2 e 1 (by omega)]; exact z1 k hk2
  · by_cases e : k = a
    · subst e; rw [pu_s]; omega
    · rw [pu_n e]; exact z2 k hk2
  · by_cases e : k = a
    · subst e
      rw [← mR_eq (a := al) (fun j hj => (ht j hj).symm) hn]
      exact hR
    · rw [pu_n e] at h
      rw [← mR_eq (a := fun j => so (42 * k + j)) (fun j hj => (hf k hk2 e j hj).symm) (z1 k hk2)]
      exact z3 k hk2 h
theorem tab_read {R : RT} {h : HT} {pl : Nat} {pc : Nat → Nat} (hpl : pl ≤ 80) (hT : TabOK R h) : TabOK (n_read R h pl pc).1.1 (n_read R h pl pc).1.2 := by
  unfold n_read
  split
  · rename_i q
    obtain ⟨q1, q2, q3⟩ := q
    refine push_ok hT ?_
    have hk : (ftX pl pc).2.2.1 ≤ 20 ∧ ∀ j, j < (ftX pl pc).2.2.1 → 0 < (ftX pl pc).2.2.2.1 j ∧ (ftX pl pc).2.2.2.2 j ≤ 1 := by
      obtain ⟨k1, k2⟩ := ft_ok hpl (Classical.choose_spec (ftx_ex pl pc)) q1
      refine ⟨k1, fun j hj => ?_⟩
      have hj2 : j < (Classical.choose (ftx_ex pl pc)).2.1 := hj
      show 0 < nrm _ _ j ∧ nrm _ _ j ≤ 1
      rw [nrm_lt hj2, nrm_lt hj2]
      exact ⟨(k2 j hj2).1, (k2 j hj2).2.2⟩
    have hb := of_decide_eq_true q2
    obtain ⟨⟨h1, h2, h3, h4⟩, -⟩ := hT
    refine row_raw.mpr ⟨h1, h2, by omega, fun j hj => ?_⟩
    by_cases d : j < R.2.1
    · simp only [if_pos d]
      exact h4 j d
    · simp only [if_neg d]
      have hk2 := hk.2 (j - R.2.1) (by omega)
      have hb2 := hb (j - R.2.1) (by omega)
      exact ⟨hk2.1, shr_bel.mp hb2, hk2.2⟩
  · exact hT
theorem li_q {q hq : Nat} {zc zn hy : Nat → Nat} {zf zg : Nat → Nat → Nat} (h : absH q zc zn zf zg = mH hq hy) : hq = q := (congrArg (·.1) h).symm
theorem li_H {R : RT} {q : Nat} {zc zn : Nat → Nat} {zf zg : Nat → Nat → Nat} (h : TabOK R (absH q zc zn zf zg)) : ∀ k, k < q → RowOK (mkR (zc k) (zn k) (zf k) (zg k)) := by
  intro k hk
  have h2 := h.2.2 k hk
  rw [abs_at hk] at h2
  exact h2
theorem li_n {R : RT} {q hq : Nat} {zc zn hy : Nat → Nat} {zf zg : Nat → Nat → Nat} (h : TabOK R (absH q zc zn zf zg)) (e : absH q zc zn zf zg = mH hq hy) : ∀ k, k < hq → hy (42 * k + 1) ≤ 20 := by
  intro k hk
  have e2 := li_q e
  have h2 := h.2.2 k (show k < q by omega)
  rw [e] at h2
  have h3 : (mH hq hy).2 k = mR (fun j => hy (42 * k + j)) := if_pos hk
  rw [h3] at h2
  exact (mrow h2).2.2.1
theorem lw_sub3 {L : Nat} (h : L ≤ 1536) : (Int32.ofNat L - nI 3).toInt = (L : Int) - 3 := by
  rcases Nat.lt_or_ge L 3 with c | c
  · rcases (show L = 0 ∨ L = 1 ∨ L = 2 by omega) with rfl | rfl | rfl <;> decide
  · rw [show Int32.ofNat L - nI 3 = nI (L - 3) from pk_sub c, nI_toInt (by omega)]
    omega
theorem y21 (y : Int32) : y = nI 0 ∨ y = nI 1 ∨ y = nI 2 ∨ y = nI 3 ∨ y = nI 4 ∨ y = nI 5 ∨ y = nI 6 ∨ y = nI 7 ∨ y = nI 8 ∨ y = nI 9 ∨ y = nI 10 ∨ y = nI 11 ∨ y = nI 12 ∨ y = nI 13 ∨ y = nI 14 ∨ y = nI 15 ∨ y = nI 16 ∨ y = nI 17 ∨ y = nI 18 ∨ y = nI 19 ∨ y = nI 20 ∨ y = nI 21 ∨ (y.toInt < 0 ∨ (21 : Int) < y.toInt) := by
  by_cases h : y.toInt < 0 ∨ (21 : Int) < y.toInt
  · iterate 22 (apply Or.inr)
    exact h
  · obtain ⟨k, h1, rfl, h3⟩ := z_of (x := y) (by omega)
    have h6 : k = 0 ∨ k = 1 ∨ k = 2 ∨ k = 3 ∨ k = 4 ∨ k = 5 ∨ k = 6 ∨ k = 7 ∨ k = 8 ∨ k = 9 ∨ k = 10 ∨ k = 11 ∨ k = 12 ∨ k = 13 ∨ k = 14 ∨ k = 15 ∨ k = 16 ∨ k = 17 ∨ k = 18 ∨ k = 19 ∨ k = 20 ∨ k = 21 := by omega
    rcases h6 with e | e | e | e | e | e | e | e | e | e | e | e | e | e | e | e | e | e | e | e | e | e <;> subst e <;> simp
