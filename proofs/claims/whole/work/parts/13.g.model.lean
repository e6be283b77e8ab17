/-! what is asked of the judged model -/
theorem mv_st {al st re le wh : Nat → Nat} (h : MV (fun j => al (2 + j)) (fun j => al (22 + j)) (al 1) st re le wh) : ∀ i, i < al 1 → st i = stS (mR al) i := fun i hi => (h.1 i hi).trans (stS_mk (c := al 0) (f := fun j => al (2 + j)) (g := fun j => al (22 + j)) hi).symm
theorem mv_le {al st re le wh : Nat → Nat} (h : MV (fun j => al (2 + j)) (fun j => al (22 + j)) (al 1) st re le wh) {i : Nat} (hi : i < al 1) : st i ≤ 2 := by
  rw [h.1 i hi]
  exact stt_le _ _ _ _ _
theorem mv_ct {al st re le wh : Nat → Nat} (h : MV (fun j => al (2 + j)) (fun j => al (22 + j)) (al 1) st re le wh) {w : Nat} : ctF st w (al 1) = ctS (mR al) w := ctF_cong (fun i hi => mv_st h i hi)
theorem na_ct {al : Nat → Nat} (h : RowOK (mR al)) : ctS (mR al) 0 ≤ al 0 := by
  obtain ⟨h1, h2, h3, h4, h5, h6⟩ := mrow h
  obtain ⟨st, re, ta, ss, su, sr, hV⟩ := vi_ex h5 h6
  have e := vi_ct (c := al 0) hV (show 0 < 3 by omega)
  have := (vi_free hV h2 (fun j hj => (h4 j hj).2)).1
  show ctS (mkR (al 0) (al 1) (fun j => al (2 + j)) (fun j => al (22 + j))) 0 ≤ al 0
  omega
theorem mk_1 {al le wh : Nat → Nat} {w q1 q3 : Nat} (hB : MB (fun j => al (2 + j)) (fun j => al (22 + j)) (al 1) le wh) (hq : redo ox le z0 wh 12 (w, 0, 0) = (q1, 0, q3)) : (if q1 = 0 then nI (cmb (fun j => al (22 + j)) (al 1) q3) else -6 : Int32) = knS (mR al) w := by
  obtain ⟨-, -, d⟩ := mb_redo hB hq
  have e := d.trans (spS_mk (c := al 0) (g := fun j => al (22 + j))).symm
  unfold knS
  by_cases z : q1 = 0
  · rw [if_pos z, if_pos (show spS (mR al) w = true from e.mp z)]
    subst z
    rw [← (mb_rs hB hq).1]
    exact congrArg nI (cmbN (c := al 0) (n := al 1) (f := fun j => al (2 + j)) (g := fun j => al (22 + j))).symm
  · rw [if_neg z, if_neg (show ¬ spS (mR al) w = true from fun y => z (e.mpr y))]
theorem kn_6 {al : Nat → Nat} (h : RowOK (mR al)) {v : Nat} : (knS (mR al) v).toInt = -6 ↔ ¬ spS (mR al) v = true := by
  obtain ⟨h1, h2, h3, h4, h5, h6⟩ := mrow h
  unfold knS
  by_cases z : spS (mR al) v = true
  · rw [if_pos z]
    have hb : cmb (mR al).2.2.2 (mR al).2.1 (rsn (mR al).2.2.1 (mR al).2.1 v) ≤ 1 := by
      have e := cmbN (c := al 0) (n := al 1) (v := v) (f := fun j => al (2 + j)) (g := fun j => al (22 + j))
      have h7 := cmb_le1 (g := fun j => al (22 + j)) (n := al 1) h6 (rsn (fun j => al (2 + j)) (al 1) v)
      rw [← e] at h7
      exact h7
    rw [nI_toInt (by omega)]
    constructor
    · intro q; omega
    · intro q; exact absurd z q
  · rw [if_neg z]
    constructor
    · intro _; exact z
    · intro _; decide
theorem kn_t {al : Nat → Nat} (h : RowOK (mR al)) {v : Nat} (e : ¬ (knS (mR al) v).toInt = -6) : spS (mR al) v = true := Classical.byContradiction (fun z => e ((kn_6 h).mpr z))
theorem kn_f {al : Nat → Nat} (h : RowOK (mR al)) {v : Nat} (e : (knS (mR al) v).toInt = -6) : spS (mR al) v = false := by
  have := (kn_6 h).mp e
  cases q : spS (mR al) v
  · rfl
  · exact absurd q this
def mA (al ms : Nat → Nat) (w i : Nat) : Prop := ∀ j, j < i → ms j = 0 → pty (w &&& al (2 + j)) = al (22 + j)
theorem mA_1 {al ms : Nat → Nat} {w i y : Nat} (h : y = 1 ↔ mA al ms w i) (hy : y ≤ 1) (h0 : ¬ y = 0) (hp : ms i = 0 → pty (w &&& al (2 + i)) = al (22 + i)) : 1 = 1 ↔ mA al ms w (i + 1) := by
  refine ⟨fun _ j hj hz => ?_, fun _ => rfl⟩
  by_cases e : j = i
  · subst e; exact hp hz
  · exact h.mp (by omega) j (by omega) hz
theorem mA_0 {al ms : Nat → Nat} {w i y : Nat} (h : y = 1 ↔ mA al ms w i) (h0 : y = 0) : 0 = 1 ↔ mA al ms w (i + 1) := by
  refine ⟨fun q => absurd q (by decide), fun q => ?_⟩
  have := h.mpr (fun j hj => q j (by omega))
  omega
theorem mA_2 {al ms : Nat → Nat} {w i : Nat} (h1 : ms i = 0) (h2 : ¬ pty (w &&& al (2 + i)) = al (22 + i)) : 0 = 1 ↔ mA al ms w (i + 1) := ⟨fun q => absurd q (by decide), fun q => absurd (q i (by omega) h1) h2⟩
theorem mA_S {al ms : Nat → Nat} {w : Nat} (hs : ∀ i, i < al 1 → ms i = stS (mR al) i) : mA al ms w (al 1) ↔ isS (mR al) w = true := by
  refine Iff.trans ?_ (isS_mk (c := al 0)).symm
  have e : ∀ j, j < al 1 → (ms j = 0 ↔ (kp (fun j => al (2 + j)) (al 1)).testBit j = true) := fun j hj => by
    rw [hs j hj, show stS (mR al) j = _ from stS_mk (c := al 0) (f := fun j => al (2 + j)) (g := fun j => al (22 + j)) hj, stt_0, kp_bit _ hj]
  constructor
  · intro h j hj hk
    rw [Nat.and_comm]
    exact h j hj ((e j hj).mpr hk)
  · intro h j hj hk
    rw [Nat.and_comm]
    exact h j hj ((e j hj).mp hk)
theorem mA_b {al ms : Nat → Nat} {w y : Nat} (hs : ∀ i, i < al 1 → ms i = stS (mR al) i) (hy : y ≤ 1) (h : y = 1 ↔ mA al ms w (al 1)) : y = bN (isS (mR al) w) := by
  have h := h.trans (mA_S hs)
  cases e : isS (mR al) w
  · rw [e] at h
    have : ¬ y = 1 := fun z => by cases h.mp z
    show y = 0
    omega
  · exact h.mpr e
theorem rw_1 {al ms mr le wh : Nat → Nat} {w i y : Nat} (h : MV (fun j => al (2 + j)) (fun j => al (22 + j)) (al 1) ms mr le wh) (hi : i < al 1) (hy : y = smF (fun j => if ¬ stS (mR al) j = 0 ∧ (rsS (mR al) j).testBit w = true then 1 else 0) i) (h1 : ¬ ms i = 0) (h2 : mr i >>> w &&& 1 = 1) : y + 1 = smF (fun j => if ¬ stS (mR al) j = 0 ∧ (rsS (mR al) j).testBit w = true then 1 else 0) (i + 1) := by
  show _ = smF _ i + (if _ then 1 else 0)
  rw [if_pos, hy]
  refine ⟨by rw [← mv_st h i hi]; exact h1, ?_⟩
  rw [show rsS (mR al) i = _ from rsS_mk (c := al 0) (f := fun j => al (2 + j)) (g := fun j => al (22 + j)) hi, ← h.2.1 i hi h1]
  exact (tb_1 _ _).mp h2
theorem rw_0 {al ms mr le wh : Nat → Nat} {w i y : Nat} (h : MV (fun j => al (2 + j)) (fun j => al (22 + j)) (al 1) ms mr le wh) (hi : i < al 1) (hy : y = smF (fun j => if ¬ stS (mR al) j = 0 ∧ (rsS (mR al) j).testBit w = true then 1 else 0) i) (h1 : ms i = 0 ∨ ¬ ms i = 0 ∧ ¬ mr i >>> w &&& 1 = 1) : y + 0 = smF (fun j => if ¬ stS (mR al) j = 0 ∧ (rsS (mR al) j).testBit w = true then 1 else 0) (i + 1) := by
  show _ = smF _ i + (if _ then 1 else 0)
  rw [if_neg, hy]
  rintro ⟨q1, q2⟩
  rw [← mv_st h i hi] at q1
  rcases h1 with h1 | ⟨h1, h2⟩
  · exact q1 h1
  · rw [show rsS (mR al) i = _ from rsS_mk (c := al 0) (f := fun j => al (2 + j)) (g := fun j => al (22 + j)) hi, ← h.2.1 i hi h1] at q2
    exact h2 ((tb_1 _ _).mpr q2)
