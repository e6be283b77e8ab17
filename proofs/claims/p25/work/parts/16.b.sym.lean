/-! a row as the second object has it -/
noncomputable def trR (p q o : Nat) (R : RT) : RT := mkR R.1 R.2.1 (fun j => thR p q (R.2.2.1 j)) (fun j => R.2.2.2 j ^^^ pty (R.2.2.1 j &&& o))
noncomputable def trH (p q o : Nat) (h : HT) : HT := (h.1, fun k => trR p q o (h.2 k))
theorem min_ex {P : Nat → Prop} (key : Nat → Nat) : ∀ (n a : Nat), key a < n → P a → ∃ y, P y ∧ ∀ b, P b → key y ≤ key b
  | 0, _, h, _ => absurd h (Nat.not_lt_zero _)
  | n + 1, a, h, hp => by
    by_cases hx : ∃ b, P b ∧ key b < key a
    · obtain ⟨b, h1, h2⟩ := hx
      exact min_ex key n b (by omega) h1
    · exact ⟨a, hp, fun b hb => Nat.not_lt.mp (fun z => hx ⟨b, hb, z⟩)⟩
theorem se_bit (q : Nat → Bool) (i : Nat) : ∀ n, (seF q n).testBit i = (decide (i < n) && q i)
  | 0 => by
    show (0 : Nat).testBit i = _
    rw [Nat.zero_testBit]
    simp
  | n + 1 => by
    have ih := se_bit q i n
    show (if q n = true then seF q n ||| 1 <<< n else seF q n).testBit i = _
    by_cases e : i = n
    · subst e
      by_cases d : q i = true
      · rw [if_pos d, Nat.testBit_or, ih, Nat.one_shiftLeft, Nat.testBit_two_pow_self, d]
        simp
      · rw [if_neg d, ih]
        simp [d]
    · have e2 : decide (i < n + 1) = decide (i < n) := by
        apply decide_eq_decide.mpr
        omega
      rw [e2, ← ih]
      split
      · rw [Nat.testBit_or, Nat.one_shiftLeft, Nat.testBit_two_pow_of_ne (by omega), Bool.or_false]
      · rfl
theorem se_lt (q : Nat → Bool) (n : Nat) : seF q n < 2 ^ n := by
  apply Nat.lt_pow_two_of_testBit
  intro i hi
  rw [se_bit, decide_eq_false (by omega)]
  rfl
theorem bit_and {i o : Nat} (hi : i < 12) : pty (2 ^ i &&& o) = o >>> i &&& 1 := by
  rw [t1]
  by_cases e : o.testBit i = true
  · rw [if_pos e]
    have h : 2 ^ i &&& o = 2 ^ i := by
      apply Nat.eq_of_testBit_eq
      intro j
      rw [Nat.testBit_and, Nat.testBit_two_pow]
      by_cases d : i = j
      · subst d
        rw [e]
        simp
      · simp [d]
    rw [h, pty_pow i hi]
  · rw [if_neg e]
    have h : 2 ^ i &&& o = 0 := by
      apply Nat.eq_of_testBit_eq
      intro j
      rw [Nat.testBit_and, Nat.testBit_two_pow, Nat.zero_testBit]
      by_cases d : i = j
      · subst d
        simp [e]
      · simp [d]
    rw [h, pty_0]
section TR
variable {p q o : Nat} {R : RT}
theorem tr_f {i : Nat} (hi : i < R.2.1) : (trR p q o R).2.2.1 i = thR p q (R.2.2.1 i) := by
  show nrm R.2.1 (fun j => thR p q (R.2.2.1 j)) i = _
  exact nrm_lt hi
theorem tr_g {i : Nat} (hi : i < R.2.1) : (trR p q o R).2.2.2 i = R.2.2.2 i ^^^ pty (R.2.2.1 i &&& o) := by
  show nrm R.2.1 (fun j => R.2.2.2 j ^^^ pty (R.2.2.1 j &&& o)) i = _
  exact nrm_lt hi
theorem tr_tw (hR : RowOK R) (hc : R.1 = p + q) : Tw p q o R.2.1 R.2.2.1 R.2.2.2 (trR p q o R).2.2.1 (trR p q o R).2.2.2 := fun j hj => ⟨by rw [← hc]; exact (hR.2.2.2 j hj).2.1, tr_f hj, tr_g hj⟩
theorem tr_32 (hR : RowOK R) (hc : R.1 = p + q) : p + q ≤ 12 := by
  have := hR.2.1
  omega
theorem tr_st (hR : RowOK R) (hc : R.1 = p + q) {i : Nat} (hi : i < R.2.1) : stS (trR p q o R) i = stS R i := by
  have hT := tr_tw (o := o) hR hc
  obtain ⟨h1, h2, h3⟩ := hT i hi
  show stt (trR p q o R).2.2.1 (trR p q o R).2.2.2 i ((trR p q o R).2.2.1 i) ((trR p q o R).2.2.2 i) = stt R.2.2.1 R.2.2.2 i (R.2.2.1 i) (R.2.2.2 i)
  rw [h2, h3]
  exact tw_stt hT (by omega) h1
theorem tr_rs (hR : RowOK R) (hc : R.1 = p + q) {i : Nat} (hi : i < R.2.1) : rsS (trR p q o R) i = rsS R i := by
  have hT := tr_tw (o := o) hR hc
  obtain ⟨h1, h2, h3⟩ := hT i hi
  show rsn (trR p q o R).2.2.1 i ((trR p q o R).2.2.1 i) = rsn R.2.2.1 i (R.2.2.1 i)
  rw [h2]
  exact tw_rsn hT (by omega) h1
theorem tr_sp (hR : RowOK R) (hc : R.1 = p + q) {v : Nat} (hv : v < 2 ^ (p + q)) : spS (trR p q o R) (thR p q v) = spS R v :=
  b_eq (cdec.trans ((tw_spk (tr_tw (o := o) hR hc) (Nat.le_refl _) hv).trans cdec.symm))
theorem tr_kn (hR : RowOK R) (hc : R.1 = p + q) {v : Nat} (hv : v < 2 ^ (p + q)) : (∃ x, x ≤ 1 ∧ knS R v = nI x ∧ knS (trR p q o R) (thR p q v) = nI (x ^^^ pty (v &&& o))) ∨ (knS R v = -6 ∧ knS (trR p q o R) (thR p q v) = -6) := by
  have hT := tr_tw (o := o) hR hc
  have e := tr_sp (o := o) hR hc hv
  by_cases hs : spS R v = true
  · left
    have hsp := cdec.mp hs
    refine ⟨cmb R.2.2.2 R.2.1 (rsn R.2.2.1 R.2.1 v), cmb_le1 (fun j hj => (hR.2.2.2 j hj).2.2) _, if_pos hs, ?_⟩
    have h1 : knS (trR p q o R) (thR p q v) = nI (cmb (trR p q o R).2.2.2 R.2.1 (rsn (trR p q o R).2.2.1 R.2.1 (thR p q v))) := if_pos (e.trans hs)
    rw [h1, tw_rsn hT (Nat.le_refl _) hv, tw_cmbg hT _ (Nat.le_refl _), (rsn_ok hsp).2]
  · right
    exact ⟨if_neg hs, if_neg (by rw [e]; exact hs)⟩
theorem tr_ct (hR : RowOK R) (hc : R.1 = p + q) {k : Nat} : ctS (trR p q o R) k = ctS R k := ctF_cong (fun i hi => tr_st hR hc hi)
theorem tr_na (hR : RowOK R) (hc : R.1 = p + q) : naS (trR p q o R) = naS R := by
  show 1 <<< (R.1 - ctS (trR p q o R) 0) = 1 <<< (R.1 - ctS R 0)
  rw [tr_ct hR hc]
theorem tr_rw (hR : RowOK R) (hc : R.1 = p + q) {b : Nat} : rwS (trR p q o R) b = rwS R b := smF_cong R.2.1 (fun j hj => by rw [tr_st hR hc hj, tr_rs hR hc hj])
theorem sh_th {i : Nat} (hi : i < p + q) : 1 <<< rnd p q i = thR p q (1 <<< i) := by rw [Nat.one_shiftLeft, Nat.one_shiftLeft, th_pow hi]
theorem sh_lt {i : Nat} (hi : i < p + q) : 1 <<< i < 2 ^ (p + q) := by
  rw [Nat.one_shiftLeft]
  exact Nat.pow_lt_pow_right (by decide) hi
theorem tr_se (hR : RowOK R) (hc : R.1 = p + q) : seS (trR p q o R) = thR p q (seS R) := by
  have e1 : seS (trR p q o R) = seF (fun c => spS (trR p q o R) (1 <<< c)) (p + q) := by rw [← hc]; rfl
  have e2 : seS R = seF (fun c => spS R (1 <<< c)) (p + q) := by rw [← hc]; rfl
  rw [e1, e2]
  refine th_ext (se_lt _ _) (thR_lt _ _ _) (fun i hi => ?_)
  rw [th_at (se_lt _ _) hi, se_bit, se_bit, decide_eq_true hi, decide_eq_true (rnd_lt hi), sh_th hi, tr_sp hR hc (sh_lt hi)]
theorem tr_bo (hR : RowOK R) (hc : R.1 = p + q) {i : Nat} (hi : i < p + q) : boS (trR p q o R) (rnd p q i) = thR p q (boS R i) := by
  have e1 : boS (trR p q o R) (rnd p q i) = if spS (trR p q o R) (1 <<< rnd p q i) = true then 0 else seF (fun c => decide (¬ c = rnd p q i) && spS (trR p q o R) (1 <<< rnd p q i ||| 1 <<< c)) (p + q) := by rw [← hc]; rfl
  have e2 : boS R i = if spS R (1 <<< i) = true then 0 else seF (fun c => decide (¬ c = i) && spS R (1 <<< i ||| 1 <<< c)) (p + q) := by rw [← hc]; rfl
  rw [e1, e2, sh_th hi, tr_sp hR hc (sh_lt hi)]
  by_cases hs : spS R (1 <<< i) = true
  · rw [if_pos hs, if_pos hs, th_0]
  · rw [if_neg hs, if_neg hs]
    refine th_ext (se_lt _ _) (thR_lt _ _ _) (fun j hj => ?_)
    rw [th_at (se_lt _ _) hj, se_bit, se_bit, decide_eq_true hj, decide_eq_true (rnd_lt hj), sh_th hj, ← th_or (sh_lt hi) (sh_lt hj), tr_sp hR hc (Nat.or_lt_two_pow (sh_lt hi) (sh_lt hj))]
    have e3 : decide (¬ rnd p q j = rnd p q i) = decide (¬ j = i) := by
      apply decide_eq_decide.mpr
      exact ⟨fun z y => z (by rw [y]), fun z y => z (rnd_inj hj hi y)⟩
    rw [e3]
theorem tr_c1 (hR : RowOK R) (hc : R.1 = p + q) {i : Nat} (hi : i < p + q) : smF (fun j => (trR p q o R).2.2.1 j >>> rnd p q i &&& 1) R.2.1 = smF (fun j => R.2.2.1 j >>> i &&& 1) R.2.1 := smF_cong R.2.1 (fun j hj => by
  rw [tr_f hj, t1, t1, th_at (by rw [← hc]; exact (hR.2.2.2 j hj).2.1) hi])
theorem tr_is (hR : RowOK R) (hc : R.1 = p + q) {a : Nat} (ha : a < 2 ^ (p + q)) (ho : o < 2 ^ (p + q)) : isS (trR p q o R) (thR p q (a ^^^ o)) = isS R a := by
  have hT := tr_tw (o := o) hR hc
  have h32 := tr_32 hR hc
  refine b_eq (cdec.trans (Iff.trans ?_ cdec.symm))
  show isA (trR p q o R).2.2.1 (trR p q o R).2.2.2 R.2.1 (kp (trR p q o R).2.2.1 R.2.1) _ ↔ _
  rw [tw_kp hT (Nat.le_refl _)]
  exact tw_isA hT (by omega) ha ho
/-! all numbers below 2 ^ (p + q), as the second object has them -/
theorem ro_lt {a : Nat} : thR p q (a ^^^ o) < 2 ^ (p + q) := thR_lt _ _ _
theorem ro_inv {a : Nat} (ha : a < 2 ^ (p + q)) (ho : o < 2 ^ (p + q)) : thR q p (thR p q (a ^^^ o)) ^^^ o = a := by
  rw [th_inv (Nat.xor_lt_two_pow ha ho), Nat.xor_assoc, Nat.xor_self, Nat.xor_zero]
theorem or_lt {b : Nat} (ho : o < 2 ^ (p + q)) : thR q p b ^^^ o < 2 ^ (p + q) := Nat.xor_lt_two_pow (by rw [Nat.add_comm p q]; exact thR_lt _ _ _) ho
theorem or_inv {b : Nat} (hb : b < 2 ^ (p + q)) (ho : o < 2 ^ (p + q)) : thR p q ((thR q p b ^^^ o) ^^^ o) = b := by
  rw [Nat.xor_assoc, Nat.xor_self, Nat.xor_zero]
  exact th_inv (p := q) (q := p) (by rw [Nat.add_comm q p]; exact hb)
theorem ne_ex (hR : RowOK R) (w : Nat) : ∃ y, NeP R w y := by
  obtain ⟨c, n, f, g⟩ := R
  have e : RowOK (mkR c n f g) := row_raw.mpr hR
  obtain ⟨a, h1, h2, -⟩ := an_ex e (q := 0) (by show 0 < 1 <<< _; rw [Nat.one_shiftLeft]; exact Nat.two_pow_pos _)
  have hh : ∀ b, isS (mkR c n f g) b = isS (c, n, f, g) b := fun b => b_eq (isS_mk.trans cdec.symm)
  have h12 := p12 hR.2.1
  obtain ⟨y, ⟨g1, g2⟩, g3⟩ := min_ex (P := fun b => b < 2 ^ c ∧ isS (c, n, f, g) b = true) (fun b => pcn (b ^^^ w) * 4096 + b) _ a (Nat.lt_succ_self _) ⟨h1, by rw [← hh]; exact h2⟩
  refine ⟨y, g1, g2, fun b hb hs => ?_⟩
  have := g3 b ⟨hb, hs⟩
  have hb2 : b < 2 ^ c := hb
  have h12 : 2 ^ c ≤ 4096 := h12
  omega
theorem ne_ok (hR : RowOK R) (w : Nat) : NeP R w (neS R w) := by
  obtain ⟨y, hy⟩ := ne_ex hR w
  rw [neS_eq hy]
  exact hy
theorem tr_ok (hR : RowOK R) (hc : R.1 = p + q) : RowOK (trR p q o R) := row_raw.mpr ⟨hR.1, hR.2.1, hR.2.2.1, fun j hj => by
  obtain ⟨h1, h2, h3⟩ := hR.2.2.2 j hj
  rw [hc] at h2 ⊢
  exact ⟨th_pos h2 h1, thR_lt _ _ _, xor_le1 h3 (pty_le _)⟩⟩
theorem ne_dist {a w : Nat} (h32 : p + q ≤ 32) (ha : a < 2 ^ (p + q)) (hw : w < 2 ^ (p + q)) (ho : o < 2 ^ (p + q)) : pcn (thR p q (a ^^^ o) ^^^ thR p q (w ^^^ o)) = pcn (a ^^^ w) := by
  rw [← th_xor (Nat.xor_lt_two_pow ha ho) (Nat.xor_lt_two_pow hw ho), x4, Nat.xor_self, Nat.xor_zero, th_pcn h32 (Nat.xor_lt_two_pow ha hw)]
theorem tr_ne (hR : RowOK R) (hc : R.1 = p + q) {w : Nat} (hw : w < 2 ^ (p + q)) (ho : o < 2 ^ (p + q)) : pcn (neS (trR p q o R) (thR p q (w ^^^ o)) ^^^ thR p q (w ^^^ o)) = pcn (neS R w ^^^ w) := by
  have h32 : p + q ≤ 32 := by have := tr_32 hR hc; omega
  obtain ⟨a1, a2, a3⟩ := ne_ok hR w
  obtain ⟨b1, b2, b3⟩ := ne_ok (tr_ok (o := o) hR hc) (thR p q (w ^^^ o))
  have b1 : neS (trR p q o R) (thR p q (w ^^^ o)) < 2 ^ (p + q) := by rw [← hc]; exact b1
  rw [hc] at a1
  have e1 := b3 (thR p q (neS R w ^^^ o)) (by show _ < 2 ^ R.1; rw [hc]; exact thR_lt _ _ _) (by rw [tr_is hR hc a1 ho]; exact a2)
  rw [ne_dist h32 a1 hw ho] at e1
  generalize neS (trR p q o R) (thR p q (w ^^^ o)) = y at b1 b2 e1 ⊢
  have hz := or_lt (p := p) (q := q) (b := y) ho
  have e3 := or_inv b1 ho
  have e2 := a3 (thR q p y ^^^ o) (by rw [hc]; exact hz) (by rw [← tr_is (o := o) hR hc hz ho, e3]; exact b2)
  have e4 := ne_dist h32 hz hw ho
  rw [e3] at e4
  omega
end TR
/-! what breaks the fewest rules -/
def BF (br : Nat → Nat) (k : Nat) (t : Nat × Nat × Nat) : Prop := t.1 ≤ k ∧ br t.1 = t.2.1 ∧ (∀ a, a ≤ k → t.2.1 ≤ br a) ∧ (∀ a, a < t.1 → t.2.1 < br a) ∧ t.2.2 = smF (fun a => if br a = t.2.1 then 1 else 0) (k + 1)
theorem bF_is (br : Nat → Nat) : ∀ k, BF br k (bF br k)
  | 0 => ⟨Nat.le_refl _, rfl, fun a h => by rw [show a = 0 by omega]; exact Nat.le_refl _, fun a h => absurd h (Nat.not_lt_zero _), by show 1 = 0 + (if br 0 = br 0 then 1 else 0); rw [if_pos rfl]⟩
  | k + 1 => by
    have ih := bF_is br k
    have hd : ∃ x y z, bF br k = (x, y, z) := ⟨_, _, _, rfl⟩
    obtain ⟨x, y, z, e⟩ := hd
    rw [e] at ih
    obtain ⟨h1, h2, h3, h4, h5⟩ := ih
    have h1 : x ≤ k := h1
    have h2 : br x = y := h2
    have h3 : ∀ a, a ≤ k → y ≤ br a := h3
    have h4 : ∀ a, a < x → y < br a := h4
    have h5 : z = smF (fun a => if br a = y then 1 else 0) (k + 1) := h5
    by_cases c : br (k + 1) < y
    · rw [bF_lt e c]
      refine ⟨Nat.le_refl _, rfl, fun a ha => ?_, fun a ha => ?_, ?_⟩
      · show br (k + 1) ≤ br a
        by_cases d : a = k + 1
        · rw [d]; exact Nat.le_refl _
        · have := h3 a (by omega)
          omega
      · show br (k + 1) < br a
        have := h3 a (by have : a < k + 1 := ha; omega)
        omega
      · show 1 = smF (fun a => if br a = br (k + 1) then 1 else 0) (k + 1) + (if br (k + 1) = br (k + 1) then 1 else 0)
        have hz : smF (fun a => if br a = br (k + 1) then 1 else 0) (k + 1) = smF (fun _ => 0) (k + 1) := smF_cong (k + 1) (fun a ha => if_neg (by have := h3 a (by omega); omega))
        rw [hz, smF_0, if_pos rfl]
    · by_cases d : br (k + 1) = y
      · rw [bF_eq e d]
        refine ⟨by show x ≤ k + 1; omega, h2, fun a ha => ?_, h4, ?_⟩
        · show y ≤ br a
          by_cases q : a = k + 1
          · rw [q, d]; exact Nat.le_refl _
          · exact h3 a (by omega)
        · show z + 1 = smF (fun a => if br a = y then 1 else 0) (k + 1) + (if br (k + 1) = y then 1 else 0)
          rw [if_pos d, h5]
      · rw [bF_gt e (by omega) d]
        refine ⟨by show x ≤ k + 1; omega, h2, fun a ha => ?_, h4, ?_⟩
        · show y ≤ br a
          by_cases q : a = k + 1
          · rw [q]; omega
          · exact h3 a (by omega)
        · show z = smF (fun a => if br a = y then 1 else 0) (k + 1) + (if br (k + 1) = y then 1 else 0)
          rw [if_neg d]
          exact h5
theorem br_is (R : RT) : BF (brF R.2.2.1 R.2.2.2 R.2.1) (2 ^ R.1 - 1) (brS R) := bF_is _ _
theorem pow_1 (c : Nat) : 2 ^ c - 1 + 1 = 2 ^ c := by
  have := Nat.two_pow_pos c
  omega
section TB
variable {p q o : Nat} {R : RT}
theorem tr_b1 (hR : RowOK R) (hc : R.1 = p + q) (ho : o < 2 ^ (p + q)) : (brS (trR p q o R)).2.1 = (brS R).2.1 := by
  have hT := tr_tw (o := o) hR hc
  have h32 : p + q ≤ 32 := by have := tr_32 hR hc; omega
  have hp := Nat.two_pow_pos (p + q)
  obtain ⟨a1, a2, a3, -, -⟩ := br_is R
  obtain ⟨b1, b2, b3, -, -⟩ := br_is (trR p q o R)
  have b1 : (brS (trR p q o R)).1 ≤ 2 ^ R.1 - 1 := b1
  have b2 : brF (trR p q o R).2.2.1 (trR p q o R).2.2.2 R.2.1 (brS (trR p q o R)).1 = (brS (trR p q o R)).2.1 := b2
  have b3 : ∀ a, a ≤ 2 ^ R.1 - 1 → (brS (trR p q o R)).2.1 ≤ brF (trR p q o R).2.2.1 (trR p q o R).2.2.2 R.2.1 a := b3
  rw [hc] at a1 a3 b1 b3
  have e1 := b3 (thR p q ((brS R).1 ^^^ o)) (by have := thR_lt p q ((brS R).1 ^^^ o); omega)
  rw [tw_br hT h32 (by omega) ho, a2] at e1
  have hz := or_lt (p := p) (q := q) (b := (brS (trR p q o R)).1) ho
  have e2 := a3 (thR q p (brS (trR p q o R)).1 ^^^ o) (by omega)
  rw [← tw_br hT h32 hz ho, or_inv (by omega) ho, b2] at e2
  omega
theorem tr_b2 (hR : RowOK R) (hc : R.1 = p + q) (ho : o < 2 ^ (p + q)) : (brS (trR p q o R)).2.2 = (brS R).2.2 := by
  have hT := tr_tw (o := o) hR hc
  have h32 : p + q ≤ 32 := by have := tr_32 hR hc; omega
  obtain ⟨-, -, -, -, a5⟩ := br_is R
  obtain ⟨-, -, -, -, b5⟩ := br_is (trR p q o R)
  have b5 : (brS (trR p q o R)).2.2 = smF (fun a => if brF (trR p q o R).2.2.1 (trR p q o R).2.2.2 R.2.1 a = (brS (trR p q o R)).2.1 then 1 else 0) (2 ^ R.1 - 1 + 1) := b5
  rw [pow_1, hc] at a5 b5
  rw [a5, b5, tr_b1 hR hc ho, ← smF_perm (sg := fun a => thR p q (a ^^^ o)) (tu := fun b => thR q p b ^^^ o) (fun i hi => ⟨thR_lt _ _ _, ro_inv hi ho⟩) (fun j hj => ⟨or_lt ho, or_inv hj ho⟩) (fun a => if brF (trR p q o R).2.2.1 (trR p q o R).2.2.2 R.2.1 a = (brS R).2.1 then 1 else 0)]
  exact smF_cong _ (fun a ha => by
    show (if brF (trR p q o R).2.2.1 (trR p q o R).2.2.2 R.2.1 (thR p q (a ^^^ o)) = (brS R).2.1 then 1 else 0) = _
    rw [tw_br hT h32 ha ho])
end TB
