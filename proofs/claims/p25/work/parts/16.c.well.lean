/-! states, answers and reasons agree with one another -/
section WELL
variable {f g : Nat → Nat} {n a r : Nat}
theorem isA_low (h : isA f g n (kp f n) a) {i : Nat} (hi : i ≤ n) : isA f g i (kp f i) a := fun j hj hk => h j (by omega) ((kp_bit f (by omega)).mpr ((kp_bit f hj).mp hk))
theorem w_fit (h : isA f g n (kp f n) a) (hr : r < n) : pty (f r &&& a) = g r ↔ ¬ stt f g r (f r) (g r) = 2 := by
  by_cases hs : spn f r (kp f r) (f r)
  · obtain ⟨h1, h2⟩ := rsn_ok hs
    have e := isA_cmb (isA_low h (show r ≤ n by omega)) h1 r (Nat.le_refl _)
    rw [h2] at e
    rw [stt_n hs, e]
    by_cases c : cmb g r (rsn f r (f r)) = g r
    · rw [if_pos c]
      exact ⟨fun _ => by omega, fun _ => c⟩
    · rw [if_neg c]
      exact ⟨fun z => absurd z c, fun z => absurd rfl z⟩
  · rw [stt_k hs]
    exact ⟨fun _ => by omega, fun _ => h r hr ((kp_bit f hr).mpr hs)⟩
theorem cmb_more {x m : Nat} (hx : x < 2 ^ m) : ∀ {n : Nat}, m ≤ n → cmb f n x = cmb f m x
  | 0, h => by rw [show m = 0 by omega]
  | n + 1, h => by
    by_cases e : m = n + 1
    · rw [e]
    · rw [cmb_up (Nat.lt_of_lt_of_le hx (Nat.pow_le_pow_right (by decide) (by omega))), cmb_more hx (n := n) (by omega)]
theorem kp_low {x k : Nat} (h : sbs x (kp f r)) (hk : x.testBit k = true) : k < r := by
  rcases Nat.lt_or_ge k r with c | c
  · exact c
  · have h1 := h k hk
    rw [tb_hi (kp_lt f r) c] at h1
    cases h1
theorem sbs_up {x : Nat} (hr : r ≤ n) (h : sbs x (kp f r)) : sbs x (kp f n) := fun j hj => by
  have hj2 := kp_low h hj
  exact (kp_bit f (by omega)).mpr ((kp_bit f hj2).mp (h j hj))
theorem w_spn (g : Nat → Nat) (hr : r < n) : spn f n (kp f n) (f r) ∧ rsn f n (f r) = if stt f g r (f r) (g r) = 0 then 2 ^ r else rsn f r (f r) := by
  by_cases hs : spn f r (kp f r) (f r)
  · obtain ⟨h1, h2⟩ := rsn_ok hs
    have hlt := sbs_lt h1 (kp_lt f r)
    have h3 := sbs_up (n := n) (by omega) h1
    have h4 : cmb f n (rsn f r (f r)) = f r := by rw [cmb_more hlt (by omega), h2]
    refine ⟨⟨_, h3, h4⟩, ?_⟩
    rw [if_neg (fun z => (stt_0.mp z) hs)]
    exact rsn_eq h3 h4
  · have h3 : sbs (2 ^ r) (kp f n) := fun i hi => by
      rw [Nat.testBit_two_pow] at hi
      rw [← of_decide_eq_true hi]
      exact (kp_bit f hr).mpr hs
    have h4 : cmb f n (2 ^ r) = f r := cmb_one hr
    refine ⟨⟨_, h3, h4⟩, ?_⟩
    rw [if_pos (stt_k hs)]
    exact rsn_eq h3 h4
theorem w_kn (hg : ∀ j, j < n → g j ≤ 1) (hr : r < n) : cmb g n (rsn f n (f r)) = if stt f g r (f r) (g r) = 2 then 1 - g r else g r := by
  rw [(w_spn g hr).2]
  by_cases hs : spn f r (kp f r) (f r)
  · obtain ⟨h1, h2⟩ := rsn_ok hs
    rw [if_neg (fun z => (stt_0.mp z) hs), cmb_more (sbs_lt h1 (kp_lt f r)) (by omega), stt_n hs]
    have h3 := cmb_le1 (g := g) (n := r) (fun j hj => hg j (by omega)) (rsn f r (f r))
    have h4 := hg r hr
    by_cases c : cmb g r (rsn f r (f r)) = g r
    · rw [if_pos c, if_neg (by omega), c]
    · rw [if_neg c, if_pos rfl]
      omega
  · rw [stt_k hs, if_pos rfl, cmb_one hr, if_neg (by omega)]
theorem w_rb (g : Nat → Nat) (hs : spn f r (kp f r) (f r)) {k : Nat} (hk : (rsn f r (f r)).testBit k = true) : k < r ∧ stt f g k (f k) (g k) = 0 := by
  have h1 := (rsn_ok hs).1
  have hk2 := kp_low h1 hk
  exact ⟨hk2, stt_k ((kp_bit f hk2).mp (h1 k hk))⟩
theorem w_end (g : Nat → Nat) (hs : spn f r (kp f r) (f r)) (hr : r ≤ n) : cmb f n (rsn f r (f r)) = f r ∧ cmb g n (rsn f r (f r)) = cmb g r (rsn f r (f r)) := by
  obtain ⟨h1, h2⟩ := rsn_ok hs
  have hlt := sbs_lt h1 (kp_lt f r)
  exact ⟨by rw [cmb_more hlt hr, h2], cmb_more hlt hr⟩
theorem ct_sum {st : Nat → Nat} : ∀ n, (∀ i, i < n → st i ≤ 2) → ctF st 0 n + ctF st 1 n + ctF st 2 n = n
  | 0, _ => rfl
  | n + 1, h => by
    have ih := ct_sum n (fun i hi => h i (by omega))
    have h2 := h n (by omega)
    rw [ctF_succ, ctF_succ, ctF_succ]
    have h3 : st n = 0 ∨ st n = 1 ∨ st n = 2 := by omega
    rcases h3 with e | e | e <;> rw [e] <;> simp <;> omega
theorem smF_z {h : Nat → Nat} : ∀ {n : Nat}, smF h n = 0 → ∀ i, i < n → h i = 0
  | 0, _, i, hi => absurd hi (Nat.not_lt_zero _)
  | n + 1, hz, i, hi => by
    have hz : smF h n + h n = 0 := hz
    by_cases e : i = n
    · rw [e]
      exact (Nat.add_eq_zero_iff.mp hz).2
    · exact smF_z (Nat.add_eq_zero_iff.mp hz).1 i (by omega)
theorem pcn_0 {v : Nat} (hv : v < 4096) (h : pcn v = 0) : v = 0 := by
  rw [pcn_sm (c := 12) (by decide) hv] at h
  apply Nat.eq_of_testBit_eq
  intro i
  rw [Nat.zero_testBit]
  rcases Nat.lt_or_ge i 12 with c | c
  · have := smF_z h i c
    cases e : v.testBit i
    · rfl
    · rw [if_pos e] at this
      omega
  · exact tb_hi (w := 12) hv c
theorem ctB_sm (q : Nat → Bool) : ∀ n, ctB q n = smF (fun a => if q a = true then 1 else 0) n
  | 0 => rfl
  | n + 1 => by
    show ctB q n + _ = smF _ n + _
    rw [ctB_sm q n]
theorem ctB_top {q : Nat → Bool} {M : Nat} : ∀ {y : Nat}, (∀ a, a < y → q a = true → ctB q a < M) → ctB q y ≤ M
  | 0, _ => Nat.zero_le _
  | y + 1, h => by
    show ctB q y + (if q y = true then 1 else 0) ≤ M
    by_cases e : q y = true
    · have := h y (by omega) e
      rw [if_pos e]
      omega
    · rw [if_neg e]
      exact ctB_top (y := y) (fun a ha => h a (by omega))
end WELL
section WR
variable {R : RT}
theorem n_is (b : Nat) : isS (mkR R.1 R.2.1 R.2.2.1 R.2.2.2) b = isS R b := b_eq (isS_mk.trans cdec.symm)
theorem n_ct (k : Nat) : ctS (mkR R.1 R.2.1 R.2.2.1 R.2.2.2) k = ctS R k := ctF_cong (fun i hi => stS_mk hi)
theorem n_na : naS (mkR R.1 R.2.1 R.2.2.1 R.2.2.2) = naS R := by
  show 1 <<< (R.1 - ctS (mkR R.1 R.2.1 R.2.2.1 R.2.2.2) 0) = 1 <<< (R.1 - ctS R 0)
  rw [n_ct]
theorem n_ok (hR : RowOK R) : RowOK (mkR R.1 R.2.1 R.2.2.1 R.2.2.2) := row_raw.mpr hR
theorem an_ok (hR : RowOK R) {q : Nat} (hq : q < naS R) : anS R q < 2 ^ R.1 ∧ isS R (anS R q) = true ∧ ctB (isS R) (anS R q) = q := by
  obtain ⟨a, h1, h2, h3⟩ := an_ex (n_ok hR) (q := q) (by rw [n_na]; exact hq)
  have e : isS (mkR R.1 R.2.1 R.2.2.1 R.2.2.2) = isS R := funext n_is
  rw [e] at h2 h3
  rw [anS_eq h1 h2 h3]
  exact ⟨h1, h2, h3⟩
theorem na_pos : 1 ≤ naS R := by
  show 1 ≤ 1 <<< _
  rw [Nat.one_shiftLeft]
  exact Nat.two_pow_pos _
theorem ct0_le (hR : RowOK R) : ctS R 0 ≤ R.1 := by
  obtain ⟨-, h2, -, h4, h5, h6⟩ := row_use (n_ok hR)
  obtain ⟨st, re, ta, ss, su, sr, h⟩ := vi_ex h5 h6
  have h7 := (vi_free h h2 (fun j hj => (h4 j hj).2)).1
  rw [vi_ct (c := R.1) h (by omega), n_ct] at h7
  exact h7
theorem ct_na (hR : RowOK R) : ctB (isS R) (2 ^ R.1) = naS R := by
  have hp := na_pos (R := R)
  obtain ⟨a1, a2, a3⟩ := an_ok hR (q := naS R - 1) (by omega)
  have h1 := ctB_in a2 a1
  have h2 : ctB (isS R) (2 ^ R.1) ≤ naS R := ctB_top (fun a ha hs => by
    obtain ⟨-, h2, -, h4, h5, h6⟩ := row_use (n_ok hR)
    obtain ⟨st, re, ta, ss, su, sr, h⟩ := vi_ex h5 h6
    have hA : isA R.2.2.1 R.2.2.2 R.2.1 (kp R.2.2.1 R.2.1) a := cdec.mp hs
    have hlt : plc ss a R.1 < naS (mkR R.1 R.2.1 R.2.2.1 R.2.2.2) := by rw [← vi_fr h (n_ok hR)]; exact plc_lt ss a R.1
    have h7 := (vi_ans h (n_ok hR) hlt (ans_plc h2 ha (isA_steps h.2.2.2.1 hA))).2.2
    have e : isS (mkR R.1 R.2.1 R.2.2.1 R.2.2.2) = isS R := funext n_is
    rw [e] at h7
    rw [n_na] at hlt
    omega)
  omega
theorem st_le (i : Nat) : stS R i ≤ 2 := stt_le _ _ _ _ _
theorem ct_all : ctS R 0 + ctS R 1 + ctS R 2 = R.2.1 := ct_sum R.2.1 (fun i _ => st_le i)
theorem fit_st (hR : RowOK R) {a r : Nat} (h : isS R a = true) (hr : r < R.2.1) : pty (R.2.2.1 r &&& a) = R.2.2.2 r ↔ ¬ stS R r = 2 := w_fit (cdec.mp h) hr
theorem kn_st (hR : RowOK R) {r : Nat} (hr : r < R.2.1) : knS R (R.2.2.1 r) = nI (if stS R r = 2 then 1 - R.2.2.2 r else R.2.2.2 r) := by
  have h1 := w_spn (f := R.2.2.1) R.2.2.2 hr
  have h2 := w_kn (f := R.2.2.1) (g := R.2.2.2) (fun j hj => (hR.2.2.2 j hj).2.2) hr
  have h3 : spS R (R.2.2.1 r) = true := cdec.mpr h1.1
  have h4 : knS R (R.2.2.1 r) = nI (cmb R.2.2.2 R.2.1 (rsn R.2.2.1 R.2.1 (R.2.2.1 r))) := if_pos h3
  rw [h4, h2]
  rfl
theorem is_xor {a b d : Nat} (ha : isS R a = true) (hb : isS R b = true) (hd : isS R d = true) : isS R ((a ^^^ b) ^^^ d) = true := by
  have ha := cdec.mp ha
  have hb := cdec.mp hb
  have hd := cdec.mp hd
  refine cdec.mpr (fun j hj hk => ?_)
  rw [Nat.and_xor_distrib_left, Nat.and_xor_distrib_left, pty_xor, pty_xor, ha j hj hk, hb j hj hk, hd j hj hk, Nat.xor_self, Nat.zero_xor]
theorem ne_self (hR : RowOK R) {a : Nat} (ha : a < 2 ^ R.1) (hs : isS R a = true) : neS R a = a := by
  have h12 := p12 hR.2.1
  have e0 : pcn (a ^^^ a) = 0 := by rw [Nat.xor_self, pcn_eq, pcnt_0]
  refine neS_eq ⟨ha, hs, fun b hb _ => ?_⟩
  rw [e0]
  rcases Nat.eq_zero_or_pos (pcn (b ^^^ a)) with e | e
  · right
    have := x_0 (pcn_0 (xor12 (by omega) (by omega)) e)
    exact ⟨e.symm, by omega⟩
  · exact Or.inl e
theorem br_an (hR : RowOK R) {a : Nat} (h : isS R a = true) : brF R.2.2.1 R.2.2.2 R.2.1 a = ctS R 2 := smF_cong R.2.1 (fun j hj => by
  have h1 := fit_st hR h hj
  have h2 := (hR.2.2.2 j hj).2.2
  have h3 := pty_le (R.2.2.1 j &&& a)
  show R.2.2.2 j ^^^ pty (R.2.2.1 j &&& a) = if stS R j = 2 then 1 else 0
  by_cases e : stS R j = 2
  · rw [if_pos e, x01 h2 h3]
    have : ¬ pty (R.2.2.1 j &&& a) = R.2.2.2 j := fun z => h1.mp z e
    omega
  · rw [if_neg e, h1.mpr e, Nat.xor_self])
theorem br_le (hR : RowOK R) : (brS R).2.1 ≤ ctS R 2 := by
  obtain ⟨a1, a2, -⟩ := an_ok hR (q := 0) na_pos
  obtain ⟨-, -, b3, -, -⟩ := br_is R
  have := b3 (anS R 0) (by omega)
  rw [br_an hR a2] at this
  exact this
theorem br_0 (hR : RowOK R) (h0 : ctS R 2 = 0) : (brS R).2.1 = 0 ∧ (brS R).1 = anS R 0 ∧ (brS R).2.2 = naS R := by
  have hp := Nat.two_pow_pos R.1
  have h1 : (brS R).2.1 = 0 := by have := br_le hR; omega
  have hbr : ∀ a, brF R.2.2.1 R.2.2.2 R.2.1 a = 0 ↔ isS R a = true := fun a => by
    constructor
    · intro z
      refine cdec.mpr (fun j hj _ => ?_)
      exact (x_0 (smF_z z j hj)).symm
    · intro z
      rw [br_an hR z, h0]
  obtain ⟨b1, b2, -, b4, b5⟩ := br_is R
  rw [h1] at b2 b4 b5
  refine ⟨h1, ?_, ?_⟩
  · refine (anS_eq (by omega) ((hbr _).mp b2) ?_).symm
    rw [ctB_gap (x := 0) (Nat.zero_le _) (fun a _ ha => ?_)]
    · rfl
    · cases e : isS R a
      · rfl
      · have := b4 a ha
        rw [(hbr a).mpr e] at this
        omega
  · rw [b5, pow_1, ← ct_na hR, ctB_sm]
    refine smF_cong _ (fun a _ => ?_)
    by_cases e : isS R a = true
    · rw [if_pos e, if_pos ((hbr a).mpr e)]
    · rw [if_neg e, if_neg (fun z => e ((hbr a).mp z))]
end WR
