/-! parity of a combination; answers in order -/
theorem mod2 (a : Nat) : a % 2 = 0 ∨ a % 2 = 1 := by omega
theorem xor_m2 (a b : Nat) : (a ^^^ b) % 2 = (a % 2 + b % 2) % 2 := by
  have h := Nat.xor_mod_two_eq_one (a := a) (b := b)
  rcases mod2 a with h1 | h1 <;> rcases mod2 b with h2 | h2 <;> rcases mod2 (a ^^^ b) with h3 | h3 <;> simp [h1, h2, h3] at h ⊢
theorem pcnt_xor (k : Nat) : ∀ a b, pcnt k (a ^^^ b) % 2 = (pcnt k a + pcnt k b) % 2 := by
  induction k with
  | zero => intro a b; rfl
  | succ k ih =>
    intro a b
    have h1 := ih (a / 2) (b / 2)
    have h2 := xor_m2 a b
    show ((a ^^^ b) % 2 + pcnt k ((a ^^^ b) / 2)) % 2 = ((a % 2 + pcnt k (a / 2)) + (b % 2 + pcnt k (b / 2))) % 2
    rw [Nat.xor_div_two]
    omega
theorem x01 {x y : Nat} (hx : x ≤ 1) (hy : y ≤ 1) : x ^^^ y = (x + y) % 2 := by
  have h1 : x = 0 ∨ x = 1 := by omega
  have h2 : y = 0 ∨ y = 1 := by omega
  rcases h1 with h1 | h1 <;> rcases h2 with h2 | h2 <;> subst h1 <;> subst h2 <;> rfl
theorem pty_xor (a b : Nat) : pty (a ^^^ b) = pty a ^^^ pty b := by
  rw [x01 (pty_le a) (pty_le b), pty_mod, pty_mod, pty_mod, pcn_eq, pcn_eq, pcn_eq, pcnt_xor]
  omega
theorem pcnt_0 (k : Nat) : pcnt k 0 = 0 := by
  induction k with
  | zero => rfl
  | succ k ih => show 0 % 2 + pcnt k (0 / 2) = 0; rw [Nat.zero_div, ih]
theorem pty_0 : pty 0 = 0 := by rw [pty_mod, pcn_eq, pcnt_0]
theorem pcnt_pow : ∀ c, c < 12 → pcnt 32 (2 ^ c) % 2 = 1 := by decide +kernel
theorem pty_pow (c : Nat) (h : c < 12) : pty (2 ^ c) = 1 := by rw [pty_mod, pcn_eq]; exact pcnt_pow c h
theorem xor_le1 {x y : Nat} (hx : x ≤ 1) (hy : y ≤ 1) : x ^^^ y ≤ 1 := by rw [x01 hx hy]; omega
theorem cmb_le1 {g : Nat → Nat} {n : Nat} (h : ∀ j, j < n → g j ≤ 1) (x : Nat) : cmb g n x ≤ 1 := by
  have := cmb_lt (f := g) (n := n) (w := 1) (fun j hj => by have := h j hj; omega) x
  omega
/-- an answer fits all kept rules -/
def isA (f g : Nat → Nat) (n k a : Nat) : Prop := ∀ j, j < n → k.testBit j = true → pty (f j &&& a) = g j
theorem isA_cmb {f g : Nat → Nat} {n k a x : Nat} (h : isA f g n k a) (hx : sbs x k) : ∀ n', n' ≤ n → pty (cmb f n' x &&& a) = cmb g n' x
  | 0, _ => by
    show pty (0 &&& a) = 0
    rw [Nat.zero_and, pty_0]
  | n' + 1, hn => by
    show pty ((cmb f n' x ^^^ _) &&& a) = cmb g n' x ^^^ _
    rw [Nat.and_xor_distrib_right, pty_xor, isA_cmb h hx n' (by omega)]
    split
    · rename_i q
      rw [h n' (by omega) (hx n' q)]
    · rw [Nat.zero_and, pty_0]
/-- all steps are fitted -/
def stepsA (ss su : Nat → Nat) (a : Nat) : Prop := ∀ c, c < 12 → ¬ ss c = 0 → pty (ss c &&& a) = su c
theorem isA_steps {f g ss su sr : Nat → Nat} {n k a : Nat} (hB : Bas (fun t => t) f g n k ss su sr) (h : isA f g n k a) : stepsA ss su a := by
  intro c hc h0
  obtain ⟨e1, e2, e3⟩ := hB.2.1 c hc h0
  show pty (ss c &&& a) = su c
  have e1' : ss c = cmb f n (sr c) := e1
  have e2' : su c = cmb g n (sr c) := e2
  rw [e1', e2']
  exact isA_cmb h e3 n (Nat.le_refl _)
theorem steps_red {ss su sr : Nat → Nat} {a : Nat} (h : stepsA ss su a) (v b m0 : Nat) : ∀ t, t ≤ 12 → pty ((redo (fun t => t) ss su sr t (v, b, m0)).1 &&& a) ^^^ (redo (fun t => t) ss su sr t (v, b, m0)).2.1 = pty (v &&& a) ^^^ b
  | 0, _ => rfl
  | t + 1, ht => by
    have ih := steps_red (sr := sr) h v b m0 t (by omega)
    show pty ((rst ss su sr t (redo (fun t => t) ss su sr t (v, b, m0))).1 &&& a) ^^^ (rst ss su sr t (redo (fun t => t) ss su sr t (v, b, m0))).2.1 = _
    unfold rst
    split
    · rename_i q
      show pty (((redo (fun t => t) ss su sr t (v, b, m0)).1 ^^^ ss t) &&& a) ^^^ ((redo (fun t => t) ss su sr t (v, b, m0)).2.1 ^^^ su t) = _
      rw [Nat.and_xor_distrib_right, pty_xor, h t (by omega) q.2, x4, Nat.xor_self, Nat.xor_zero]
      exact ih
    · exact ih
theorem steps_isA {f g ss su sr : Nat → Nat} {n a : Nat} (hB : Bas (fun t => t) f g n (kp f n) ss su sr) (hg : ∀ j, j < n → g j ≤ 1) (h : stepsA ss su a) : isA f g n (kp f n) a := by
  intro j hj hb
  obtain ⟨q1, q2, q3, hq⟩ : ∃ q1 q2 q3, redo (fun t => t) ss su sr 12 (f j, g j, 0) = (q1, q2, q3) := ⟨_, _, _, rfl⟩
  have e := steps_red (sr := sr) h (f j) (g j) 0 12 (Nat.le_refl _)
  obtain ⟨r1, r2, r3, -, r5⟩ := red_ok hB hq
  have h0 := hB.2.2 j hj hb
  rw [r5] at h0
  rw [hq] at e
  have e' : pty (q1 &&& a) ^^^ q2 = pty (f j &&& a) ^^^ g j := e
  rw [h0] at r2 e'
  have hm : q3 = 2 ^ j := by
    refine sbs_uniq r1 ?_ ?_
    · intro i hi
      rw [Nat.testBit_two_pow] at hi
      rw [← of_decide_eq_true hi]
      exact hb
    · rw [cmb_one hj]
      exact (x_0 r2.symm).symm
  rw [hm, cmb_one hj, Nat.xor_self] at r3
  rw [r3, Nat.zero_and, pty_0, Nat.xor_self] at e'
  exact x_0 e'.symm
/-! the answer at a place -/
def fr (ss : Nat → Nat) : Nat → Nat
  | 0 => 0
  | c + 1 => fr ss c + (if ss c = 0 then 1 else 0)
theorem fr_free {ss : Nat → Nat} {c : Nat} (h : ss c = 0) : fr ss (c + 1) = fr ss c + 1 := by show _ + (if _ then _ else _) = _; rw [if_pos h]
theorem fr_step {ss : Nat → Nat} {c : Nat} (h : ¬ ss c = 0) : fr ss (c + 1) = fr ss c := by show _ + (if _ then _ else _) = _; rw [if_neg h]; rfl
theorem fr_mono (ss : Nat → Nat) : ∀ {a b : Nat}, a ≤ b → fr ss a ≤ fr ss b := by
  intro a b h
  induction b with
  | zero => rw [show a = 0 by omega]; exact Nat.le_refl _
  | succ b ih =>
    rcases Nat.lt_or_ge a (b + 1) with q | q
    · exact Nat.le_trans (ih (by omega)) (Nat.le_add_right _ _)
    · rw [show a = b + 1 by omega]; exact Nat.le_refl _
theorem fr_le (ss : Nat → Nat) : ∀ c, fr ss c ≤ c
  | 0 => Nat.le_refl _
  | c + 1 => by
    have := fr_le ss c
    show fr ss c + (if _ then _ else _) ≤ c + 1
    split <;> omega
theorem fr_lt {ss : Nat → Nat} {c b : Nat} (h : ss c = 0) (hb : c < b) : fr ss c < fr ss b := by
  have h1 := fr_mono ss (a := c + 1) (b := b) hb
  rw [fr_free h] at h1
  omega
theorem fr_onto {ss : Nat → Nat} : ∀ {b r : Nat}, r < fr ss b → ∃ c, c < b ∧ ss c = 0 ∧ fr ss c = r
  | 0, r, h => absurd h (Nat.not_lt_zero _)
  | b + 1, r, h => by
    by_cases h0 : ss b = 0
    · rw [fr_free h0] at h
      rcases Nat.lt_or_ge r (fr ss b) with q | q
      · obtain ⟨c, h1, h2, h3⟩ := fr_onto q
        exact ⟨c, by omega, h2, h3⟩
      · exact ⟨b, by omega, h0, by omega⟩
    · rw [fr_step h0] at h
      obtain ⟨c, h1, h2, h3⟩ := fr_onto h
      exact ⟨c, by omega, h2, h3⟩
def low1 (ss : Nat → Nat) : Prop := ∀ c, c < 12 → ¬ ss c = 0 → (ss c).testBit c = true ∧ ∀ i, i < c → (ss c).testBit i = false
def AnsOf (ss su : Nat → Nat) (w q a : Nat) : Prop := a < 2 ^ w ∧ ∀ c, c < w → (ss c = 0 → a.testBit c = q.testBit (fr ss c)) ∧ (¬ ss c = 0 → pty (ss c &&& a) = su c)
/-- with the places from k on done -/
def AW (ss su : Nat → Nat) (w q k a : Nat) : Prop := a < 2 ^ w ∧ (∀ i, i < k → a.testBit i = false) ∧ ∀ c, k ≤ c → c < w → (ss c = 0 → a.testBit c = q.testBit (fr ss c)) ∧ (¬ ss c = 0 → pty (ss c &&& a) = su c)
theorem aw_0 (ss su : Nat → Nat) (w q : Nat) : AW ss su w q w 0 := ⟨Nat.two_pow_pos w, fun i _ => Nat.zero_testBit i, fun c h1 h2 => by omega⟩
theorem bit1 {t k i : Nat} (ht : t ≤ 1) : (t <<< k).testBit i = (decide (i = k) && decide (t = 1)) := by
  have h : t = 0 ∨ t = 1 := by omega
  rcases h with h | h <;> subst h
  · rw [Nat.zero_shiftLeft, Nat.zero_testBit]
    simp
  · rw [Nat.one_shiftLeft, Nat.testBit_two_pow]
    by_cases e : k = i
    · subst e; simp
    · simp [e, Ne.symm e]
theorem aw_lt {a t k w : Nat} (ha : a < 2 ^ w) (ht : t ≤ 1) (hk : k < w) : a ||| t <<< k < 2 ^ w := by
  refine Nat.or_lt_two_pow ha ?_
  have h : t = 0 ∨ t = 1 := by omega
  rcases h with h | h <;> subst h
  · rw [Nat.zero_shiftLeft]; exact Nat.two_pow_pos w
  · rw [Nat.one_shiftLeft]; exact Nat.pow_lt_pow_right (by decide) hk
theorem aw_keep {ss su : Nat → Nat} {w q k a t : Nat} (hl : low1 ss) (hw : w ≤ 12) (h : AW ss su w q (k + 1) a) (ht : t ≤ 1) : ∀ c, k + 1 ≤ c → c < w → (ss c = 0 → (a ||| t <<< k).testBit c = q.testBit (fr ss c)) ∧ (¬ ss c = 0 → pty (ss c &&& (a ||| t <<< k)) = su c) := by
  intro c h1 h2
  obtain ⟨g1, g2⟩ := h.2.2 c h1 h2
  refine ⟨fun h0 => ?_, fun h0 => ?_⟩
  · rw [Nat.testBit_or, bit1 ht, g1 h0]
    simp [show ¬ c = k by omega]
  · rw [← g2 h0]
    congr 1
    apply Nat.eq_of_testBit_eq
    intro i
    rw [Nat.testBit_and, Nat.testBit_and, Nat.testBit_or, bit1 ht]
    by_cases e : i = k
    · subst e
      rw [(hl c (by omega) h0).2 i (by omega)]
      rfl
    · simp [e]
theorem aw_free {ss su : Nat → Nat} {w q k a : Nat} (hl : low1 ss) (hw : w ≤ 12) (hk : k < w) (h : AW ss su w q (k + 1) a) (h0 : ss k = 0) : AW ss su w q k (a ||| (q >>> fr ss k &&& 1) <<< k) := by
  have ht : q >>> fr ss k &&& 1 ≤ 1 := Nat.and_le_right
  refine ⟨aw_lt h.1 ht hk, fun i hi => ?_, fun c h1 h2 => ?_⟩
  · rw [Nat.testBit_or, bit1 ht, h.2.1 i (by omega)]
    simp [show ¬ i = k by omega]
  · by_cases e : c = k
    · subst e
      refine ⟨fun _ => ?_, fun q0 => absurd h0 q0⟩
      rw [Nat.testBit_or, bit1 ht, h.2.1 c (by omega)]
      simp only [decide_true, Bool.true_and, Bool.false_or]
      have e1 := tb_1 q (fr ss c)
      cases hb : q.testBit (fr ss c)
      · rw [hb] at e1
        exact decide_eq_false (fun z => by have := e1.mp z; cases this)
      · exact decide_eq_true (e1.mpr hb)
    · exact aw_keep hl hw h ht c (by omega) h2
theorem aw_step {ss su : Nat → Nat} {w q k a : Nat} (hl : low1 ss) (hw : w ≤ 12) (hk : k < w) (h : AW ss su w q (k + 1) a) (h0 : ¬ ss k = 0) (hs : su k ≤ 1) : AW ss su w q k (a ||| (su k ^^^ pty (ss k &&& a)) <<< k) := by
  have ht : su k ^^^ pty (ss k &&& a) ≤ 1 := xor_le1 hs (pty_le _)
  refine ⟨aw_lt h.1 ht hk, fun i hi => ?_, fun c h1 h2 => ?_⟩
  · rw [Nat.testBit_or, bit1 ht, h.2.1 i (by omega)]
    simp [show ¬ i = k by omega]
  · by_cases e : c = k
    · subst e
      refine ⟨fun z => absurd z h0, fun _ => ?_⟩
      have hbit := (hl c (by omega) h0).1
      generalize hx : su c ^^^ pty (ss c &&& a) = t at ht ⊢
      have e1 : ss c &&& (a ||| t <<< c) = (ss c &&& a) ^^^ (t <<< c) := by
        apply Nat.eq_of_testBit_eq
        intro i
        rw [Nat.testBit_and, Nat.testBit_or, Nat.testBit_xor, Nat.testBit_and, bit1 ht]
        by_cases d : i = c
        · subst d
          rw [h.2.1 i (by omega), hbit]
          simp
        · simp [d]
      have e2 : pty (t <<< c) = t := by
        have hz : t = 0 ∨ t = 1 := by omega
        rcases hz with hz | hz <;> subst hz
        · rw [Nat.zero_shiftLeft]; exact pty_0
        · rw [Nat.one_shiftLeft]; exact pty_pow c (by omega)
      rw [e1, pty_xor, e2, ← hx, Nat.xor_comm (su c), ← Nat.xor_assoc, Nat.xor_self, Nat.zero_xor]
    · exact aw_keep hl hw h ht c (by omega) h2
theorem aw_end {ss su : Nat → Nat} {w q a : Nat} (h : AW ss su w q 0 a) : AnsOf ss su w q a := ⟨h.1, fun c hc => h.2.2 c (Nat.zero_le _) hc⟩
theorem ans_ex {ss su : Nat → Nat} {w : Nat} (hl : low1 ss) (hw : w ≤ 12) (hs : ∀ c, c < w → ¬ ss c = 0 → su c ≤ 1) (q : Nat) : ∃ a, AnsOf ss su w q a := by
  have key : ∀ d, d ≤ w → ∃ a, AW ss su w q (w - d) a := by
    intro d
    induction d with
    | zero => intro _; exact ⟨0, aw_0 ss su w q⟩
    | succ d ih =>
      intro hd
      obtain ⟨a, ha⟩ := ih (by omega)
      rw [show w - d = (w - (d + 1)) + 1 by omega] at ha
      by_cases h0 : ss (w - (d + 1)) = 0
      · exact ⟨_, aw_free hl hw (by omega) ha h0⟩
      · exact ⟨_, aw_step hl hw (by omega) ha h0 (hs _ (by omega) h0)⟩
  obtain ⟨a, ha⟩ := key w (Nat.le_refl _)
  rw [Nat.sub_self] at ha
  exact ⟨a, aw_end ha⟩
theorem hi_diff {a b : Nat} : ∀ w, (∀ j, w ≤ j → a.testBit j = b.testBit j) → a ≠ b → ∃ i, i < w ∧ a.testBit i ≠ b.testBit i ∧ ∀ j, i < j → a.testBit j = b.testBit j
  | 0, h, hne => absurd (Nat.eq_of_testBit_eq fun i => h i (Nat.zero_le _)) hne
  | w + 1, h, hne => by
    by_cases e : a.testBit w = b.testBit w
    · obtain ⟨i, h1, h2, h3⟩ := hi_diff w (fun j hj => by
        by_cases q : j = w
        · rw [q]; exact e
        · exact h j (by omega)) hne
      exact ⟨i, by omega, h2, h3⟩
    · exact ⟨w, by omega, e, fun j hj => h j (by omega)⟩
theorem lt_bits {x y i : Nat} (hx : x.testBit i = false) (hy : y.testBit i = true) (h : ∀ j, i < j → x.testBit j = y.testBit j) : x < y := by
  have e : x / 2 ^ (i + 1) = y / 2 ^ (i + 1) := by
    apply Nat.eq_of_testBit_eq
    intro j
    rw [Nat.testBit_div_two_pow, Nat.testBit_div_two_pow]
    exact h _ (by omega)
  have x1 : x / 2 ^ i % 2 = 0 := by
    have := Nat.testBit_eq_decide_div_mod_eq (x := x) (i := i)
    rw [hx] at this
    have := of_decide_eq_false this.symm
    omega
  have y1 : y / 2 ^ i % 2 = 1 := by
    have := Nat.testBit_eq_decide_div_mod_eq (x := y) (i := i)
    rw [hy] at this
    exact of_decide_eq_true this.symm
  rw [Nat.pow_succ, ← Nat.div_div_eq_div_mul, ← Nat.div_div_eq_div_mul] at e
  have hlt : x / 2 ^ i < y / 2 ^ i := by omega
  rcases Nat.lt_or_ge x y with q | q
  · exact q
  · exact absurd (Nat.div_le_div_right (c := 2 ^ i) q) (by omega)
theorem ans_hi {ss su : Nat → Nat} {w q r a b : Nat} (hl : low1 ss) (hw : w ≤ 12) (ha : AnsOf ss su w q a) (hb : AnsOf ss su w r b) (hne : a ≠ b) : ∃ i, i < w ∧ ss i = 0 ∧ a.testBit i ≠ b.testBit i ∧ ∀ j, i < j → a.testBit j = b.testBit j := by
  obtain ⟨i, h1, h2, h3⟩ := hi_diff w (fun j hj => by rw [Nat.testBit_lt_two_pow (Nat.lt_of_lt_of_le ha.1 (Nat.pow_le_pow_right (by decide) hj)), Nat.testBit_lt_two_pow (Nat.lt_of_lt_of_le hb.1 (Nat.pow_le_pow_right (by decide) hj))]) hne
  refine ⟨i, h1, ?_, h2, h3⟩
  rcases Nat.eq_zero_or_pos (ss i) with e | e
  · exact e
  · exfalso
    have h0 : ¬ ss i = 0 := by omega
    obtain ⟨l1, l2⟩ := hl i (by omega) h0
    have g1 := (ha.2 i h1).2 h0
    have g2 := (hb.2 i h1).2 h0
    have e1 : (ss i &&& a) ^^^ (ss i &&& b) = 2 ^ i := by
      apply Nat.eq_of_testBit_eq
      intro j
      rw [Nat.testBit_xor, Nat.testBit_and, Nat.testBit_and, Nat.testBit_two_pow]
      rcases Nat.lt_trichotomy i j with c | c | c
      · rw [h3 j c]
        simp [show ¬ i = j by omega]
      · subst c
        rw [l1]
        cases q1 : a.testBit i <;> cases q2 : b.testBit i <;> simp_all
      · rw [l2 j c]
        simp [show ¬ i = j by omega]
    have e2 : pty (2 ^ i) = 0 := by rw [← e1, pty_xor, g1, g2, Nat.xor_self]
    rw [pty_pow i (by omega)] at e2
    cases e2
theorem ans_one {ss su : Nat → Nat} {w q a b : Nat} (hl : low1 ss) (hw : w ≤ 12) (ha : AnsOf ss su w q a) (hb : AnsOf ss su w q b) : a = b := by
  rcases Nat.decEq a b with h | h
  · obtain ⟨i, h1, h2, h3, -⟩ := ans_hi hl hw ha hb h
    exact absurd (((ha.2 i h1).1 h2).trans ((hb.2 i h1).1 h2).symm) h3
  · exact h
theorem ans_mono {ss su : Nat → Nat} {w q r a b : Nat} (hl : low1 ss) (hw : w ≤ 12) (ha : AnsOf ss su w q a) (hb : AnsOf ss su w r b) (hqr : q < r) (hr : r < 2 ^ fr ss w) : a < b := by
  have same : ∀ z, fr ss w ≤ z → q.testBit z = r.testBit z := fun z hz => by
    rw [Nat.testBit_lt_two_pow (Nat.lt_of_lt_of_le (Nat.lt_trans hqr hr) (Nat.pow_le_pow_right (by decide) hz)), Nat.testBit_lt_two_pow (Nat.lt_of_lt_of_le hr (Nat.pow_le_pow_right (by decide) hz))]
  have hne : a ≠ b := by
    intro e
    subst e
    have : q = r := by
      apply Nat.eq_of_testBit_eq
      intro z
      rcases Nat.lt_or_ge z (fr ss w) with c | c
      · obtain ⟨i, h1, h2, h3⟩ := fr_onto c
        rw [← h3, ← (ha.2 i h1).1 h2, ← (hb.2 i h1).1 h2]
      · exact same z c
    omega
  obtain ⟨i, h1, h2, h3, h4⟩ := ans_hi hl hw ha hb hne
  have up : ∀ z, fr ss i < z → q.testBit z = r.testBit z := by
    intro z hz
    rcases Nat.lt_or_ge z (fr ss w) with c | c
    · obtain ⟨j, g1, g2, g3⟩ := fr_onto c
      have hij : i < j := by
        rcases Nat.lt_or_ge i j with d | d
        · exact d
        · have := fr_mono ss d
          omega
      rw [← g3, ← (ha.2 j g1).1 g2, ← (hb.2 j g1).1 g2]
      exact h4 j hij
    · exact same z c
  have ea := (ha.2 i h1).1 h2
  have eb := (hb.2 i h1).1 h2
  cases qa : a.testBit i <;> cases qb : b.testBit i
  · rw [qa, qb] at h3; exact absurd rfl h3
  · exact lt_bits qa qb h4
  · exfalso
    rw [qa] at ea
    rw [qb] at eb
    have := lt_bits eb.symm ea.symm (fun j hj => (up j hj).symm)
    omega
  · rw [qa, qb] at h3; exact absurd rfl h3
/-- every number that fits the steps has a place -/
def plc (ss : Nat → Nat) (a : Nat) : Nat → Nat
  | 0 => 0
  | c + 1 => if ss c = 0 then plc ss a c ||| (if a.testBit c = true then 2 ^ fr ss c else 0) else plc ss a c
theorem plc_lt (ss : Nat → Nat) (a : Nat) : ∀ c, plc ss a c < 2 ^ fr ss c
  | 0 => by show 0 < 1; omega
  | c + 1 => by
    have ih := plc_lt ss a c
    show (if _ then _ else _ : Nat) < _
    by_cases h : ss c = 0
    · rw [if_pos h, fr_free h]
      have h2 : 2 ^ fr ss c < 2 ^ (fr ss c + 1) := Nat.pow_lt_pow_right (by decide) (by omega)
      refine Nat.or_lt_two_pow (by omega) ?_
      split
      · exact h2
      · exact Nat.two_pow_pos _
    · rw [if_neg h, fr_step h]
      exact ih
theorem plc_bit (ss : Nat → Nat) (a : Nat) : ∀ w c, c < w → ss c = 0 → (plc ss a w).testBit (fr ss c) = a.testBit c
  | 0, c, h, _ => absurd h (Nat.not_lt_zero _)
  | w + 1, c, h, h0 => by
    show (if _ then _ else _ : Nat).testBit _ = _
    by_cases e : c = w
    · subst e
      rw [if_pos h0, Nat.testBit_or, Nat.testBit_lt_two_pow (plc_lt ss a c), Bool.false_or]
      cases a.testBit c
      · simp
      · simp [Nat.testBit_two_pow_self]
    · have ih := plc_bit ss a w c (by omega) h0
      split
      · rename_i q
        have hlt := fr_lt h0 (show c < w by omega)
        rw [Nat.testBit_or, ih]
        split
        · rw [Nat.testBit_two_pow_of_ne (by omega), Bool.or_false]
        · rw [Nat.zero_testBit, Bool.or_false]
      · exact ih
theorem ans_plc {ss su : Nat → Nat} {w a : Nat} (hw : w ≤ 12) (ha : a < 2 ^ w) (h : stepsA ss su a) : AnsOf ss su w (plc ss a w) a := ⟨ha, fun c hc => ⟨fun h0 => (plc_bit ss a w c hc h0).symm, fun h0 => h c (by omega) h0⟩⟩
theorem ans_steps {ss su : Nat → Nat} {w q a : Nat} (hz : ∀ c, w ≤ c → c < 12 → ss c = 0) (h : AnsOf ss su w q a) : stepsA ss su a := by
  intro c hc h0
  rcases Nat.lt_or_ge c w with d | d
  · exact (h.2 c d).2 h0
  · exact absurd (hz c d hc) h0
/-- three answers combined are an answer -/
theorem ans_xor {ss su : Nat → Nat} {w q r t a b d : Nat} (ha : AnsOf ss su w q a) (hb : AnsOf ss su w r b) (hd : AnsOf ss su w t d) : AnsOf ss su w (q ^^^ (r ^^^ t)) (a ^^^ (b ^^^ d)) := by
  refine ⟨Nat.xor_lt_two_pow ha.1 (Nat.xor_lt_two_pow hb.1 hd.1), fun c hc => ⟨fun h0 => ?_, fun h0 => ?_⟩⟩
  · rw [Nat.testBit_xor, Nat.testBit_xor, Nat.testBit_xor, Nat.testBit_xor, (ha.2 c hc).1 h0, (hb.2 c hc).1 h0, (hd.2 c hc).1 h0]
  · rw [Nat.and_xor_distrib_left, Nat.and_xor_distrib_left, pty_xor, pty_xor, (ha.2 c hc).2 h0, (hb.2 c hc).2 h0, (hd.2 c hc).2 h0, Nat.xor_self, Nat.xor_zero]
/-! counts -/
def ctB (q : Nat → Bool) : Nat → Nat
  | 0 => 0
  | n + 1 => ctB q n + (if q n then 1 else 0)
theorem ctB_gap {q : Nat → Bool} {x : Nat} : ∀ {y : Nat}, x ≤ y → (∀ a, x ≤ a → a < y → q a = false) → ctB q y = ctB q x
  | 0, h, _ => by rw [show x = 0 by omega]
  | y + 1, h, hq => by
    rcases Nat.lt_or_ge x (y + 1) with c | c
    · show ctB q y + _ = _
      rw [hq y (by omega) (by omega), ctB_gap (y := y) (by omega) (fun a h1 h2 => hq a h1 (by omega))]
      rfl
    · rw [show x = y + 1 by omega]
theorem ct_place {q : Nat → Bool} {N F : Nat} {A : Nat → Nat} (hA : ∀ i j, i < j → j < F → A i < A j) (hq : ∀ a, a < N → (q a = true ↔ ∃ i, i < F ∧ A i = a)) (hN : ∀ i, i < F → A i < N) : ∀ i, i < F → ctB q (A i) = i
  | 0, h => by
    rw [ctB_gap (x := 0) (Nat.zero_le _) (fun a _ h2 => ?_)]
    · rfl
    · cases e : q a
      · rfl
      · obtain ⟨i, h3, h4⟩ := (hq a (Nat.lt_trans h2 (hN 0 h))).mp e
        rcases Nat.eq_zero_or_pos i with z | z
        · subst z; omega
        · have := hA 0 i z h3
          omega
  | i + 1, h => by
    have ih := ct_place hA hq hN i (by omega)
    have hlt := hA i (i + 1) (by omega) h
    rw [ctB_gap (x := A i + 1) hlt (fun a h1 h2 => ?_)]
    · show ctB q (A i) + _ = _
      rw [ih, (hq (A i) (hN i (by omega))).mpr ⟨i, by omega, rfl⟩]
      rfl
    · cases e : q a
      · rfl
      · obtain ⟨j, h3, h4⟩ := (hq a (Nat.lt_trans h2 (hN _ h))).mp e
        rcases Nat.lt_trichotomy j i with z | z | z
        · have := hA j i z (by omega)
          omega
        · subst z; omega
        · rcases Nat.lt_or_ge (i + 1) j with y | y
          · have := hA (i + 1) j y h3
            omega
          · have e2 : j = i + 1 := by omega
            subst e2; omega
