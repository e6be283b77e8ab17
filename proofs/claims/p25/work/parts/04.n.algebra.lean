/-! combinations of sets of rules; which rules are kept; reasons -/
def cmb (f : Nat → Nat) : Nat → Nat → Nat
  | 0, _ => 0
  | n + 1, x => cmb f n x ^^^ (if x.testBit n = true then f n else 0)
def sbs (x y : Nat) : Prop := ∀ i, x.testBit i = true → y.testBit i = true
def spn (f : Nat → Nat) (n k v : Nat) : Prop := ∃ x, sbs x k ∧ cmb f n x = v
noncomputable def kp (f : Nat → Nat) : Nat → Nat
  | 0 => 0
  | n + 1 => @ite Nat (spn f n (kp f n) (f n)) (Classical.propDecidable _) (kp f n) (kp f n ||| 2 ^ n)
noncomputable def rsn (f : Nat → Nat) (n v : Nat) : Nat := @dite Nat (spn f n (kp f n) v) (Classical.propDecidable _) (fun h => Classical.choose h) (fun _ => 0)
noncomputable def stt (f g : Nat → Nat) (n v b : Nat) : Nat := @ite Nat (spn f n (kp f n) v) (Classical.propDecidable _) (if cmb g n (rsn f n v) = b then 1 else 2) 0
theorem stt_k {f g : Nat → Nat} {n v b : Nat} (h : ¬ spn f n (kp f n) v) : stt f g n v b = 0 := if_neg h
theorem stt_n {f g : Nat → Nat} {n v b : Nat} (h : spn f n (kp f n) v) : stt f g n v b = if cmb g n (rsn f n v) = b then 1 else 2 := if_pos h
theorem stt_0 {f g : Nat → Nat} {n v b : Nat} : stt f g n v b = 0 ↔ ¬ spn f n (kp f n) v := by
  constructor
  · intro h q
    rw [stt_n q] at h
    split at h <;> omega
  · exact stt_k
theorem stt_le (f g : Nat → Nat) (n v b : Nat) : stt f g n v b ≤ 2 := by
  by_cases h : spn f n (kp f n) v
  · rw [stt_n h]; split <;> omega
  · rw [stt_k h]; omega
theorem x4 (a b d e : Nat) : (a ^^^ b) ^^^ (d ^^^ e) = (a ^^^ d) ^^^ (b ^^^ e) := by
  apply Nat.eq_of_testBit_eq
  intro i
  simp only [Nat.testBit_xor]
  cases a.testBit i <;> cases b.testBit i <;> cases d.testBit i <;> cases e.testBit i <;> rfl
theorem x_can {a b d : Nat} (h : a ^^^ b = d) : a = d ^^^ b := by rw [← h, Nat.xor_assoc, Nat.xor_self, Nat.xor_zero]
theorem x_0 {a b : Nat} (h : a ^^^ b = 0) : a = b := by have := x_can h; rw [Nat.zero_xor] at this; exact this
theorem cmb_xor (f : Nat → Nat) (n : Nat) : ∀ x y, cmb f n (x ^^^ y) = cmb f n x ^^^ cmb f n y := by
  induction n with
  | zero => intro x y; show 0 = 0 ^^^ 0; rw [Nat.xor_zero]
  | succ n ih =>
    intro x y
    show cmb f n (x ^^^ y) ^^^ _ = (cmb f n x ^^^ _) ^^^ (cmb f n y ^^^ _)
    rw [ih, x4]
    congr 1
    rw [Nat.testBit_xor]
    cases x.testBit n <;> cases y.testBit n <;> simp
theorem cmb_low {f : Nat → Nat} {n : Nat} : ∀ {x y : Nat}, (∀ i, i < n → x.testBit i = y.testBit i) → cmb f n x = cmb f n y := by
  induction n with
  | zero => intro x y _; rfl
  | succ n ih =>
    intro x y h
    show cmb f n x ^^^ _ = cmb f n y ^^^ _
    rw [ih (fun i hi => h i (by omega)), h n (by omega)]
theorem cmb_cong {f f' : Nat → Nat} {n : Nat} (x : Nat) (h : ∀ j, j < n → f j = f' j) : cmb f n x = cmb f' n x := by
  induction n with
  | zero => rfl
  | succ n ih =>
    show cmb f n x ^^^ _ = cmb f' n x ^^^ _
    rw [ih (fun j hj => h j (by omega)), h n (by omega)]
theorem cmb_0 (f : Nat → Nat) (n : Nat) : cmb f n 0 = 0 := by
  induction n with
  | zero => rfl
  | succ n ih =>
    show cmb f n 0 ^^^ _ = 0
    rw [ih]
    simp
theorem cmb_up {f : Nat → Nat} {n x : Nat} (h : x < 2 ^ n) : cmb f (n + 1) x = cmb f n x := by
  show cmb f n x ^^^ _ = _
  rw [Nat.testBit_lt_two_pow h]
  simp
theorem cmb_one {f : Nat → Nat} {n j : Nat} (hj : j < n) : cmb f n (2 ^ j) = f j := by
  induction n with
  | zero => omega
  | succ n ih =>
    by_cases h : j = n
    · subst h
      show cmb f j (2 ^ j) ^^^ _ = _
      rw [cmb_low (y := 0) (fun i hi => by rw [Nat.testBit_two_pow_of_ne (by omega), Nat.zero_testBit]), cmb_0, Nat.testBit_two_pow_self]
      simp
    · rw [cmb_up (Nat.pow_lt_pow_right (by decide) (by omega))]
      exact ih (by omega)
theorem cmb_lt {f : Nat → Nat} {n w : Nat} (h : ∀ j, j < n → f j < 2 ^ w) (x : Nat) : cmb f n x < 2 ^ w := by
  induction n with
  | zero => exact Nat.two_pow_pos w
  | succ n ih =>
    refine Nat.xor_lt_two_pow (ih (fun j hj => h j (by omega))) ?_
    split
    · exact h n (by omega)
    · exact Nat.two_pow_pos w
theorem sbs_xor {x y k : Nat} (hx : sbs x k) (hy : sbs y k) : sbs (x ^^^ y) k := by
  intro i h
  rw [Nat.testBit_xor] at h
  cases h1 : x.testBit i
  · rw [h1] at h
    exact hy i (by simpa using h)
  · exact hx i h1
theorem sbs_lt {x k n : Nat} (h : sbs x k) (hk : k < 2 ^ n) : x < 2 ^ n := by
  apply Nat.lt_pow_two_of_testBit
  intro i hi
  cases h1 : x.testBit i
  · rfl
  · have h2 := h i h1
    rw [Nat.testBit_lt_two_pow (Nat.lt_of_lt_of_le hk (Nat.pow_le_pow_right (by decide) hi))] at h2
    cases h2
theorem sbs_0 (k : Nat) : sbs 0 k := by
  intro i h
  rw [Nat.zero_testBit] at h
  cases h
theorem kp_pos {f : Nat → Nat} {n : Nat} (h : spn f n (kp f n) (f n)) : kp f (n + 1) = kp f n := if_pos h
theorem kp_neg {f : Nat → Nat} {n : Nat} (h : ¬ spn f n (kp f n) (f n)) : kp f (n + 1) = kp f n ||| 2 ^ n := if_neg h
theorem kp_lt (f : Nat → Nat) : ∀ n, kp f n < 2 ^ n
  | 0 => by show 0 < 1; omega
  | n + 1 => by
    have h1 := kp_lt f n
    have h2 : 2 ^ n < 2 ^ (n + 1) := Nat.pow_lt_pow_right (by decide) (by omega)
    by_cases h : spn f n (kp f n) (f n)
    · rw [kp_pos h]; omega
    · rw [kp_neg h]; exact Nat.or_lt_two_pow (by omega) h2
theorem kp_bit (f : Nat → Nat) {n : Nat} : ∀ {j : Nat}, j < n → ((kp f n).testBit j = true ↔ ¬ spn f j (kp f j) (f j)) := by
  induction n with
  | zero => intro j h; omega
  | succ n ih =>
    intro j hj
    by_cases h : j = n
    · subst h
      by_cases hs : spn f j (kp f j) (f j)
      · rw [kp_pos hs, Nat.testBit_lt_two_pow (kp_lt f j)]
        simp [hs]
      · rw [kp_neg hs, Nat.testBit_or, Nat.testBit_two_pow_self]
        simp [hs]
    · rw [← ih (j := j) (by omega)]
      by_cases hs : spn f n (kp f n) (f n)
      · rw [kp_pos hs]
      · rw [kp_neg hs, Nat.testBit_or, Nat.testBit_two_pow_of_ne (by omega), Bool.or_false]
theorem indep (f : Nat → Nat) : ∀ (n x : Nat), sbs x (kp f n) → cmb f n x = 0 → x = 0
  | 0, x, h, _ => by
    apply Nat.eq_of_testBit_eq
    intro i
    cases h1 : x.testBit i
    · rw [Nat.zero_testBit]
    · have h2 := h i h1
      rw [show kp f 0 = 0 from rfl, Nat.zero_testBit] at h2
      cases h2
  | n + 1, x, h, h0 => by
    by_cases hs : spn f n (kp f n) (f n)
    · rw [kp_pos hs] at h
      rw [cmb_up (sbs_lt h (kp_lt f n))] at h0
      exact indep f n x h h0
    · rw [kp_neg hs] at h
      cases hn : x.testBit n
      · have h1 : sbs x (kp f n) := by
          intro i hi
          have h2 := h i hi
          rw [Nat.testBit_or] at h2
          by_cases q : i = n
          · subst q; rw [hn] at hi; cases hi
          · rw [Nat.testBit_two_pow_of_ne (by omega), Bool.or_false] at h2
            exact h2
        rw [cmb_up (sbs_lt h1 (kp_lt f n))] at h0
        exact indep f n x h1 h0
      · exfalso
        apply hs
        refine ⟨x ^^^ 2 ^ n, ?_, ?_⟩
        · intro i hi
          rw [Nat.testBit_xor] at hi
          by_cases q : i = n
          · subst q
            rw [hn, Nat.testBit_two_pow_self] at hi
            cases hi
          · rw [Nat.testBit_two_pow_of_ne (by omega), Bool.xor_false] at hi
            have h2 := h i hi
            rw [Nat.testBit_or, Nat.testBit_two_pow_of_ne (by omega), Bool.or_false] at h2
            exact h2
        · have e : cmb f n (x ^^^ 2 ^ n) = cmb f n x := cmb_low (fun i hi => by rw [Nat.testBit_xor, Nat.testBit_two_pow_of_ne (by omega), Bool.xor_false])
          rw [e]
          have h3 : cmb f n x ^^^ (if x.testBit n = true then f n else 0) = 0 := h0
          rw [hn, if_pos rfl] at h3
          exact x_0 h3
theorem sbs_uniq {f : Nat → Nat} {n x y : Nat} (hx : sbs x (kp f n)) (hy : sbs y (kp f n)) (h : cmb f n x = cmb f n y) : x = y :=
  x_0 (indep f n (x ^^^ y) (sbs_xor hx hy) (by rw [cmb_xor, h, Nat.xor_self]))
theorem rsn_ok {f : Nat → Nat} {n v : Nat} (h : spn f n (kp f n) v) : sbs (rsn f n v) (kp f n) ∧ cmb f n (rsn f n v) = v := by
  have e : rsn f n v = Classical.choose h := dif_pos h
  rw [e]
  exact Classical.choose_spec h
theorem rsn_eq {f : Nat → Nat} {n v x : Nat} (hx : sbs x (kp f n)) (h : cmb f n x = v) : rsn f n v = x := by
  obtain ⟨h1, h2⟩ := rsn_ok (f := f) (n := n) (v := v) ⟨x, hx, h⟩
  exact sbs_uniq h1 hx (h2.trans h.symm)
/-! the words depend on the rules ahead alone -/
theorem kp_cong {f f' : Nat → Nat} : ∀ {n : Nat}, (∀ j, j < n → f j = f' j) → kp f n = kp f' n
  | 0, _ => rfl
  | n + 1, h => by
    have e := kp_cong (n := n) (fun j hj => h j (by omega))
    have e2 : spn f n (kp f n) (f n) ↔ spn f' n (kp f' n) (f' n) := by
      unfold spn
      rw [e, h n (by omega)]
      constructor
      · rintro ⟨x, h1, h2⟩; exact ⟨x, h1, by rw [← h2]; exact (cmb_cong x (fun j hj => h j (by omega))).symm⟩
      · rintro ⟨x, h1, h2⟩; exact ⟨x, h1, by rw [← h2]; exact cmb_cong x (fun j hj => h j (by omega))⟩
    by_cases hs : spn f n (kp f n) (f n)
    · rw [kp_pos hs, kp_pos (e2.mp hs), e]
    · rw [kp_neg hs, kp_neg (fun q => hs (e2.mpr q)), e]
theorem spn_cong {f f' : Nat → Nat} {n v : Nat} (h : ∀ j, j < n → f j = f' j) : spn f n (kp f n) v ↔ spn f' n (kp f' n) v := by
  unfold spn
  rw [kp_cong h]
  constructor
  · rintro ⟨x, h1, h2⟩; exact ⟨x, h1, by rw [← h2]; exact (cmb_cong x h).symm⟩
  · rintro ⟨x, h1, h2⟩; exact ⟨x, h1, by rw [← h2]; exact cmb_cong x h⟩
theorem rsn_cong {f f' : Nat → Nat} {n v : Nat} (h : ∀ j, j < n → f j = f' j) : rsn f n v = rsn f' n v := by
  by_cases hs : spn f n (kp f n) v
  · obtain ⟨h1, h2⟩ := rsn_ok ((spn_cong h).mp hs)
    refine rsn_eq ?_ ?_
    · rw [kp_cong h]; exact h1
    · rw [cmb_cong _ h]; exact h2
  · have e1 : rsn f n v = 0 := dif_neg hs
    have e2 : rsn f' n v = 0 := dif_neg (fun q => hs ((spn_cong h).mpr q))
    rw [e1, e2]
theorem stt_cong {f f' g g' : Nat → Nat} {n v b : Nat} (h : ∀ j, j < n → f j = f' j) (hg : ∀ j, j < n → g j = g' j) : stt f g n v b = stt f' g' n v b := by
  by_cases hs : spn f n (kp f n) v
  · rw [stt_n hs, stt_n ((spn_cong h).mp hs), rsn_cong h, cmb_cong _ hg]
  · rw [stt_k hs, stt_k (fun q => hs ((spn_cong h).mpr q))]
/-! reduction by steps in an order o -/
def redo (o : Nat → Nat) (ss su sr : Nat → Nat) : Nat → Nat × Nat × Nat → Nat × Nat × Nat
  | 0, x => x
  | k + 1, x => rst ss su sr (o k) (redo o ss su sr k x)
theorem red_redo (ss su sr : Nat → Nat) : ∀ k x, red ss su sr k x = redo (fun t => t) ss su sr k x
  | 0, _ => rfl
  | k + 1, x => by
    show rst ss su sr k (red ss su sr k x) = rst ss su sr k (redo (fun t => t) ss su sr k x)
    rw [red_redo ss su sr k x]
def rf (o ss : Nat → Nat) : Nat → Nat → Nat
  | 0, v => v
  | k + 1, v => if (rf o ss k v).testBit (o k) = true ∧ ¬ ss (o k) = 0 then rf o ss k v ^^^ ss (o k) else rf o ss k v
theorem redo_1 (o ss su sr : Nat → Nat) : ∀ k x, (redo o ss su sr k x).1 = rf o ss k x.1
  | 0, _ => rfl
  | k + 1, x => by
    show (rst ss su sr (o k) (redo o ss su sr k x)).1 = if _ then _ else _
    unfold rst
    rw [redo_1 o ss su sr k x]
    split
    · rfl
    · exact redo_1 o ss su sr k x
theorem rf_0 (o ss : Nat → Nat) : ∀ k, rf o ss k 0 = 0
  | 0 => rfl
  | k + 1 => by
    show (if _ then _ else _) = 0
    rw [rf_0 o ss k, if_neg]
    intro q
    rw [Nat.zero_testBit] at q
    cases q.1
theorem rf_xor (o ss : Nat → Nat) : ∀ k v w, rf o ss k (v ^^^ w) = rf o ss k v ^^^ rf o ss k w
  | 0, _, _ => rfl
  | k + 1, v, w => by
    show (if _ then _ else _) = (if _ then _ else _) ^^^ (if _ then _ else _)
    rw [rf_xor o ss k v w]
    by_cases h0 : ss (o k) = 0
    · rw [if_neg (fun q => q.2 h0), if_neg (fun q => q.2 h0), if_neg (fun q => q.2 h0)]
    · rw [Nat.testBit_xor]
      cases h1 : (rf o ss k v).testBit (o k) <;> cases h2 : (rf o ss k w).testBit (o k)
      · simp
      · simp [h0, Nat.xor_assoc]
      · simp [h0]
        rw [Nat.xor_assoc, Nat.xor_assoc, Nat.xor_comm (ss (o k))]
      · simp [h0]
        rw [x4, Nat.xor_self, Nat.xor_zero]
/-- the steps: each has its own place, none of the places ahead; each is a combination of kept rules; every kept rule is reduced to nothing -/
def Bas (o f g : Nat → Nat) (n k : Nat) (ss su sr : Nat → Nat) : Prop :=
  (∀ t, t < 12 → ¬ ss (o t) = 0 → (ss (o t)).testBit (o t) = true ∧ ∀ t', t' < t → (ss (o t)).testBit (o t') = false) ∧
  (∀ t, t < 12 → ¬ ss (o t) = 0 → ss (o t) = cmb f n (sr (o t)) ∧ su (o t) = cmb g n (sr (o t)) ∧ sbs (sr (o t)) k) ∧
  (∀ j, j < n → k.testBit j = true → rf o ss 12 (f j) = 0)
theorem redo_in {o f g ss su sr : Nat → Nat} {n k : Nat} (hB : Bas o f g n k ss su sr) (v b m0 : Nat) : ∀ t, t ≤ 12 → ∃ x, sbs x k ∧ redo o ss su sr t (v, b, m0) = (v ^^^ cmb f n x, b ^^^ cmb g n x, m0 ^^^ x)
  | 0, _ => ⟨0, sbs_0 k, by simp [redo, cmb_0]⟩
  | t + 1, ht => by
    obtain ⟨x, h1, h2⟩ := redo_in hB v b m0 t (by omega)
    show ∃ x, sbs x k ∧ rst ss su sr (o t) (redo o ss su sr t (v, b, m0)) = _
    rw [h2]
    unfold rst
    split
    · rename_i q
      obtain ⟨e1, e2, e3⟩ := hB.2.1 t (by omega) q.2
      refine ⟨x ^^^ sr (o t), sbs_xor h1 e3, ?_⟩
      rw [cmb_xor, cmb_xor, ← e1, ← e2, Nat.xor_assoc, Nat.xor_assoc, Nat.xor_assoc]
    · exact ⟨x, h1, rfl⟩
theorem rf_bit {o f g ss su sr : Nat → Nat} {n k : Nat} (hB : Bas o f g n k ss su sr) (v : Nat) : ∀ t, t ≤ 12 → ∀ t', t' < t → ¬ ss (o t') = 0 → (rf o ss t v).testBit (o t') = false
  | 0, _, t', h, _ => absurd h (Nat.not_lt_zero _)
  | t + 1, ht, t', h, h0 => by
    show (if _ then _ else _ : Nat).testBit _ = false
    by_cases e : t' = t
    · subst e
      split
      · rename_i q
        rw [Nat.testBit_xor, q.1, (hB.1 t' (by omega) h0).1]
        rfl
      · rename_i q
        cases hq : (rf o ss t' v).testBit (o t')
        · rfl
        · exact absurd ⟨hq, h0⟩ q
    · have ih := rf_bit hB v t (by omega) t' (by omega) h0
      split
      · rename_i q
        rw [Nat.testBit_xor, ih, (hB.1 t (by omega) q.2).2 t' (by omega)]
        rfl
      · exact ih
theorem rf_fix {o ss : Nat → Nat} {w : Nat} (h : ∀ t, t < 12 → ¬ ss (o t) = 0 → w.testBit (o t) = false) : ∀ t, t ≤ 12 → rf o ss t w = w
  | 0, _ => rfl
  | t + 1, ht => by
    show (if _ then _ else _) = w
    rw [rf_fix h t (by omega), if_neg]
    intro q
    rw [h t (by omega) q.2] at q
    cases q.1
theorem rf_spn {o f g ss su sr : Nat → Nat} {n k : Nat} (hB : Bas o f g n k ss su sr) {x : Nat} (hx : sbs x k) : ∀ n', n' ≤ n → rf o ss 12 (cmb f n' x) = 0
  | 0, _ => rf_0 o ss 12
  | n' + 1, hn => by
    show rf o ss 12 (cmb f n' x ^^^ _) = 0
    rw [rf_xor, rf_spn hB hx n' (by omega), Nat.zero_xor]
    split
    · rename_i q
      exact hB.2.2 n' (by omega) (hx n' q)
    · exact rf_0 o ss 12
/-- what a reduction tells -/
theorem red_ok {o f g ss su sr : Nat → Nat} {n k v b q1 q2 q3 : Nat} (hB : Bas o f g n k ss su sr) (h : redo o ss su sr 12 (v, b, 0) = (q1, q2, q3)) : sbs q3 k ∧ q1 = v ^^^ cmb f n q3 ∧ q2 = b ^^^ cmb g n q3 ∧ (q1 = 0 ↔ spn f n k v) ∧ rf o ss 12 v = q1 := by
  obtain ⟨x, h1, h2⟩ := redo_in hB v b 0 12 (Nat.le_refl _)
  rw [h, Nat.zero_xor] at h2
  have e1 : q1 = v ^^^ cmb f n x := congrArg (·.1) h2
  have e2 : q2 = b ^^^ cmb g n x := congrArg (·.2.1) h2
  have e3 : q3 = x := congrArg (·.2.2) h2
  subst e3
  have e4 : rf o ss 12 v = q1 := by rw [← redo_1 o ss su sr 12 (v, b, 0), h]
  refine ⟨h1, e1, e2, ⟨fun q => ⟨q3, h1, ?_⟩, ?_⟩, e4⟩
  · rw [q] at e1
    exact (x_0 e1.symm).symm
  · rintro ⟨y, hy, hv⟩
    rw [← e4, ← hv]
    exact rf_spn hB hy n (Nat.le_refl _)
/-- no step more: the rule isn't kept -/
theorem bas_skip {o f g ss su sr : Nat → Nat} {n k : Nat} (hB : Bas o f g n k ss su sr) (hk : k < 2 ^ n) : Bas o f g (n + 1) k ss su sr := by
  refine ⟨hB.1, fun t ht h0 => ?_, fun j hj hb => ?_⟩
  · obtain ⟨h1, h2, h3⟩ := hB.2.1 t ht h0
    have hl := sbs_lt h3 hk
    exact ⟨by rw [cmb_up hl]; exact h1, by rw [cmb_up hl]; exact h2, h3⟩
  · by_cases e : j = n
    · subst e
      rw [Nat.testBit_lt_two_pow hk] at hb
      cases hb
    · exact hB.2.2 j (by omega) hb
theorem sbs_or {x k : Nat} (n : Nat) (h : sbs x k) : sbs x (k ||| 2 ^ n) := by
  intro i hi
  rw [Nat.testBit_or, h i hi]
  rfl
theorem sbs_orn {x k : Nat} (n : Nat) (h : sbs x k) : sbs (x ||| 2 ^ n) (k ||| 2 ^ n) := by
  intro i hi
  rw [Nat.testBit_or] at hi ⊢
  cases h1 : x.testBit i
  · rw [h1, Bool.false_or] at hi
    rw [hi, Bool.or_true]
  · rw [h i h1]
    rfl
theorem or_xor {x n : Nat} (h : x < 2 ^ n) : x ||| 2 ^ n = x ^^^ 2 ^ n := by
  apply Nat.eq_of_testBit_eq
  intro i
  rw [Nat.testBit_or, Nat.testBit_xor]
  by_cases e : i = n
  · subst e
    rw [Nat.testBit_lt_two_pow h, Nat.testBit_two_pow_self]
    rfl
  · rw [Nat.testBit_two_pow_of_ne (by omega), Bool.or_false, Bool.xor_false]
/-- a step more: the rule is kept -/
theorem bas_add {o f g ss su sr : Nat → Nat} {n k t0 q1 q2 q3 : Nat} (hB : Bas o f g n k ss su sr) (hk : k < 2 ^ n) (hinj : ∀ a b, a < 12 → b < 12 → o a = o b → a = b) (h : redo o ss su sr 12 (f n, g n, 0) = (q1, q2, q3)) (ht : t0 < 12) (hb : q1.testBit (o t0) = true) (hlo : ∀ t, t < t0 → q1.testBit (o t) = false) :
    ss (o t0) = 0 ∧ Bas o f g (n + 1) (k ||| 2 ^ n) (pu ss (o t0) q1) (pu su (o t0) q2) (pu sr (o t0) (q3 ||| 2 ^ n)) := by
  obtain ⟨r1, r2, r3, -, r5⟩ := red_ok hB h
  have hz : ss (o t0) = 0 := by
    rcases Nat.eq_zero_or_pos (ss (o t0)) with e | e
    · exact e
    · have := rf_bit hB (f n) 12 (Nat.le_refl _) t0 ht (by omega)
      rw [r5, hb] at this
      cases this
  have hq3 := sbs_lt r1 hk
  have hpz : ∀ t, t < 12 → ¬ ss (o t) = 0 → q1.testBit (o t) = false := fun t h1 h2 => by rw [← r5]; exact rf_bit hB (f n) 12 (Nat.le_refl _) t h1 h2
  have hq0 : ¬ q1 = 0 := fun e => by rw [e, Nat.zero_testBit] at hb; cases hb
  -- the new reduction out of the old one
  have key : ∀ w t, t ≤ 12 → rf o (pu ss (o t0) q1) t w = if t0 < t ∧ (rf o ss t w).testBit (o t0) = true then rf o ss t w ^^^ q1 else rf o ss t w := by
    intro w t
    induction t with
    | zero => intro _; rw [if_neg (by omega)]; rfl
    | succ t ih =>
      intro htt
      have ih := ih (by omega)
      by_cases e : t = t0
      · subst e
        have e0 : rf o (pu ss (o t) q1) t w = rf o ss t w := by rw [ih]; exact if_neg (fun q => absurd q.1 (Nat.lt_irrefl _))
        have es : rf o ss (t + 1) w = rf o ss t w := if_neg (fun q => q.2 hz)
        have en : rf o (pu ss (o t) q1) (t + 1) w = if (rf o ss t w).testBit (o t) = true ∧ ¬ q1 = 0 then rf o ss t w ^^^ q1 else rf o ss t w := by
          show (if (rf o (pu ss (o t) q1) t w).testBit (o t) = true ∧ ¬ pu ss (o t) q1 (o t) = 0 then rf o (pu ss (o t) q1) t w ^^^ pu ss (o t) q1 (o t) else rf o (pu ss (o t) q1) t w) = _
          rw [e0, pu_s]
        rw [en, es]
        by_cases hbit : (rf o ss t w).testBit (o t) = true
        · rw [if_pos (⟨hbit, hq0⟩ : (rf o ss t w).testBit (o t) = true ∧ ¬ q1 = 0), if_pos (⟨Nat.lt_succ_self t, hbit⟩ : t < t + 1 ∧ (rf o ss t w).testBit (o t) = true)]
        · rw [if_neg (show ¬ ((rf o ss t w).testBit (o t) = true ∧ ¬ q1 = 0) from fun q => hbit q.1), if_neg (show ¬ (t < t + 1 ∧ (rf o ss t w).testBit (o t) = true) from fun q => hbit q.2)]
      · have hne : o t ≠ o t0 := fun q => e (hinj t t0 (by omega) ht q)
        have step : ∀ z, rf o (pu ss (o t0) q1) t w = z → rf o (pu ss (o t0) q1) (t + 1) w = if z.testBit (o t) = true ∧ ¬ ss (o t) = 0 then z ^^^ ss (o t) else z := by
          intro z hz2
          show (if (rf o (pu ss (o t0) q1) t w).testBit (o t) = true ∧ ¬ pu ss (o t0) q1 (o t) = 0 then rf o (pu ss (o t0) q1) t w ^^^ pu ss (o t0) q1 (o t) else rf o (pu ss (o t0) q1) t w) = _
          rw [hz2, pu_n hne]
        have old : rf o ss (t + 1) w = if (rf o ss t w).testBit (o t) = true ∧ ¬ ss (o t) = 0 then rf o ss t w ^^^ ss (o t) else rf o ss t w := rfl
        by_cases c : t0 < t
        · by_cases d : (rf o ss t w).testBit (o t0) = true
          · rw [if_pos (⟨c, d⟩ : t0 < t ∧ (rf o ss t w).testBit (o t0) = true)] at ih
            rw [step _ ih, old]
            by_cases h0 : ss (o t) = 0
            · rw [if_neg (show ¬ ((rf o ss t w ^^^ q1).testBit (o t) = true ∧ ¬ ss (o t) = 0) from fun q => q.2 h0), if_neg (show ¬ ((rf o ss t w).testBit (o t) = true ∧ ¬ ss (o t) = 0) from fun q => q.2 h0), if_pos (⟨by omega, d⟩ : t0 < t + 1 ∧ (rf o ss t w).testBit (o t0) = true)]
            · have hqt := hpz t (by omega) h0
              have hsb := (hB.1 t (by omega) h0).2 t0 c
              rw [Nat.testBit_xor, hqt, Bool.xor_false]
              by_cases bt : (rf o ss t w).testBit (o t) = true
              · have d2 : (rf o ss t w ^^^ ss (o t)).testBit (o t0) = true := by rw [Nat.testBit_xor, hsb, Bool.xor_false]; exact d
                rw [if_pos (⟨bt, h0⟩ : (rf o ss t w).testBit (o t) = true ∧ ¬ ss (o t) = 0), if_pos (⟨bt, h0⟩ : (rf o ss t w).testBit (o t) = true ∧ ¬ ss (o t) = 0), if_pos (⟨by omega, d2⟩ : t0 < t + 1 ∧ (rf o ss t w ^^^ ss (o t)).testBit (o t0) = true), Nat.xor_assoc, Nat.xor_comm q1, ← Nat.xor_assoc]
              · rw [if_neg (show ¬ ((rf o ss t w).testBit (o t) = true ∧ ¬ ss (o t) = 0) from fun q => bt q.1), if_neg (show ¬ ((rf o ss t w).testBit (o t) = true ∧ ¬ ss (o t) = 0) from fun q => bt q.1), if_pos (⟨by omega, d⟩ : t0 < t + 1 ∧ (rf o ss t w).testBit (o t0) = true)]
          · rw [if_neg (show ¬ (t0 < t ∧ (rf o ss t w).testBit (o t0) = true) from fun q => d q.2)] at ih
            rw [step _ ih, old]
            have d2 : ¬ (if (rf o ss t w).testBit (o t) = true ∧ ¬ ss (o t) = 0 then rf o ss t w ^^^ ss (o t) else rf o ss t w).testBit (o t0) = true := by
              split
              · rename_i q
                rw [Nat.testBit_xor, (hB.1 t (by omega) q.2).2 t0 c, Bool.xor_false]
                exact d
              · exact d
            exact (if_neg (fun q => d2 q.2)).symm
        · rw [if_neg (show ¬ (t0 < t ∧ (rf o ss t w).testBit (o t0) = true) from fun q => c q.1)] at ih
          rw [step _ ih, old]
          exact (if_neg (fun q => c (by have := q.1; omega))).symm
  refine ⟨hz, fun t h1 h2 => ?_, fun t h1 h2 => ?_, fun j h1 h2 => ?_⟩
  · by_cases e : t = t0
    · subst e
      rw [pu_s]
      exact ⟨hb, hlo⟩
    · have hne : o t ≠ o t0 := fun q => e (hinj t t0 h1 ht q)
      rw [pu_n hne] at h2 ⊢
      exact hB.1 t h1 h2
  · by_cases e : t = t0
    · subst e
      rw [pu_s, pu_s, pu_s]
      refine ⟨?_, ?_, sbs_orn n r1⟩
      · rw [or_xor hq3, cmb_xor, cmb_up hq3, cmb_one (by omega), r2, Nat.xor_comm]
      · rw [or_xor hq3, cmb_xor, cmb_up hq3, cmb_one (by omega), r3, Nat.xor_comm]
    · have hne : o t ≠ o t0 := fun q => e (hinj t t0 h1 ht q)
      rw [pu_n hne] at h2 ⊢
      rw [pu_n hne, pu_n hne]
      obtain ⟨g1, g2, g3⟩ := hB.2.1 t h1 h2
      have hl := sbs_lt g3 hk
      exact ⟨by rw [cmb_up hl]; exact g1, by rw [cmb_up hl]; exact g2, sbs_or n g3⟩
  · rw [key (f j) 12 (Nat.le_refl _)]
    by_cases e : j = n
    · subst e
      rw [r5, if_pos ⟨ht, hb⟩, Nat.xor_self]
    · rw [Nat.testBit_or, Nat.testBit_two_pow_of_ne (by omega), Bool.or_false] at h2
      rw [hB.2.2 j (by omega) h2, if_neg]
      intro q
      rw [Nat.zero_testBit] at q
      cases q.2
