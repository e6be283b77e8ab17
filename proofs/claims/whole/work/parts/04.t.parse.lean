/-! the reading of a text, a character at a time: stage, how far up choices are (one more than the last), the choice that is being read, the set, the rules so far -/
abbrev pS : Type := Nat × Nat × Nat × Nat × Nat × (Nat → Nat) × (Nat → Nat)
def topc (d : Nat) : Nat := if d = 1 then 11 else d
def cst0 (x : pS) (ch : Nat) : Option pS := if 48 ≤ ch ∧ ch ≤ 57 ∧ x.2.1 ≤ topc (ch - 48) then some (1, x.2.1, ch - 48, x.2.2.2) else none
def cst1 (x : pS) (ch : Nat) : Option pS :=
  if x.2.2.1 = 1 ∧ (ch = 48 ∨ ch = 49) then (if x.2.1 ≤ 10 + ch - 48 then some (1, x.2.1, 10 + ch - 48, x.2.2.2) else none)
  else if (ch = 61 ∨ ch = 43 ∧ x.2.2.1 < 11) ∧ x.2.1 ≤ x.2.2.1 then some (if ch = 43 then 0 else 2, x.2.2.1 + 1, x.2.2.1, x.2.2.2.1 ||| 1 <<< x.2.2.1, x.2.2.2.2) else none
def cst2 (x : pS) (ch : Nat) : Option pS := if ch = 48 ∨ ch = 49 then some (3, x.2.1, x.2.2.1, x.2.2.2.1, x.2.2.2.2.1 + 1, pu x.2.2.2.2.2.1 x.2.2.2.2.1 x.2.2.2.1, pu x.2.2.2.2.2.2 x.2.2.2.2.1 (ch - 48)) else none
def cst3 (x : pS) (ch : Nat) : Option pS := if ch = 59 then some (0, 0, x.2.2.1, 0, x.2.2.2.2) else none
def cst (x : pS) (ch : Nat) : Option pS := if x.1 = 0 then cst0 x ch else if x.1 = 1 then cst1 x ch else if x.1 = 2 then cst2 x ch else cst3 x ch
def runP (f0 g0 pad : Nat → Nat) : Nat → Option pS
  | 0 => some (0, 0, 0, 0, 0, f0, g0)
  | i + 1 => (runP f0 g0 pad i).bind (fun x => cst x (pad i))
theorem runP_s {f0 g0 pad : Nat → Nat} {i : Nat} {x : pS} (h : runP f0 g0 pad i = some x) : runP f0 g0 pad (i + 1) = cst x (pad i) := by
  show (runP f0 g0 pad i).bind _ = _
  rw [h]
  rfl
/-- what holds of the state behind i characters -/
def PInv (i : Nat) (x : pS) : Prop := x.1 ≤ 3 ∧ x.2.1 ≤ 12 ∧ x.2.2.1 ≤ 11 ∧ x.2.2.2.1 < 4096 ∧
  ((x.1 = 0 ∧ x.2.1 = 0 ∧ 4 * x.2.2.2.2.1 ≤ i) ∨ (x.1 = 0 ∧ 4 * x.2.2.2.2.1 + 1 ≤ i) ∨ (x.1 = 1 ∧ 4 * x.2.2.2.2.1 + 1 ≤ i) ∨ (x.1 = 2 ∧ 0 < x.2.2.2.1 ∧ 4 * x.2.2.2.2.1 + 2 ≤ i) ∨ (x.1 = 3 ∧ 4 * x.2.2.2.2.1 ≤ i + 1)) ∧ (∀ j, j < x.2.2.2.2.1 → 0 < x.2.2.2.2.2.1 j ∧ x.2.2.2.2.2.1 j < 4096 ∧ x.2.2.2.2.2.2 j ≤ 1)
theorem or_pos {a c : Nat} : 0 < a ||| 1 <<< c := by
  rcases Nat.eq_zero_or_pos (a ||| 1 <<< c) with h | h
  · rw [Nat.or_eq_zero_iff, Nat.one_shiftLeft] at h
    have := Nat.two_pow_pos c
    omega
  · exact h
theorem pinv_s {i ch : Nat} {x y : pS} (h : PInv i x) (hc : cst x ch = some y) : PInv (i + 1) y := by
  obtain ⟨h1, h2, h3, h4, h5, h6⟩ := h
  unfold cst at hc
  by_cases s0 : x.1 = 0
  · rw [if_pos s0] at hc
    unfold cst0 at hc
    split at hc
    · rename_i q
      cases hc
      refine ⟨by show 1 ≤ 3; omega, h2, by show ch - 48 ≤ 11; omega, h4, ?_, h6⟩
      right; right; left
      refine ⟨rfl, ?_⟩
      show 4 * x.2.2.2.2.1 + 1 ≤ i + 1
      omega
    · cases hc
  · rw [if_neg s0] at hc
    by_cases s1 : x.1 = 1
    · rw [if_pos s1] at hc
      unfold cst1 at hc
      split at hc
      · rename_i q
        split at hc
        · cases hc
          refine ⟨by show 1 ≤ 3; omega, h2, by show 10 + ch - 48 ≤ 11; omega, h4, ?_, h6⟩
          right; right; left
          refine ⟨rfl, ?_⟩
          show 4 * x.2.2.2.2.1 + 1 ≤ i + 1
          omega
        · cases hc
      · split at hc
        · rename_i q
          cases hc
          have hs : x.2.2.2.1 ||| 1 <<< x.2.2.1 < 4096 := or12 h4 (shl12 (by omega))
          refine ⟨?_, by show x.2.2.1 + 1 ≤ 12; omega, h3, hs, ?_, h6⟩
          · show (if ch = 43 then 0 else 2) ≤ 3
            split <;> omega
          · by_cases c43 : ch = 43
            · right; left
              refine ⟨if_pos c43, ?_⟩
              show 4 * x.2.2.2.2.1 + 1 ≤ i + 1
              omega
            · right; right; right; left
              refine ⟨if_neg c43, or_pos, ?_⟩
              show 4 * x.2.2.2.2.1 + 2 ≤ i + 1
              omega
        · cases hc
    · rw [if_neg s1] at hc
      by_cases s2 : x.1 = 2
      · rw [if_pos s2] at hc
        unfold cst2 at hc
        split at hc
        · rename_i q
          cases hc
          refine ⟨by show 3 ≤ 3; omega, h2, h3, h4, ?_, fun j hj => ?_⟩
          · right; right; right; right
            refine ⟨rfl, ?_⟩
            show 4 * (x.2.2.2.2.1 + 1) ≤ i + 1 + 1
            omega
          · show 0 < pu x.2.2.2.2.2.1 x.2.2.2.2.1 x.2.2.2.1 j ∧ pu x.2.2.2.2.2.1 x.2.2.2.2.1 x.2.2.2.1 j < 4096 ∧ pu x.2.2.2.2.2.2 x.2.2.2.2.1 (ch - 48) j ≤ 1
            have hj : j < x.2.2.2.2.1 + 1 := hj
            by_cases e : j = x.2.2.2.2.1
            · rw [e, pu_s, pu_s]
              refine ⟨?_, h4, by omega⟩
              rcases h5 with z | z | z | z | z <;> omega
            · rw [pu_n e, pu_n e]
              exact h6 j (by omega)
        · cases hc
      · rw [if_neg s2] at hc
        unfold cst3 at hc
        split at hc
        · cases hc
          refine ⟨by show 0 ≤ 3; omega, by show 0 ≤ 12; omega, h3, by show 0 < 4096; omega, ?_, h6⟩
          left
          refine ⟨rfl, rfl, ?_⟩
          show 4 * x.2.2.2.2.1 ≤ i + 1
          omega
        · cases hc
theorem pinv_run {f0 g0 pad : Nat → Nat} : ∀ {i : Nat} {x : pS}, runP f0 g0 pad i = some x → PInv i x
  | 0, x, h => by
    cases h
    exact ⟨Nat.zero_le _, Nat.zero_le _, Nat.zero_le _, by show 0 < 4096; omega, Or.inl ⟨rfl, rfl, Nat.zero_le _⟩, fun j hj => absurd hj (Nat.not_lt_zero _)⟩
  | i + 1, x, h => by
    cases hx : runP f0 g0 pad i with
    | none =>
      have e : runP f0 g0 pad (i + 1) = none := by show (runP f0 g0 pad i).bind _ = none; rw [hx]; rfl
      rw [e] at h
      cases h
    | some y =>
      rw [runP_s hx] at h
      exact pinv_s (pinv_run hx) h
/-- how a reading ends: at a character that cannot stand, or at the text's end -/
def FT (f0 g0 pad : Nat → Nat) (len : Nat) (r : Int32) (mm : Nat) (f g : Nat → Nat) : Prop :=
  (∃ i x, i < len ∧ runP f0 g0 pad i = some x ∧ cst x (pad i) = none ∧ r = nI i) ∨ (∃ x, runP f0 g0 pad len = some x ∧ r = (if x.1 = 3 then -6 else nI len) ∧ x.2.2.2.2 = (mm, f, g))
theorem runP_lt {f0 g0 pad : Nat → Nat} {i : Nat} (h : runP f0 g0 pad i = none) : ∀ {j : Nat}, i ≤ j → runP f0 g0 pad j = none := by
  intro j hj
  induction j with
  | zero => rw [show i = 0 by omega] at h; exact h
  | succ j ih =>
    rcases Nat.lt_or_ge i (j + 1) with c | c
    · show (runP f0 g0 pad j).bind _ = none
      rw [ih (by omega)]
      rfl
    · rw [show i = j + 1 by omega] at h; exact h
/-- two readings of one text over other rows -/
def psim (x y : pS) : Prop := x.1 = y.1 ∧ x.2.1 = y.2.1 ∧ x.2.2.1 = y.2.2.1 ∧ x.2.2.2.1 = y.2.2.2.1 ∧ x.2.2.2.2.1 = y.2.2.2.2.1 ∧ ∀ j, j < x.2.2.2.2.1 → x.2.2.2.2.2.1 j = y.2.2.2.2.2.1 j ∧ x.2.2.2.2.2.2 j = y.2.2.2.2.2.2 j
def osim (x y : Option pS) : Prop := (x = none ∧ y = none) ∨ ∃ a b, x = some a ∧ y = some b ∧ psim a b
theorem psim_s {x y : pS} (h : psim x y) (ch : Nat) : osim (cst x ch) (cst y ch) := by
  obtain ⟨a1, a2, a3, a4, a5, af, ag⟩ := x
  obtain ⟨b1, b2, b3, b4, b5, bf, bg⟩ := y
  obtain ⟨h1, h2, h3, h4, h5, h6⟩ := h
  dsimp only at h1 h2 h3 h4 h5 h6
  subst h1; subst h2; subst h3; subst h4; subst h5
  unfold cst
  dsimp only
  by_cases s0 : a1 = 0
  · rw [if_pos s0, if_pos s0]
    unfold cst0
    dsimp only
    split
    · exact Or.inr ⟨_, _, rfl, rfl, rfl, rfl, rfl, rfl, rfl, h6⟩
    · exact Or.inl ⟨rfl, rfl⟩
  · rw [if_neg s0, if_neg s0]
    by_cases s1 : a1 = 1
    · rw [if_pos s1, if_pos s1]
      unfold cst1
      dsimp only
      split
      · split
        · exact Or.inr ⟨_, _, rfl, rfl, rfl, rfl, rfl, rfl, rfl, h6⟩
        · exact Or.inl ⟨rfl, rfl⟩
      · split
        · exact Or.inr ⟨_, _, rfl, rfl, rfl, rfl, rfl, rfl, rfl, h6⟩
        · exact Or.inl ⟨rfl, rfl⟩
    · rw [if_neg s1, if_neg s1]
      by_cases s2 : a1 = 2
      · rw [if_pos s2, if_pos s2]
        unfold cst2
        dsimp only
        split
        · refine Or.inr ⟨_, _, rfl, rfl, rfl, rfl, rfl, rfl, rfl, fun j hj => ?_⟩
          show pu af a5 a4 j = pu bf a5 a4 j ∧ pu ag a5 (ch - 48) j = pu bg a5 (ch - 48) j
          by_cases e : j = a5
          · subst e
            rw [pu_s, pu_s, pu_s, pu_s]
            exact ⟨rfl, rfl⟩
          · have hj : j < a5 + 1 := hj
            rw [pu_n e, pu_n e, pu_n e, pu_n e]
            exact h6 j (by omega)
        · exact Or.inl ⟨rfl, rfl⟩
      · rw [if_neg s2, if_neg s2]
        unfold cst3
        dsimp only
        split
        · exact Or.inr ⟨_, _, rfl, rfl, rfl, rfl, rfl, rfl, rfl, h6⟩
        · exact Or.inl ⟨rfl, rfl⟩
theorem run_sim {f0 g0 f1 g1 pad pad2 : Nat → Nat} {len : Nat} (hp : ∀ i, i < len → pad i = pad2 i) : ∀ {i : Nat}, i ≤ len → osim (runP f0 g0 pad i) (runP f1 g1 pad2 i)
  | 0, _ => Or.inr ⟨_, _, rfl, rfl, rfl, rfl, rfl, rfl, rfl, fun j hj => absurd hj (Nat.not_lt_zero _)⟩
  | i + 1, hi => by
    rcases run_sim (f0 := f0) (g0 := g0) (f1 := f1) (g1 := g1) hp (i := i) (by omega) with ⟨h1, h2⟩ | ⟨a, b, h1, h2, h3⟩
    · exact Or.inl ⟨runP_lt h1 (by omega), runP_lt h2 (by omega)⟩
    · rw [runP_s h1, runP_s h2, hp i (by omega)]
      exact psim_s h3 _
theorem osim_n {x y : Option pS} (h : osim x y) : x = none ↔ y = none := by
  rcases h with ⟨h1, h2⟩ | ⟨a, b, h1, h2, -⟩
  · rw [h1, h2]
  · rw [h1, h2]
    constructor <;> intro q <;> cases q
theorem ft_one {f0 g0 f1 g1 pad pad2 : Nat → Nat} {len : Nat} {r r2 : Int32} {m1 m2 : Nat} {f g f2 g2 : Nat → Nat} (hlen : len ≤ 80) (hp : ∀ i, i < len → pad i = pad2 i) (h : FT f0 g0 pad len r m1 f g) (h2 : FT f1 g1 pad2 len r2 m2 f2 g2) : r = r2 ∧ (r = -6 → m1 = m2 ∧ ∀ j, j < m1 → f j = f2 j ∧ g j = g2 j) := by
  have neg : ∀ i : Nat, i ≤ 80 → ¬ nI i = -6 := fun i hi e => by
    have := congrArg Int32.toInt e
    rw [nI_toInt (by omega), show (-6 : Int32).toInt = -6 by decide] at this
    omega
  rcases h with ⟨i, x, a1, a2, a3, a4⟩ | ⟨x, a1, a2, a3⟩ <;> rcases h2 with ⟨j, y, b1, b2, b3, b4⟩ | ⟨y, b1, b2, b3⟩
  · have hi := run_sim (f0 := f0) (g0 := g0) (f1 := f1) (g1 := g1) hp (i := i + 1) (by omega)
    have hj := run_sim (f0 := f0) (g0 := g0) (f1 := f1) (g1 := g1) hp (i := j + 1) (by omega)
    have e1 : runP f0 g0 pad (i + 1) = none := by rw [runP_s a2]; exact a3
    have e2 : runP f1 g1 pad2 (j + 1) = none := by rw [runP_s b2]; exact b3
    have e3 := (osim_n hi).mp e1
    have e4 := (osim_n hj).mpr e2
    have hij : i = j := by
      rcases Nat.lt_trichotomy i j with c | c | c
      · have := runP_lt e3 (j := j) (by omega)
        rw [b2] at this; cases this
      · exact c
      · have := runP_lt e4 (j := i) (by omega)
        rw [a2] at this; cases this
    subst hij
    exact ⟨a4.trans b4.symm, fun q => absurd (a4.symm.trans q) (neg i (by omega))⟩
  · exfalso
    have hi := run_sim (f0 := f0) (g0 := g0) (f1 := f1) (g1 := g1) hp (i := i + 1) (by omega)
    have e1 : runP f0 g0 pad (i + 1) = none := by rw [runP_s a2]; exact a3
    have := runP_lt ((osim_n hi).mp e1) (j := len) (by omega)
    rw [b1] at this; cases this
  · exfalso
    have hj := run_sim (f0 := f0) (g0 := g0) (f1 := f1) (g1 := g1) hp (i := j + 1) (by omega)
    have e2 : runP f1 g1 pad2 (j + 1) = none := by rw [runP_s b2]; exact b3
    have := runP_lt ((osim_n hj).mpr e2) (j := len) (by omega)
    rw [a1] at this; cases this
  · have hs := run_sim (f0 := f0) (g0 := g0) (f1 := f1) (g1 := g1) hp (i := len) (Nat.le_refl _)
    rw [a1, b1] at hs
    rcases hs with ⟨q, -⟩ | ⟨a, b, q1, q2, q3⟩
    · cases q
    · cases q1; cases q2
      obtain ⟨p1, p2, p3, p4, p5, p6⟩ := q3
      rw [a3, b3] at p5 p6
      exact ⟨by rw [a2, b2, p1], fun _ => ⟨p5, p6⟩⟩
