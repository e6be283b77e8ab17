/-! the model: its row, its bits -/
def mR (al : Nat → Nat) : RT := mkR (al 0) (al 1) (fun j => al (2 + j)) (fun j => al (22 + j))
theorem mrow {al : Nat → Nat} (h : RowOK (mR al)) : 1 ≤ al 0 ∧ al 0 ≤ 12 ∧ al 1 ≤ 20 ∧ (∀ j, j < al 1 → 0 < al (2 + j) ∧ al (2 + j) < 2 ^ al 0) ∧ (∀ j, j < al 1 → al (2 + j) < 4096) ∧ ∀ j, j < al 1 → al (22 + j) ≤ 1 := row_use h
theorem and_dec : ∀ (k n : Nat), 0 < n → n < 2 ^ k → pcnt k (n &&& (n - 1)) + 1 = pcnt k n
  | 0, n, h0, h => by
    have h : n < 1 := h
    omega
  | k + 1, n, h0, h => by
    show (n &&& (n - 1)) % 2 + pcnt k ((n &&& (n - 1)) / 2) + 1 = n % 2 + pcnt k (n / 2)
    have h2 : 2 ^ (k + 1) = 2 * 2 ^ k := by rw [Nat.pow_succ, Nat.mul_comm]
    rcases mod2 n with e | e
    · have ih := and_dec k (n / 2) (by omega) (by omega)
      have e1 : n = 2 ^ 1 * (n / 2) + 0 := by omega
      have e2 : n - 1 = 2 ^ 1 * (n / 2 - 1) + 1 := by omega
      have e3 : n &&& (n - 1) = 2 ^ 1 * ((n / 2) &&& (n / 2 - 1)) + (0 &&& 1) := by
        conv => lhs; rw [e2]
        conv => lhs; lhs; rw [e1]
        exact and_split (by decide) (by decide)
      rw [Nat.zero_and] at e3
      rw [e3, show (2 ^ 1 * ((n / 2) &&& (n / 2 - 1)) + 0) % 2 = 0 by omega, show (2 ^ 1 * ((n / 2) &&& (n / 2 - 1)) + 0) / 2 = (n / 2) &&& (n / 2 - 1) by omega]
      omega
    · have e1 : n = 2 ^ 1 * (n / 2) + 1 := by omega
      have e2 : n - 1 = 2 ^ 1 * (n / 2) + 0 := by omega
      have e3 : n &&& (n - 1) = 2 ^ 1 * ((n / 2) &&& (n / 2)) + (1 &&& 0) := by
        conv => lhs; rw [e2]
        conv => lhs; lhs; rw [e1]
        exact and_split (by decide) (by decide)
      rw [Nat.and_self, Nat.and_zero] at e3
      rw [e3, show (2 ^ 1 * (n / 2) + 0) % 2 = 0 by omega, show (2 ^ 1 * (n / 2) + 0) / 2 = n / 2 by omega]
      omega
theorem pcn_dec {n : Nat} (h0 : 0 < n) (h : n < 2147483648) : pcn (n &&& (n - 1)) + 1 = pcn n := by
  rw [pcn_eq, pcn_eq]
  exact and_dec 32 n h0 (by omega)
theorem and_lt {n : Nat} (h : 0 < n) : n &&& (n - 1) < n := Nat.lt_of_le_of_lt Nat.and_le_right (by omega)
theorem pcn_0 : pcn 0 = 0 := by rw [pcn_eq, pcnt_0]
theorem lsub1 {n : Nat} (h : n ≤ 4096) : (lN n - lN 1).toInt = (n : Int) - 1 := by
  rcases Nat.eq_zero_or_pos n with e | e
  · subst e
    decide
  · rw [lN_sub e, lN_toInt (by omega)]
    omega
theorem in_1 {x : Int32} {n : Nat} (h : n ≤ 4096) : decide ((lN 1).toInt ≤ (Int32.toInt64 x).toInt ∧ (Int32.toInt64 x).toInt ≤ (lN n - lN 1).toInt) = decide (1 ≤ x.toInt ∧ x.toInt < (n : Int)) := by
  rw [lsub1 h, lN_toInt (by decide), Int32.toInt_toInt64]
  apply decide_eq_decide.mpr
  constructor <;> intro h <;> omega
theorem in_0 {x : Int32} {n : Nat} (h : n ≤ 4096) : decide ((lN 0).toInt ≤ (Int32.toInt64 x).toInt ∧ (Int32.toInt64 x).toInt ≤ (lN n - lN 1).toInt) = decide (0 ≤ x.toInt ∧ x.toInt < (n : Int)) := by
  rw [lsub1 h, lN_toInt (by decide), Int32.toInt_toInt64]
  apply decide_eq_decide.mpr
  constructor <;> intro h <;> omega
theorem in_k {x : Int32} {a b : Nat} (ha : a < 2147483648) (hb : b < 2147483648) : decide ((lN a).toInt ≤ (Int32.toInt64 x).toInt ∧ (Int32.toInt64 x).toInt ≤ (lN b).toInt) = decide ((a : Int) ≤ x.toInt ∧ x.toInt ≤ (b : Int)) := by
  rw [lN_toInt (by omega), lN_toInt (by omega), Int32.toInt_toInt64]
