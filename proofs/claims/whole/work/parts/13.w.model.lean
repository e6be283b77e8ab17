/-! tied choices -/
theorem spn_x {f : Nat → Nat} {n k v w : Nat} (h1 : spn f n k v) (h2 : spn f n k w) : spn f n k (v ^^^ w) := by
  obtain ⟨x, a, b⟩ := h1
  obtain ⟨y, d, e⟩ := h2
  exact ⟨x ^^^ y, sbs_xor a d, by rw [cmb_xor, b, e]⟩
theorem sp_x {al : Nat → Nat} {v w : Nat} (h1 : spS (mR al) v = true) (h2 : spS (mR al) w = true) : spS (mR al) (v ^^^ w) = true := by
  have k1 := (spS_mk (c := al 0) (f := fun j => al (2 + j)) (g := fun j => al (22 + j)) (n := al 1)).mp h1
  have k2 := (spS_mk (c := al 0) (f := fun j => al (2 + j)) (g := fun j => al (22 + j)) (n := al 1)).mp h2
  exact (spS_mk (c := al 0) (f := fun j => al (2 + j)) (g := fun j => al (22 + j)) (n := al 1)).mpr (spn_x k1 k2)
theorem or_x {a b : Nat} (h : a ≠ b) : 1 <<< a ||| 1 <<< b = 1 <<< a ^^^ 1 <<< b := by
  apply Nat.eq_of_testBit_eq
  intro i
  rw [Nat.testBit_or, Nat.testBit_xor, Nat.one_shiftLeft, Nat.one_shiftLeft, Nat.testBit_two_pow, Nat.testBit_two_pow]
  by_cases e : a = i
  · by_cases d : b = i
    · exact absurd (e.trans d.symm) h
    · simp [e, d]
  · by_cases d : b = i <;> simp [e, d]
noncomputable def tiB (R : RT) (x d : Nat) : Bool := decide (¬ d = x) && (spS R (1 <<< d ||| 1 <<< x) && (!spS R (1 <<< d) && !spS R (1 <<< x)))
theorem seF_0 : ∀ {n : Nat} {q : Nat → Bool}, (∀ d, d < n → q d = false) → seF q n = 0
  | 0, _, _ => rfl
  | n + 1, q, h => by
    show (if q n = true then _ else _) = 0
    rw [h n (by omega), if_neg (by decide)]
    exact seF_0 (fun d hd => h d (by omega))
theorem ti_bo {al : Nat → Nat} {x : Nat} : boS (mR al) x = seF (tiB (mR al) x) (al 0) := by
  unfold boS
  by_cases h : spS (mR al) (1 <<< x) = true
  · rw [if_pos h]
    exact (seF_0 (fun d _ => by unfold tiB; rw [h]; simp)).symm
  · rw [if_neg h]
    refine seF_cong (fun d _ => ?_)
    unfold tiB
    have hx : spS (mR al) (1 <<< x) = false := by
      cases q : spS (mR al) (1 <<< x)
      · rfl
      · exact absurd q h
    by_cases e : d = x
    · simp [e]
    · rw [hx, Nat.or_comm]
      cases q : spS (mR al) (1 <<< d ||| 1 <<< x)
      · simp
      · cases z : spS (mR al) (1 <<< d)
        · simp
        · exfalso
          apply h
          have h2 := sp_x z q
          rw [or_x e, ← Nat.xor_assoc, Nat.xor_self, Nat.zero_xor] at h2
          exact h2
theorem ti_t {al : Nat → Nat} (h : RowOK (mR al)) {i w : Nat} (h1 : ¬ i = w) (h2 : ¬ (knS (mR al) (1 <<< i ||| 1 <<< w)).toInt = -6) (h3 : (knS (mR al) (1 <<< i)).toInt = -6) (h4 : (knS (mR al) (1 <<< w)).toInt = -6) : tiB (mR al) w i = true := by
  unfold tiB
  rw [kn_t h h2, kn_f h h3, kn_f h h4]
  simp [h1]
theorem ti_f1 {al : Nat → Nat} {i w : Nat} (h1 : i = w) : tiB (mR al) w i = false := by
  unfold tiB
  simp [h1]
theorem ti_f2 {al : Nat → Nat} (h : RowOK (mR al)) {i w : Nat} (h2 : (knS (mR al) (1 <<< i ||| 1 <<< w)).toInt = -6) : tiB (mR al) w i = false := by
  unfold tiB
  rw [kn_f h h2]
  simp
theorem ti_f3 {al : Nat → Nat} (h : RowOK (mR al)) {i w : Nat} (h3 : ¬ (knS (mR al) (1 <<< i)).toInt = -6) : tiB (mR al) w i = false := by
  unfold tiB
  rw [kn_t h h3]
  simp
theorem ti_f4 {al : Nat → Nat} (h : RowOK (mR al)) {i w : Nat} (h4 : ¬ (knS (mR al) (1 <<< w)).toInt = -6) : tiB (mR al) w i = false := by
  unfold tiB
  rw [kn_t h h4]
  simp
