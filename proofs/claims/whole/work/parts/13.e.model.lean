/-! the model judges -/
def mst (al : Nat → Nat) (q1 q3 y : Nat) : Nat := if q1 = 0 then (if cmb (fun j => al (22 + j)) (al 1) q3 = y then 1 else 2) else 0
theorem mst_le (al : Nat → Nat) (q1 q3 y : Nat) : mst al q1 q3 y ≤ 2 := by
  unfold mst
  split
  · split <;> omega
  · omega
theorem cmb_upto {g : Nat → Nat} {n x : Nat} (hx : x < 2 ^ n) : ∀ {n2 : Nat}, n ≤ n2 → cmb g n2 x = cmb g n x
  | 0, h => by rw [show n = 0 by omega]
  | n2 + 1, h => by
    rcases Nat.lt_or_ge n (n2 + 1) with c | c
    · rw [cmb_up (Nat.lt_of_lt_of_le hx (Nat.pow_le_pow_right (by decide) (by omega))), cmb_upto hx (n2 := n2) (by omega)]
    · rw [show n = n2 + 1 by omega]
theorem mst_ok {al le wh : Nat → Nat} {n v y q1 q3 : Nat} (hB : MB (fun j => al (2 + j)) (fun j => al (22 + j)) n le wh) (hn : n ≤ al 1) (hq : redo ox le z0 wh 12 (v, 0, 0) = (q1, 0, q3)) : mst al q1 q3 y = stt (fun j => al (2 + j)) (fun j => al (22 + j)) n v y := by
  rw [mb_st hB hq]
  unfold mst
  rw [cmb_upto (sbs_lt (mb_redo hB hq).1 (kp_lt _ _)) hn]
theorem mst_0 {al : Nat → Nat} {q1 q3 y : Nat} (h : ¬ mst al q1 q3 y = 0) : q1 = 0 := by
  unfold mst at h
  by_cases e : q1 = 0
  · exact e
  · rw [if_neg e] at h; exact absurd rfl h
theorem mst_1 {al : Nat → Nat} {q1 q3 y : Nat} (h : mst al q1 q3 y = 0) : ¬ q1 = 0 := by
  intro e
  unfold mst at h
  rw [if_pos e] at h
  split at h <;> omega
theorem mq3 {f g le wh : Nat → Nat} {n v q1 q3 : Nat} (hB : MB f g n le wh) (hn : n ≤ 20) (hq : redo ox le z0 wh 12 (v, 0, 0) = (q1, 0, q3)) : q3 < 2147483648 := by
  have h1 := sbs_lt (mb_redo hB hq).1 (kp_lt f n)
  have h2 : 2 ^ n ≤ 2 ^ 20 := Nat.pow_le_pow_right (by decide) hn
  omega
theorem mq1 {le wh : Nat → Nat} {v q1 q3 : Nat} (hl : ∀ j, le j < 4096) (hv : v < 4096) (hq : redo ox le z0 wh 12 (v, 0, 0) = (q1, 0, q3)) : q1 < 4096 := by
  have := mred_lt (wh := wh) hl hv 12
  rw [hq] at this
  exact this
theorem top_pos {q b : Nat} (h0 : ¬ q = 0) (hq : q < 4096) (hb : q >>> b &&& 1 = 0) (hh : ∀ j, b < j → j < 12 → q.testBit j = false) : 0 < b := by
  rcases Nat.eq_zero_or_pos b with e | e
  · exfalso
    subst e
    apply h0
    apply Nat.eq_of_testBit_eq
    intro i
    rw [Nat.zero_testBit]
    rcases Nat.lt_or_ge i 12 with c | c
    · rcases Nat.eq_zero_or_pos i with d | d
      · subst d
        cases e : q.testBit 0
        · rfl
        · have := (tb_1 q 0).mpr e
          omega
      · exact hh i d c
    · exact Nat.testBit_lt_two_pow (Nat.lt_of_lt_of_le hq (Nat.pow_le_pow_right (n := 2) (i := 12) (by decide) c))
  · exact e
theorem top_nx {q b : Nat} (hb : q >>> b &&& 1 = 0) (hh : ∀ j, b < j → j < 12 → q.testBit j = false) : ∀ j, b - 1 < j → j < 12 → q.testBit j = false := by
  intro j h1 h2
  by_cases e : j = b
  · subst e
    cases e : q.testBit j
    · rfl
    · have := (tb_1 q j).mpr e
      omega
  · exact hh j (by omega) h2
theorem mv_0 {f g st re le wh : Nat → Nat} (h0 : ∀ j, j < 12 → le j = 0) (hl : ∀ j, le j < 4096) : MV f g 0 st re le wh := ⟨fun i h => absurd h (Nat.not_lt_zero _), fun i h => absurd h (Nat.not_lt_zero _), mb_0 h0 hl⟩
theorem mv_s {f g st re le wh : Nat → Nat} {n q1 q3 k : Nat} (h : MV f g n st re le wh) (hq : redo ox le z0 wh 12 (f n, 0, 0) = (q1, 0, q3)) (hk : k = stt f g n (f n) (g n)) (e : q1 = 0) : MV f g (n + 1) (pu st n k) (pu re n q3) le wh := mv_up h hq hk (mb_skip h.2.2 ((mb_redo h.2.2 hq).2.2.mp e))
theorem bnz {q b : Nat} (h : ¬ q >>> b &&& 1 = 0) : q.testBit b = true := by
  refine (tb_1 q b).mp ?_
  have : q >>> b &&& 1 ≤ 1 := Nat.and_le_right
  omega
