def mskF (b : Nat → Nat) : Nat → Nat
  | 0 => 0
  | i + 1 => mskF b i ||| b i <<< i
theorem msk_lt {b : Nat → Nat} : ∀ n, (∀ i, i < n → b i ≤ 1) → mskF b n < 2 ^ n
  | 0, _ => by show 0 < 1; omega
  | n + 1, h => by
    have ih := msk_lt n (fun i hi => h i (by omega))
    have hb := h n (by omega)
    have hp : 2 ^ n < 2 ^ (n + 1) := Nat.pow_lt_pow_right (by decide) (by omega)
    exact aw_lt (by omega) hb (by omega)
theorem msk_bit {b : Nat → Nat} : ∀ n, (∀ i, i < n → b i ≤ 1) → ∀ i, (mskF b n).testBit i = (decide (i < n) && decide (b i = 1))
  | 0, _, i => by
    show (0 : Nat).testBit i = _
    rw [Nat.zero_testBit]
    simp
  | n + 1, h, i => by
    have ih := msk_bit n (fun i hi => h i (by omega)) i
    show (mskF b n ||| b n <<< n).testBit i = _
    rw [Nat.testBit_or, ih, bit1 (h n (by omega))]
    by_cases e : i = n
    · subst e
      simp
    · by_cases c : i < n
      · simp [c, e, show i < n + 1 by omega]
      · simp [c, e, show ¬ i < n + 1 by omega]
theorem msk_xor {b b2 : Nat → Nat} {n : Nat} (h : ∀ i, i < n → b i ≤ 1) (h2 : ∀ i, i < n → b2 i ≤ 1) : mskF b n ^^^ mskF b2 n = mskF (fun i => b i ^^^ b2 i) n := by
  apply Nat.eq_of_testBit_eq
  intro i
  rw [Nat.testBit_xor, msk_bit n h, msk_bit n h2, msk_bit n (fun i hi => xor_le1 (h i hi) (h2 i hi))]
  by_cases c : i < n
  · have h3 : b i = 0 ∨ b i = 1 := by have := h i c; omega
    have h4 : b2 i = 0 ∨ b2 i = 1 := by have := h2 i c; omega
    rcases h3 with h3 | h3 <;> rcases h4 with h4 | h4 <;> simp [c, h3, h4]
  · simp [c]
theorem msk_cong {b b2 : Nat → Nat} : ∀ n, (∀ i, i < n → b i = b2 i) → mskF b n = mskF b2 n
  | 0, _ => rfl
  | n + 1, h => by
    show mskF b n ||| b n <<< n = mskF b2 n ||| b2 n <<< n
    rw [msk_cong n (fun i hi => h i (by omega)), h n (by omega)]
theorem pcnt_more (n : Nat) : ∀ x q, pcnt n (x + 2 ^ n * q) = pcnt n x := by
  induction n with
  | zero => intro x q; rfl
  | succ n ih =>
    intro x q
    show (x + 2 ^ (n + 1) * q) % 2 + pcnt n ((x + 2 ^ (n + 1) * q) / 2) = x % 2 + pcnt n (x / 2)
    have e : 2 ^ (n + 1) * q = 2 * (2 ^ n * q) := by rw [Nat.pow_succ, Nat.mul_comm (2 ^ n) 2, Nat.mul_assoc]
    rw [e, show (x + 2 * (2 ^ n * q)) / 2 = x / 2 + 2 ^ n * q by omega, ih, show (x + 2 * (2 ^ n * q)) % 2 = x % 2 by omega]
theorem pcnt_hi {n k x : Nat} (hx : x < 2 ^ n) (hn : n < k) : pcnt k (x + 2 ^ n) = pcnt k x + 1 := by
  obtain ⟨d, rfl⟩ : ∃ d, k = n + (d + 1) := ⟨k - n - 1, by omega⟩
  have e1 : pcnt (d + 1) 1 = 1 := by
    show 1 % 2 + pcnt d (1 / 2) = 1
    rw [show (1 : Nat) / 2 = 0 from rfl, pcnt_0]
  have e2 : (x + 2 ^ n) / 2 ^ n = 1 := by rw [Nat.add_div_right _ (Nat.two_pow_pos n), Nat.div_eq_of_lt hx]
  rw [pcnt_add n (d + 1), pcnt_add n (d + 1), e2, e1, Nat.div_eq_of_lt hx, pcnt_0]
  have e3 := pcnt_more n x 1
  rw [Nat.mul_one] at e3
  rw [e3]
theorem pcnt_msk {b : Nat → Nat} {k : Nat} : ∀ n, n ≤ k → (∀ i, i < n → b i ≤ 1) → pcnt k (mskF b n) = smF b n
  | 0, _, _ => pcnt_0 k
  | n + 1, hn, h => by
    have ih := pcnt_msk (b := b) (k := k) n (by omega) (fun i hi => h i (by omega))
    have hl := msk_lt n (fun i hi => h i (by omega))
    have hb := h n (by omega)
    show pcnt k (mskF b n ||| b n <<< n) = smF b n + b n
    have hz : b n = 0 ∨ b n = 1 := by omega
    rcases hz with hz | hz
    · rw [hz, Nat.zero_shiftLeft, Nat.or_zero, ih, Nat.add_zero]
    · have e := Nat.two_pow_add_eq_or_of_lt hl 1
      rw [Nat.mul_one] at e
      rw [hz, Nat.one_shiftLeft, Nat.or_comm, ← e, Nat.add_comm, pcnt_hi hl (by omega), ih]
noncomputable def brF (f g : Nat → Nat) (n a : Nat) : Nat := smF (fun j => g j ^^^ pty (f j &&& a)) n
theorem brF_le {f g : Nat → Nat} {n : Nat} (hg : ∀ j, j < n → g j ≤ 1) (a : Nat) : brF f g n a ≤ n := by
  have := smF_le (f := fun j => g j ^^^ pty (f j &&& a)) (b := 1) n (fun j hj => xor_le1 (hg j hj) (pty_le _))
  unfold brF
  omega
theorem brF_pcn {f g : Nat → Nat} {n : Nat} (hn : n ≤ 20) (hg : ∀ j, j < n → g j ≤ 1) (a : Nat) : pcn (mskF (fun j => g j ^^^ pty (f j &&& a)) n) = brF f g n a := by
  rw [pcn_eq]
  exact pcnt_msk n (by omega) (fun j hj => xor_le1 (hg j hj) (pty_le _))
theorem brF_0 {f g : Nat → Nat} {n : Nat} : mskF g n = mskF (fun j => g j ^^^ pty (f j &&& 0)) n := msk_cong n (fun i _ => by rw [Nat.and_zero, pty_0, Nat.xor_zero])
theorem brF_step {f g : Nat → Nat} {n z : Nat} (hg : ∀ j, j < n → g j ≤ 1) (h0 : 0 < z) (hz : z < 4096) : mskF (fun j => g j ^^^ pty (f j &&& (z - 1))) n ^^^ mskF (fun j => pty (f j &&& (2 ^ (lb z + 1) - 1))) n = mskF (fun j => g j ^^^ pty (f j &&& z)) n := by
  rw [msk_xor (fun j hj => xor_le1 (hg j hj) (pty_le _)) (fun j _ => pty_le _)]
  refine msk_cong n (fun j _ => ?_)
  show (g j ^^^ pty (f j &&& (z - 1))) ^^^ pty (f j &&& (2 ^ (lb z + 1) - 1)) = g j ^^^ pty (f j &&& z)
  rw [Nat.xor_assoc, ← pty_xor, ← Nat.and_xor_distrib_left, lb_flip h0 hz]
theorem msk20 {b : Nat → Nat} {n : Nat} (hn : n ≤ 20) (h : ∀ i, i < n → b i ≤ 1) : mskF b n < 2147483648 := by
  have h1 := msk_lt n h
  have h2 : 2 ^ n ≤ 2 ^ 20 := Nat.pow_le_pow_right (by decide) hn
  omega
/-- the best answer so far: the lowest, what it breaks, how many are as good -/
def bF (br : Nat → Nat) : Nat → Nat × Nat × Nat
  | 0 => (0, br 0, 1)
  | k + 1 => if br (k + 1) < (bF br k).2.1 then (k + 1, br (k + 1), 1) else if br (k + 1) = (bF br k).2.1 then ((bF br k).1, (bF br k).2.1, (bF br k).2.2 + 1) else bF br k
theorem bF_lt {br : Nat → Nat} {k x y z : Nat} (h : bF br k = (x, y, z)) (hl : br (k + 1) < y) : bF br (k + 1) = (k + 1, br (k + 1), 1) := by
  show (if _ then _ else _) = _
  rw [h, if_pos hl]
theorem bF_eq {br : Nat → Nat} {k x y z : Nat} (h : bF br k = (x, y, z)) (hl : br (k + 1) = y) : bF br (k + 1) = (x, y, z + 1) := by
  show (if _ then _ else _) = _
  rw [h, if_neg (by show ¬ br (k + 1) < y; omega), if_pos hl]
theorem bF_gt {br : Nat → Nat} {k x y z : Nat} (h : bF br k = (x, y, z)) (h1 : y ≤ br (k + 1)) (h2 : ¬ br (k + 1) = y) : bF br (k + 1) = (x, y, z) := by
  show (if _ then _ else _) = _
  rw [h, if_neg (by show ¬ br (k + 1) < y; omega), if_neg h2]
theorem bF_lt1 {br : Nat → Nat} {k x y z : Nat} (h0 : 0 < k) (h : bF br (k - 1) = (x, y, z)) (hl : br k < y) : bF br k = (k, br k, 1) := by
  obtain ⟨j, rfl⟩ : ∃ j, k = j + 1 := ⟨k - 1, by omega⟩
  exact bF_lt h hl
theorem bF_eq1 {br : Nat → Nat} {k x y z : Nat} (h0 : 0 < k) (h : bF br (k - 1) = (x, y, z)) (hl : br k = y) : bF br k = (x, y, z + 1) := by
  obtain ⟨j, rfl⟩ : ∃ j, k = j + 1 := ⟨k - 1, by omega⟩
  exact bF_eq h hl
theorem bF_gt1 {br : Nat → Nat} {k x y z : Nat} (h0 : 0 < k) (h : bF br (k - 1) = (x, y, z)) (h1 : y ≤ br k) (h2 : ¬ br k = y) : bF br k = (x, y, z) := by
  obtain ⟨j, rfl⟩ : ∃ j, k = j + 1 := ⟨k - 1, by omega⟩
  exact bF_gt h h1 h2
theorem bF_bd {br : Nat → Nat} : ∀ k, (bF br k).1 ≤ k ∧ (bF br k).2.2 ≤ k + 1
  | 0 => by
    show 0 ≤ 0 ∧ 1 ≤ 1
    omega
  | k + 1 => by
    have ih := bF_bd (br := br) k
    show (if _ then _ else _ : Nat × Nat × Nat).1 ≤ k + 1 ∧ (if _ then _ else _ : Nat × Nat × Nat).2.2 ≤ k + 1 + 1
    split
    · show k + 1 ≤ k + 1 ∧ 1 ≤ k + 2
      omega
    · split
      · show (bF br k).1 ≤ k + 1 ∧ (bF br k).2.2 + 1 ≤ k + 1 + 1
        omega
      · omega
theorem lb_12 {z w : Nat} (hw : w ≤ 12) (h0 : 0 < z) (h : z < 2 ^ w) : z < 4096 ∧ lb z < w := by
  have h2 : 2 ^ w ≤ 2 ^ 12 := Nat.pow_le_pow_right (by decide) hw
  refine ⟨by omega, ?_⟩
  obtain ⟨-, l2, -⟩ := lb_ok h0 (by omega)
  rcases Nat.lt_or_ge (lb z) w with c | c
  · exact c
  · rw [Nat.testBit_lt_two_pow (Nat.lt_of_lt_of_le h (Nat.pow_le_pow_right (by decide) c))] at l2
    cases l2
theorem ex_fill {ex f : Nat → Nat} {n c x : Nat} (h : ∀ d, d < c → ex d = mskF (fun j => pty (f j &&& (2 ^ (d + 1) - 1))) n) (hx : x = mskF (fun j => pty (f j &&& (2 <<< c - 1))) n) (hc : 2 <<< c - 1 = 2 ^ (c + 1) - 1) : ∀ d, d < c + 1 → pu ex c x d = mskF (fun j => pty (f j &&& (2 ^ (d + 1) - 1))) n := by
  intro d hd
  by_cases e : d = c
  · subst e
    rw [pu_s, hx, hc]
  · rw [pu_n e]
    exact h d (by omega)
theorem h6_all {P : Nat → Prop} (h0 : P 0) (h1 : P 1) (h2 : P 2) (h3 : P 3) (h4 : P 4) (h5 : P 5) {k : Nat} (hk : k < 6) : P k := by
  have h6 : k = 0 ∨ k = 1 ∨ k = 2 ∨ k = 3 ∨ k = 4 ∨ k = 5 := by omega
  rcases h6 with e | e | e | e | e | e <;> subst e <;> assumption
def rot {α : Type} (f : Nat → α) : Nat → α := fun k => f (if k = 5 then 0 else k + 1)
theorem drop_f2 (hf : Nat → Option Nat) (ad : Nat → Nat) : ∀ k, k < 6 → va_up (va_up (va_up (va_up (va_up (va_up hf 0 (some (ad 1))) 1 (some (ad 2))) 2 (some (ad 3))) 3 (some (ad 4))) 4 (some (ad 5))) 5 (some (ad 0)) k = some (rot ad k) := by
  intro k hk
  have h6 : k = 0 ∨ k = 1 ∨ k = 2 ∨ k = 3 ∨ k = 4 ∨ k = 5 := by omega
  rcases h6 with e | e | e | e | e | e <;> subst e <;> rfl
/-- a row remembered -/
def HP (q rc rn : Nat) (f g : Nat → Nat) (zc zn : Nat → Nat) (zf zg : Nat → Nat → Nat) (q2 : Nat) (zc2 zn2 : Nat → Nat) (zf2 zg2 : Nat → Nat → Nat) : Prop :=
  (q < 6 ∧ q2 = q + 1 ∧ zc2 = va_up zc q rc ∧ zn2 = va_up zn q rn ∧ zf2 = va_up zf q f ∧ zg2 = va_up zg q g) ∨
  (q = 6 ∧ q2 = 6 ∧ zc2 = va_up (rot zc) 5 rc ∧ zn2 = va_up (rot zn) 5 rn ∧ zf2 = va_up (rot zf) 5 f ∧ zg2 = va_up (rot zg) 5 g)
theorem bF_brle {f g : Nat → Nat} {n : Nat} (hn : n ≤ 20) (hg : ∀ j, j < n → g j ≤ 1) : ∀ k, (bF (brF f g n) k).2.1 ≤ 20
  | 0 => by
    have := brF_le (f := f) hg 0
    show brF f g n 0 ≤ 20
    omega
  | k + 1 => by
    have ih := bF_brle (f := f) hn hg k
    have h2 := brF_le (f := f) hg (k + 1)
    show (if _ then _ else _ : Nat × Nat × Nat).2.1 ≤ 20
    split
    · show brF f g n (k + 1) ≤ 20
      omega
    · split
      · exact ih
      · exact ih
set_option maxHeartbeats 4000000 in
set_option maxRecDepth 100000 in
theorem c_X0_brokenByNone (l : Launch) (G : gT) (b0 b1 b2 : Nat) (rc : Nat) (rn : Nat) (f : Nat → Nat) (g : Nat → Nat) (hn : rn ≤ 20) : CI l yX0_brokenByNone wsX0_brokenByNone ({ frames := 0, cells := 0, slots := 0, locals := 0 } : Room) G [.ref b0] [(b0, .inr (3, [.int (nI rc), .int (nI rn), .ref b1, .ref b2])), (b1, .inl (gI G, 20, .inl (nA f))), (b2, .inl (gI G, 20, .inl (nA g)))] 0 0 (fun (r : Int32) (u : Unit) => r = nI (mskF g rn)) (fun (u : Unit) => [(b0, .inr (3, [.int (nI rc), .int (nI rn), .ref b1, .ref b2])), (b1, .inl (gI G, 20, .inl (nA f))), (b2, .inl (gI G, 20, .inl (nA g)))]) := by
  refine CI.of (cc := cX0_brokenByNone) (maxL := 3) (ret := (some .int)) (by decide +kernel) rfl (Nat.le_of_ble_eq_true rfl) rfl (fun p e s m args below meth c A S hrt hlk hnm K hA hP hD hS ls hl => ?_)
  have hx := S.1
  have hb := S.2.1
  have hl : lv_has ls 3 [(0, .ref b0)] := hl
  refine lv_iconst (v := nI 0) hx hb dX0_brokenByNone_0 (by decide +kernel) ?_
  refine lv_istore_n (lv' := [(1, .int (nI 0)), (0, .ref b0)]) hx hb dX0_brokenByNone_1 rfl hl (by decide) rfl (fun ls hl => ?_)
  refine lv_iconst (v := nI 0) hx hb dX0_brokenByNone_2 (by decide +kernel) ?_
  refine lv_istore_n (lv' := [(2, .int (nI 0)), (1, .int (nI 0)), (0, .ref b0)]) hx hb dX0_brokenByNone_3 rfl hl (by decide) rfl (fun ls hl => ?_)
  have lp_4 : ∀ (n_4 : Nat) (i y : Nat), rn - i < n_4 → (i ≤ rn) → (y = mskF g i) → ∀ (H : Heap) (locs : List Loc), va_P (gD G) vwCl [(b0, .inr (3, [.int (nI rc), .int (nI rn), .ref b1, .ref b2])), (b1, .inl (gI G, 20, .inl (nA f))), (b2, .inl (gI G, 20, .inl (nA g)))] H → va_D A [(b0, .inr (3, [.int (nI rc), .int (nI rn), .ref b1, .ref b2])), (b1, .inl (gI G, 20, .inl (nA f))), (b2, .inl (gI G, 20, .inl (nA g)))] → va_S A s.heap H locs → ∀ ls : Array Slot, lv_has ls 3 [(2, .int (nI i)), (1, .int (nI y)), (0, .ref b0)] → W p l e ({ frames := 0, cells := 0, slots := 0, locals := 0 } : Room) s m args below meth c H locs 0 0 (MQ below (va_Qi (fun (r : Int32) (u : Unit) => r = nI (mskF g rn)) (cB G A (fun (u : Unit) => [(b0, .inr (3, [.int (nI rc), .int (nI rn), .ref b1, .ref b2])), (b1, .inl (gI G, 20, .inl (nA f))), (b2, .inl (gI G, 20, .inl (nA g)))])) A) args s 0 0 A) (F0 m 4 ls []) := by
    intro n_4
    induction n_4 with
    | zero =>
      intro i y h0
      exact absurd h0 (Nat.not_lt_zero _)
    | succ n_4 ih_4 =>
      intro i y hm_4 hi hy H locs hP hD hS ls hl
      refine lv_iload_n hx hb dX0_brokenByNone_4 rfl (lv_at hl 0 rfl) ?_
      refine lv_aload_n hx hb dX0_brokenByNone_5 rfl (lv_at hl 2 rfl) ?_
      refine z_get S K hP hX0_brokenByNone_X3 0 rfl rfl 1 (by decide) kX0_brokenByNone_1 rfl rfl dX0_brokenByNone_6 ?_
      refine zb_ge (tgt := 29) S dX0_brokenByNone_9 (by decide) (by omega) (by omega) (fun c_9 => ?_) (fun c_9 => ?_)
      · skip
        have hin : i = rn := by omega
        obtain rfl : rn = i := Eq.symm (hin)
        refine lv_iload_n hx hb dX0_brokenByNone_29 rfl (lv_at hl 1 rfl) ?_
        refine z_top (y := nI (mskF g rn)) (congrArg nI hy) ?_
        exact z_iret S hrt hlk hP hD hS () rfl rfl dX0_brokenByNone_30
      · skip
        refine lv_iload_n hx hb dX0_brokenByNone_12 rfl (lv_at hl 1 rfl) ?_
        refine lv_aload_n hx hb dX0_brokenByNone_13 rfl (lv_at hl 2 rfl) ?_
        refine z_get S K hP hX0_brokenByNone_X3 0 rfl rfl 3 (by decide) kX0_brokenByNone_2 rfl rfl dX0_brokenByNone_14 ?_
        refine lv_iload_n hx hb dX0_brokenByNone_17 rfl (lv_at hl 0 rfl) ?_
        refine z_iald S K hP 2 rfl (by omega) (by decide) dX0_brokenByNone_18 ?_
        refine lv_iload_n hx hb dX0_brokenByNone_19 rfl (lv_at hl 0 rfl) ?_
        refine zi_shl S dX0_brokenByNone_20 (by omega) ?_
        refine zi_or S dX0_brokenByNone_21 ?_
        refine lv_istore_n (lv' := [(1, .int (nI (y ||| ((g i) <<< i)))), (2, .int (nI i)), (0, .ref b0)]) hx hb dX0_brokenByNone_22 rfl hl (by decide) rfl (fun ls hl => ?_)
        refine lv_iinc (v := (nI (i + 1))) (lv' := [(2, .int (nI (i + 1))), (1, .int (nI (y ||| ((g i) <<< i)))), (0, .ref b0)]) hx hb dX0_brokenByNone_23 hl (k := 1) rfl (z_i1 _) (by decide) rfl (fun ls hl => ?_)
        refine lv_goto (tgt := 4) hx hb dX0_brokenByNone_26 (by decide) ?_
        exact ih_4 (i + 1) (y ||| ((g i) <<< i)) (by omega) (by omega) (by rw [hy]; rfl) _ _ hP hD hS _ (lv_sub hl [0, 1, 2] rfl)
  exact lp_4 _ 0 0 (Nat.lt_succ_self _) (by omega) rfl _ _ hP hD hS _ (lv_sub hl [0, 1, 2] rfl)
set_option maxHeartbeats 4000000 in
set_option maxRecDepth 100000 in
theorem c_X0_fillExchanges (l : Launch) (G : gT) (a0 a1 b0 b1 b2 : Nat) (lo : Int32) (bk : Int32) (ag : Int32) (ex : Nat → Nat) (rc : Nat) (rn : Nat) (f : Nat → Nat) (g : Nat → Nat) (hc : rc ≤ 12) (hn : rn ≤ 20) (hf : ∀ j, j < rn → f j < 4096) (hg : ∀ j, j < rn → g j ≤ 1) : CV l yX0_fillExchanges wsX0_fillExchanges ({ frames := 2, cells := 0, slots := 0, locals := 40 } : Room) G [.ref a0, .ref b0] [(a0, .inr (0, [.int lo, .int bk, .int ag, .ref a1])), (a1, .inl (gI G, 12, .inl (nA ex))), (b0, .inr (3, [.int (nI rc), .int (nI rn), .ref b1, .ref b2])), (b1, .inl (gI G, 20, .inl (nA f))), (b2, .inl (gI G, 20, .inl (nA g)))] 0 0 (fun (u : (Nat → Nat)) => ∀ d, d < rc → u d = mskF (fun j => pty (f j &&& (2 ^ (d + 1) - 1))) rn) (fun (u : (Nat → Nat)) => [(a0, .inr (0, [.int lo, .int bk, .int ag, .ref a1])), (a1, .inl (gI G, 12, .inl (nA u))), (b0, .inr (3, [.int (nI rc), .int (nI rn), .ref b1, .ref b2])), (b1, .inl (gI G, 20, .inl (nA f))), (b2, .inl (gI G, 20, .inl (nA g)))]) := by
  refine CV.of (cc := cX0_fillExchanges) (maxL := 6) (ret := none) (by decide +kernel) rfl (Nat.le_of_ble_eq_true rfl) rfl (fun p e s m args below meth c A S hrt hlk hnm K hA hP hD hS ls hl => ?_)
  have hx := S.1
  have hb := S.2.1
  have hl : lv_has ls 6 [(0, .ref a0), (1, .ref b0)] := hl
  refine lv_iconst (v := nI 0) hx hb dX0_fillExchanges_0 (by decide +kernel) ?_
  refine lv_istore_n (lv' := [(2, .int (nI 0)), (0, .ref a0), (1, .ref b0)]) hx hb dX0_fillExchanges_1 rfl hl (by decide) rfl (fun ls hl => ?_)
  have lp_2 : ∀ (n_2 : Nat) (i : Nat) (ex1 : Nat → Nat), rc - i < n_2 → (i ≤ rc) → (∀ d, d < i → ex1 d = mskF (fun j => pty (f j &&& (2 ^ (d + 1) - 1))) rn) → ∀ (H : Heap) (locs : List Loc), va_P (gD G) vwCl [(a0, .inr (0, [.int lo, .int bk, .int ag, .ref a1])), (a1, .inl (gI G, 12, .inl (nA ex1))), (b0, .inr (3, [.int (nI rc), .int (nI rn), .ref b1, .ref b2])), (b1, .inl (gI G, 20, .inl (nA f))), (b2, .inl (gI G, 20, .inl (nA g)))] H → va_D A [(a0, .inr (0, [.int lo, .int bk, .int ag, .ref a1])), (a1, .inl (gI G, 12, .inl (nA ex1))), (b0, .inr (3, [.int (nI rc), .int (nI rn), .ref b1, .ref b2])), (b1, .inl (gI G, 20, .inl (nA f))), (b2, .inl (gI G, 20, .inl (nA g)))] → va_S A s.heap H locs → ∀ ls : Array Slot, lv_has ls 6 [(2, .int (nI i)), (0, .ref a0), (1, .ref b0)] → W p l e ({ frames := 2, cells := 0, slots := 0, locals := 40 } : Room) s m args below meth c H locs 0 0 (MQ below (va_Qv (fun (u : (Nat → Nat)) => ∀ d, d < rc → u d = mskF (fun j => pty (f j &&& (2 ^ (d + 1) - 1))) rn) (cB G A (fun (u : (Nat → Nat)) => [(a0, .inr (0, [.int lo, .int bk, .int ag, .ref a1])), (a1, .inl (gI G, 12, .inl (nA u))), (b0, .inr (3, [.int (nI rc), .int (nI rn), .ref b1, .ref b2])), (b1, .inl (gI G, 20, .inl (nA f))), (b2, .inl (gI G, 20, .inl (nA g)))])) A) args s 0 0 A) (F0 m 2 ls []) := by
    intro n_2
    induction n_2 with
    | zero =>
      intro i ex1 h0
      exact absurd h0 (Nat.not_lt_zero _)
    | succ n_2 ih_2 =>
      intro i ex1 hm_2 hi he H locs hP hD hS ls hl
      refine lv_iload_n hx hb dX0_fillExchanges_2 rfl (lv_at hl 0 rfl) ?_
      refine lv_aload_n hx hb dX0_fillExchanges_3 rfl (lv_at hl 2 rfl) ?_
      refine z_get S K hP hX0_fillExchanges_X3 2 rfl rfl 0 (by decide) kX0_fillExchanges_1 rfl rfl dX0_fillExchanges_4 ?_
      refine zb_ge (tgt := 71) S dX0_fillExchanges_7 (by decide) (by omega) (by omega) (fun c_7 => ?_) (fun c_7 => ?_)
      · skip
        have hin : i = rc := by omega
        subst hin
        exact z_vret S hrt hlk hP hD hS ex1 rfl he dX0_fillExchanges_71
      · skip
        obtain ⟨h21, h22, h23⟩ := shl2 (show i < 12 by omega)
        refine lv_iconst (v := nI 2) hx hb dX0_fillExchanges_10 (by decide +kernel) ?_
        refine lv_iload_n hx hb dX0_fillExchanges_11 rfl (lv_at hl 0 rfl) ?_
        refine zi_shl S dX0_fillExchanges_12 (by omega) ?_
        refine lv_iconst (v := nI 1) hx hb dX0_fillExchanges_13 (by decide +kernel) ?_
        refine zi_sub S dX0_fillExchanges_14 (by omega) ?_
        refine lv_istore_n (lv' := [(3, .int (nI ((2 <<< i) - 1))), (2, .int (nI i)), (0, .ref a0), (1, .ref b0)]) hx hb dX0_fillExchanges_15 rfl hl (by decide) rfl (fun ls hl => ?_)
        refine lv_iconst (v := nI 0) hx hb dX0_fillExchanges_16 (by decide +kernel) ?_
        refine lv_istore (lv' := [(4, .int (nI 0)), (3, .int (nI ((2 <<< i) - 1))), (2, .int (nI i)), (0, .ref a0), (1, .ref b0)]) hx hb dX0_fillExchanges_17 hl (by decide) rfl (fun ls hl => ?_)
        refine lv_iconst (v := nI 0) hx hb dX0_fillExchanges_19 (by decide +kernel) ?_
        refine lv_istore (lv' := [(5, .int (nI 0)), (4, .int (nI 0)), (3, .int (nI ((2 <<< i) - 1))), (2, .int (nI i)), (0, .ref a0), (1, .ref b0)]) hx hb dX0_fillExchanges_20 hl (by decide) rfl (fun ls hl => ?_)
        have lp_22 : ∀ (n_22 : Nat) (k : Nat) (y : Nat), rn - k < n_22 → (k ≤ rn) → (y = mskF (fun j => pty (f j &&& (2 <<< i - 1))) k) → ∀ (H : Heap) (locs : List Loc), va_P (gD G) vwCl [(a0, .inr (0, [.int lo, .int bk, .int ag, .ref a1])), (a1, .inl (gI G, 12, .inl (nA ex1))), (b0, .inr (3, [.int (nI rc), .int (nI rn), .ref b1, .ref b2])), (b1, .inl (gI G, 20, .inl (nA f))), (b2, .inl (gI G, 20, .inl (nA g)))] H → va_D A [(a0, .inr (0, [.int lo, .int bk, .int ag, .ref a1])), (a1, .inl (gI G, 12, .inl (nA ex1))), (b0, .inr (3, [.int (nI rc), .int (nI rn), .ref b1, .ref b2])), (b1, .inl (gI G, 20, .inl (nA f))), (b2, .inl (gI G, 20, .inl (nA g)))] → va_S A s.heap H locs → ∀ ls : Array Slot, lv_has ls 6 [(5, .int (nI k)), (4, .int (nI y)), (3, .int (nI ((2 <<< i) - 1))), (2, .int (nI i)), (0, .ref a0), (1, .ref b0)] → W p l e ({ frames := 2, cells := 0, slots := 0, locals := 40 } : Room) s m args below meth c H locs 0 0 (MQ below (va_Qv (fun (u : (Nat → Nat)) => ∀ d, d < rc → u d = mskF (fun j => pty (f j &&& (2 ^ (d + 1) - 1))) rn) (cB G A (fun (u : (Nat → Nat)) => [(a0, .inr (0, [.int lo, .int bk, .int ag, .ref a1])), (a1, .inl (gI G, 12, .inl (nA u))), (b0, .inr (3, [.int (nI rc), .int (nI rn), .ref b1, .ref b2])), (b1, .inl (gI G, 20, .inl (nA f))), (b2, .inl (gI G, 20, .inl (nA g)))])) A) args s 0 0 A) (F0 m 22 ls []) := by
          intro n_22
          induction n_22 with
          | zero =>
            intro k y h0
            exact absurd h0 (Nat.not_lt_zero _)
          | succ n_22 ih_22 =>
            intro k y hm_22 hk hy H locs hP hD hS ls hl
            refine lv_iload hx hb dX0_fillExchanges_22 (lv_at hl 0 rfl) ?_
            refine lv_aload_n hx hb dX0_fillExchanges_24 rfl (lv_at hl 5 rfl) ?_
            refine z_get S K hP hX0_fillExchanges_X3 2 rfl rfl 1 (by decide) kX0_fillExchanges_2 rfl rfl dX0_fillExchanges_25 ?_
            refine zb_ge (tgt := 57) S dX0_fillExchanges_28 (by decide) (by omega) (by omega) (fun c_28 => ?_) (fun c_28 => ?_)
            · skip
              have hkn : k = rn := by omega
              obtain rfl : rn = k := Eq.symm (hkn)
              refine lv_aload_n hx hb dX0_fillExchanges_57 rfl (lv_at hl 4 rfl) ?_
              refine z_get S K hP hX0_fillExchanges_X0 0 rfl rfl 3 (by decide) kX0_fillExchanges_4 rfl rfl dX0_fillExchanges_58 ?_
              refine lv_iload_n hx hb dX0_fillExchanges_61 rfl (lv_at hl 3 rfl) ?_
              refine lv_iload hx hb dX0_fillExchanges_62 (lv_at hl 1 rfl) ?_
              refine z_iast S K hP hD hS 1 rfl (by omega) (by decide) dX0_fillExchanges_64 (fun H locs hP hD hS => ?_)
              have hP : va_P (gD G) vwCl [(a0, .inr (0, [.int lo, .int bk, .int ag, .ref a1])), (a1, .inl (gI G, 12, .inl (nA (pu ex1 i y)))), (b0, .inr (3, [.int (nI rc), .int (nI rn), .ref b1, .ref b2])), (b1, .inl (gI G, 20, .inl (nA f))), (b2, .inl (gI G, 20, .inl (nA g)))] H := hP
              have hD : va_D A [(a0, .inr (0, [.int lo, .int bk, .int ag, .ref a1])), (a1, .inl (gI G, 12, .inl (nA (pu ex1 i y)))), (b0, .inr (3, [.int (nI rc), .int (nI rn), .ref b1, .ref b2])), (b1, .inl (gI G, 20, .inl (nA f))), (b2, .inl (gI G, 20, .inl (nA g)))] := hD
              refine lv_iinc (v := (nI (i + 1))) (lv' := [(2, .int (nI (i + 1))), (5, .int (nI rn)), (4, .int (nI y)), (3, .int (nI ((2 <<< i) - 1))), (0, .ref a0), (1, .ref b0)]) hx hb dX0_fillExchanges_65 hl (k := 3) rfl (z_i1 _) (by decide) rfl (fun ls hl => ?_)
              refine lv_goto (tgt := 2) hx hb dX0_fillExchanges_68 (by decide) ?_
              exact ih_2 (i + 1) (pu ex1 i y) (by omega) (by omega) (ex_fill he hy h23) _ _ hP hD hS _ (lv_sub hl [0, 4, 5] rfl)
            · skip
              refine lv_iload hx hb dX0_fillExchanges_31 (lv_at hl 1 rfl) ?_
              refine lv_aload_n hx hb dX0_fillExchanges_33 rfl (lv_at hl 5 rfl) ?_
              refine z_get S K hP hX0_fillExchanges_X3 2 rfl rfl 2 (by decide) kX0_fillExchanges_3 rfl rfl dX0_fillExchanges_34 ?_
              refine lv_iload hx hb dX0_fillExchanges_37 (lv_at hl 0 rfl) ?_
              refine z_iald S K hP 3 rfl (by omega) (by decide) dX0_fillExchanges_39 ?_
              refine lv_iload_n hx hb dX0_fillExchanges_40 rfl (lv_at hl 2 rfl) ?_
              refine zi_and S dX0_fillExchanges_41 ?_
              refine zcNi (rest := [.int (nI y)]) S K hP hD hS hA hl.1 (c_X5_parity l G ((f k) &&& ((2 <<< i) - 1)) (Nat.lt_of_le_of_lt Nat.and_le_left (by have := hf k (by omega); omega))) rfl rfl gX0_fillExchanges_X5_parity_n56 rfl (List.mem_of_getElem? (i := 5) rfl) kX0_fillExchanges_6 kX0_fillExchanges_5 eX5_parity.2 [] (by decide +kernel) rfl (fun _ => rfl) rfl rfl (Nat.le_of_ble_eq_true rfl) (Nat.le_of_ble_eq_true rfl) (Nat.le_of_ble_eq_true rfl) ⟨Nat.zero_le _, Nat.zero_le _⟩ dX0_fillExchanges_42 (fun r_42 u_42 H locs hw_42 hP hD hS => ?_)
              replace hw_42 : r_42 = nI (pty ((f k) &&& ((2 <<< i) - 1))) := hw_42
              obtain rfl := hw_42
              have hP : va_P (gD G) vwCl [(a0, .inr (0, [.int lo, .int bk, .int ag, .ref a1])), (a1, .inl (gI G, 12, .inl (nA ex1))), (b0, .inr (3, [.int (nI rc), .int (nI rn), .ref b1, .ref b2])), (b1, .inl (gI G, 20, .inl (nA f))), (b2, .inl (gI G, 20, .inl (nA g)))] H := hP
              have hD : va_D A [(a0, .inr (0, [.int lo, .int bk, .int ag, .ref a1])), (a1, .inl (gI G, 12, .inl (nA ex1))), (b0, .inr (3, [.int (nI rc), .int (nI rn), .ref b1, .ref b2])), (b1, .inl (gI G, 20, .inl (nA f))), (b2, .inl (gI G, 20, .inl (nA g)))] := hD
              refine lv_iload hx hb dX0_fillExchanges_45 (lv_at hl 0 rfl) ?_
              refine zi_shl S dX0_fillExchanges_47 (by omega) ?_
              refine zi_or S dX0_fillExchanges_48 ?_
              refine lv_istore (lv' := [(4, .int (nI (y ||| ((pty ((f k) &&& ((2 <<< i) - 1))) <<< k)))), (5, .int (nI k)), (3, .int (nI ((2 <<< i) - 1))), (2, .int (nI i)), (0, .ref a0), (1, .ref b0)]) hx hb dX0_fillExchanges_49 hl (by decide) rfl (fun ls hl => ?_)
              refine lv_iinc (v := (nI (k + 1))) (lv' := [(5, .int (nI (k + 1))), (4, .int (nI (y ||| ((pty ((f k) &&& ((2 <<< i) - 1))) <<< k)))), (3, .int (nI ((2 <<< i) - 1))), (2, .int (nI i)), (0, .ref a0), (1, .ref b0)]) hx hb dX0_fillExchanges_51 hl (k := 1) rfl (z_i1 _) (by decide) rfl (fun ls hl => ?_)
              refine lv_goto (tgt := 22) hx hb dX0_fillExchanges_54 (by decide) ?_
              exact ih_22 (k + 1) (y ||| ((pty ((f k) &&& ((2 <<< i) - 1))) <<< k)) (by omega) (by omega) (by rw [hy]; rfl) _ _ hP hD hS _ (lv_sub hl [0, 1, 2, 3, 4, 5] rfl)
        exact lp_22 _ 0 0 (Nat.lt_succ_self _) (by omega) rfl _ _ hP hD hS _ (lv_sub hl [0, 1, 2, 3, 4, 5] rfl)
  exact lp_2 _ 0 ex (Nat.lt_succ_self _) (by omega) (fun d h => absurd h (Nat.not_lt_zero _)) _ _ hP hD hS _ (lv_sub hl [0, 1, 2] rfl)
set_option maxHeartbeats 4000000 in
set_option maxRecDepth 100000 in
theorem c_X0_find (l : Launch) (G : gT) (a0 a1 b0 b1 b2 : Nat) (lo : Int32) (bk : Int32) (ag : Int32) (ex : Nat → Nat) (rc : Nat) (rn : Nat) (f : Nat → Nat) (g : Nat → Nat) (hc : rc ≤ 12) (hn : rn ≤ 20) (hf : ∀ j, j < rn → f j < 4096) (hg : ∀ j, j < rn → g j ≤ 1) : CV l yX0_find wsX0_find ({ frames := 3, cells := 0, slots := 0, locals := 65 } : Room) G [.ref a0, .ref b0] [(a0, .inr (0, [.int lo, .int bk, .int ag, .ref a1])), (a1, .inl (gI G, 12, .inl (nA ex))), (b0, .inr (3, [.int (nI rc), .int (nI rn), .ref b1, .ref b2])), (b1, .inl (gI G, 20, .inl (nA f))), (b2, .inl (gI G, 20, .inl (nA g)))] 0 0 (fun (u : Nat × Nat × Nat × (Nat → Nat)) => bF (brF f g rn) (1 <<< rc - 1) = (u.1, u.2.1, u.2.2.1)) (fun (u : Nat × Nat × Nat × (Nat → Nat)) => [(a0, .inr (0, [.int (nI u.1), .int (nI u.2.1), .int (nI u.2.2.1), .ref a1])), (a1, .inl (gI G, 12, .inl (nA u.2.2.2))), (b0, .inr (3, [.int (nI rc), .int (nI rn), .ref b1, .ref b2])), (b1, .inl (gI G, 20, .inl (nA f))), (b2, .inl (gI G, 20, .inl (nA g)))]) := by
  refine CV.of (cc := cX0_find) (maxL := 6) (ret := none) (by decide +kernel) rfl (Nat.le_of_ble_eq_true rfl) rfl (fun p e s m args below meth c A S hrt hlk hnm K hA hP hD hS ls hl => ?_)
  have hx := S.1
  have hb := S.2.1
  have hl : lv_has ls 6 [(0, .ref a0), (1, .ref b0)] := hl
  have h1c : 1 <<< rc = 2 ^ rc := Nat.one_shiftLeft rc
  have h2c : 2 ^ rc ≤ 2 ^ 12 := Nat.pow_le_pow_right (by decide) hc
  have h3c : 0 < 2 ^ rc := Nat.two_pow_pos rc
  refine lv_aload_n hx hb dX0_find_0 rfl (lv_at hl 0 rfl) ?_
  refine lv_aload_n hx hb dX0_find_1 rfl (lv_at hl 1 rfl) ?_
  refine zcVv (rest := []) S K hP hD hS hA hl.1 (c_X0_fillExchanges l G a0 a1 b0 b1 b2 lo bk ag ex rc rn f g (by first | assumption | omega) (by first | assumption | omega) (by first | assumption | omega) (by first | assumption | omega)) rfl rfl gX0_find_X0_fillExchanges rfl eX0_fillExchanges [0, 1, 2, 3, 4] (by decide +kernel) rfl (fun _ => rfl) 0 0 rfl rfl rfl rfl rfl (Nat.le_of_ble_eq_true rfl) (Nat.le_of_ble_eq_true rfl) (Nat.le_of_ble_eq_true rfl) ⟨Nat.zero_le _, Nat.zero_le _⟩ dX0_find_2 (fun u_2 H locs hw_2 hP hD hS => ?_)
  obtain ⟨hP, hD⟩ := mx_ok [some 0, some 1, some 2, some 3, some 4] (by decide +kernel) rfl rfl hP hD
  obtain ⟨ex2_2, rfl⟩ : ∃ z, z = u_2 := ⟨_, rfl⟩
  replace hw_2 : ∀ d, d < rc → ex2_2 d = mskF (fun j => pty (f j &&& (2 ^ (d + 1) - 1))) rn := hw_2
  have hP : va_P (gD G) vwCl [(a0, .inr (0, [.int lo, .int bk, .int ag, .ref a1])), (a1, .inl (gI G, 12, .inl (nA ex2_2))), (b0, .inr (3, [.int (nI rc), .int (nI rn), .ref b1, .ref b2])), (b1, .inl (gI G, 20, .inl (nA f))), (b2, .inl (gI G, 20, .inl (nA g)))] H := hP
  have hD : va_D A [(a0, .inr (0, [.int lo, .int bk, .int ag, .ref a1])), (a1, .inl (gI G, 12, .inl (nA ex2_2))), (b0, .inr (3, [.int (nI rc), .int (nI rn), .ref b1, .ref b2])), (b1, .inl (gI G, 20, .inl (nA f))), (b2, .inl (gI G, 20, .inl (nA g)))] := hD
  refine lv_aload_n hx hb dX0_find_5 rfl (lv_at hl 1 rfl) ?_
  refine zcSi (rest := []) S K hP hD hS hA hl.1 (c_X0_brokenByNone l G b0 b1 b2 rc rn f g (by first | assumption | omega)) rfl rfl gX0_find_X0_brokenByNone rfl eX0_brokenByNone.2 [2, 3, 4] (by decide +kernel) rfl (fun _ => rfl) rfl rfl (Nat.le_of_ble_eq_true rfl) (Nat.le_of_ble_eq_true rfl) (Nat.le_of_ble_eq_true rfl) ⟨Nat.zero_le _, Nat.zero_le _⟩ dX0_find_6 (fun r_6 u_6 H locs hw_6 hP hD hS => ?_)
  obtain ⟨hP, hD⟩ := mx_ok [none, none, some 0, some 1, some 2] (by decide +kernel) rfl rfl hP hD
  replace hw_6 : r_6 = nI (mskF g rn) := hw_6
  obtain rfl := hw_6
  have hP : va_P (gD G) vwCl [(a0, .inr (0, [.int lo, .int bk, .int ag, .ref a1])), (a1, .inl (gI G, 12, .inl (nA ex2_2))), (b0, .inr (3, [.int (nI rc), .int (nI rn), .ref b1, .ref b2])), (b1, .inl (gI G, 20, .inl (nA f))), (b2, .inl (gI G, 20, .inl (nA g)))] H := hP
  have hD : va_D A [(a0, .inr (0, [.int lo, .int bk, .int ag, .ref a1])), (a1, .inl (gI G, 12, .inl (nA ex2_2))), (b0, .inr (3, [.int (nI rc), .int (nI rn), .ref b1, .ref b2])), (b1, .inl (gI G, 20, .inl (nA f))), (b2, .inl (gI G, 20, .inl (nA g)))] := hD
  refine z_top (y := nI (mskF (fun j => g j ^^^ pty (f j &&& 0)) rn)) (congrArg nI brF_0) ?_
  refine lv_istore_n (lv' := [(2, .int (nI (mskF (fun j => g j ^^^ pty (f j &&& 0)) rn))), (0, .ref a0), (1, .ref b0)]) hx hb dX0_find_9 rfl hl (by decide) rfl (fun ls hl => ?_)
  refine lv_aload_n hx hb dX0_find_10 rfl (lv_at hl 1 rfl) ?_
  refine lv_iconst (v := nI 0) hx hb dX0_find_11 (by decide +kernel) ?_
  refine z_put S K hP hD hS (ty0 := tyX0) hX0_find_X0 tyX0_ok nmX0 0 rfl rfl 0 (by decide) kX0_find_1 rfl rfl rfl rfl (Nat.le_of_ble_eq_true rfl) dX0_find_12 (fun H locs hP hD hS => ?_)
  have hP : va_P (gD G) vwCl [(a0, .inr (0, [.int (nI 0), .int bk, .int ag, .ref a1])), (a1, .inl (gI G, 12, .inl (nA ex2_2))), (b0, .inr (3, [.int (nI rc), .int (nI rn), .ref b1, .ref b2])), (b1, .inl (gI G, 20, .inl (nA f))), (b2, .inl (gI G, 20, .inl (nA g)))] H := hP
  have hD : va_D A [(a0, .inr (0, [.int (nI 0), .int bk, .int ag, .ref a1])), (a1, .inl (gI G, 12, .inl (nA ex2_2))), (b0, .inr (3, [.int (nI rc), .int (nI rn), .ref b1, .ref b2])), (b1, .inl (gI G, 20, .inl (nA f))), (b2, .inl (gI G, 20, .inl (nA g)))] := hD
  refine lv_aload_n hx hb dX0_find_15 rfl (lv_at hl 1 rfl) ?_
  refine lv_iload_n hx hb dX0_find_16 rfl (lv_at hl 0 rfl) ?_
  refine zcSi (rest := [.ref a0]) S K hP hD hS hA hl.1 (c_J6_bitCount_0f7a4 l G (mskF (fun j => g j ^^^ pty (f j &&& 0)) rn) (msk20 hn (fun j hj => xor_le1 (hg j hj) (pty_le _)))) rfl rfl gX0_find_J6_bitCount_0f7a4 rfl eJ6_bitCount_0f7a4.2 [] (by decide +kernel) rfl (fun _ => rfl) rfl rfl (Nat.le_of_ble_eq_true rfl) (Nat.le_of_ble_eq_true rfl) (Nat.le_of_ble_eq_true rfl) ⟨Nat.zero_le _, Nat.zero_le _⟩ dX0_find_17 (fun r_17 u_17 H locs hw_17 hP hD hS => ?_)
  replace hw_17 : r_17 = nI (pcn (mskF (fun j => g j ^^^ pty (f j &&& 0)) rn)) := hw_17
  obtain rfl := hw_17
  have hP : va_P (gD G) vwCl [(a0, .inr (0, [.int (nI 0), .int bk, .int ag, .ref a1])), (a1, .inl (gI G, 12, .inl (nA ex2_2))), (b0, .inr (3, [.int (nI rc), .int (nI rn), .ref b1, .ref b2])), (b1, .inl (gI G, 20, .inl (nA f))), (b2, .inl (gI G, 20, .inl (nA g)))] H := hP
  have hD : va_D A [(a0, .inr (0, [.int (nI 0), .int bk, .int ag, .ref a1])), (a1, .inl (gI G, 12, .inl (nA ex2_2))), (b0, .inr (3, [.int (nI rc), .int (nI rn), .ref b1, .ref b2])), (b1, .inl (gI G, 20, .inl (nA f))), (b2, .inl (gI G, 20, .inl (nA g)))] := hD
  refine z_top (y := nI (brF f g rn 0)) (congrArg nI (brF_pcn hn hg 0)) ?_
  refine z_put S K hP hD hS (ty0 := tyX0) hX0_find_X0 tyX0_ok nmX0 0 rfl rfl 1 (by decide) kX0_find_2 rfl rfl rfl rfl (Nat.le_of_ble_eq_true rfl) dX0_find_20 (fun H locs hP hD hS => ?_)
  have hP : va_P (gD G) vwCl [(a0, .inr (0, [.int (nI 0), .int (nI (brF f g rn 0)), .int ag, .ref a1])), (a1, .inl (gI G, 12, .inl (nA ex2_2))), (b0, .inr (3, [.int (nI rc), .int (nI rn), .ref b1, .ref b2])), (b1, .inl (gI G, 20, .inl (nA f))), (b2, .inl (gI G, 20, .inl (nA g)))] H := hP
  have hD : va_D A [(a0, .inr (0, [.int (nI 0), .int (nI (brF f g rn 0)), .int ag, .ref a1])), (a1, .inl (gI G, 12, .inl (nA ex2_2))), (b0, .inr (3, [.int (nI rc), .int (nI rn), .ref b1, .ref b2])), (b1, .inl (gI G, 20, .inl (nA f))), (b2, .inl (gI G, 20, .inl (nA g)))] := hD
  refine lv_aload_n hx hb dX0_find_23 rfl (lv_at hl 1 rfl) ?_
  refine lv_iconst (v := nI 1) hx hb dX0_find_24 (by decide +kernel) ?_
  refine z_put S K hP hD hS (ty0 := tyX0) hX0_find_X0 tyX0_ok nmX0 0 rfl rfl 2 (by decide) kX0_find_3 rfl rfl rfl rfl (Nat.le_of_ble_eq_true rfl) dX0_find_25 (fun H locs hP hD hS => ?_)
  have hP : va_P (gD G) vwCl [(a0, .inr (0, [.int (nI 0), .int (nI (brF f g rn 0)), .int (nI 1), .ref a1])), (a1, .inl (gI G, 12, .inl (nA ex2_2))), (b0, .inr (3, [.int (nI rc), .int (nI rn), .ref b1, .ref b2])), (b1, .inl (gI G, 20, .inl (nA f))), (b2, .inl (gI G, 20, .inl (nA g)))] H := hP
  have hD : va_D A [(a0, .inr (0, [.int (nI 0), .int (nI (brF f g rn 0)), .int (nI 1), .ref a1])), (a1, .inl (gI G, 12, .inl (nA ex2_2))), (b0, .inr (3, [.int (nI rc), .int (nI rn), .ref b1, .ref b2])), (b1, .inl (gI G, 20, .inl (nA f))), (b2, .inl (gI G, 20, .inl (nA g)))] := hD
  refine lv_iconst (v := nI 1) hx hb dX0_find_28 (by decide +kernel) ?_
  refine lv_aload_n hx hb dX0_find_29 rfl (lv_at hl 2 rfl) ?_
  refine z_get S K hP hX0_find_X3 2 rfl rfl 0 (by decide) kX0_find_4 rfl rfl dX0_find_30 ?_
  refine zi_shl S dX0_find_33 (by omega) ?_
  refine lv_iconst (v := nI 1) hx hb dX0_find_34 (by decide +kernel) ?_
  refine zi_sub S dX0_find_35 (by omega) ?_
  refine lv_istore_n (lv' := [(3, .int (nI ((1 <<< rc) - 1))), (2, .int (nI (mskF (fun j => g j ^^^ pty (f j &&& 0)) rn))), (0, .ref a0), (1, .ref b0)]) hx hb dX0_find_36 rfl hl (by decide) rfl (fun ls hl => ?_)
  refine lv_iconst (v := nI 1) hx hb dX0_find_37 (by decide +kernel) ?_
  refine lv_istore (lv' := [(4, .int (nI 1)), (3, .int (nI ((1 <<< rc) - 1))), (2, .int (nI (mskF (fun j => g j ^^^ pty (f j &&& 0)) rn))), (0, .ref a0), (1, .ref b0)]) hx hb dX0_find_38 hl (by decide) rfl (fun ls hl => ?_)
  have lp_40 : ∀ (n_40 : Nat) (z : Nat) (y : Nat) (lo1 : Nat) (bk1 : Nat) (ag1 : Nat), 2 ^ rc - z < n_40 → (1 ≤ z ∧ z ≤ 2 ^ rc) → (y = mskF (fun j => g j ^^^ pty (f j &&& (z - 1))) rn) → (bF (brF f g rn) (z - 1) = (lo1, bk1, ag1)) → ∀ (H : Heap) (locs : List Loc), va_P (gD G) vwCl [(a0, .inr (0, [.int (nI lo1), .int (nI bk1), .int (nI ag1), .ref a1])), (a1, .inl (gI G, 12, .inl (nA ex2_2))), (b0, .inr (3, [.int (nI rc), .int (nI rn), .ref b1, .ref b2])), (b1, .inl (gI G, 20, .inl (nA f))), (b2, .inl (gI G, 20, .inl (nA g)))] H → va_D A [(a0, .inr (0, [.int (nI lo1), .int (nI bk1), .int (nI ag1), .ref a1])), (a1, .inl (gI G, 12, .inl (nA ex2_2))), (b0, .inr (3, [.int (nI rc), .int (nI rn), .ref b1, .ref b2])), (b1, .inl (gI G, 20, .inl (nA f))), (b2, .inl (gI G, 20, .inl (nA g)))] → va_S A s.heap H locs → ∀ ls : Array Slot, lv_has ls 6 [(4, .int (nI z)), (3, .int (nI ((1 <<< rc) - 1))), (2, .int (nI y)), (0, .ref a0), (1, .ref b0)] → W p l e ({ frames := 3, cells := 0, slots := 0, locals := 65 } : Room) s m args below meth c H locs 0 0 (MQ below (va_Qv (fun (u : Nat × Nat × Nat × (Nat → Nat)) => bF (brF f g rn) (1 <<< rc - 1) = (u.1, u.2.1, u.2.2.1)) (cB G A (fun (u : Nat × Nat × Nat × (Nat → Nat)) => [(a0, .inr (0, [.int (nI u.1), .int (nI u.2.1), .int (nI u.2.2.1), .ref a1])), (a1, .inl (gI G, 12, .inl (nA u.2.2.2))), (b0, .inr (3, [.int (nI rc), .int (nI rn), .ref b1, .ref b2])), (b1, .inl (gI G, 20, .inl (nA f))), (b2, .inl (gI G, 20, .inl (nA g)))])) A) args s 0 0 A) (F0 m 40 ls []) := by
    intro n_40
    induction n_40 with
    | zero =>
      intro z y lo1 bk1 ag1 h0
      exact absurd h0 (Nat.not_lt_zero _)
    | succ n_40 ih_40 =>
      intro z y lo1 bk1 ag1 hm_40 hz hy hbF H locs hP hD hS ls hl
      refine lv_iload hx hb dX0_find_40 (lv_at hl 0 rfl) ?_
      refine lv_iload_n hx hb dX0_find_42 rfl (lv_at hl 1 rfl) ?_
      refine zb_gt (tgt := 119) S dX0_find_43 (by decide) (by omega) (by omega) (fun c_43 => ?_) (fun c_43 => ?_)
      · skip
        have hzn : z = 2 ^ rc := by omega
        rw [hzn, ← h1c] at hbF
        exact z_vret S hrt hlk hP hD hS (lo1, bk1, ag1, ex2_2) rfl hbF dX0_find_119
      · skip
        obtain ⟨hl1, hl2⟩ := lb_12 hc (show 0 < z by omega) (by omega)
        have hlbc : lb z < 12 := by omega
        refine lv_iload_n hx hb dX0_find_46 rfl (lv_at hl 2 rfl) ?_
        refine lv_aload_n hx hb dX0_find_47 rfl (lv_at hl 3 rfl) ?_
        refine z_get S K hP hX0_find_X0 0 rfl rfl 3 (by decide) kX0_find_5 rfl rfl dX0_find_48 ?_
        refine lv_iload hx hb dX0_find_51 (lv_at hl 0 rfl) ?_
        refine zcNi (rest := [.ref a1, .int (nI y)]) S K hP hD hS hA hl.1 (c_X5_lowestBit l G z (by omega) hl1) rfl rfl gX0_find_X5_lowestBit_n44 rfl (List.mem_of_getElem? (i := 4) rfl) kX0_find_14 kX0_find_28 eX5_lowestBit.2 [] (by decide +kernel) rfl (fun _ => rfl) rfl rfl (Nat.le_of_ble_eq_true rfl) (Nat.le_of_ble_eq_true rfl) (Nat.le_of_ble_eq_true rfl) ⟨Nat.zero_le _, Nat.zero_le _⟩ dX0_find_53 (fun r_53 u_53 H locs hw_53 hP hD hS => ?_)
        replace hw_53 : r_53 = nI (lb z) := hw_53
        obtain rfl := hw_53
        have hP : va_P (gD G) vwCl [(a0, .inr (0, [.int (nI lo1), .int (nI bk1), .int (nI ag1), .ref a1])), (a1, .inl (gI G, 12, .inl (nA ex2_2))), (b0, .inr (3, [.int (nI rc), .int (nI rn), .ref b1, .ref b2])), (b1, .inl (gI G, 20, .inl (nA f))), (b2, .inl (gI G, 20, .inl (nA g)))] H := hP
        have hD : va_D A [(a0, .inr (0, [.int (nI lo1), .int (nI bk1), .int (nI ag1), .ref a1])), (a1, .inl (gI G, 12, .inl (nA ex2_2))), (b0, .inr (3, [.int (nI rc), .int (nI rn), .ref b1, .ref b2])), (b1, .inl (gI G, 20, .inl (nA f))), (b2, .inl (gI G, 20, .inl (nA g)))] := hD
        refine z_iald S K hP 1 rfl (by omega) (by decide) dX0_find_56 ?_
        refine zi_xor S dX0_find_57 ?_
        refine lv_istore_n (lv' := [(2, .int (nI (y ^^^ (ex2_2 (lb z))))), (4, .int (nI z)), (3, .int (nI ((1 <<< rc) - 1))), (0, .ref a0), (1, .ref b0)]) hx hb dX0_find_58 rfl hl (by decide) rfl (fun ls hl => ?_)
        have hys : y ^^^ ex2_2 (lb z) = mskF (fun j => g j ^^^ pty (f j &&& z)) rn := by rw [hy, hw_2 _ hl2]; exact brF_step hg (by omega) hl1
        have hbr := brF_le (f := f) hg z
        have hbk : bk1 ≤ 20 := by have hb2 := congrArg (·.2.1) hbF; have := bF_brle (f := f) hn hg (z - 1); have hb3 : (bF (brF f g rn) (z - 1)).2.1 = bk1 := hb2; omega
        refine lv_iload_n hx hb dX0_find_59 rfl (lv_at hl 0 rfl) ?_
        refine zcSi (rest := []) S K hP hD hS hA hl.1 (c_J6_bitCount_0f7a4 l G (y ^^^ (ex2_2 (lb z))) (by rw [hys]; exact msk20 hn (fun j hj => xor_le1 (hg j hj) (pty_le _)))) rfl rfl gX0_find_J6_bitCount_0f7a4 rfl eJ6_bitCount_0f7a4.2 [] (by decide +kernel) rfl (fun _ => rfl) rfl rfl (Nat.le_of_ble_eq_true rfl) (Nat.le_of_ble_eq_true rfl) (Nat.le_of_ble_eq_true rfl) ⟨Nat.zero_le _, Nat.zero_le _⟩ dX0_find_60 (fun r_60 u_60 H locs hw_60 hP hD hS => ?_)
        replace hw_60 : r_60 = nI (pcn (y ^^^ (ex2_2 (lb z)))) := hw_60
        obtain rfl := hw_60
        have hP : va_P (gD G) vwCl [(a0, .inr (0, [.int (nI lo1), .int (nI bk1), .int (nI ag1), .ref a1])), (a1, .inl (gI G, 12, .inl (nA ex2_2))), (b0, .inr (3, [.int (nI rc), .int (nI rn), .ref b1, .ref b2])), (b1, .inl (gI G, 20, .inl (nA f))), (b2, .inl (gI G, 20, .inl (nA g)))] H := hP
        have hD : va_D A [(a0, .inr (0, [.int (nI lo1), .int (nI bk1), .int (nI ag1), .ref a1])), (a1, .inl (gI G, 12, .inl (nA ex2_2))), (b0, .inr (3, [.int (nI rc), .int (nI rn), .ref b1, .ref b2])), (b1, .inl (gI G, 20, .inl (nA f))), (b2, .inl (gI G, 20, .inl (nA g)))] := hD
        refine z_top (y := nI (brF f g rn z)) (congrArg nI (by rw [hys]; exact brF_pcn hn hg z)) ?_
        refine lv_istore (lv' := [(5, .int (nI (brF f g rn z))), (2, .int (nI (y ^^^ (ex2_2 (lb z))))), (4, .int (nI z)), (3, .int (nI ((1 <<< rc) - 1))), (0, .ref a0), (1, .ref b0)]) hx hb dX0_find_63 hl (by decide) rfl (fun ls hl => ?_)
        refine lv_iload hx hb dX0_find_65 (lv_at hl 0 rfl) ?_
        refine lv_aload_n hx hb dX0_find_67 rfl (lv_at hl 4 rfl) ?_
        refine z_get S K hP hX0_find_X0 0 rfl rfl 1 (by decide) kX0_find_2 rfl rfl dX0_find_68 ?_
        refine zb_ge (tgt := 94) S dX0_find_71 (by decide) (by omega) (by omega) (fun c_71 => ?_) (fun c_71 => ?_)
        · skip
          refine lv_iload hx hb dX0_find_94 (lv_at hl 0 rfl) ?_
          refine lv_aload_n hx hb dX0_find_96 rfl (lv_at hl 4 rfl) ?_
          refine z_get S K hP hX0_find_X0 0 rfl rfl 1 (by decide) kX0_find_2 rfl rfl dX0_find_97 ?_
          refine zb_ne (tgt := 113) S dX0_find_100 (by decide) (by omega) (by omega) (fun c_100 => ?_) (fun c_100 => ?_)
          · skip
            refine lv_iinc (v := (nI (z + 1))) (lv' := [(4, .int (nI (z + 1))), (5, .int (nI (brF f g rn z))), (2, .int (nI (y ^^^ (ex2_2 (lb z))))), (3, .int (nI ((1 <<< rc) - 1))), (0, .ref a0), (1, .ref b0)]) hx hb dX0_find_113 hl (k := 2) rfl (z_i1 _) (by decide) rfl (fun ls hl => ?_)
            refine lv_goto (tgt := 40) hx hb dX0_find_116 (by decide) ?_
            exact ih_40 (z + 1) (y ^^^ (ex2_2 (lb z))) lo1 bk1 ag1 (by omega) (by omega) hys (by rw [Nat.add_sub_cancel]; first | exact bF_lt1 (show 0 < z by omega) hbF c_71 | exact bF_eq1 (show 0 < z by omega) hbF c_100 | exact bF_gt1 (show 0 < z by omega) hbF c_71 c_100) _ _ hP hD hS _ (lv_sub hl [0, 3, 2, 4, 5] rfl)
          · skip
            refine lv_aload_n hx hb dX0_find_103 rfl (lv_at hl 4 rfl) ?_
            refine lv_dup hx hb dX0_find_104 rfl ?_
            refine z_get S K hP hX0_find_X0 0 rfl rfl 2 (by decide) kX0_find_3 rfl rfl dX0_find_105 ?_
            refine lv_iconst (v := nI 1) hx hb dX0_find_108 (by decide +kernel) ?_
            refine zi_add S dX0_find_109 ?_
            refine z_put S K hP hD hS (ty0 := tyX0) hX0_find_X0 tyX0_ok nmX0 0 rfl rfl 2 (by decide) kX0_find_3 rfl rfl rfl rfl (Nat.le_of_ble_eq_true rfl) dX0_find_110 (fun H locs hP hD hS => ?_)
            have hP : va_P (gD G) vwCl [(a0, .inr (0, [.int (nI lo1), .int (nI bk1), .int (nI (ag1 + 1)), .ref a1])), (a1, .inl (gI G, 12, .inl (nA ex2_2))), (b0, .inr (3, [.int (nI rc), .int (nI rn), .ref b1, .ref b2])), (b1, .inl (gI G, 20, .inl (nA f))), (b2, .inl (gI G, 20, .inl (nA g)))] H := hP
            have hD : va_D A [(a0, .inr (0, [.int (nI lo1), .int (nI bk1), .int (nI (ag1 + 1)), .ref a1])), (a1, .inl (gI G, 12, .inl (nA ex2_2))), (b0, .inr (3, [.int (nI rc), .int (nI rn), .ref b1, .ref b2])), (b1, .inl (gI G, 20, .inl (nA f))), (b2, .inl (gI G, 20, .inl (nA g)))] := hD
            refine lv_iinc (v := (nI (z + 1))) (lv' := [(4, .int (nI (z + 1))), (5, .int (nI (brF f g rn z))), (2, .int (nI (y ^^^ (ex2_2 (lb z))))), (3, .int (nI ((1 <<< rc) - 1))), (0, .ref a0), (1, .ref b0)]) hx hb dX0_find_113 hl (k := 2) rfl (z_i1 _) (by decide) rfl (fun ls hl => ?_)
            refine lv_goto (tgt := 40) hx hb dX0_find_116 (by decide) ?_
            exact ih_40 (z + 1) (y ^^^ (ex2_2 (lb z))) lo1 bk1 (ag1 + 1) (by omega) (by omega) hys (by rw [Nat.add_sub_cancel]; first | exact bF_lt1 (show 0 < z by omega) hbF c_71 | exact bF_eq1 (show 0 < z by omega) hbF c_100 | exact bF_gt1 (show 0 < z by omega) hbF c_71 c_100) _ _ hP hD hS _ (lv_sub hl [0, 3, 2, 4, 5] rfl)
        · skip
          refine lv_aload_n hx hb dX0_find_74 rfl (lv_at hl 4 rfl) ?_
          refine lv_iload hx hb dX0_find_75 (lv_at hl 2 rfl) ?_
          refine z_put S K hP hD hS (ty0 := tyX0) hX0_find_X0 tyX0_ok nmX0 0 rfl rfl 0 (by decide) kX0_find_1 rfl rfl rfl rfl (Nat.le_of_ble_eq_true rfl) dX0_find_77 (fun H locs hP hD hS => ?_)
          have hP : va_P (gD G) vwCl [(a0, .inr (0, [.int (nI z), .int (nI bk1), .int (nI ag1), .ref a1])), (a1, .inl (gI G, 12, .inl (nA ex2_2))), (b0, .inr (3, [.int (nI rc), .int (nI rn), .ref b1, .ref b2])), (b1, .inl (gI G, 20, .inl (nA f))), (b2, .inl (gI G, 20, .inl (nA g)))] H := hP
          have hD : va_D A [(a0, .inr (0, [.int (nI z), .int (nI bk1), .int (nI ag1), .ref a1])), (a1, .inl (gI G, 12, .inl (nA ex2_2))), (b0, .inr (3, [.int (nI rc), .int (nI rn), .ref b1, .ref b2])), (b1, .inl (gI G, 20, .inl (nA f))), (b2, .inl (gI G, 20, .inl (nA g)))] := hD
          refine lv_aload_n hx hb dX0_find_80 rfl (lv_at hl 4 rfl) ?_
          refine lv_iload hx hb dX0_find_81 (lv_at hl 0 rfl) ?_
          refine z_put S K hP hD hS (ty0 := tyX0) hX0_find_X0 tyX0_ok nmX0 0 rfl rfl 1 (by decide) kX0_find_2 rfl rfl rfl rfl (Nat.le_of_ble_eq_true rfl) dX0_find_83 (fun H locs hP hD hS => ?_)
          have hP : va_P (gD G) vwCl [(a0, .inr (0, [.int (nI z), .int (nI (brF f g rn z)), .int (nI ag1), .ref a1])), (a1, .inl (gI G, 12, .inl (nA ex2_2))), (b0, .inr (3, [.int (nI rc), .int (nI rn), .ref b1, .ref b2])), (b1, .inl (gI G, 20, .inl (nA f))), (b2, .inl (gI G, 20, .inl (nA g)))] H := hP
          have hD : va_D A [(a0, .inr (0, [.int (nI z), .int (nI (brF f g rn z)), .int (nI ag1), .ref a1])), (a1, .inl (gI G, 12, .inl (nA ex2_2))), (b0, .inr (3, [.int (nI rc), .int (nI rn), .ref b1, .ref b2])), (b1, .inl (gI G, 20, .inl (nA f))), (b2, .inl (gI G, 20, .inl (nA g)))] := hD
          refine lv_aload_n hx hb dX0_find_86 rfl (lv_at hl 4 rfl) ?_
          refine lv_iconst (v := nI 1) hx hb dX0_find_87 (by decide +kernel) ?_
          refine z_put S K hP hD hS (ty0 := tyX0) hX0_find_X0 tyX0_ok nmX0 0 rfl rfl 2 (by decide) kX0_find_3 rfl rfl rfl rfl (Nat.le_of_ble_eq_true rfl) dX0_find_88 (fun H locs hP hD hS => ?_)
          have hP : va_P (gD G) vwCl [(a0, .inr (0, [.int (nI z), .int (nI (brF f g rn z)), .int (nI 1), .ref a1])), (a1, .inl (gI G, 12, .inl (nA ex2_2))), (b0, .inr (3, [.int (nI rc), .int (nI rn), .ref b1, .ref b2])), (b1, .inl (gI G, 20, .inl (nA f))), (b2, .inl (gI G, 20, .inl (nA g)))] H := hP
          have hD : va_D A [(a0, .inr (0, [.int (nI z), .int (nI (brF f g rn z)), .int (nI 1), .ref a1])), (a1, .inl (gI G, 12, .inl (nA ex2_2))), (b0, .inr (3, [.int (nI rc), .int (nI rn), .ref b1, .ref b2])), (b1, .inl (gI G, 20, .inl (nA f))), (b2, .inl (gI G, 20, .inl (nA g)))] := hD
          refine lv_goto (tgt := 113) hx hb dX0_find_91 (by decide) ?_
          refine lv_iinc (v := (nI (z + 1))) (lv' := [(4, .int (nI (z + 1))), (5, .int (nI (brF f g rn z))), (2, .int (nI (y ^^^ (ex2_2 (lb z))))), (3, .int (nI ((1 <<< rc) - 1))), (0, .ref a0), (1, .ref b0)]) hx hb dX0_find_113 hl (k := 2) rfl (z_i1 _) (by decide) rfl (fun ls hl => ?_)
          refine lv_goto (tgt := 40) hx hb dX0_find_116 (by decide) ?_
          exact ih_40 (z + 1) (y ^^^ (ex2_2 (lb z))) z (brF f g rn z) 1 (by omega) (by omega) hys (by rw [Nat.add_sub_cancel]; first | exact bF_lt1 (show 0 < z by omega) hbF c_71 | exact bF_eq1 (show 0 < z by omega) hbF c_100 | exact bF_gt1 (show 0 < z by omega) hbF c_71 c_100) _ _ hP hD hS _ (lv_sub hl [0, 3, 2, 4, 5] rfl)
  exact lp_40 _ 1 (mskF (fun j => g j ^^^ pty (f j &&& 0)) rn) 0 (brF f g rn 0) 1 (Nat.lt_succ_self _) (by omega) rfl rfl _ _ hP hD hS _ (lv_sub hl [0, 1, 2, 3, 4] rfl)
