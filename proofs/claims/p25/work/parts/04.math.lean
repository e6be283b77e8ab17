/-! combinations, reduction by steps -/
theorem tb_1 (r i : Nat) : r >>> i &&& 1 = 1 ↔ r.testBit i = true := by
  rw [Nat.testBit, Nat.and_comm 1, Nat.and_one_is_mod, bne_iff_ne]
  generalize r >>> i = z
  omega
def rst (ss su sr : Nat → Nat) (c : Nat) (x : Nat × Nat × Nat) : Nat × Nat × Nat := if x.1.testBit c = true ∧ ¬ ss c = 0 then (x.1 ^^^ ss c, x.2.1 ^^^ su c, x.2.2 ^^^ sr c) else x
def red (ss su sr : Nat → Nat) : Nat → Nat × Nat × Nat → Nat × Nat × Nat
  | 0, x => x
  | k + 1, x => rst ss su sr k (red ss su sr k x)
theorem red_hit {ss su sr : Nat → Nat} {i r1 r2 r3 : Nat} {x : Nat × Nat × Nat} (h : red ss su sr i x = (r1, r2, r3)) (h1 : r1 >>> i &&& 1 = 1) (h2 : ¬ ss i = 0) : red ss su sr (i + 1) x = (r1 ^^^ ss i, r2 ^^^ su i, r3 ^^^ sr i) := by
  show rst ss su sr i (red ss su sr i x) = _
  rw [h]
  exact if_pos ⟨(tb_1 _ _).mp h1, h2⟩
theorem red_sk1 {ss su sr : Nat → Nat} {i r1 r2 r3 : Nat} {x : Nat × Nat × Nat} (h : red ss su sr i x = (r1, r2, r3)) (h1 : ¬ r1 >>> i &&& 1 = 1) : red ss su sr (i + 1) x = (r1, r2, r3) := by
  show rst ss su sr i (red ss su sr i x) = _
  rw [h]
  exact if_neg (fun q => h1 ((tb_1 _ _).mpr q.1))
theorem red_sk2 {ss su sr : Nat → Nat} {i r1 r2 r3 : Nat} {x : Nat × Nat × Nat} (h : red ss su sr i x = (r1, r2, r3)) (h2 : ss i = 0) : red ss su sr (i + 1) x = (r1, r2, r3) := by
  show rst ss su sr i (red ss su sr i x) = _
  rw [h]
  exact if_neg (fun q => q.2 h2)
theorem xor12 {a b : Nat} (ha : a < 4096) (hb : b < 4096) : a ^^^ b < 4096 := Nat.xor_lt_two_pow (n := 12) ha hb
theorem and31 {a b : Nat} (ha : a < 2147483648) : a &&& b < 2147483648 := Nat.lt_of_le_of_lt Nat.and_le_left ha
theorem and1_31 {a : Nat} : a &&& 1 < 2147483648 := Nat.lt_of_le_of_lt Nat.and_le_right (by decide)
/-! how many bits: the JDK's way, and a plain one -/
def pcnt : Nat → Nat → Nat
  | 0, _ => 0
  | k + 1, n => n % 2 + pcnt k (n / 2)
theorem pcnt_add (a b : Nat) : ∀ n, pcnt (a + b) n = pcnt a n + pcnt b (n / 2 ^ a) := by
  induction a with
  | zero => intro n; simp [pcnt]
  | succ a ih =>
    intro n
    rw [Nat.add_right_comm]
    show n % 2 + pcnt (a + b) (n / 2) = n % 2 + pcnt a (n / 2) + pcnt b (n / 2 ^ (a + 1))
    rw [ih, Nat.div_div_eq_div_mul, ← Nat.pow_succ', Nat.add_assoc]
theorem pcnt_le (k : Nat) : ∀ n, pcnt k n ≤ k := by
  induction k with
  | zero => intro n; exact Nat.le_refl _
  | succ k ih =>
    intro n
    have := ih (n / 2)
    show n % 2 + pcnt k (n / 2) ≤ k + 1
    omega
theorem and_split {w x y u v : Nat} (hy : y < 2 ^ w) (hv : v < 2 ^ w) : (2 ^ w * x + y) &&& (2 ^ w * u + v) = 2 ^ w * (x &&& u) + (y &&& v) := by
  apply Nat.eq_of_testBit_eq
  intro i
  have hyv : y &&& v < 2 ^ w := Nat.lt_of_le_of_lt Nat.and_le_left hy
  rw [Nat.testBit_and, Nat.testBit_two_pow_mul_add _ hy, Nat.testBit_two_pow_mul_add _ hv, Nat.testBit_two_pow_mul_add _ hyv]
  by_cases h : i < w
  · simp [h]
  · simp [h]
def mk1 : Nat → Nat
  | 0 => 0
  | k + 1 => 4 * mk1 k + 1
def mk2 : Nat → Nat
  | 0 => 0
  | k + 1 => 16 * mk2 k + 3
def mk3 : Nat → Nat
  | 0 => 0
  | k + 1 => 256 * mk3 k + 15
def dg1 : Nat → Nat → Nat
  | 0, _ => 0
  | k + 1, n => 4 * dg1 k (n / 4) + pcnt 2 n
def dg2 : Nat → Nat → Nat
  | 0, _ => 0
  | k + 1, n => 16 * dg2 k (n / 16) + pcnt 4 n
def dg3 : Nat → Nat → Nat
  | 0, _ => 0
  | k + 1, n => 256 * dg3 k (n / 256) + pcnt 8 n
theorem pcnt2 (n : Nat) : pcnt 2 n = n % 2 + n / 2 % 2 := rfl
theorem dg1_ok (k : Nat) : ∀ n, n < 4 ^ k → n - ((n / 2) &&& mk1 k) = dg1 k n := by
  induction k with
  | zero => intro n h; simp at h; subst h; rfl
  | succ k ih =>
    intro n h
    have h4 : n / 4 < 4 ^ k := by rw [Nat.pow_succ] at h; omega
    have e := ih (n / 4) h4
    have e2 : n / 2 = 2 ^ 2 * (n / 8) + n / 2 % 4 := by omega
    have e3 : n / 4 / 2 = n / 8 := by omega
    rw [e3] at e
    show n - ((n / 2) &&& (2 ^ 2 * mk1 k + 1)) = 4 * dg1 k (n / 4) + pcnt 2 n
    rw [e2, and_split (by omega) (by omega), Nat.and_one_is_mod, ← e, pcnt2]
    have hle : (n / 8 &&& mk1 k) ≤ n / 8 := Nat.and_le_left
    generalize (n / 8 &&& mk1 k) = a at hle ⊢
    omega
theorem dg2_ok (k : Nat) : ∀ n, (dg1 (2 * k) n &&& mk2 k) + ((dg1 (2 * k) n / 4) &&& mk2 k) = dg2 k n := by
  induction k with
  | zero =>
    intro n
    show (_ &&& 0) + (_ &&& 0) = 0
    rw [Nat.and_zero, Nat.and_zero]
  | succ k ih =>
    intro n
    have e := ih (n / 16)
    have e4 : n / 4 / 4 = n / 16 := by omega
    have ex : dg1 (2 * (k + 1)) n = 4 * (4 * dg1 (2 * k) (n / 16) + pcnt 2 (n / 4)) + pcnt 2 n := by
      show 4 * (4 * dg1 (2 * k) (n / 4 / 4) + pcnt 2 (n / 4)) + pcnt 2 n = _
      rw [e4]
    have c0 := pcnt_le 2 n
    have c1 := pcnt_le 2 (n / 4)
    have ep : pcnt 4 n = pcnt 2 n + pcnt 2 (n / 4) := pcnt_add 2 2 n
    rw [ex]
    show _ = 16 * dg2 k (n / 16) + pcnt 4 n
    rw [← e, ep]
    generalize dg1 (2 * k) (n / 16) = y
    generalize pcnt 2 n = p0 at c0 ⊢
    generalize pcnt 2 (n / 4) = p1 at c1 ⊢
    have f1 : 4 * (4 * y + p1) + p0 = 2 ^ 4 * y + (4 * p1 + p0) := by omega
    have f2 : (2 ^ 4 * y + (4 * p1 + p0)) / 4 = 2 ^ 4 * (y / 4) + (4 * (y % 4) + p1) := by omega
    show (4 * (4 * y + p1) + p0 &&& (2 ^ 4 * mk2 k + 3)) + ((4 * (4 * y + p1) + p0) / 4 &&& (2 ^ 4 * mk2 k + 3)) = _
    have m3 : ∀ z : Nat, z &&& 3 = z % 4 := fun z => Nat.and_two_pow_sub_one_eq_mod z 2
    rw [f1, f2, and_split (by omega) (by omega), and_split (by omega) (by omega), m3, m3]
    omega
theorem dg2_lo (k n : Nat) : dg2 k n % 16 ≤ 4 := by
  cases k with
  | zero => exact Nat.zero_le _
  | succ k =>
    have h := pcnt_le 4 n
    show (16 * dg2 k (n / 16) + pcnt 4 n) % 16 ≤ 4
    omega
theorem dg3_ok (k : Nat) : ∀ n, (dg2 (2 * k) n + dg2 (2 * k) n / 16) &&& mk3 k = dg3 k n := by
  induction k with
  | zero =>
    intro n
    show (_ &&& 0) = 0
    rw [Nat.and_zero]
  | succ k ih =>
    intro n
    have e := ih (n / 256)
    have e4 : n / 16 / 16 = n / 256 := by omega
    have ex : dg2 (2 * (k + 1)) n = 16 * (16 * dg2 (2 * k) (n / 256) + pcnt 4 (n / 16)) + pcnt 4 n := by
      show 16 * (16 * dg2 (2 * k) (n / 16 / 16) + pcnt 4 (n / 16)) + pcnt 4 n = _
      rw [e4]
    have c0 := pcnt_le 4 n
    have c1 := pcnt_le 4 (n / 16)
    have lo := dg2_lo (2 * k) (n / 256)
    have ep : pcnt 8 n = pcnt 4 n + pcnt 4 (n / 16) := pcnt_add 4 4 n
    rw [ex]
    show _ = 256 * dg3 k (n / 256) + pcnt 8 n
    rw [← e, ep]
    generalize dg2 (2 * k) (n / 256) = y at lo ⊢
    generalize pcnt 4 n = p0 at c0 ⊢
    generalize pcnt 4 (n / 16) = p1 at c1 ⊢
    have f1 : 16 * (16 * y + p1) + p0 + (16 * (16 * y + p1) + p0) / 16 = 2 ^ 8 * (y + y / 16) + (16 * (y % 16 + p1) + (p0 + p1)) := by omega
    show (16 * (16 * y + p1) + p0 + (16 * (16 * y + p1) + p0) / 16) &&& (2 ^ 8 * mk3 k + 15) = _
    have m15 : ∀ z : Nat, z &&& 15 = z % 16 := fun z => Nat.and_two_pow_sub_one_eq_mod z 4
    rw [f1, and_split (by omega) (by omega), m15]
    omega
def bc1 (n : Nat) : Nat := n - ((n / 2) &&& 1431655765)
def bc2 (x : Nat) : Nat := (x &&& 858993459) + ((x / 4) &&& 858993459)
def bc3 (x : Nat) : Nat := (x + x / 16) &&& 252645135
def bc4 (x : Nat) : Nat := x + x / 256
def bc5 (x : Nat) : Nat := x + x / 65536
theorem bc_ok {n : Nat} (h : n < 4294967296) : bc5 (bc4 (bc3 (bc2 (bc1 n)))) &&& 63 = pcnt 32 n := by
  have e1 : bc1 n = dg1 16 n := by
    show n - ((n / 2) &&& 1431655765) = _
    rw [show (1431655765 : Nat) = mk1 16 by decide]
    exact dg1_ok 16 n (by omega)
  have e2 : bc2 (dg1 16 n) = dg2 8 n := by
    show (dg1 16 n &&& 858993459) + ((dg1 16 n / 4) &&& 858993459) = _
    rw [show (858993459 : Nat) = mk2 8 by decide]
    exact dg2_ok 8 n
  have e3 : bc3 (dg2 8 n) = dg3 4 n := by
    show (dg2 8 n + dg2 8 n / 16) &&& 252645135 = _
    rw [show (252645135 : Nat) = mk3 4 by decide]
    exact dg3_ok 4 n
  rw [e1, e2, e3]
  have ep : pcnt 32 n = pcnt 8 n + (pcnt 8 (n / 256) + (pcnt 8 (n / 256 / 256) + pcnt 8 (n / 256 / 256 / 256))) := by
    rw [show (32 : Nat) = 8 + (8 + (8 + 8)) from rfl, pcnt_add, pcnt_add, pcnt_add]
  have b0 := pcnt_le 8 n
  have b1 := pcnt_le 8 (n / 256)
  have b2 := pcnt_le 8 (n / 256 / 256)
  have b3 := pcnt_le 8 (n / 256 / 256 / 256)
  have m63 : ∀ z : Nat, z &&& 63 = z % 64 := fun z => Nat.and_two_pow_sub_one_eq_mod z 6
  rw [ep, m63]
  show bc5 (bc4 (256 * (256 * (256 * (256 * 0 + pcnt 8 (n / 256 / 256 / 256)) + pcnt 8 (n / 256 / 256)) + pcnt 8 (n / 256)) + pcnt 8 n)) % 64 = _
  generalize pcnt 8 n = p0 at b0 ⊢
  generalize pcnt 8 (n / 256) = p1 at b1 ⊢
  generalize pcnt 8 (n / 256 / 256) = p2 at b2 ⊢
  generalize pcnt 8 (n / 256 / 256 / 256) = p3 at b3 ⊢
  have x1 : (256 * (256 * (256 * (256 * 0 + p3) + p2) + p1) + p0) / 256 = 65536 * p3 + 256 * p2 + p1 := by omega
  unfold bc5 bc4
  rw [x1]
  have x2 : (256 * (256 * (256 * (256 * 0 + p3) + p2) + p1) + p0 + (65536 * p3 + 256 * p2 + p1)) / 65536 = 256 * p3 + p2 + p3 := by omega
  rw [x2]
  omega
theorem bc1_le (n : Nat) : bc1 n ≤ n := Nat.sub_le _ _
theorem bc2_le (x : Nat) : bc2 x ≤ 1717986918 := by
  have h1 : x &&& 858993459 ≤ 858993459 := Nat.and_le_right
  have h2 : (x / 4) &&& 858993459 ≤ 858993459 := Nat.and_le_right
  unfold bc2
  omega
theorem bc3_le (x : Nat) : bc3 x ≤ 252645135 := Nat.and_le_right
theorem bc4_le {x : Nat} (h : x ≤ 252645135) : bc4 x ≤ 300000000 := by unfold bc4; omega
/-! the lowest bit -/
def lbk : Nat → Nat → Nat
  | 0, _ => 0
  | k + 1, n => if n % 2 = 1 then 0 else 1 + lbk k (n / 2)
def lb (n : Nat) : Nat := lbk 12 n
theorem lbk_ok (k : Nat) : ∀ n, 0 < n → n < 2 ^ k → lbk k n < k ∧ n.testBit (lbk k n) = true ∧ ∀ i, i < lbk k n → n.testBit i = false := by
  induction k with
  | zero => intro n h0 h; simp at h; omega
  | succ k ih =>
    intro n h0 h
    by_cases h2 : n % 2 = 1
    · have e : lbk (k + 1) n = 0 := if_pos h2
      rw [e]
      refine ⟨by omega, ?_, fun i hi => absurd hi (Nat.not_lt_zero _)⟩
      rw [Nat.testBit_zero]
      simp [h2]
    · have e : lbk (k + 1) n = 1 + lbk k (n / 2) := if_neg h2
      obtain ⟨g1, g2, g3⟩ := ih (n / 2) (by omega) (by rw [Nat.pow_succ] at h; omega)
      rw [e]
      refine ⟨by omega, ?_, fun i hi => ?_⟩
      · rw [Nat.add_comm, Nat.testBit_succ]
        exact g2
      · cases i with
        | zero =>
          rw [Nat.testBit_zero]
          simp [h2]
        | succ i =>
          rw [Nat.testBit_succ]
          exact g3 i (by omega)
theorem lb_ok {n : Nat} (h0 : 0 < n) (h : n < 4096) : lb n < 12 ∧ n.testBit (lb n) = true ∧ ∀ i, i < lb n → n.testBit i = false := lbk_ok 12 n h0 h
theorem lb_mask0 : ∀ a, a < 64 → ∀ b, b < 64 → 64 * a + b = 0 ∨ (nI (64 * a + b) ^^^ (-1)) &&& nI (64 * a + b - 1) = nI (2 ^ lb (64 * a + b) - 1) := by decide +kernel
theorem lb_mask {n : Nat} (h0 : 0 < n) (h : n < 4096) : (nI n ^^^ (-1)) &&& nI (n - 1) = nI (2 ^ lb n - 1) := by
  have q := lb_mask0 (n / 64) (by omega) (n % 64) (by omega)
  rw [Nat.div_add_mod] at q
  rcases q with q | q
  · omega
  · exact q
theorem pcnt_ones : ∀ k, k < 12 → pcnt 32 (2 ^ k - 1) = k := by decide +kernel
theorem pcn_ex : ∃ f : Nat → Nat, ∀ n, f n = pcnt 32 n := ⟨pcnt 32, fun _ => rfl⟩
/-- the same, sealed -/
noncomputable def pcn : Nat → Nat := Classical.choose pcn_ex
theorem pcn_eq (n : Nat) : pcn n = pcnt 32 n := Classical.choose_spec pcn_ex n
theorem pcn_le (n : Nat) : pcn n ≤ 32 := by rw [pcn_eq]; exact pcnt_le 32 n
noncomputable def pty (n : Nat) : Nat := pcn n &&& 1
theorem pty_mod (n : Nat) : pty n = pcn n % 2 := Nat.and_one_is_mod _
theorem pty_le (n : Nat) : pty n ≤ 1 := Nat.and_le_right
theorem lb_31 {n : Nat} (h0 : 0 < n) (h : n < 4096) : 2 ^ lb n - 1 < 2147483648 := by
  have h2 : 2 ^ lb n ≤ 2 ^ 12 := Nat.pow_le_pow_right (by decide) (by have := (lb_ok h0 h).1; omega)
  omega
/-! a row carried, or'ed, summed -/
def carF {α : Type} (f : Nat → α) (i k : Nat) : Nat → α := fun j => if j = k then f i else if i ≤ j ∧ j < k then f (j + 1) else if k < j ∧ j ≤ i then f (j - 1) else f j
theorem car_end {f h1 h2 : Nat → Nat} {i k a b : Nat} (g1 : ∀ j, h1 j = if i ≤ j ∧ j < a then f (j + 1) else f j) (g2 : ∀ j, h2 j = if b < j ∧ j ≤ i then h1 (j - 1) else h1 j) (ha : a = i ∨ a = k) (hb : b = i ∨ b = k) (ha2 : i < k → a = k) (ha3 : k ≤ i → a = i) (hb2 : k < i → b = k) (hb3 : i ≤ k → b = i) : ∀ j, pu h2 k (f i) j = carF f i k j := by
  intro j
  unfold carF
  by_cases hj : j = k
  · rw [hj, pu_s, if_pos rfl]
  · rw [pu_n hj, if_neg hj]
    rcases Nat.lt_trichotomy i k with h | h | h
    · have e1 := ha2 h
      have e2 := hb3 (by omega)
      rw [e1] at g1; rw [e2] at g2
      rw [g2, if_neg (by omega), g1]
      by_cases q : i ≤ j ∧ j < k
      · rw [if_pos q, if_pos q]
      · rw [if_neg q, if_neg q, if_neg (by omega)]
    · subst h
      have e1 := ha3 (Nat.le_refl _)
      have e2 := hb3 (Nat.le_refl _)
      rw [e1] at g1; rw [e2] at g2
      rw [g2, if_neg (by omega), g1, if_neg (by omega), if_neg (by omega), if_neg (by omega)]
    · have e1 := ha3 (by omega)
      have e2 := hb2 h
      rw [e1] at g1; rw [e2] at g2
      rw [g2, if_neg (show ¬ (i ≤ j ∧ j < k) by omega)]
      by_cases q : k < j ∧ j ≤ i
      · rw [if_pos q, if_pos q, g1, if_neg (by omega)]
      · rw [if_neg q, if_neg q, g1, if_neg (by omega)]
def orF (f : Nat → Nat) : Nat → Nat
  | 0 => 0
  | k + 1 => orF f k ||| f k
theorem orF_lt {f : Nat → Nat} {n : Nat} (h : ∀ j, j < n → f j < 4096) : ∀ k, k ≤ n → orF f k < 4096
  | 0, _ => by show 0 < 4096; omega
  | k + 1, hk => Nat.or_lt_two_pow (n := 12) (orF_lt h k (by omega)) (h k (by omega))
theorem orF_shr (f : Nat → Nat) (b : Nat) : ∀ n, orF f n >>> b = 0 ↔ ∀ j, j < n → f j >>> b = 0 := by
  intro n
  induction n with
  | zero => simp [orF]
  | succ n ih =>
    show (orF f n ||| f n) >>> b = 0 ↔ _
    rw [Nat.shiftRight_or_distrib, Nat.or_eq_zero_iff, ih]
    constructor
    · intro q j hj
      rcases Nat.lt_or_ge j n with h | h
      · exact q.1 j h
      · rw [show j = n by omega]; exact q.2
    · intro q
      exact ⟨fun j hj => q j (by omega), q n (by omega)⟩
def smF (f : Nat → Nat) : Nat → Nat
  | 0 => 0
  | k + 1 => smF f k + f k
theorem smF_le {f : Nat → Nat} {b : Nat} : ∀ n, (∀ j, j < n → f j ≤ b) → smF f n ≤ n * b
  | 0, _ => Nat.zero_le _
  | n + 1, h => by
    have h1 := smF_le n (fun j hj => h j (by omega))
    have h2 := h n (by omega)
    show smF f n + f n ≤ (n + 1) * b
    rw [Nat.succ_mul]
    omega
theorem smF_cong {f g : Nat → Nat} : ∀ n, (∀ j, j < n → f j = g j) → smF f n = smF g n
  | 0, _ => rfl
  | n + 1, h => by
    show smF f n + f n = smF g n + g n
    rw [smF_cong n (fun j hj => h j (by omega)), h n (by omega)]
theorem shl1_lt {c : Nat} (h : c ≤ 12) : 1 <<< c < 2147483648 := by
  rw [Nat.one_shiftLeft]
  have h2 : 2 ^ c ≤ 2 ^ 12 := Nat.pow_le_pow_right (by decide) h
  omega
theorem shr_lt {a b : Nat} (h : a < 2147483648) : a >>> b < 2147483648 := Nat.lt_of_le_of_lt (Nat.shiftRight_le _ _) h
