/-! sums over a row of numbers, taken in another order -/
theorem smF_0 : ∀ n, smF (fun _ => 0) n = 0
  | 0 => rfl
  | n + 1 => by
    show smF (fun _ => 0) n + 0 = 0
    rw [smF_0 n]
theorem smF_add (f g : Nat → Nat) : ∀ n, smF (fun i => f i + g i) n = smF f n + smF g n
  | 0 => rfl
  | n + 1 => by
    show smF (fun i => f i + g i) n + (f n + g n) = (smF f n + f n) + (smF g n + g n)
    rw [smF_add f g n, Nat.add_add_add_comm]
theorem smF_comm (F : Nat → Nat → Nat) (M : Nat) : ∀ N, smF (fun i => smF (F i) M) N = smF (fun j => smF (fun i => F i j) N) M
  | 0 => (smF_0 M).symm
  | N + 1 => by
    show smF (fun i => smF (F i) M) N + smF (F N) M = smF (fun j => smF (fun i => F i j) N + F N j) M
    rw [smF_comm F M N, smF_add]
theorem smF_pt (w : Nat → Nat) {k : Nat} : ∀ {N : Nat}, k < N → smF (fun j => if j = k then w j else 0) N = w k
  | 0, h => absurd h (Nat.not_lt_zero _)
  | N + 1, h => by
    show smF (fun j => if j = k then w j else 0) N + (if N = k then w N else 0) = w k
    by_cases e : N = k
    · subst e
      have hz : smF (fun j => if j = N then w j else 0) N = smF (fun _ => 0) N := smF_cong N (fun j hj => if_neg (by omega))
      rw [hz, smF_0, if_pos rfl, Nat.zero_add]
    · rw [smF_pt w (N := N) (by omega), if_neg e, Nat.add_zero]
theorem smF_perm {N : Nat} {sg tu : Nat → Nat} (h1 : ∀ i, i < N → sg i < N ∧ tu (sg i) = i) (h2 : ∀ j, j < N → tu j < N ∧ sg (tu j) = j) (w : Nat → Nat) : smF (fun i => w (sg i)) N = smF w N := by
  have e1 : smF (fun i => w (sg i)) N = smF (fun i => smF (fun j => if j = sg i then w j else 0) N) N := smF_cong N (fun i hi => (smF_pt w (h1 i hi).1).symm)
  rw [e1, smF_comm (fun i j => if j = sg i then w j else 0) N N]
  refine smF_cong N (fun j hj => ?_)
  have e2 : smF (fun i => if j = sg i then w j else 0) N = smF (fun i => if i = tu j then (fun _ => w j) i else 0) N := smF_cong N (fun i hi => by
    by_cases e : i = tu j
    · rw [if_pos e, if_pos (by rw [e, (h2 j hj).2])]
    · rw [if_neg e, if_neg (fun q => e (by rw [q, (h1 i hi).2]))])
  rw [e2]
  exact smF_pt (fun _ => w j) (h2 j hj).1
theorem smF_top {h : Nat → Nat} {c : Nat} : ∀ {n : Nat}, c ≤ n → (∀ i, c ≤ i → i < n → h i = 0) → smF h n = smF h c
  | 0, hc, _ => by rw [show c = 0 by omega]
  | n + 1, hc, hz => by
    by_cases e : c = n + 1
    · rw [e]
    · show smF h n + h n = _
      rw [hz n (by omega) (by omega), smF_top (n := n) (by omega) (fun i a b => hz i a (by omega))]
      rfl
theorem tb_hi {v w i : Nat} (h : v < 2 ^ w) (hi : w ≤ i) : v.testBit i = false := Nat.testBit_lt_two_pow (Nat.lt_of_lt_of_le h (Nat.pow_le_pow_right (by decide) hi))
theorem pcnt_sm (n : Nat) : ∀ k, pcnt k n = smF (fun i => if n.testBit i = true then 1 else 0) k
  | 0 => rfl
  | k + 1 => by
    rw [pcnt_add k 1, pcnt_sm n k]
    show _ + (n / 2 ^ k % 2 + 0) = _ + (if n.testBit k = true then 1 else 0)
    congr 1
    have h := Nat.testBit_eq_decide_div_mod_eq (x := n) (i := k)
    by_cases e : n / 2 ^ k % 2 = 1
    · rw [if_pos (by rw [h]; exact decide_eq_true e)]
      omega
    · rw [if_neg (by rw [h]; exact fun z => e (of_decide_eq_true z))]
      omega
theorem pcn_sm {n c : Nat} (hc : c ≤ 32) (h : n < 2 ^ c) : pcn n = smF (fun i => if n.testBit i = true then 1 else 0) c := by
  rw [pcn_eq, pcnt_sm]
  exact smF_top hc (fun i a _ => if_neg (by rw [tb_hi h a]; exact fun z => by cases z))
/-! choices numbered round: p places on, of p + q -/
def thR (p q v : Nat) : Nat := (v <<< p ||| v >>> q) &&& (2 ^ (p + q) - 1)
theorem thR_lt (p q v : Nat) : thR p q v < 2 ^ (p + q) := by
  have h : thR p q v ≤ 2 ^ (p + q) - 1 := Nat.and_le_right
  have := Nat.two_pow_pos (p + q)
  omega
theorem th_bit {p q v : Nat} (hv : v < 2 ^ (p + q)) (j : Nat) (hj : j < p + q) : (thR p q v).testBit j = v.testBit (if p ≤ j then j - p else j + q) := by
  unfold thR
  rw [Nat.testBit_and, Nat.testBit_or, Nat.testBit_shiftLeft, Nat.testBit_shiftRight, Nat.testBit_two_pow_sub_one]
  by_cases h2 : p ≤ j
  · rw [tb_hi hv (show p + q ≤ q + j by omega), if_pos h2]
    simp [hj, h2]
  · rw [if_neg h2, Nat.add_comm q j]
    simp [hj, h2]
def rnd (p q i : Nat) : Nat := (i + p) % (p + q)
theorem rnd_lt {p q i : Nat} (h : i < p + q) : rnd p q i < p + q := Nat.mod_lt _ (by omega)
theorem rnd_if {p q i : Nat} (h : i < p + q) : rnd p q i = if i < q then i + p else i - q := by
  unfold rnd
  by_cases e : i < q
  · rw [if_pos e]
    exact Nat.mod_eq_of_lt (by omega)
  · rw [if_neg e, show i + p = (i - q) + (p + q) by omega, Nat.add_mod_right]
    exact Nat.mod_eq_of_lt (by omega)
theorem rnd_inv {p q i : Nat} (h : i < p + q) : rnd q p (rnd p q i) = i := by
  rw [rnd_if h]
  by_cases e : i < q
  · rw [if_pos e, rnd_if (by omega), if_neg (by omega)]
    omega
  · rw [if_neg e, rnd_if (by omega), if_pos (by omega)]
    omega
theorem rnd_inj {p q i j : Nat} (hi : i < p + q) (hj : j < p + q) (h : rnd p q i = rnd p q j) : i = j := by rw [← rnd_inv hi, h, rnd_inv hj]
theorem th_at {p q v i : Nat} (hv : v < 2 ^ (p + q)) (h : i < p + q) : (thR p q v).testBit (rnd p q i) = v.testBit i := by
  rw [th_bit hv _ (rnd_lt h), rnd_if h]
  by_cases e : i < q
  · rw [if_pos e, if_pos (by omega)]
    congr 1
    omega
  · rw [if_neg e, if_neg (by omega)]
    congr 1
    omega
theorem th_ext {p q v w : Nat} (hv : v < 2 ^ (p + q)) (hw : w < 2 ^ (p + q)) (h : ∀ i, i < p + q → v.testBit (rnd p q i) = w.testBit (rnd p q i)) : v = w := by
  apply Nat.eq_of_testBit_eq
  intro j
  rcases Nat.lt_or_ge j (p + q) with c | c
  · have := h (rnd q p j) (by have := rnd_lt (p := q) (q := p) (i := j) (by omega); omega)
    rw [rnd_inv (p := q) (q := p) (by omega)] at this
    exact this
  · rw [tb_hi hv c, tb_hi hw c]
theorem th_xor {p q v w : Nat} (hv : v < 2 ^ (p + q)) (hw : w < 2 ^ (p + q)) : thR p q (v ^^^ w) = thR p q v ^^^ thR p q w :=
  th_ext (thR_lt _ _ _) (Nat.xor_lt_two_pow (thR_lt _ _ _) (thR_lt _ _ _)) (fun i hi => by
    rw [Nat.testBit_xor, th_at hv hi, th_at hw hi, th_at (Nat.xor_lt_two_pow hv hw) hi, Nat.testBit_xor])
theorem th_or {p q v w : Nat} (hv : v < 2 ^ (p + q)) (hw : w < 2 ^ (p + q)) : thR p q (v ||| w) = thR p q v ||| thR p q w :=
  th_ext (thR_lt _ _ _) (Nat.or_lt_two_pow (thR_lt _ _ _) (thR_lt _ _ _)) (fun i hi => by
    rw [Nat.testBit_or, th_at hv hi, th_at hw hi, th_at (Nat.or_lt_two_pow hv hw) hi, Nat.testBit_or])
theorem and_lt2 {v w n : Nat} (hv : v < 2 ^ n) : v &&& w < 2 ^ n := Nat.lt_of_le_of_lt Nat.and_le_left hv
theorem th_and {p q v w : Nat} (hv : v < 2 ^ (p + q)) (hw : w < 2 ^ (p + q)) : thR p q (v &&& w) = thR p q v &&& thR p q w :=
  th_ext (thR_lt _ _ _) (and_lt2 (thR_lt _ _ _)) (fun i hi => by
    rw [Nat.testBit_and, th_at hv hi, th_at hw hi, th_at (and_lt2 hv) hi, Nat.testBit_and])
theorem th_inv {p q v : Nat} (hv : v < 2 ^ (p + q)) : thR q p (thR p q v) = v := by
  have e : q + p = p + q := Nat.add_comm _ _
  have h1 : thR p q v < 2 ^ (q + p) := by rw [e]; exact thR_lt _ _ _
  have h2 : thR q p (thR p q v) < 2 ^ (p + q) := by rw [← e]; exact thR_lt _ _ _
  apply Nat.eq_of_testBit_eq
  intro i
  rcases Nat.lt_or_ge i (p + q) with c | c
  · have := th_at (p := q) (q := p) h1 (i := rnd p q i) (by have := rnd_lt c; omega)
    rw [rnd_inv c, th_at hv c] at this
    exact this
  · rw [tb_hi h2 c, tb_hi hv c]
theorem th_inj {p q v w : Nat} (hv : v < 2 ^ (p + q)) (hw : w < 2 ^ (p + q)) (h : thR p q v = thR p q w) : v = w := by rw [← th_inv hv, h, th_inv hw]
theorem th_0 (p q : Nat) : thR p q 0 = 0 := by
  unfold thR
  rw [Nat.zero_shiftLeft, Nat.zero_shiftRight, Nat.or_self, Nat.zero_and]
theorem th_pos {p q v : Nat} (hv : v < 2 ^ (p + q)) (h : 0 < v) : 0 < thR p q v := by
  rcases Nat.eq_zero_or_pos (thR p q v) with e | e
  · have := th_inj hv (Nat.two_pow_pos _) (e.trans (th_0 p q).symm)
    omega
  · exact e
theorem th_pow {p q i : Nat} (hi : i < p + q) : thR p q (2 ^ i) = 2 ^ rnd p q i :=
  th_ext (thR_lt _ _ _) (Nat.pow_lt_pow_right (by decide) (rnd_lt hi)) (fun j hj => by
    rw [th_at (Nat.pow_lt_pow_right (by decide) hi) hj, Nat.testBit_two_pow, Nat.testBit_two_pow]
    by_cases e : i = j
    · rw [e]
      simp
    · rw [decide_eq_false e, decide_eq_false (fun z => e (rnd_inj hi hj z))])
theorem th_pcn {p q v : Nat} (hc : p + q ≤ 32) (hv : v < 2 ^ (p + q)) : pcn (thR p q v) = pcn v := by
  rw [pcn_sm hc (thR_lt _ _ _), pcn_sm hc hv, ← smF_perm (sg := rnd p q) (tu := rnd q p) (fun i hi => ⟨rnd_lt hi, rnd_inv hi⟩) (fun j hj => ⟨by have := rnd_lt (p := q) (q := p) (i := j) (by omega); omega, rnd_inv (p := q) (q := p) (by omega)⟩) (fun i => if (thR p q v).testBit i = true then 1 else 0)]
  exact smF_cong _ (fun i hi => by rw [th_at hv hi])
theorem th_pty {p q v : Nat} (hc : p + q ≤ 32) (hv : v < 2 ^ (p + q)) : pty (thR p q v) = pty v := by rw [pty_mod, pty_mod, th_pcn hc hv]
theorem th_pa {p q v w : Nat} (hc : p + q ≤ 32) (hv : v < 2 ^ (p + q)) (hw : w < 2 ^ (p + q)) : pty (thR p q v &&& thR p q w) = pty (v &&& w) := by rw [← th_and hv hw, th_pty hc (and_lt2 hv)]
/-! rules as the second object has them -/
def Tw (p q o n : Nat) (f g f' g' : Nat → Nat) : Prop := ∀ j, j < n → f j < 2 ^ (p + q) ∧ f' j = thR p q (f j) ∧ g' j = g j ^^^ pty (f j &&& o)
section TW
variable {p q o n : Nat} {f g f' g' : Nat → Nat}
theorem tw_lt (h : Tw p q o n f g f' g') {n' : Nat} (hn : n' ≤ n) (x : Nat) : cmb f n' x < 2 ^ (p + q) := cmb_lt (fun j hj => (h j (by omega)).1) x
theorem tw_cmb (h : Tw p q o n f g f' g') (x : Nat) : ∀ {n' : Nat}, n' ≤ n → cmb f' n' x = thR p q (cmb f n' x)
  | 0, _ => (th_0 p q).symm
  | n' + 1, hn => by
    obtain ⟨h1, h2, -⟩ := h n' (by omega)
    show cmb f' n' x ^^^ (if x.testBit n' = true then f' n' else 0) = thR p q (cmb f n' x ^^^ (if x.testBit n' = true then f n' else 0))
    rw [tw_cmb h x (n' := n') (by omega)]
    by_cases e : x.testBit n' = true
    · rw [if_pos e, if_pos e, th_xor (tw_lt h (by omega) x) h1, h2]
    · rw [if_neg e, if_neg e, Nat.xor_zero, Nat.xor_zero]
theorem tw_cmbg (h : Tw p q o n f g f' g') (x : Nat) : ∀ {n' : Nat}, n' ≤ n → cmb g' n' x = cmb g n' x ^^^ pty (cmb f n' x &&& o)
  | 0, _ => by
    show 0 = 0 ^^^ pty (0 &&& o)
    rw [Nat.zero_and, pty_0, Nat.xor_zero]
  | n' + 1, hn => by
    obtain ⟨-, -, h3⟩ := h n' (by omega)
    show cmb g' n' x ^^^ (if x.testBit n' = true then g' n' else 0) = (cmb g n' x ^^^ (if x.testBit n' = true then g n' else 0)) ^^^ pty ((cmb f n' x ^^^ (if x.testBit n' = true then f n' else 0)) &&& o)
    rw [tw_cmbg h x (n' := n') (by omega)]
    by_cases e : x.testBit n' = true
    · rw [if_pos e, if_pos e, if_pos e, h3, Nat.and_xor_distrib_right, pty_xor, x4]
    · rw [if_neg e, if_neg e, if_neg e, Nat.xor_zero, Nat.xor_zero, Nat.xor_zero]
theorem tw_spn (h : Tw p q o n f g f' g') {n' k v : Nat} (hn : n' ≤ n) (hv : v < 2 ^ (p + q)) : spn f' n' k (thR p q v) ↔ spn f n' k v := by
  constructor
  · rintro ⟨x, h1, h2⟩
    rw [tw_cmb h x hn] at h2
    exact ⟨x, h1, th_inj (tw_lt h hn x) hv h2⟩
  · rintro ⟨x, h1, h2⟩
    exact ⟨x, h1, by rw [tw_cmb h x hn, h2]⟩
theorem tw_kp (h : Tw p q o n f g f' g') : ∀ {n' : Nat}, n' ≤ n → kp f' n' = kp f n'
  | 0, _ => rfl
  | n' + 1, hn => by
    have ih := tw_kp h (n' := n') (by omega)
    obtain ⟨h1, h2, -⟩ := h n' (by omega)
    have e := tw_spn h (n' := n') (k := kp f n') (by omega) h1
    rw [← h2] at e
    by_cases hs : spn f n' (kp f n') (f n')
    · rw [kp_pos hs, kp_pos (by rw [ih]; exact e.mpr hs), ih]
    · rw [kp_neg hs, kp_neg (by rw [ih]; exact fun z => hs (e.mp z)), ih]
theorem tw_spk (h : Tw p q o n f g f' g') {n' v : Nat} (hn : n' ≤ n) (hv : v < 2 ^ (p + q)) : spn f' n' (kp f' n') (thR p q v) ↔ spn f n' (kp f n') v := by
  rw [tw_kp h hn]
  exact tw_spn h hn hv
theorem tw_rsn (h : Tw p q o n f g f' g') {n' v : Nat} (hn : n' ≤ n) (hv : v < 2 ^ (p + q)) : rsn f' n' (thR p q v) = rsn f n' v := by
  by_cases hs : spn f n' (kp f n') v
  · obtain ⟨h1, h2⟩ := rsn_ok hs
    exact rsn_eq (by rw [tw_kp h hn]; exact h1) (by rw [tw_cmb h _ hn, h2])
  · have e1 : rsn f n' v = 0 := dif_neg hs
    have e2 : rsn f' n' (thR p q v) = 0 := dif_neg (fun z => hs ((tw_spk h hn hv).mp z))
    rw [e1, e2]
theorem xor_eq {a b d : Nat} : a ^^^ d = b ^^^ d ↔ a = b := by
  constructor
  · intro h
    have := congrArg (· ^^^ d) h
    simp only [Nat.xor_assoc, Nat.xor_self, Nat.xor_zero] at this
    exact this
  · intro h
    rw [h]
theorem tw_stt (h : Tw p q o n f g f' g') {n' v b : Nat} (hn : n' ≤ n) (hv : v < 2 ^ (p + q)) : stt f' g' n' (thR p q v) (b ^^^ pty (v &&& o)) = stt f g n' v b := by
  by_cases hs : spn f n' (kp f n') v
  · rw [stt_n hs, stt_n ((tw_spk h hn hv).mpr hs), tw_rsn h hn hv, tw_cmbg h _ hn, (rsn_ok hs).2]
    by_cases e : cmb g n' (rsn f n' v) = b
    · rw [if_pos e, if_pos (xor_eq.mpr e)]
    · rw [if_neg e, if_neg (fun z => e (xor_eq.mp z))]
  · rw [stt_k hs, stt_k (fun z => hs ((tw_spk h hn hv).mp z))]
theorem tw_isA (h : Tw p q o n f g f' g') (hc : p + q ≤ 32) {k a : Nat} (ha : a < 2 ^ (p + q)) (ho : o < 2 ^ (p + q)) : isA f' g' n k (thR p q (a ^^^ o)) ↔ isA f g n k a := by
  have e : ∀ j, j < n → (pty (f' j &&& thR p q (a ^^^ o)) = g' j ↔ pty (f j &&& a) = g j) := fun j hj => by
    obtain ⟨h1, h2, h3⟩ := h j hj
    rw [h2, h3, th_pa hc h1 (Nat.xor_lt_two_pow ha ho), Nat.and_xor_distrib_left, pty_xor]
    exact xor_eq
  exact ⟨fun z j hj hk => (e j hj).mp (z j hj hk), fun z j hj hk => (e j hj).mpr (z j hj hk)⟩
theorem tw_br (h : Tw p q o n f g f' g') (hc : p + q ≤ 32) {a : Nat} (ha : a < 2 ^ (p + q)) (ho : o < 2 ^ (p + q)) : brF f' g' n (thR p q (a ^^^ o)) = brF f g n a :=
  smF_cong n (fun j hj => by
    obtain ⟨h1, h2, h3⟩ := h j hj
    show g' j ^^^ pty (f' j &&& thR p q (a ^^^ o)) = g j ^^^ pty (f j &&& a)
    rw [h2, h3, th_pa hc h1 (Nat.xor_lt_two_pow ha ho), Nat.and_xor_distrib_left, pty_xor, x4, Nat.xor_self, Nat.xor_zero])
end TW
