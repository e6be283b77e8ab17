/-! what a judged row of rules is -/
def ctF (st : Nat → Nat) (k n : Nat) : Nat := smF (fun i => if st i = k then 1 else 0) n
def nzF (ss : Nat → Nat) (n : Nat) : Nat := smF (fun c => if ss c = 0 then 0 else 1) n
def z0 : Nat → Nat := fun _ => 0
def VI (f g : Nat → Nat) (n : Nat) (st re ta ss su sr : Nat → Nat) : Prop :=
  (∀ i, i < n → st i = stt f g i (f i) (g i)) ∧
  (∀ i, i < n → re i = if st i = 0 then 0 else rsn f i (f i)) ∧
  (∀ k, k < 3 → ta k = ctF st k n) ∧
  Bas (fun t => t) f g n (kp f n) ss su sr ∧
  (∀ j, ss j < 4096) ∧ (∀ j, ¬ ss j = 0 → su j ≤ 1) ∧ nzF ss 12 = ctF st 0 n ∧ ∀ c, 12 ≤ c → ss c = 0
theorem vi_0 {f g st re su sr : Nat → Nat} : VI f g 0 st re z0 z0 su sr :=
  ⟨fun i h => absurd h (Nat.not_lt_zero _), fun i h => absurd h (Nat.not_lt_zero _), fun k _ => rfl,
   ⟨fun t _ h => absurd rfl h, fun t _ h => absurd rfl h, fun j h => absurd h (Nat.not_lt_zero _)⟩, fun _ => by show 0 < 4096; omega, fun j h => absurd rfl h, rfl, fun _ _ => rfl⟩
theorem red_lt {ss su sr : Nat → Nat} (hs : ∀ j, ss j < 4096) {v b m0 : Nat} (hv : v < 4096) : ∀ k, (red ss su sr k (v, b, m0)).1 < 4096
  | 0 => hv
  | k + 1 => by
    have ih := red_lt (su := su) (sr := sr) hs (b := b) (m0 := m0) hv k
    show (rst ss su sr k (red ss su sr k (v, b, m0))).1 < 4096
    unfold rst
    split
    · exact xor12 ih (hs k)
    · exact ih
theorem red_le1 {ss su sr : Nat → Nat} (hs : ∀ j, ¬ ss j = 0 → su j ≤ 1) {v b m0 : Nat} (hb : b ≤ 1) : ∀ k, (red ss su sr k (v, b, m0)).2.1 ≤ 1
  | 0 => hb
  | k + 1 => by
    have ih := red_le1 (sr := sr) hs (v := v) (m0 := m0) hb k
    show (rst ss su sr k (red ss su sr k (v, b, m0))).2.1 ≤ 1
    unfold rst
    split
    · rename_i q
      exact xor_le1 ih (hs k q.2)
    · exact ih
theorem ctF_succ (st : Nat → Nat) (k n : Nat) : ctF st k (n + 1) = ctF st k n + (if st n = k then 1 else 0) := rfl
theorem ctF_pu {st : Nat → Nat} {k n x : Nat} : ctF (pu st n x) k (n + 1) = ctF st k n + (if x = k then 1 else 0) := by
  rw [ctF_succ, pu_s]
  congr 1
  exact smF_cong n (fun j hj => by rw [pu_n (by omega)])
theorem nzF_pu {ss : Nat → Nat} {c x : Nat} (h0 : ss c = 0) (hx : ¬ x = 0) : ∀ {n : Nat}, c < n → nzF (pu ss c x) n = nzF ss n + 1
  | 0, h => absurd h (Nat.not_lt_zero _)
  | n + 1, h => by
    show nzF (pu ss c x) n + (if pu ss c x n = 0 then 0 else 1) = nzF ss n + (if ss n = 0 then 0 else 1) + 1
    by_cases e : n = c
    · subst e
      have : nzF (pu ss n x) n = nzF ss n := smF_cong n (fun j hj => by rw [pu_n (by omega)])
      rw [this, pu_s, if_neg hx, if_pos h0]
    · rw [nzF_pu h0 hx (n := n) (by omega), pu_n e]
      omega
theorem nz_fr (ss : Nat → Nat) : ∀ c, fr ss c + nzF ss c = c
  | 0 => rfl
  | c + 1 => by
    have ih := nz_fr ss c
    show (fr ss c + (if _ then _ else _)) + (nzF ss c + (if ss c = 0 then 0 else 1)) = c + 1
    split <;> omega
def sto (q1 q2 : Nat) : Nat := if q1 = 0 then (if q2 = 0 then 1 else 2) else 0
theorem vi_sto {f g st re ta ss su sr : Nat → Nat} {n x b q1 q2 q3 : Nat} (h : VI f g n st re ta ss su sr) (hq : red ss su sr 12 (x, b, 0) = (q1, q2, q3)) : sto q1 q2 = stt f g n x b := by
  rw [red_redo] at hq
  obtain ⟨r1, r2, r3, r4, -⟩ := red_ok h.2.2.2.1 hq
  unfold sto
  by_cases e : q1 = 0
  · have hs := r4.mp e
    rw [if_pos e, stt_n hs]
    have hr : rsn f n x = q3 := rsn_eq r1 (x_0 (by rw [← r2]; exact e)).symm
    rw [hr]
    by_cases e2 : q2 = 0
    · rw [if_pos e2, if_pos (x_0 (by rw [← r3]; exact e2)).symm]
    · rw [if_neg e2, if_neg]
      intro z
      rw [r3, z, Nat.xor_self] at e2
      exact e2 rfl
  · rw [if_neg e, stt_k (fun z => e (r4.mpr z))]
theorem vi_rs {f g st re ta ss su sr : Nat → Nat} {n x b q1 q2 q3 : Nat} (h : VI f g n st re ta ss su sr) (hq : red ss su sr 12 (x, b, 0) = (q1, q2, q3)) (e : q1 = 0) : q3 = rsn f n x ∧ q2 = b ^^^ cmb g n (rsn f n x) ∧ spn f n (kp f n) x := by
  rw [red_redo] at hq
  obtain ⟨r1, r2, r3, r4, -⟩ := red_ok h.2.2.2.1 hq
  have hr : rsn f n x = q3 := rsn_eq r1 (x_0 (by rw [← r2]; exact e)).symm
  exact ⟨hr.symm, by rw [hr]; exact r3, r4.mp e⟩
theorem vi_not {f g st re ta ss su sr : Nat → Nat} {n q1 q2 q3 : Nat} (h : VI f g n st re ta ss su sr) (hq : red ss su sr 12 (f n, g n, 0) = (q1, q2, q3)) (e : q1 = 0) (k : Nat) (hk : k = stt f g n (f n) (g n)) : VI f g (n + 1) (pu st n k) (pu re n q3) (pu ta k (ta k + 1)) ss su sr := by
  obtain ⟨e1, e2, e3⟩ := vi_rs h hq e
  have hk0 : ¬ k = 0 := by rw [hk, stt_0]; exact fun z => z e3
  obtain ⟨h1, h2, h3, h4, h5, h6, h7, h8⟩ := h
  refine ⟨fun i hi => ?_, fun i hi => ?_, fun j hj => ?_, ?_, h5, h6, ?_, h8⟩
  · by_cases c : i = n
    · subst c; rw [pu_s, hk]
    · rw [pu_n c]; exact h1 i (by omega)
  · by_cases c : i = n
    · subst c; rw [pu_s, pu_s, if_neg hk0]; exact e1
    · rw [pu_n c, pu_n c]; exact h2 i (by omega)
  · rw [ctF_pu]
    by_cases c : j = k
    · subst c; rw [pu_s, if_pos rfl, h3 j hj]
    · rw [pu_n c, if_neg (Ne.symm c)]; exact h3 j hj
  · rw [kp_pos e3]
    exact bas_skip h4 (kp_lt f n)
  · rw [ctF_pu, if_neg hk0]; exact h7
theorem vi_kept {f g st re ta ss su sr : Nat → Nat} {n q1 q2 q3 : Nat} (h : VI f g n st re ta ss su sr) (hq : red ss su sr 12 (f n, g n, 0) = (q1, q2, q3)) (hf : f n < 4096) (hg : g n ≤ 1) (e : ¬ q1 = 0) (k : Nat) (hk : k = stt f g n (f n) (g n)) : VI f g (n + 1) (pu st n k) (pu re n 0) (pu ta k (ta k + 1)) (pu ss (lb q1) q1) (pu su (lb q1) q2) (pu sr (lb q1) (q3 ||| 1 <<< n)) := by
  have hlt : q1 < 4096 := by have := red_lt (su := su) (sr := sr) h.2.2.2.2.1 (b := g n) (m0 := 0) hf 12; rw [hq] at this; exact this
  have hq2 : q2 ≤ 1 := by have := red_le1 (sr := sr) h.2.2.2.2.2.1 (v := f n) (m0 := 0) hg 12; rw [hq] at this; exact this
  obtain ⟨l1, l2, l3⟩ := lb_ok (by omega) hlt
  have hs := vi_sto h hq
  rw [← hk] at hs
  have hk0 : k = 0 := by rw [← hs]; exact if_neg e
  rw [red_redo] at hq
  obtain ⟨h1, h2, h3, h4, h5, h6, h7, h8⟩ := h
  obtain ⟨b1, b2⟩ := bas_add (o := fun t => t) h4 (kp_lt f n) (fun a b _ _ q => q) hq l1 l2 l3
  obtain ⟨r1, r2, r3, r4, -⟩ := red_ok h4 hq
  have hns : ¬ spn f n (kp f n) (f n) := fun z => e (r4.mpr z)
  have b1 : ss (lb q1) = 0 := b1
  refine ⟨fun i hi => ?_, fun i hi => ?_, fun j hj => ?_, ?_, fun j => ?_, fun j hj => ?_, ?_, fun c hc => ?_⟩
  · by_cases c : i = n
    · subst c; rw [pu_s, hk]
    · rw [pu_n c]; exact h1 i (by omega)
  · by_cases c : i = n
    · subst c; rw [pu_s, pu_s, if_pos hk0]
    · rw [pu_n c, pu_n c]; exact h2 i (by omega)
  · rw [ctF_pu]
    by_cases c : j = k
    · subst c; rw [pu_s, if_pos rfl, h3 j hj]
    · rw [pu_n c, if_neg (Ne.symm c)]; exact h3 j hj
  · rw [kp_neg hns, Nat.one_shiftLeft]
    exact b2
  · by_cases c : j = lb q1
    · subst c; rw [pu_s]; exact hlt
    · rw [pu_n c]; exact h5 j
  · by_cases c : j = lb q1
    · subst c; rw [pu_s]; exact hq2
    · rw [pu_n c] at hj ⊢; exact h6 j hj
  · rw [ctF_pu, if_pos hk0, nzF_pu b1 e l1, h7]
  · rw [pu_n (by omega)]; exact h8 c hc
theorem vi_low {f g st re ta ss su sr : Nat → Nat} {n : Nat} (h : VI f g n st re ta ss su sr) : low1 ss := fun c hc h0 => h.2.2.2.1.1 c hc h0
theorem vi_zero {f g st re ta ss su sr : Nat → Nat} {n w : Nat} (h : VI f g n st re ta ss su sr) (hf : ∀ j, j < n → f j < 2 ^ w) : ∀ c, w ≤ c → c < 12 → ss c = 0 := by
  intro c h1 h2
  rcases Nat.eq_zero_or_pos (ss c) with e | e
  · exact e
  · have h0 : ¬ ss c = 0 := by omega
    have hb := (h.2.2.2.1.1 c h2 h0).1
    have e1 : ss c = cmb f n (sr c) := (h.2.2.2.1.2.1 c h2 h0).1
    have hl := cmb_lt hf (sr c)
    rw [← e1] at hl
    have hb : (ss c).testBit c = true := hb
    rw [Nat.testBit_lt_two_pow (Nat.lt_of_lt_of_le hl (Nat.pow_le_pow_right (by decide) h1))] at hb
    cases hb
theorem nzF_top {ss : Nat → Nat} {w : Nat} : ∀ {v : Nat}, w ≤ v → (∀ c, w ≤ c → c < v → ss c = 0) → nzF ss v = nzF ss w
  | 0, h, _ => by rw [show w = 0 by omega]
  | v + 1, h, hz => by
    rcases Nat.lt_or_ge w (v + 1) with c | c
    · show nzF ss v + (if ss v = 0 then 0 else 1) = _
      rw [if_pos (hz v (by omega) (by omega)), nzF_top (v := v) (by omega) (fun c h1 h2 => hz c h1 (by omega))]
      rfl
    · rw [show w = v + 1 by omega]
/-- the free places -/
theorem vi_free {f g st re ta ss su sr : Nat → Nat} {n w : Nat} (h : VI f g n st re ta ss su sr) (hw : w ≤ 12) (hf : ∀ j, j < n → f j < 2 ^ w) : ta 0 ≤ w ∧ w - ta 0 = fr ss w := by
  have e1 := nzF_top (ss := ss) hw (vi_zero h hf)
  have e2 := nz_fr ss w
  have e3 := h.2.2.1 0 (by omega)
  have e4 := h.2.2.2.2.2.2.1
  omega
def seF (q : Nat → Bool) : Nat → Nat
  | 0 => 0
  | c + 1 => if q c = true then seF q c ||| 1 <<< c else seF q c
theorem seF_cong {q r : Nat → Bool} : ∀ {n : Nat}, (∀ c, c < n → q c = r c) → seF q n = seF r n
  | 0, _ => rfl
  | n + 1, h => by
    show (if q n = true then _ else _) = (if r n = true then _ else _)
    rw [h n (by omega), seF_cong (n := n) (fun c hc => h c (by omega))]
theorem shl12 {c : Nat} (h : c < 12) : 1 <<< c < 4096 := by
  rw [Nat.one_shiftLeft]
  exact Nat.pow_lt_pow_right (a := 2) (n := 12) (by decide) h
theorem or12 {a b : Nat} (ha : a < 4096) (hb : b < 4096) : a ||| b < 4096 := Nat.or_lt_two_pow (n := 12) ha hb
theorem n6 {q1 q2 : Nat} (h2 : q2 ≤ 1) : (if q1 = 0 then nI q2 else -6 : Int32).toInt = -6 ↔ ¬ q1 = 0 := by
  by_cases e : q1 = 0
  · rw [if_pos e, nI_toInt (by omega)]
    constructor
    · intro z; omega
    · intro z; exact absurd e z
  · rw [if_neg e]
    constructor
    · intro _; exact e
    · intro _; decide
def kno (ss su sr : Nat → Nat) (v : Nat) : Bool := decide ((red ss su sr 12 (v, 0, 0)).1 = 0)
theorem kno_t {ss su sr : Nat → Nat} {v q1 q2 q3 : Nat} (hq : red ss su sr 12 (v, 0, 0) = (q1, q2, q3)) (h : q1 = 0) : kno ss su sr v = true := by
  unfold kno
  rw [hq]
  exact decide_eq_true h
theorem kno_f {ss su sr : Nat → Nat} {v q1 q2 q3 : Nat} (hq : red ss su sr 12 (v, 0, 0) = (q1, q2, q3)) (h : ¬ q1 = 0) : kno ss su sr v = false := by
  unfold kno
  rw [hq]
  exact decide_eq_false h
def boF (ss su sr : Nat → Nat) (x w : Nat) : Nat := if kno ss su sr (1 <<< x) = true then 0 else seF (fun c => decide (¬ c = x) && kno ss su sr (1 <<< x ||| 1 <<< c)) w
theorem shl2 {i : Nat} (h : i < 12) : 1 ≤ 2 <<< i ∧ 2 <<< i ≤ 4096 ∧ 2 <<< i - 1 = 2 ^ (i + 1) - 1 := by
  have e : 2 <<< i = 2 ^ (i + 1) := by rw [Nat.shiftLeft_eq, Nat.pow_succ, Nat.mul_comm]
  rw [e]
  have h1 : 2 ^ (i + 1) ≤ 2 ^ 12 := Nat.pow_le_pow_right (by decide) (by omega)
  have h2 : 0 < 2 ^ (i + 1) := Nat.two_pow_pos _
  omega
/-- z and the number ahead of it differ in the lowest bit of z and below -/
theorem lb_flip {z : Nat} (h0 : 0 < z) (h : z < 4096) : (z - 1) ^^^ (2 ^ (lb z + 1) - 1) = z := by
  obtain ⟨-, l2, l3⟩ := lb_ok h0 h
  have hm : z % 2 ^ (lb z + 1) = 2 ^ lb z := by
    apply Nat.eq_of_testBit_eq
    intro i
    rw [Nat.testBit_mod_two_pow, Nat.testBit_two_pow]
    rcases Nat.lt_trichotomy i (lb z) with c | c | c
    · rw [l3 i c]
      simp [show ¬ lb z = i by omega]
    · subst c
      rw [l2]
      simp
    · simp [show ¬ i < lb z + 1 by omega, show ¬ lb z = i by omega]
  have hd := Nat.div_add_mod z (2 ^ (lb z + 1))
  rw [hm] at hd
  generalize hk : lb z = k at *
  have p1 : 2 ^ (k + 1) = 2 * 2 ^ k := by rw [Nat.pow_succ, Nat.mul_comm]
  have p2 : 0 < 2 ^ k := Nat.two_pow_pos k
  have e1 : z - 1 = 2 ^ (k + 1) * (z / 2 ^ (k + 1)) + (2 ^ k - 1) := by omega
  have e2 : z = 2 ^ (k + 1) * (z / 2 ^ (k + 1)) + 2 ^ k := by omega
  apply Nat.eq_of_testBit_eq
  intro i
  rw [Nat.testBit_xor, Nat.testBit_two_pow_sub_one]
  have s1 : (z - 1).testBit i = if i < k + 1 then (2 ^ k - 1).testBit i else (z / 2 ^ (k + 1)).testBit (i - (k + 1)) := by
    rw [e1]
    exact Nat.testBit_two_pow_mul_add _ (by omega) i
  have s2 : z.testBit i = if i < k + 1 then (2 ^ k).testBit i else (z / 2 ^ (k + 1)).testBit (i - (k + 1)) := by
    conv => lhs; rw [e2]
    exact Nat.testBit_two_pow_mul_add _ (by omega) i
  rw [s1, s2]
  by_cases c : i < k + 1
  · rw [if_pos c, if_pos c, Nat.testBit_two_pow_sub_one, Nat.testBit_two_pow]
    by_cases d : i < k
    · simp [c, d, show ¬ k = i by omega]
    · simp [c, d, show k = i by omega]
  · rw [if_neg c, if_neg c]
    simp [c]
