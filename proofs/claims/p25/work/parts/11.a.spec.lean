/-! rows and tables in one form; what is asked of them -/
def nrm (n : Nat) (f : Nat → Nat) : Nat → Nat := fun j => if j < n then f j else 0
theorem nrm_lt {n j : Nat} {f : Nat → Nat} (h : j < n) : nrm n f j = f j := if_pos h
theorem nrm_ge {n j : Nat} {f : Nat → Nat} (h : n ≤ j) : nrm n f j = 0 := if_neg (by omega)
theorem nrm_eq {n : Nat} {f g : Nat → Nat} (h : ∀ j, j < n → f j = g j) : nrm n f = nrm n g := by
  funext j
  rcases Nat.lt_or_ge j n with c | c
  · rw [nrm_lt c, nrm_lt c, h j c]
  · rw [nrm_ge c, nrm_ge c]
abbrev RT : Type := Nat × Nat × (Nat → Nat) × (Nat → Nat)
def mkR (c n : Nat) (f g : Nat → Nat) : RT := (c, n, nrm n f, nrm n g)
theorem mkR_eq {c n : Nat} {f g f' g' : Nat → Nat} (h : ∀ j, j < n → f j = f' j) (h2 : ∀ j, j < n → g j = g' j) : mkR c n f g = mkR c n f' g' := by
  unfold mkR
  rw [nrm_eq h, nrm_eq h2]
def RowOK (R : RT) : Prop := 1 ≤ R.1 ∧ R.1 ≤ 12 ∧ R.2.1 ≤ 20 ∧ ∀ j, j < R.2.1 → 0 < R.2.2.1 j ∧ R.2.2.1 j < 2 ^ R.1 ∧ R.2.2.2 j ≤ 1
theorem row_raw {c n : Nat} {f g : Nat → Nat} : RowOK (mkR c n f g) ↔ 1 ≤ c ∧ c ≤ 12 ∧ n ≤ 20 ∧ ∀ j, j < n → 0 < f j ∧ f j < 2 ^ c ∧ g j ≤ 1 := by
  have e : (∀ j, j < n → 0 < nrm n f j ∧ nrm n f j < 2 ^ c ∧ nrm n g j ≤ 1) ↔ ∀ j, j < n → 0 < f j ∧ f j < 2 ^ c ∧ g j ≤ 1 := by
    constructor
    · intro h j hj
      have := h j hj
      rw [nrm_lt hj, nrm_lt hj] at this
      exact this
    · intro h j hj
      rw [nrm_lt hj, nrm_lt hj]
      exact h j hj
  show 1 ≤ c ∧ c ≤ 12 ∧ n ≤ 20 ∧ (∀ j, j < n → 0 < nrm n f j ∧ nrm n f j < 2 ^ c ∧ nrm n g j ≤ 1) ↔ _
  rw [e]
theorem p12 {c : Nat} (h : c ≤ 12) : 2 ^ c ≤ 4096 := Nat.pow_le_pow_right (n := 2) (j := 12) (by decide) h
theorem row_use {c n : Nat} {f g : Nat → Nat} (h : RowOK (mkR c n f g)) : 1 ≤ c ∧ c ≤ 12 ∧ n ≤ 20 ∧ (∀ j, j < n → 0 < f j ∧ f j < 2 ^ c) ∧ (∀ j, j < n → f j < 4096) ∧ ∀ j, j < n → g j ≤ 1 := by
  obtain ⟨h1, h2, h3, h4⟩ := row_raw.mp h
  have := p12 h2
  exact ⟨h1, h2, h3, fun j hj => ⟨(h4 j hj).1, (h4 j hj).2.1⟩, fun j hj => by have := h4 j hj; omega, fun j hj => (h4 j hj).2.2⟩
noncomputable def stS (R : RT) (i : Nat) : Nat := stt R.2.2.1 R.2.2.2 i (R.2.2.1 i) (R.2.2.2 i)
noncomputable def rsS (R : RT) (i : Nat) : Nat := rsn R.2.2.1 i (R.2.2.1 i)
noncomputable def spS (R : RT) (v : Nat) : Bool := @decide (spn R.2.2.1 R.2.1 (kp R.2.2.1 R.2.1) v) (Classical.propDecidable _)
noncomputable def knS (R : RT) (v : Nat) : Int32 := if spS R v = true then nI (cmb R.2.2.2 R.2.1 (rsn R.2.2.1 R.2.1 v)) else -6
noncomputable def ctS (R : RT) (k : Nat) : Nat := ctF (stS R) k R.2.1
noncomputable def naS (R : RT) : Nat := 1 <<< (R.1 - ctS R 0)
noncomputable def isS (R : RT) (a : Nat) : Bool := @decide (isA R.2.2.1 R.2.2.2 R.2.1 (kp R.2.2.1 R.2.1) a) (Classical.propDecidable _)
theorem cdec {p : Prop} : @decide p (Classical.propDecidable _) = true ↔ p := ⟨fun h => @of_decide_eq_true p (Classical.propDecidable _) h, fun h => @decide_eq_true p (Classical.propDecidable _) h⟩
theorem stS_mk {c n i : Nat} {f g : Nat → Nat} (hi : i < n) : stS (mkR c n f g) i = stt f g i (f i) (g i) := by
  show stt (nrm n f) (nrm n g) i (nrm n f i) (nrm n g i) = _
  rw [nrm_lt hi, nrm_lt hi]
  exact stt_cong (fun j hj => nrm_lt (by omega)) (fun j hj => nrm_lt (by omega))
theorem stN (n v b : Nat) (f g : Nat → Nat) : stt (nrm n f) (nrm n g) n v b = stt f g n v b := stt_cong (fun j hj => nrm_lt hj) (fun j hj => nrm_lt hj)
theorem rsS_mk {c n i : Nat} {f g : Nat → Nat} (hi : i < n) : rsS (mkR c n f g) i = rsn f i (f i) := by
  show rsn (nrm n f) i (nrm n f i) = _
  rw [nrm_lt hi]
  exact rsn_cong (fun j hj => nrm_lt (by omega))
theorem spS_mk {c n v : Nat} {f g : Nat → Nat} : spS (mkR c n f g) v = true ↔ spn f n (kp f n) v := cdec.trans (spn_cong (fun j hj => nrm_lt hj))
theorem cmbN {c n v : Nat} {f g : Nat → Nat} : cmb (mkR c n f g).2.2.2 (mkR c n f g).2.1 (rsn (mkR c n f g).2.2.1 (mkR c n f g).2.1 v) = cmb g n (rsn f n v) := by
  show cmb (nrm n g) n (rsn (nrm n f) n v) = _
  rw [rsn_cong (f := nrm n f) (f' := f) (fun j hj => nrm_lt hj)]
  exact cmb_cong _ (fun j hj => nrm_lt hj)
theorem isS_mk {c n a : Nat} {f g : Nat → Nat} : isS (mkR c n f g) a = true ↔ isA f g n (kp f n) a := by
  refine cdec.trans ?_
  show isA (nrm n f) (nrm n g) n (kp (nrm n f) n) a ↔ _
  rw [kp_cong (f := nrm n f) (f' := f) (fun j hj => nrm_lt hj)]
  constructor
  · intro h j hj hk
    have := h j hj hk
    rw [nrm_lt hj, nrm_lt hj] at this
    exact this
  · intro h j hj hk
    rw [nrm_lt hj, nrm_lt hj]
    exact h j hj hk
theorem ctF_cong {s t : Nat → Nat} {k n : Nat} (h : ∀ i, i < n → s i = t i) : ctF s k n = ctF t k n := smF_cong n (fun i hi => by show (if s i = k then 1 else 0) = if t i = k then 1 else 0; rw [h i hi])
/-! a judged row -/
theorem vi_st {c f g st re ta ss su sr} {n i : Nat} (h : VI f g n st re ta ss su sr) (hi : i < n) : st i = stS (mkR c n f g) i := (h.1 i hi).trans (stS_mk hi).symm
theorem vi_re {c f g st re ta ss su sr} {n i : Nat} (h : VI f g n st re ta ss su sr) (hi : i < n) : re i = if stS (mkR c n f g) i = 0 then 0 else rsS (mkR c n f g) i := by
  rw [h.2.1 i hi, vi_st (c := c) h hi, rsS_mk hi]
theorem vi_ct {c f g st re ta ss su sr} {n k : Nat} (h : VI f g n st re ta ss su sr) (hk : k < 3) : ta k = ctS (mkR c n f g) k := (h.2.2.1 k hk).trans (ctF_cong (fun i hi => vi_st h hi))
theorem vi_kq {c f g st re ta ss su sr} {n v q1 q2 q3 : Nat} (h : VI f g n st re ta ss su sr) (hq : red ss su sr 12 (v, 0, 0) = (q1, q2, q3)) : q1 = 0 ↔ spS (mkR c n f g) v = true := by
  rw [red_redo] at hq
  exact (red_ok h.2.2.2.1 hq).2.2.2.1.trans spS_mk.symm
theorem vi_kn {c f g st re ta ss su sr} {n v q1 q2 q3 : Nat} (h : VI f g n st re ta ss su sr) (hq : red ss su sr 12 (v, 0, 0) = (q1, q2, q3)) : (if q1 = 0 then nI q2 else -6 : Int32) = knS (mkR c n f g) v := by
  unfold knS
  have e := vi_kq (c := c) h hq
  by_cases q : q1 = 0
  · rw [if_pos q, if_pos (e.mp q), cmbN, (vi_rs h hq q).2.1, Nat.zero_xor]
  · rw [if_neg q, if_neg (fun z => q (e.mpr z))]
theorem b_eq {a b : Bool} (h : a = true ↔ b = true) : a = b := by cases a <;> cases b <;> simp_all
theorem vi_kno {c f g st re ta ss su sr} {n : Nat} (h : VI f g n st re ta ss su sr) (v : Nat) : kno ss su sr v = spS (mkR c n f g) v := by
  obtain ⟨q1, q2, q3, hq⟩ : ∃ a b d, red ss su sr 12 (v, 0, 0) = (a, b, d) := ⟨_, _, _, rfl⟩
  have e := vi_kq (c := c) h hq
  by_cases q : q1 = 0
  · rw [kno_t hq q, e.mp q]
  · rw [kno_f hq q]
    exact b_eq ⟨fun z => (by cases z), fun z => absurd (e.mpr z) q⟩
theorem vi_na {c f g st re ta ss su sr} {n : Nat} (h : VI f g n st re ta ss su sr) : 1 <<< (c - ta 0) = naS (mkR c n f g) := by
  rw [vi_ct (c := c) h (by omega)]
  rfl
noncomputable def seS (R : RT) : Nat := seF (fun c => spS R (1 <<< c)) R.1
noncomputable def boS (R : RT) (x : Nat) : Nat := if spS R (1 <<< x) = true then 0 else seF (fun c => decide (¬ c = x) && spS R (1 <<< x ||| 1 <<< c)) R.1
theorem vi_se {c f g st re ta ss su sr} {n : Nat} (h : VI f g n st re ta ss su sr) : seF (fun d => kno ss su sr (1 <<< d)) c = seS (mkR c n f g) := seF_cong (fun d _ => vi_kno h _)
theorem vi_bo {c f g st re ta ss su sr} {n x : Nat} (h : VI f g n st re ta ss su sr) : boF ss su sr x c = boS (mkR c n f g) x := by
  unfold boF boS
  rw [vi_kno (c := c) h]
  congr 1
  exact seF_cong (fun d _ => by rw [vi_kno (c := c) h])
/-! every row can be judged -/
theorem vi_ex {f g : Nat → Nat} : ∀ {n : Nat}, (∀ j, j < n → f j < 4096) → (∀ j, j < n → g j ≤ 1) → ∃ st re ta ss su sr, VI f g n st re ta ss su sr
  | 0, _, _ => ⟨z0, z0, z0, z0, z0, z0, vi_0⟩
  | n + 1, hf, hg => by
    obtain ⟨st, re, ta, ss, su, sr, h⟩ := vi_ex (n := n) (fun j hj => hf j (by omega)) (fun j hj => hg j (by omega))
    obtain ⟨q1, q2, q3, hq⟩ : ∃ a b d, red ss su sr 12 (f n, g n, 0) = (a, b, d) := ⟨_, _, _, rfl⟩
    by_cases e : q1 = 0
    · exact ⟨_, _, _, _, _, _, vi_not h hq e _ rfl⟩
    · exact ⟨_, _, _, _, _, _, vi_kept h hq (hf n (by omega)) (hg n (by omega)) e _ rfl⟩
/-! answers -/
theorem vi_fr {c f g st re ta ss su sr} {n : Nat} (h : VI f g n st re ta ss su sr) (hR : RowOK (mkR c n f g)) : 2 ^ fr ss c = naS (mkR c n f g) := by
  obtain ⟨-, h2, -, h4, -⟩ := row_use hR
  rw [← vi_na h, Nat.one_shiftLeft, (vi_free h h2 (fun j hj => (h4 j hj).2)).2]
theorem vi_isS {c f g st re ta ss su sr} {n q a : Nat} (h : VI f g n st re ta ss su sr) (hR : RowOK (mkR c n f g)) (ha : AnsOf ss su c q a) : isS (mkR c n f g) a = true := by
  obtain ⟨-, h2, -, h4, -, h6⟩ := row_use hR
  exact isS_mk.mpr (steps_isA h.2.2.2.1 h6 (ans_steps (vi_zero h (fun j hj => (h4 j hj).2)) ha))
theorem vi_ans {c f g st re ta ss su sr} {n : Nat} (h : VI f g n st re ta ss su sr) (hR : RowOK (mkR c n f g)) {q a : Nat} (hq : q < naS (mkR c n f g)) (ha : AnsOf ss su c q a) : a < 2 ^ c ∧ isS (mkR c n f g) a = true ∧ ctB (isS (mkR c n f g)) a = q := by
  have hfr := vi_fr h hR
  have hI := fun {q a} (z : AnsOf ss su c q a) => vi_isS h hR z
  obtain ⟨-, h2, -, h4, -, h6⟩ := row_use hR
  have hl := vi_low h
  have hsu : ∀ d, d < c → ¬ ss d = 0 → su d ≤ 1 := fun d _ => h.2.2.2.2.2.1 d
  refine ⟨ha.1, hI ha, ?_⟩
  have hA : ∀ i, AnsOf ss su c i (Classical.choose (ans_ex hl h2 hsu i)) := fun i => Classical.choose_spec (ans_ex hl h2 hsu i)
  have e : Classical.choose (ans_ex hl h2 hsu q) = a := ans_one hl h2 (hA q) ha
  rw [← hfr] at hq
  have := ct_place (q := isS (mkR c n f g)) (N := 2 ^ c) (F := 2 ^ fr ss c) (A := fun i => Classical.choose (ans_ex hl h2 hsu i))
    (fun i j hij hj => ans_mono hl h2 (hA i) (hA j) hij hj)
    (fun b hb => ⟨fun z => ⟨plc ss b c, plc_lt ss b c, ans_one hl h2 (hA _) (ans_plc h2 hb (isA_steps h.2.2.2.1 (isS_mk.mp z)))⟩, fun ⟨i, _, hi⟩ => by rw [← hi]; exact hI (hA i)⟩)
    (fun i _ => (hA i).1) q hq
  rw [← e]
  exact this
theorem ctB_mono (q : Nat → Bool) {x : Nat} : ∀ {y : Nat}, x ≤ y → ctB q x ≤ ctB q y
  | 0, h => by rw [show x = 0 by omega]; exact Nat.le_refl _
  | y + 1, h => by
    rcases Nat.lt_or_ge x (y + 1) with c | c
    · have := ctB_mono q (x := x) (y := y) (by omega)
      show _ ≤ ctB q y + _
      omega
    · rw [show x = y + 1 by omega]; exact Nat.le_refl _
theorem ctB_in {q : Nat → Bool} {x y : Nat} (hx : q x = true) (h : x < y) : ctB q x < ctB q y := by
  have := ctB_mono q (x := x + 1) (y := y) h
  have e : ctB q (x + 1) = ctB q x + 1 := by show ctB q x + (if q x = true then 1 else 0) = _; rw [if_pos hx]
  omega
noncomputable def anS (R : RT) (i : Nat) : Nat := @dite Nat (∃ a, a < 2 ^ R.1 ∧ isS R a = true ∧ ctB (isS R) a = i) (Classical.propDecidable _) (fun h => Classical.choose h) (fun _ => 0)
theorem anS_eq {R : RT} {i a : Nat} (h1 : a < 2 ^ R.1) (h2 : isS R a = true) (h3 : ctB (isS R) a = i) : anS R i = a := by
  have hx : ∃ a, a < 2 ^ R.1 ∧ isS R a = true ∧ ctB (isS R) a = i := ⟨a, h1, h2, h3⟩
  have e : anS R i = Classical.choose hx := dif_pos hx
  obtain ⟨b1, b2, b3⟩ := Classical.choose_spec hx
  rw [← e] at b1 b2 b3
  rcases Nat.lt_trichotomy (anS R i) a with c | c | c
  · have := ctB_in b2 c; omega
  · exact c
  · have := ctB_in h2 c; omega
theorem vi_an {c f g st re ta ss su sr} {n : Nat} (h : VI f g n st re ta ss su sr) (hR : RowOK (mkR c n f g)) {q a : Nat} (hq : q < naS (mkR c n f g)) (ha : AnsOf ss su c q a) : a = anS (mkR c n f g) q := by
  obtain ⟨h1, h2, h3⟩ := vi_ans h hR hq ha
  exact (anS_eq (R := mkR c n f g) h1 h2 h3).symm
theorem an_ex {c n : Nat} {f g : Nat → Nat} (hR : RowOK (mkR c n f g)) {q : Nat} (hq : q < naS (mkR c n f g)) : ∃ a, a < 2 ^ c ∧ isS (mkR c n f g) a = true ∧ ctB (isS (mkR c n f g)) a = q := by
  obtain ⟨-, h2, -, -, h5, h6⟩ := row_use hR
  obtain ⟨st, re, ta, ss, su, sr, h⟩ := vi_ex h5 h6
  obtain ⟨a, ha⟩ := ans_ex (vi_low h) h2 (fun d _ => h.2.2.2.2.2.1 d) q
  exact ⟨a, vi_ans h hR hq ha⟩
def NeP (R : RT) (w y : Nat) : Prop := y < 2 ^ R.1 ∧ isS R y = true ∧ ∀ b, b < 2 ^ R.1 → isS R b = true → pcn (y ^^^ w) < pcn (b ^^^ w) ∨ pcn (y ^^^ w) = pcn (b ^^^ w) ∧ y ≤ b
noncomputable def neS (R : RT) (w : Nat) : Nat := @dite Nat (∃ y, NeP R w y) (Classical.propDecidable _) (fun h => Classical.choose h) (fun _ => 0)
theorem neS_eq {R : RT} {w y : Nat} (h : NeP R w y) : neS R w = y := by
  have hx : ∃ y, NeP R w y := ⟨y, h⟩
  have e : neS R w = Classical.choose hx := dif_pos hx
  have h2 := Classical.choose_spec hx
  rw [← e] at h2
  have a1 := h.2.2 _ h2.1 h2.2.1
  have a2 := h2.2.2 _ h.1 h.2.1
  omega
theorem vi_ne {c f g st re ta ss su sr} {n w y : Nat} (h : VI f g n st re ta ss su sr) (hR : RowOK (mkR c n f g)) (h1 : ∃ q, q < 2 ^ fr ss c ∧ AnsOf ss su c q y) (h2 : ∀ q b, q < 2 ^ fr ss c → AnsOf ss su c q b → pcn (y ^^^ w) < pcn (b ^^^ w) ∨ pcn (y ^^^ w) = pcn (b ^^^ w) ∧ y ≤ b) : y = neS (mkR c n f g) w := by
  obtain ⟨q, -, hq⟩ := h1
  refine (neS_eq ⟨hq.1, vi_isS h hR hq, fun b hb hs => ?_⟩).symm
  obtain ⟨-, c2, -⟩ := row_use hR
  exact h2 (plc ss b c) b (plc_lt ss b c) (ans_plc c2 hb (isA_steps h.2.2.2.1 (isS_mk.mp hs)))
noncomputable def brS (R : RT) : Nat × Nat × Nat := bF (brF R.2.2.1 R.2.2.2 R.2.1) (2 ^ R.1 - 1)
theorem bF_cong {p q : Nat → Nat} : ∀ {k : Nat}, (∀ a, p a = q a) → bF p k = bF q k
  | 0, h => by show (0, p 0, 1) = (0, q 0, 1); rw [h]
  | k + 1, h => by
    show (if _ then _ else _) = (if _ then _ else _)
    rw [bF_cong (k := k) h, h]
theorem brS_mk {c n : Nat} {f g : Nat → Nat} : brS (mkR c n f g) = bF (brF f g n) (2 ^ c - 1) := bF_cong (fun a => smF_cong n (fun j hj => by show nrm n g j ^^^ pty (nrm n f j &&& a) = _; rw [nrm_lt hj, nrm_lt hj]))
/-! other rows -/
def appR (R : RT) (a b : Nat) : RT := mkR R.1 (R.2.1 + 1) (pu R.2.2.1 R.2.1 a) (pu R.2.2.2 R.2.1 b)
def drR (R : RT) (i : Nat) : RT := mkR R.1 (R.2.1 - 1) (carF R.2.2.1 i (R.2.1 - 1)) (carF R.2.2.2 i (R.2.1 - 1))
def mvR (R : RT) (i k : Nat) : RT := mkR R.1 R.2.1 (carF R.2.2.1 i k) (carF R.2.2.2 i k)
def tuR (R : RT) (i : Nat) : RT := mkR R.1 R.2.1 R.2.2.1 (pu R.2.2.2 i (1 - R.2.2.2 i))
theorem pu_nrm {n x j k : Nat} {f : Nat → Nat} (h : j < n ∨ j = k) : pu (nrm n f) k x j = pu f k x j := by
  by_cases e : j = k
  · rw [e, pu_s, pu_s]
  · rw [pu_n e, pu_n e, nrm_lt (by omega)]
theorem car_nrm {n i k j : Nat} {f : Nat → Nat} (hi : i < n) (hk : k < n) (hj : j < n) : carF (nrm n f) i k j = carF f i k j := by
  unfold carF
  rw [nrm_lt hi]
  split
  · rfl
  · split
    · rw [nrm_lt (by omega)]
    · split
      · rw [nrm_lt (by omega)]
      · rw [nrm_lt hj]
theorem app_mk {c n a b : Nat} {f g : Nat → Nat} : appR (mkR c n f g) a b = mkR c (n + 1) (pu f n a) (pu g n b) := mkR_eq (fun j (hj : j < n + 1) => pu_nrm (n := n) (k := n) (by omega)) (fun j (hj : j < n + 1) => pu_nrm (n := n) (k := n) (by omega))
theorem dr_mk {c n i : Nat} {f g : Nat → Nat} (hi : i < n) : drR (mkR c n f g) i = mkR c (n - 1) (carF f i (n - 1)) (carF g i (n - 1)) := mkR_eq (fun j (hj : j < n - 1) => car_nrm (n := n) (k := n - 1) hi (by omega) (by omega)) (fun j (hj : j < n - 1) => car_nrm (n := n) (k := n - 1) hi (by omega) (by omega))
theorem mv_mk {c n i k : Nat} {f g : Nat → Nat} (hi : i < n) (hk : k < n) : mvR (mkR c n f g) i k = mkR c n (carF f i k) (carF g i k) := mkR_eq (fun j hj => car_nrm hi hk hj) (fun j hj => car_nrm hi hk hj)
theorem tu_mk {c n i : Nat} {f g : Nat → Nat} (hi : i < n) : tuR (mkR c n f g) i = mkR c n f (pu g i (1 - g i)) := mkR_eq (fun j hj => nrm_lt hj) (fun j hj => by show pu (nrm n g) i (1 - nrm n g i) j = _; rw [nrm_lt hi]; exact pu_nrm (Or.inl hj))
/-! the past -/
abbrev HT : Type := Nat × (Nat → RT)
def R0 : RT := (0, 0, z0, z0)
def absH (q : Nat) (zc zn : Nat → Nat) (zf zg : Nat → Nat → Nat) : HT := (q, fun k => if k < q then mkR (zc k) (zn k) (zf k) (zg k) else R0)
def pushH (h : HT) (R : RT) : HT := if h.1 < 6 then (h.1 + 1, fun k => if k = h.1 then R else h.2 k) else (6, fun k => if k = 5 then R else h.2 (k + 1))
def popH (h : HT) : HT := (h.1 - 1, fun k => if k < h.1 - 1 then h.2 k else R0)
theorem hp_push {q rc rn q2 : Nat} {f g zc zn zc2 zn2 : Nat → Nat} {zf zg zf2 zg2 : Nat → Nat → Nat} (h : HP q rc rn f g zc zn zf zg q2 zc2 zn2 zf2 zg2) : absH q2 zc2 zn2 zf2 zg2 = pushH (absH q zc zn zf zg) (mkR rc rn f g) := by
  rcases h with ⟨h1, rfl, rfl, rfl, rfl, rfl⟩ | ⟨rfl, rfl, rfl, rfl, rfl, rfl⟩
  · unfold pushH
    rw [if_pos (show (absH q zc zn zf zg).1 < 6 from h1)]
    show (q + 1, _) = (q + 1, _)
    congr 1
    funext k
    show (if k < q + 1 then mkR (va_up zc q rc k) (va_up zn q rn k) (va_up zf q f k) (va_up zg q g k) else R0) = if k = q then _ else if k < q then _ else R0
    by_cases e : k = q
    · subst e
      rw [if_pos (by omega), if_pos rfl]
      simp [va_up]
    · rw [if_neg e]
      by_cases d : k < q
      · rw [if_pos d, if_pos (by omega)]
        simp [va_up, e]
      · rw [if_neg d, if_neg (by omega)]
  · unfold pushH
    rw [if_neg (show ¬ (absH 6 zc zn zf zg).1 < 6 from Nat.lt_irrefl 6)]
    show (6, _) = (6, _)
    congr 1
    funext k
    show (if k < 6 then mkR (va_up (rot zc) 5 rc k) (va_up (rot zn) 5 rn k) (va_up (rot zf) 5 f k) (va_up (rot zg) 5 g k) else R0) = if k = 5 then _ else if k + 1 < 6 then _ else R0
    by_cases e : k = 5
    · subst e
      rw [if_pos (by omega), if_pos rfl]
      simp [va_up]
    · rw [if_neg e]
      by_cases d : k < 6
      · rw [if_pos d, if_pos (by omega)]
        simp [va_up, e, rot]
      · rw [if_neg d, if_neg (by omega)]
theorem pop_abs {q : Nat} {zc zn : Nat → Nat} {zf zg : Nat → Nat → Nat} : absH (q - 1) zc zn zf zg = popH (absH q zc zn zf zg) := by
  show (q - 1, _) = (q - 1, _)
  congr 1
  funext k
  show (if k < q - 1 then _ else R0) = if k < q - 1 then (if k < q then _ else R0) else R0
  by_cases d : k < q - 1
  · rw [if_pos d, if_pos d, if_pos (by omega)]
  · rw [if_neg d, if_neg d]
theorem abs_at {q k : Nat} {zc zn : Nat → Nat} {zf zg : Nat → Nat → Nat} (h : k < q) : (absH q zc zn zf zg).2 k = mkR (zc k) (zn k) (zf k) (zg k) := if_pos h
/-! numbers that come in -/
def tN (x : Int32) : Nat := x.toInt.toNat
theorem tN_I {a : Nat} (h : a < 2147483648) : tN (nI a) = a := by
  unfold tN
  rw [nI_toInt h]
  rfl
def hasP (n : Nat) (x : Int32) : Bool := decide (0 ≤ x.toInt ∧ x.toInt < (n : Int))
theorem hasP_t {n : Nat} {x : Int32} (h : hasP n x = true) (hn : n ≤ 4096) : ∃ a, a < n ∧ x = nI a := by
  have := of_decide_eq_true h
  obtain ⟨k, h1, h2, h3⟩ := z_of this.1
  exact ⟨k, by omega, h2⟩
theorem hasP_I {n a : Nat} (h : a < n) (hn : n ≤ 4096) : hasP n (nI a) = true := decide_eq_true (by rw [nI_toInt (by omega)]; omega)
def isRu (c : Nat) (x y : Int32) : Bool := decide (1 ≤ x.toInt ∧ x.toInt < ((2 ^ c : Nat) : Int) ∧ 0 ≤ y.toInt ∧ y.toInt ≤ 1)
theorem isRu_t {c : Nat} {x y : Int32} (h : isRu c x y = true) (hc : c ≤ 12) : ∃ a b, 0 < a ∧ a < 2 ^ c ∧ b ≤ 1 ∧ x = nI a ∧ y = nI b := by
  have h := of_decide_eq_true h
  have := p12 hc
  obtain ⟨a, h1, h2, h3⟩ := z_of (x := x) (by omega)
  obtain ⟨b, h4, h5, h6⟩ := z_of (x := y) (by omega)
  exact ⟨a, b, by omega, by omega, by omega, h2, h5⟩
def belR (R : RT) (b : Nat) : Bool := decide (∀ j, j < R.2.1 → R.2.2.1 j >>> b = 0)
theorem bel_mk {c n b : Nat} {f g : Nat → Nat} : belR (mkR c n f g) b = decide (∀ j, j < n → f j >>> b = 0) := by
  unfold belR
  apply decide_eq_decide.mpr
  show (∀ j, j < n → nrm n f j >>> b = 0) ↔ _
  constructor
  · intro h j hj
    have := h j hj
    rw [nrm_lt hj] at this
    exact this
  · intro h j hj
    rw [nrm_lt hj]
    exact h j hj
theorem shr_bel {a b : Nat} : a >>> b = 0 ↔ a < 2 ^ b := by
  rw [Nat.shiftRight_eq_div_pow]
  constructor
  · intro h
    rcases Nat.lt_or_ge a (2 ^ b) with c | c
    · exact c
    · have := Nat.div_pos c (Nat.two_pow_pos b)
      omega
  · exact Nat.div_eq_of_lt
