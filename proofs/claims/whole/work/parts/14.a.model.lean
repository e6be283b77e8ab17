/-! the nearest answer and the best one -/
theorem pcn12 {x : Nat} (h : x < 4096) : pcn x ≤ 12 := by
  rw [pcn_eq, show (32 : Nat) = 12 + 20 from rfl, pcnt_add, show x / 2 ^ 12 = 0 by omega, pcnt_0]
  have := pcnt_le 12 x
  omega
def NeI (R : RT) (w a : Nat) (b : Int32) (l : Nat) : Prop := (b = -6 ∧ l = 13 ∧ ∀ z, z < a → ¬ isS R z = true) ∨ ∃ y, b = nI y ∧ y < a ∧ isS R y = true ∧ l = pcn (y ^^^ w) ∧ ∀ z, z < a → isS R z = true → l < pcn (z ^^^ w) ∨ l = pcn (z ^^^ w) ∧ y ≤ z
theorem nei_0 {R : RT} {w : Nat} : NeI R w 0 (-6) 13 := Or.inl ⟨rfl, rfl, fun z hz => absurd hz (Nat.not_lt_zero _)⟩
theorem nei_13 {R : RT} {w a l : Nat} {b : Int32} (h : NeI R w a b l) (hw : w < 4096) (ha : a ≤ 4096) : l ≤ 13 := by
  rcases h with ⟨-, h, -⟩ | ⟨y, -, h1, -, h2, -⟩
  · omega
  · have := pcn12 (xor12 (show y < 4096 by omega) hw)
    omega
theorem nei_t {R : RT} {w a l : Nat} {b : Int32} (h : NeI R w a b l) (h1 : pcn (a ^^^ w) < l) (h2 : isS R a = true) : NeI R w (a + 1) (nI a) (pcn (a ^^^ w)) := by
  refine Or.inr ⟨a, rfl, by omega, h2, rfl, fun z hz hs => ?_⟩
  rcases Nat.lt_or_ge z a with d | d
  · rcases h with ⟨-, -, h⟩ | ⟨y, -, -, -, h3, h4⟩
    · exact absurd hs (h z d)
    · have := h4 z d hs
      omega
  · have : z = a := by omega
    subst this
    omega
theorem nei_f {R : RT} {w a l : Nat} {b : Int32} (h : NeI R w a b l) (hw : w < 4096) (ha : a < 4096) (h1 : l ≤ pcn (a ^^^ w) ∨ isS R a = false) : NeI R w (a + 1) b l := by
  have hx := pcn12 (xor12 ha hw)
  rcases h with ⟨e1, e2, h⟩ | ⟨y, e1, e2, e3, h3, h4⟩
  · refine Or.inl ⟨e1, e2, fun z hz hs => ?_⟩
    rcases Nat.lt_or_ge z a with d | d
    · exact h z d hs
    · have : z = a := by omega
      subst this
      rcases h1 with h1 | h1
      · omega
      · rw [h1] at hs
        cases hs
  · refine Or.inr ⟨y, e1, by omega, e3, h3, fun z hz hs => ?_⟩
    rcases Nat.lt_or_ge z a with d | d
    · exact h4 z d hs
    · have : z = a := by omega
      subst this
      rcases h1 with h1 | h1
      · omega
      · rw [h1] at hs
        cases hs
theorem nei_e {al : Nat → Nat} {w a l : Nat} {b : Int32} (hR : RowOK (mR al)) (ha : a = 2 ^ al 0) (h : NeI (mR al) w a b l) : ∃ y, b = nI y ∧ l = pcn (y ^^^ w) ∧ y = neS (mR al) w := by
  subst ha
  have hn : 0 < naS (mR al) := by
    show 0 < 1 <<< _
    rw [Nat.one_shiftLeft]
    exact Nat.two_pow_pos _
  obtain ⟨z, z1, z2, -⟩ := an_ex hR hn
  rcases h with ⟨-, -, h⟩ | ⟨y, e1, e2, e3, h3, h4⟩
  · exact absurd z2 (h z z1)
  · refine ⟨y, e1, h3, (neS_eq ⟨e2, e3, fun b hb hs => ?_⟩).symm⟩
    rw [← h3]
    exact h4 b hb hs
def BeI (br : Nat → Nat) (a b l m : Nat) : Prop := (a = 0 ∧ b = 0 ∧ l = 21 ∧ m = 0) ∨ (0 < a ∧ bF br (a - 1) = (b, l, m))
theorem bei_lt {br : Nat → Nat} {a b l m : Nat} (h : BeI br a b l m) (hl : br a < l) : BeI br (a + 1) a (br a) 1 := by
  refine Or.inr ⟨by omega, ?_⟩
  rw [Nat.add_sub_cancel]
  rcases h with ⟨rfl, -⟩ | ⟨h0, h⟩
  · rfl
  · exact bF_lt1 h0 h hl
theorem bei_eq {br : Nat → Nat} {a b l m : Nat} (h : BeI br a b l m) (h20 : br a ≤ 20) (hl : br a = l) : BeI br (a + 1) b l (m + 1) := by
  refine Or.inr ⟨by omega, ?_⟩
  rw [Nat.add_sub_cancel]
  rcases h with ⟨rfl, -, rfl, -⟩ | ⟨h0, h⟩
  · omega
  · exact bF_eq1 h0 h hl
theorem bei_gt {br : Nat → Nat} {a b l m : Nat} (h : BeI br a b l m) (h20 : br a ≤ 20) (h1 : l ≤ br a) (h2 : ¬ br a = l) : BeI br (a + 1) b l m := by
  refine Or.inr ⟨by omega, ?_⟩
  rw [Nat.add_sub_cancel]
  rcases h with ⟨rfl, -, rfl, -⟩ | ⟨h0, h⟩
  · omega
  · exact bF_gt1 h0 h h1 h2
theorem bei_21 {f g : Nat → Nat} {n a b l m : Nat} (h : BeI (brF f g n) a b l m) (hn : n ≤ 20) (hg : ∀ j, j < n → g j ≤ 1) : l ≤ 21 := by
  rcases h with ⟨-, -, h, -⟩ | ⟨-, h⟩
  · omega
  · have := bF_brle (f := f) hn hg (a - 1)
    rw [h] at this
    have h2 : l ≤ 20 := this
    omega
theorem bei_e {al : Nat → Nat} {a b l m : Nat} (ha : a = 2 ^ al 0) (h : BeI (brF (fun j => al (2 + j)) (fun j => al (22 + j)) (al 1)) a b l m) : brS (mR al) = (b, l, m) := by
  have := Nat.two_pow_pos (al 0)
  rcases h with ⟨h, -⟩ | ⟨-, h⟩
  · omega
  · subst ha
    exact brS_mk.trans h
/-! a rule put in; a rule moved -/
def PIn (al k1 : Nat → Nat) (r : Nat) : Prop := k1 0 = al 0 ∧ k1 1 = al 1 ∧ (∀ j, j < 20 → k1 (2 + j) = if r < j ∧ j ≤ al 1 then al (2 + (j - 1)) else al (2 + j)) ∧ ∀ j, j < 20 → k1 (22 + j) = if r < j ∧ j ≤ al 1 then al (22 + (j - 1)) else al (22 + j)
theorem pin_0 {al : Nat → Nat} : PIn al al (al 1) := ⟨rfl, rfl, fun j _ => (if_neg (by omega)).symm, fun j _ => (if_neg (by omega)).symm⟩
theorem pin_s {al k1 : Nat → Nat} {r : Nat} (h : PIn al k1 r) (h0 : 0 < r) (hr : r ≤ al 1) (hn : al 1 < 20) : PIn al (pu (pu k1 (2 + r) (k1 (2 + r - 1))) (22 + r) ((pu k1 (2 + r) (k1 (2 + r - 1))) (22 + r - 1))) (r - 1) := by
  obtain ⟨a0, a1, h2, h3⟩ := h
  refine ⟨?_, ?_, fun j hj => ?_, fun j hj => ?_⟩
  · rw [pu_n (by omega), pu_n (by omega)]; exact a0
  · rw [pu_n (by omega), pu_n (by omega)]; exact a1
  · rw [pu_n (by omega)]
    by_cases e : j = r
    · subst e
      rw [pu_s, if_pos (by omega), show 2 + j - 1 = 2 + (j - 1) by omega, h2 _ (by omega), if_neg (by omega)]
    · rw [pu_n (by omega), h2 j hj]
      by_cases d : r < j ∧ j ≤ al 1
      · rw [if_pos d, if_pos (by omega)]
      · rw [if_neg d, if_neg (by omega)]
  · by_cases e : j = r
    · subst e
      rw [pu_s, pu_n (by omega), if_pos (by omega), show 22 + j - 1 = 22 + (j - 1) by omega, h3 _ (by omega), if_neg (by omega)]
    · rw [pu_n (by omega), pu_n (by omega), h3 j hj]
      by_cases d : r < j ∧ j ≤ al 1
      · rw [if_pos d, if_pos (by omega)]
      · rw [if_neg d, if_neg (by omega)]
def PI (al k1 : Nat → Nat) (p w y : Nat) : Prop := k1 0 = al 0 ∧ k1 1 = al 1 + 1 ∧ (∀ j, j < 20 → k1 (2 + j) = if j = p then w else if p < j ∧ j ≤ al 1 then al (2 + (j - 1)) else al (2 + j)) ∧ ∀ j, j < 20 → k1 (22 + j) = if j = p then y else if p < j ∧ j ≤ al 1 then al (22 + (j - 1)) else al (22 + j)
theorem pin_1 {al k1 : Nat → Nat} {p w y : Nat} (hp : p < 20) (h : PIn al k1 p) : (pu (pu k1 (2 + p) w) (22 + p) y) 1 = al 1 := by
  rw [pu_n (by omega), pu_n (by omega)]
  exact h.2.1
theorem pin_e {al k1 : Nat → Nat} {p w y : Nat} (hp : p < 20) (h : PIn al k1 p) : PI al (pu (pu (pu k1 (2 + p) w) (22 + p) y) 1 (al 1 + 1)) p w y := by
  obtain ⟨a0, a1, h2, h3⟩ := h
  refine ⟨?_, pu_s, fun j hj => ?_, fun j hj => ?_⟩
  · rw [pu_n (by omega), pu_n (by omega), pu_n (by omega)]; exact a0
  · rw [pu_n (by omega), pu_n (by omega)]
    by_cases e : j = p
    · subst e
      rw [pu_s, if_pos rfl]
    · rw [pu_n (by omega), if_neg e]
      exact h2 j hj
  · rw [pu_n (by omega)]
    by_cases e : j = p
    · subst e
      rw [pu_s, if_pos rfl]
    · rw [pu_n (by omega), pu_n (by omega), if_neg e]
      exact h3 j hj
def MI (al k1 : Nat → Nat) (i k : Nat) : Prop := k1 0 = al 0 ∧ k1 1 = al 1 ∧ (∀ j, j < al 1 → k1 (2 + j) = carF (fun j => al (2 + j)) i k j) ∧ ∀ j, j < al 1 → k1 (22 + j) = carF (fun j => al (22 + j)) i k j
theorem mi_c {F K K2 : Nat → Nat} {i k n j : Nat} (hi : i < n) (hk : k < n) (hn : n ≤ 20) (hj : j < n) (h1 : ∀ j, j < 20 → K j = if i ≤ j ∧ j < n - 1 then F (j + 1) else F j) (h2 : ∀ j, j < 20 → K2 j = if j = k then F i else if k < j ∧ j ≤ n - 1 then K (j - 1) else K j) : K2 j = carF F i k j := by
  rw [h2 j (by omega)]
  unfold carF
  by_cases e : j = k
  · rw [if_pos e, if_pos e]
  · rw [if_neg e, if_neg e]
    by_cases d : k < j ∧ j ≤ n - 1
    · rw [if_pos d, h1 _ (by omega), if_neg (show ¬ (i ≤ j ∧ j < k) by omega)]
      by_cases b : i ≤ j - 1 ∧ j - 1 < n - 1
      · rw [if_pos b, show j - 1 + 1 = j by omega, if_neg (by omega)]
      · rw [if_neg b, if_pos (by omega)]
    · rw [if_neg d, h1 _ (by omega), if_neg (show ¬ (k < j ∧ j ≤ i) by omega)]
      by_cases b : i ≤ j ∧ j < n - 1
      · rw [if_pos b, if_pos (by omega)]
      · rw [if_neg b, if_neg (by omega)]
theorem mi_ok {al k1 k2 : Nat → Nat} {i k : Nat} (hi : i < al 1) (hk : k < al 1) (hn : al 1 ≤ 20) (h1 : TO al k1 i (al 1 - 1)) (h2 : PI k1 k2 k (al (2 + i)) (al (22 + i))) : MI al k2 i k := by
  obtain ⟨a0, a1, a2, a3⟩ := h1
  obtain ⟨b0, b1, b2, b3⟩ := h2
  rw [a1] at b2 b3
  refine ⟨b0.trans a0, by rw [b1, a1]; omega, fun j hj => ?_, fun j hj => ?_⟩
  · exact mi_c (F := fun j => al (2 + j)) (K := fun j => k1 (2 + j)) (K2 := fun j => k2 (2 + j)) hi hk hn hj a2 b2
  · exact mi_c (F := fun j => al (22 + j)) (K := fun j => k1 (22 + j)) (K2 := fun j => k2 (22 + j)) hi hk hn hj a3 b3
theorem mi_R {al k1 : Nat → Nat} {i k : Nat} (h : MI al k1 i k) (hi : i < al 1) (hk : k < al 1) : mR k1 = mvR (mR al) i k := by
  obtain ⟨a0, a1, a2, a3⟩ := h
  unfold mR
  rw [mv_mk hi hk, a0, a1]
  exact mkR_eq a2 a3
theorem mom_1 {al k1 : Nat → Nat} {i k v : Nat} {h : HT} {x y : Int32} (ex : x = nI i) (ey : y = nI k) (hi : i < al 1) (hk : k < al 1) (hn : al 1 ≤ 20) (hM : MI al k1 i k) (hv : v = mcS (mR al) i k) : nI v = r_move (mR al) x y ∧ (mR k1, pushH h (mR al)) = n_move (mR al) h x y := by
  obtain ⟨q1, q2⟩ := mo_1 (c := al 0) (n := al 1) (f := fun j => al (2 + j)) (g := fun j => al (22 + j)) (h := h) ex ey hi hk hn hM.2.2.1 hM.2.2.2 hv
  refine ⟨q1, ?_⟩
  refine Eq.trans ?_ q2
  show (mkR (k1 0) (k1 1) _ _, _) = _
  rw [hM.1, hM.2.1]
  rfl
theorem imm_1 {al k1 : Nat → Nat} {i k : Nat} {x y : Int32} (ex : x = nI i) (ey : y = nI k) (hi : i < al 1) (hk : k < al 1) (hn : al 1 ≤ 20) (hM : MI al k1 i k) : nI (ctS (mR k1) 2) = r_ifMoved (mR al) x y :=
  im_1 (c := al 0) (n := al 1) (f := fun j => al (2 + j)) (g := fun j => al (22 + j)) ex ey hi hk hn hM.2.2.1 hM.2.2.2 (by
    show ctS (mkR (k1 0) (k1 1) _ _) 2 = _
    rw [hM.1, hM.2.1])
/-- where a rule stands then -/
def thF (i k r : Nat) : Nat := if r = i then k else if i < r ∧ r ≤ k then r - 1 else if k ≤ r ∧ r < i then r + 1 else r
theorem thF_lt {i k r n : Nat} (hi : i < n) (hk : k < n) (hr : r < n) : thF i k r < n := by
  unfold thF
  split
  · exact hk
  · split
    · omega
    · split
      · omega
      · exact hr
theorem car_th {s : Nat → Nat} {i k r : Nat} : carF s i k (thF i k r) = s r := by
  unfold thF
  by_cases e : r = i
  · rw [if_pos e, e]
    exact if_pos rfl
  · rw [if_neg e]
    by_cases d : i < r ∧ r ≤ k
    · rw [if_pos d]
      unfold carF
      rw [if_neg (by omega), if_pos (by omega), show r - 1 + 1 = r by omega]
    · rw [if_neg d]
      by_cases b : k ≤ r ∧ r < i
      · rw [if_pos b]
        unfold carF
        rw [if_neg (by omega), if_neg (by omega), if_pos (by omega), Nat.add_sub_cancel]
      · rw [if_neg b]
        unfold carF
        rw [if_neg (by omega), if_neg (by omega), if_neg (by omega)]
theorem th_pre (q : Nat → Nat) (i k : Nat) : ∀ m, (i < m ∧ m ≤ k → smF (fun r => q (thF i k r)) m = smF q (m - 1) + q k) ∧ (k ≤ m ∧ m ≤ i → smF (fun r => q (thF i k r)) m + q k = smF q (m + 1)) ∧ (¬ (i < m ∧ m ≤ k) → ¬ (k ≤ m ∧ m ≤ i) → smF (fun r => q (thF i k r)) m = smF q m)
  | 0 => by
    refine ⟨fun h => absurd h.1 (Nat.not_lt_zero _), fun h => ?_, fun _ _ => rfl⟩
    rw [show k = 0 by omega]
    rfl
  | m + 1 => by
    obtain ⟨h1, h2, h3⟩ := th_pre q i k m
    have e : smF (fun r => q (thF i k r)) (m + 1) = smF (fun r => q (thF i k r)) m + q (thF i k m) := rfl
    have e2 : smF q (m + 1) = smF q m + q m := rfl
    have e3 : smF q (m + 1 + 1) = smF q (m + 1) + q (m + 1) := rfl
    have ht : thF i k m = if m = i then k else if i < m ∧ m ≤ k then m - 1 else if k ≤ m ∧ m < i then m + 1 else m := rfl
    refine ⟨fun h => ?_, fun h => ?_, fun a b => ?_⟩
    · rw [e, Nat.add_sub_cancel]
      by_cases c : m = i
      · rw [ht, if_pos c, h3 (by omega) (by omega)]
      · rw [ht, if_neg c, if_pos (by omega), h1 (by omega)]
        obtain ⟨d, rfl⟩ : ∃ d, m = d + 1 := ⟨m - 1, by omega⟩
        have e4 : smF q (d + 1) = smF q d + q d := rfl
        rw [Nat.add_sub_cancel, e4]
        omega
    · rw [e]
      by_cases c : k ≤ m
      · rw [ht, if_neg (by omega), if_neg (by omega), if_pos (by omega)]
        have := h2 (by omega)
        omega
      · have c2 : m + 1 = k := by omega
        rw [ht, if_neg (by omega), if_neg (by omega), if_neg (by omega), h3 (by omega) (by omega), ← c2]
        omega
    · rw [e]
      by_cases c : m = i
      · rw [ht, if_pos c]
        have := h2 (by omega)
        omega
      · rw [ht, if_neg c]
        by_cases d : i < m ∧ m ≤ k
        · have c2 : m = k := by omega
          rw [if_pos d, h1 d, e2]
          subst c2
          obtain ⟨v, rfl⟩ : ∃ v, m = v + 1 := ⟨m - 1, by omega⟩
          have e4 : smF q (v + 1) = smF q v + q v := rfl
          rw [Nat.add_sub_cancel, e4]
          omega
        · rw [if_neg d, if_neg (by omega), h3 (by omega) (by omega), e2]
theorem th_sum (q : Nat → Nat) {i k n : Nat} (hi : i < n) (hk : k < n) : smF (fun r => q (thF i k r)) n = smF q n := (th_pre q i k n).2.2 (by omega) (by omega)
theorem mth_ok {al al2 ms ms2 mr mr2 le le2 wh wh2 mh : Nat → Nat} {i k : Nat} (hV : MV (fun j => al (2 + j)) (fun j => al (22 + j)) (al 1) ms mr le wh) (hW : MV (fun j => al2 (2 + j)) (fun j => al2 (22 + j)) (al2 1) ms2 mr2 le2 wh2) (hM : MI al al2 i k) (hh : ∀ j, j < al 1 → mh j = ms j) (hi : i < al 1) (hk : k < al 1) : smF (fun r => if ms2 (thF i k r) = mh r then 0 else 1) (al 1) = mcS (mR al) i k := by
  refine Eq.trans ?_ (th_sum (fun p => if stS (mvR (mR al) i k) p = carF (stS (mR al)) i k p then 0 else 1) hi hk)
  refine smF_cong (al 1) (fun r hr => ?_)
  show (if ms2 (thF i k r) = mh r then 0 else 1) = if stS (mvR (mR al) i k) (thF i k r) = carF (stS (mR al)) i k (thF i k r) then 0 else 1
  rw [car_th, mv_st hW _ (by rw [hM.2.1]; exact thF_lt hi hk hr), mi_R hM hi hk, hh r hr, mv_st hV r hr]
theorem mth_t {s t : Nat → Nat} {i k z v : Nat} (e : thF i k z = v) (h : s v = t z) : smF (fun r => if s (thF i k r) = t r then 0 else 1) z + 0 = smF (fun r => if s (thF i k r) = t r then 0 else 1) (z + 1) := by
  show _ = _ + (if s (thF i k z) = t z then 0 else 1)
  rw [e, if_pos h]
theorem mth_f {s t : Nat → Nat} {i k z v : Nat} (e : thF i k z = v) (h : ¬ s v = t z) : smF (fun r => if s (thF i k r) = t r then 0 else 1) z + 1 = smF (fun r => if s (thF i k r) = t r then 0 else 1) (z + 1) := by
  show _ = _ + (if s (thF i k z) = t z then 0 else 1)
  rw [e, if_neg h]
