/-! moving, slots, texts -/
theorem mcl_t {s t : Nat → Nat} {z : Nat} (h : s z = t z) : smF (fun p => if s p = t p then 0 else 1) z = smF (fun p => if s p = t p then 0 else 1) (z + 1) := by
  show _ = _ + (if s z = t z then 0 else 1)
  rw [if_pos h, Nat.add_zero]
theorem mcl_f {s t : Nat → Nat} {z : Nat} (h : ¬ s z = t z) : smF (fun p => if s p = t p then 0 else 1) z + 1 = smF (fun p => if s p = t p then 0 else 1) (z + 1) := by
  show _ = _ + (if s z = t z then 0 else 1)
  rw [if_neg h]
theorem mc_ok {c n i k : Nat} {f g st re ta ss su sr f2 g2 st2 re2 ta2 ss2 su2 sr2 hh : Nat → Nat} (hV : VI f g n st re ta ss su sr) (hW : VI f2 g2 n st2 re2 ta2 ss2 su2 sr2) (h1 : ∀ j, f2 j = carF f i k j) (h2 : ∀ j, g2 j = carF g i k j) (h3 : ∀ j, hh j = carF st i k j) (hi : i < n) (hk : k < n) : smF (fun p => if st2 p = hh p then 0 else 1) n = mcS (mkR c n f g) i k := by
  refine smF_cong n (fun p hp => ?_)
  show (if st2 p = hh p then 0 else 1) = if stS (mvR (mkR c n f g) i k) p = carF (stS (mkR c n f g)) i k p then 0 else 1
  rw [vi_st (c := c) hW hp, mkR_eq (fun j _ => h1 j) (fun j _ => h2 j), ← mv_mk hi hk, h3]
  obtain ⟨j', a, b⟩ := car_in n i k p hi hk hp
  rw [b, b, vi_st (c := c) hV a]
theorem car_st {n i k p : Nat} {st hh : Nat → Nat} (h3 : ∀ j, hh j = carF st i k j) (hs : ∀ j, j < n → st j ≤ 2) (hi : i < n) (hk : k < n) (hp : p < n) : hh p ≤ 2 := by
  obtain ⟨j', a, b⟩ := car_in n i k p hi hk hp
  rw [h3, b]
  exact hs j' a
theorem vi_le {f g st re ta ss su sr : Nat → Nat} {n j : Nat} (h : VI f g n st re ta ss su sr) (hj : j < n) : st j ≤ 2 := by
  rw [h.1 j hj]
  exact stt_le _ _ _ _ _
theorem abs_s {sd yc yn : Nat → Nat} {yf yg : Nat → Nat → Nat} {k : Nat} (hk : k < 2) (h : ¬ sd k = 0) : absS sd yc yn yf yg k = mkR (yc k) (yn k) (yf k) (yg k) := if_pos ⟨hk, h⟩
theorem abs_z {sd yc yn : Nat → Nat} {yf yg : Nat → Nat → Nat} {k : Nat} (h : sd k = 0) : absS sd yc yn yf yg k = R0 := if_neg (fun z => z.2 h)
/-- a saved row has choices -/
def SvOK (sd yc yn : Nat → Nat) (yf yg : Nat → Nat → Nat) : Prop := ∀ k, k < 2 → sd k ≤ 1 ∧ (¬ sd k = 0 → RowOK (mkR (yc k) (yn k) (yf k) (yg k)))
theorem sv_0 {R : RT} {Z : Nat → RT} {x : Int32} (e : ¬ (0 ≤ x.toInt ∧ x.toInt < 2)) : (-2 : Int32) = r_save R x ∧ Z = n_save R Z x := by
  have e2 : ¬ hasP 2 x = true := hasP_f (n := 2) e
  unfold r_save n_save
  rw [if_neg e2, if_neg e2]
  exact ⟨rfl, rfl⟩
theorem sv_1 {c n a : Nat} {f g sd yc yn : Nat → Nat} {yf yg : Nat → Nat → Nat} {x : Int32} (e : x = nI a) (ha : a < 2) (hc : 1 ≤ c) : nI n = r_save (mkR c n f g) x ∧ absS (pu sd a 1) (va_up yc a c) (va_up yn a n) (va_up yf a f) (va_up yg a g) = n_save (mkR c n f g) (absS sd yc yn yf yg) x := by
  have e2 : hasP 2 x = true := by rw [e]; exact hasP_I ha (by omega)
  unfold r_save n_save
  rw [if_pos e2, if_pos e2, e, tN_I (by omega)]
  refine ⟨rfl, ?_⟩
  funext k
  show (if k < 2 ∧ ¬ pu sd a 1 k = 0 then mkR (va_up yc a c k) (va_up yn a n k) (va_up yf a f k) (va_up yg a g k) else R0) = if k = a then mkR c n f g else if k < 2 ∧ ¬ sd k = 0 then mkR (yc k) (yn k) (yf k) (yg k) else R0
  by_cases d : k = a
  · subst d
    rw [pu_s, if_pos ⟨ha, by omega⟩, if_pos rfl]
    simp [va_up]
  · rw [pu_n d, if_neg d]
    simp [va_up, d]
theorem re_0 {R : RT} {h : HT} {Z : Nat → RT} {x : Int32} (e : ¬ (0 ≤ x.toInt ∧ x.toInt < 2)) : (-2 : Int32) = r_restore Z x ∧ (R, h) = n_restore R h Z x := by
  have e2 : ¬ hasP 2 x = true := hasP_f (n := 2) e
  unfold r_restore n_restore
  rw [if_neg e2, if_neg (fun z => e2 z.1)]
  exact ⟨rfl, rfl⟩
theorem re_1 {R : RT} {h : HT} {a : Nat} {sd yc yn : Nat → Nat} {yf yg : Nat → Nat → Nat} {x : Int32} (e : x = nI a) (ha : a < 2) (hs : sd a = 0) : (-5 : Int32) = r_restore (absS sd yc yn yf yg) x ∧ (R, h) = n_restore R h (absS sd yc yn yf yg) x := by
  have e2 : hasP 2 x = true := by rw [e]; exact hasP_I ha (by omega)
  have e3 : (absS sd yc yn yf yg (tN x)).1 = 0 := by rw [e, tN_I (by omega), abs_z hs]; rfl
  unfold r_restore n_restore
  rw [if_pos e2, if_pos e3, if_neg (fun z => z.2 e3)]
  exact ⟨rfl, rfl⟩
theorem re_2 {R : RT} {h : HT} {a : Nat} {sd yc yn : Nat → Nat} {yf yg : Nat → Nat → Nat} {x : Int32} (e : x = nI a) (ha : a < 2) (hs : ¬ sd a = 0) (hS : SvOK sd yc yn yf yg) : nI (yn a) = r_restore (absS sd yc yn yf yg) x ∧ (mkR (yc a) (yn a) (yf a) (yg a), pushH h R) = n_restore R h (absS sd yc yn yf yg) x := by
  have e2 : hasP 2 x = true := by rw [e]; exact hasP_I ha (by omega)
  have e4 : absS sd yc yn yf yg (tN x) = mkR (yc a) (yn a) (yf a) (yg a) := by rw [e, tN_I (by omega)]; exact abs_s ha hs
  have e3 : ¬ (absS sd yc yn yf yg (tN x)).1 = 0 := by
    rw [e4]
    have := ((hS a ha).2 hs).1
    show ¬ yc a = 0
    have h1 : 1 ≤ yc a := this
    omega
  unfold r_restore n_restore
  rw [if_pos e2, if_neg e3, if_pos ⟨e2, e3⟩, e4]
  exact ⟨rfl, rfl⟩
