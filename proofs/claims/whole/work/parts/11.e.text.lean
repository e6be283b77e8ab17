/-! long numbers and texts -/
def uN (z : Int64) : Nat := z.toUInt64.toNat
theorem uN_lt (z : Int64) : uN z < 2 ^ 64 := z.toUInt64.toNat_lt
theorem lN_uN (z : Int64) : lN (uN z) = z := by
  unfold lN uN
  apply Int64.toBitVec_inj.mp
  apply BitVec.eq_of_toNat_eq
  show (BitVec.ofNat 64 z.toUInt64.toNat).toNat = _
  rw [BitVec.toNat_ofNat, Nat.mod_eq_of_lt (show z.toUInt64.toNat < 2 ^ 64 from uN_lt z)]
  rfl
theorem lN_bv {n : Nat} (h : n < 2 ^ 64) : (lN n).toBitVec.toNat = n := by
  unfold lN
  show (BitVec.ofNat 64 n).toNat = _
  rw [BitVec.toNat_ofNat, Nat.mod_eq_of_lt h]
theorem lN_and {a b : Nat} (ha : a < 2 ^ 64) (hb : b < 2 ^ 64) : lN a &&& lN b = lN (a &&& b) := by
  apply Int64.toBitVec_inj.mp
  apply BitVec.eq_of_toNat_eq
  rw [Int64.toBitVec_and, BitVec.toNat_and, lN_bv ha, lN_bv hb, lN_bv (Nat.lt_of_le_of_lt Nat.and_le_left ha)]
theorem lN_0 {a : Nat} (ha : a < 2 ^ 64) : (lN a).toInt = 0 ↔ a = 0 := by
  constructor
  · intro h
    have e : lN a = lN 0 := Int64.toInt_inj.mp (by rw [h, lN_toInt (by decide)]; rfl)
    have := congrArg (fun z => z.toBitVec.toNat) e
    simp only [lN_bv ha, lN_bv (show 0 < 2 ^ 64 by decide)] at this
    exact this
  · intro h
    rw [h, lN_toInt (by decide)]
    rfl
theorem sh_cnt : ∀ k, k < 64 → ((nI k).toInt64.toUInt64 &&& Int64.toUInt64 63).toBitVec.toNat % 64 = k := by decide +kernel
theorem lN_shr {a k : Nat} (ha : a < 2 ^ 64) (hk : k < 64) : ((lN a).toUInt64 >>> ((nI k).toInt64.toUInt64 &&& Int64.toUInt64 63)).toInt64 = lN (a >>> k) := by
  have hs : a >>> k ≤ a := Nat.shiftRight_le _ _
  apply Int64.toBitVec_inj.mp
  apply BitVec.eq_of_toNat_eq
  rw [lN_bv (by omega)]
  show ((lN a).toUInt64 >>> ((nI k).toInt64.toUInt64 &&& Int64.toUInt64 63)).toNat = _
  rw [UInt64.toNat_shiftRight]
  have h2 : ((nI k).toInt64.toUInt64 &&& Int64.toUInt64 63).toNat % 64 = k := sh_cnt k hk
  rw [h2]
  show (lN a).toBitVec.toNat >>> k = _
  rw [lN_bv ha]
def byt (u k : Nat) : Nat := u >>> (8 * k) &&& 255
theorem byt_le (u k : Nat) : byt u k ≤ 255 := Nat.and_le_right
def cinP (u m : Nat) : Prop := m ≤ 8 ∧ (∀ k, k < m → 33 ≤ byt u k ∧ byt u k ≤ 126) ∧ u >>> (8 * m) = 0
theorem shr_0 {u a b : Nat} (h : u >>> a = 0) (hab : a ≤ b) : u >>> b = 0 := by
  obtain ⟨d, rfl⟩ : ∃ d, b = a + d := ⟨b - a, by omega⟩
  rw [Nat.shiftRight_add, h, Nat.zero_shiftRight]
theorem byt_0 {u a k : Nat} (h : u >>> (8 * a) = 0) (hk : a ≤ k) : byt u k = 0 := by
  unfold byt
  rw [shr_0 h (by omega), Nat.zero_and]
theorem cin_u {u m m2 : Nat} (h : cinP u m) (h2 : cinP u m2) : m = m2 := by
  rcases Nat.lt_trichotomy m m2 with c | c | c
  · have := byt_0 h.2.2 (Nat.le_refl m)
    have := h2.2.1 m c
    omega
  · exact c
  · have := byt_0 h2.2.2 (Nat.le_refl m2)
    have := h.2.1 m2 c
    omega
noncomputable def cin (u : Nat) : Nat := @dite Nat (∃ m, cinP u m) (Classical.propDecidable _) (fun h => Classical.choose h) (fun _ => 0)
theorem cin_eq {u m : Nat} (h : cinP u m) : cin u = m := by
  have hx : ∃ m, cinP u m := ⟨m, h⟩
  have e : cin u = Classical.choose hx := dif_pos hx
  rw [e]
  exact cin_u (Classical.choose_spec hx) h
theorem cin_no {u : Nat} (h : ∀ m, ¬ cinP u m) : cin u = 0 := dif_neg (fun ⟨m, z⟩ => h m z)
theorem cin_le (u : Nat) : cin u ≤ 8 := by
  by_cases hx : ∃ m, cinP u m
  · obtain ⟨m, h⟩ := hx
    rw [cin_eq h]; exact h.1
  · rw [cin_no (fun m z => hx ⟨m, z⟩)]; omega
theorem cin_in {u k : Nat} (hk : k < cin u) : 33 ≤ byt u k ∧ byt u k ≤ 126 := by
  by_cases hx : ∃ m, cinP u m
  · obtain ⟨m, h⟩ := hx
    rw [cin_eq h] at hk; exact h.2.1 k hk
  · rw [cin_no (fun m z => hx ⟨m, z⟩)] at hk; omega
/-- a character that cannot stand -/
theorem cin_bad {u m : Nat} (h0 : ¬ byt u m = 0) (h : byt u m < 33 ∨ 126 < byt u m) : cin u = 0 := cin_no (fun m2 z => by
  rcases Nat.lt_or_ge m m2 with c | c
  · have := z.2.1 m c; omega
  · exact h0 (byt_0 z.2.2 c))
/-- something is left -/
theorem cin_left {u m : Nat} (h : m = 8 ∨ byt u m = 0) (hr : ¬ u >>> (8 * m) = 0) : cin u = 0 := cin_no (fun m2 z => by
  rcases Nat.lt_or_ge m m2 with c | c
  · have := z.2.1 m c
    have := z.1
    omega
  · exact hr (shr_0 z.2.2 (by omega)))
noncomputable def r_put (pl : Nat) (u : Nat) : Int32 := if cin u = 0 then -2 else if pl + cin u > 80 then -4 else nI (pl + cin u)
noncomputable def n_put (pl : Nat) (pc : Nat → Nat) (u : Nat) : Nat × (Nat → Nat) := if ¬ cin u = 0 ∧ ¬ pl + cin u > 80 then (pl + cin u, nrm (pl + cin u) (fun j => if j < pl then pc j else byt u (pl + cin u - 1 - j))) else (pl, pc)
theorem pt_0 {pl u : Nat} {pc : Nat → Nat} (h : cin u = 0) : (-2 : Int32) = r_put pl u ∧ (pl, pc) = n_put pl pc u := by
  unfold r_put n_put
  rw [if_pos h, if_neg (fun z => z.1 h)]
  exact ⟨rfl, rfl⟩
theorem pt_1 {pl u : Nat} {pc : Nat → Nat} (h : ¬ cin u = 0) (h2 : 80 < pl + cin u) : (-4 : Int32) = r_put pl u ∧ (pl, pc) = n_put pl pc u := by
  unfold r_put n_put
  rw [if_neg h, if_pos h2, if_neg (fun z => z.2 h2)]
  exact ⟨rfl, rfl⟩
theorem pt_2 {pl u t : Nat} {pc cc : Nat → Nat} (h : ¬ cin u = 0) (h2 : pl + cin u ≤ 80) (ht : t = pl + cin u) (hc : ∀ j, j < t → cc j = if j < pl then pc j else byt u (pl + cin u - 1 - j)) : nI t = r_put pl u ∧ (t, nrm t cc) = n_put pl (nrm pl pc) u := by
  subst ht
  unfold r_put n_put
  rw [if_neg h, if_neg (by omega), if_pos ⟨h, by omega⟩]
  refine ⟨rfl, ?_⟩
  congr 1
  refine nrm_eq (fun j hj => (hc j hj).trans ?_)
  by_cases d : j < pl
  · rw [if_pos d, if_pos d, nrm_lt d]
  · rw [if_neg d, if_neg d]
theorem pt_bk {pl u t k : Nat} {pc cc : Nat → Nat} (hc : ∀ j, j < t → cc j = if j < pl then pc j else byt u (pl + cin u - 1 - j)) (h0 : pl ≤ t) (ht : t + (k + 1) = pl + cin u) {v : Nat} (hv : v = byt u k) : ∀ j, j < t + 1 → pu cc t v j = if j < pl then pc j else byt u (pl + cin u - 1 - j) := by
  intro j hj
  by_cases e : j = t
  · subst e
    rw [pu_s, if_neg (by omega), hv]
    congr 1
    omega
  · rw [pu_n e]
    exact hc j (by omega)
/-! reading -/
theorem ft_ok {f0 g0 pad f g : Nat → Nat} {len mm : Nat} {r : Int32} (hlen : len ≤ 80) (h : FT f0 g0 pad len r mm f g) (hr : r = -6) : mm ≤ 20 ∧ ∀ j, j < mm → 0 < f j ∧ f j < 4096 ∧ g j ≤ 1 := by
  have neg : ∀ i : Nat, i ≤ 80 → ¬ nI i = -6 := fun i hi e => by
    have := congrArg Int32.toInt e
    rw [nI_toInt (by omega), show (-6 : Int32).toInt = -6 by decide] at this
    omega
  rcases h with ⟨i, x, h1, h2, h3, h4⟩ | ⟨x, h1, h2, h3⟩
  · exact absurd (h4.symm.trans hr) (neg i (by omega))
  · have hp := pinv_run h1
    by_cases e : x.1 = 3
    · obtain ⟨p1, p2, p3, p4, p5, p6⟩ := hp
      have e1 : x.2.2.2.2.1 = mm := congrArg (·.1) h3
      have e2 : x.2.2.2.2.2.1 = f := congrArg (·.2.1) h3
      have e3 : x.2.2.2.2.2.2 = g := congrArg (·.2.2) h3
      rw [e1, e2, e3] at p6
      rw [e1] at p5
      exact ⟨by omega, p6⟩
    · rw [if_neg e] at h2
      exact absurd (h2.symm.trans hr) (neg len hlen)
theorem rd_0 {R : RT} {h : HT} {pl : Nat} {pc : Nat → Nat} (e : ¬ (ftX pl pc).1 = -6) : (-3 : Int32) = r_read R pl pc ∧ ((R, h), pl, pc) = n_read R h pl pc := by
  unfold r_read n_read
  rw [if_neg e, if_neg (fun z => e z.1)]
  exact ⟨rfl, rfl⟩
theorem rd_1 {c n m : Nat} {f g qf qg : Nat → Nat} {h : HT} {pl : Nat} {pc : Nat → Nat} (e : (ftX pl pc).1 = -6) (eP : mkR 0 m qf qg = (ftX pl pc).2) (hb : ¬ ∀ j, j < m → qf j >>> c = 0) : (-2 : Int32) = r_read (mkR c n f g) pl pc ∧ ((mkR c n f g, h), pl, pc) = n_read (mkR c n f g) h pl pc := by
  have e2 : ¬ belR (ftX pl pc).2 (mkR c n f g).1 = true := by rw [← eP, bel_mk]; exact fun z => hb (of_decide_eq_true z)
  unfold r_read n_read
  rw [if_pos e, if_neg e2, if_neg (fun z => e2 z.2.1)]
  exact ⟨rfl, rfl⟩
theorem rd_2 {c n m : Nat} {f g qf qg : Nat → Nat} {h : HT} {pl : Nat} {pc : Nat → Nat} (e : (ftX pl pc).1 = -6) (eP : mkR 0 m qf qg = (ftX pl pc).2) (hb : ∀ j, j < m → qf j >>> c = 0) (hm : 20 < n + m) : (-4 : Int32) = r_read (mkR c n f g) pl pc ∧ ((mkR c n f g, h), pl, pc) = n_read (mkR c n f g) h pl pc := by
  have e2 : belR (ftX pl pc).2 (mkR c n f g).1 = true := by rw [← eP, bel_mk]; exact decide_eq_true hb
  have e3 : (mkR c n f g).2.1 + (ftX pl pc).2.2.1 > 20 := by rw [← eP]; exact hm
  unfold r_read n_read
  rw [if_pos e, if_pos e2, if_pos e3, if_neg (fun z => z.2.2 e3)]
  exact ⟨rfl, rfl⟩
theorem rd_3 {c n m t : Nat} {f g qf qg f3 g3 : Nat → Nat} {h : HT} {pl : Nat} {pc : Nat → Nat} (e : (ftX pl pc).1 = -6) (eP : mkR 0 m qf qg = (ftX pl pc).2) (hb : ∀ j, j < m → qf j >>> c = 0) (hm : n + m ≤ 20) (ht : t = n + m) (hf : ∀ j, j < t → f3 j = if j < n then f j else qf (j - n)) (hg : ∀ j, j < t → g3 j = if j < n then g j else qg (j - n)) : nI t = r_read (mkR c n f g) pl pc ∧ ((mkR c t f3 g3, pushH h (mkR c n f g)), 0, nrm 0 pc) = n_read (mkR c n f g) h pl pc := by
  subst ht
  have e2 : belR (ftX pl pc).2 (mkR c n f g).1 = true := by rw [← eP, bel_mk]; exact decide_eq_true hb
  have e3 : ¬ (mkR c n f g).2.1 + (ftX pl pc).2.2.1 > 20 := by rw [← eP]; show ¬ n + m > 20; omega
  unfold r_read n_read
  rw [if_pos e, if_pos e2, if_neg e3, if_pos ⟨e, e2, e3⟩, ← eP]
  refine ⟨rfl, ?_⟩
  have h0 : nrm 0 pc = z0 := by
    funext j
    exact nrm_ge (Nat.zero_le _)
  rw [h0]
  congr 2
  refine mkR_eq (fun j (hj : j < n + m) => (hf j hj).trans ?_) (fun j (hj : j < n + m) => (hg j hj).trans ?_)
  · show _ = if j < n then nrm n f j else nrm m qf (j - n)
    by_cases d : j < n
    · rw [if_pos d, if_pos d, nrm_lt d]
    · rw [if_neg d, if_neg d, nrm_lt (by omega)]
  · show _ = if j < n then nrm n g j else nrm m qg (j - n)
    by_cases d : j < n
    · rw [if_pos d, if_pos d, nrm_lt d]
    · rw [if_neg d, if_neg d, nrm_lt (by omega)]
theorem rd_bk {n z : Nat} {f qf f3 : Nat → Nat} (h : ∀ j, j < n + z → f3 j = if j < n then f j else qf (j - n)) : ∀ j, j < n + z + 1 → pu f3 (n + z) (qf z) j = if j < n then f j else qf (j - n) := by
  intro j hj
  by_cases e : j = n + z
  · rw [e, pu_s, if_neg (by omega), show n + z - n = z by omega]
  · rw [pu_n e]
    exact h j (by omega)
