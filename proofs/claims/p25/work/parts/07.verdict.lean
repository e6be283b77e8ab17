theorem z_fill {h : Nat → Nat} {i : Nat} (hz : ∀ j, j < i → h j = 0) : ∀ j, j < i + 1 → pu h i 0 j = 0 := by
  intro j hj
  by_cases e : j = i
  · subst e; exact pu_s
  · rw [pu_n e]; exact hz j (by omega)
theorem se_t {q : Nat → Bool} {i y : Nat} (hy : y = seF q i) (h : q i = true) : y ||| 1 <<< i = seF q (i + 1) := by
  show _ = (if q i = true then seF q i ||| 1 <<< i else seF q i)
  rw [if_pos h, hy]
theorem se_f {q : Nat → Bool} {i y : Nat} (hy : y = seF q i) (h : q i = false) : y = seF q (i + 1) := by
  show _ = (if q i = true then seF q i ||| 1 <<< i else seF q i)
  rw [if_neg (by rw [h]; exact Bool.false_ne_true), hy]
theorem ex_step {ss su ex : Nat → Nat} {w i x y : Nat} (he : ∀ j, j < i → ∃ x y, AnsOf ss su w 0 x ∧ AnsOf ss su w (2 ^ (j + 1) - 1) y ∧ ex j = x ^^^ y) (hx : AnsOf ss su w 0 x) (hy : AnsOf ss su w (2 ^ (i + 1) - 1) y) : ∀ j, j < i + 1 → ∃ a b, AnsOf ss su w 0 a ∧ AnsOf ss su w (2 ^ (j + 1) - 1) b ∧ pu ex i (x ^^^ y) j = a ^^^ b := by
  intro j hj
  by_cases e : j = i
  · subst e; exact ⟨x, y, hx, hy, pu_s⟩
  · obtain ⟨a, b, h1, h2, h3⟩ := he j (by omega)
    exact ⟨a, b, h1, h2, by rw [pu_n e]; exact h3⟩
theorem ans12 {ss su : Nat → Nat} {w q a : Nat} (hw : w ≤ 12) (h : AnsOf ss su w q a) : a < 4096 := Nat.lt_of_lt_of_le h.1 (Nat.pow_le_pow_right (n := 2) (j := 12) (by decide) hw)
theorem near_ans {ss su ex : Nat → Nat} {w z x : Nat} (hw : w ≤ 12) (hl : low1 ss) (hx : AnsOf ss su w (z - 1) x) (he : ∀ i, i < fr ss w → ∃ x y, AnsOf ss su w 0 x ∧ AnsOf ss su w (2 ^ (i + 1) - 1) y ∧ ex i = x ^^^ y) (h0 : 0 < z) (hz : z < 2 ^ fr ss w) : lb z < fr ss w ∧ AnsOf ss su w z (x ^^^ ex (lb z)) := by
  have hfw := fr_le ss w
  have hz12 : z < 4096 := Nat.lt_of_lt_of_le hz (Nat.pow_le_pow_right (n := 2) (j := 12) (by decide) (by omega))
  have hlb : lb z < fr ss w := by
    obtain ⟨-, l2, -⟩ := lb_ok h0 hz12
    rcases Nat.lt_or_ge (lb z) (fr ss w) with c | c
    · exact c
    · rw [Nat.testBit_lt_two_pow (Nat.lt_of_lt_of_le hz (Nat.pow_le_pow_right (by decide) c))] at l2
      cases l2
  obtain ⟨a, b, g1, g2, g3⟩ := he (lb z) hlb
  refine ⟨hlb, ?_⟩
  have h := ans_xor hx g1 g2
  rw [Nat.zero_xor, lb_flip h0 hz12] at h
  rw [g3]
  exact h
/-- y is the nearest of the answers ahead of place z, the lowest of several; fw its distance -/
def NearI (ss su : Nat → Nat) (v w z y fw : Nat) : Prop := (∃ q, q < z ∧ q < 2 ^ fr ss v ∧ AnsOf ss su v q y) ∧ fw = pcn (y ^^^ w) ∧ ∀ q b, q < z → q < 2 ^ fr ss v → AnsOf ss su v q b → fw < pcn (b ^^^ w) ∨ fw = pcn (b ^^^ w) ∧ y ≤ b
theorem near_fw {ss su : Nat → Nat} {v w z y fw : Nat} (h : NearI ss su v w z y fw) : fw ≤ 32 := by rw [h.2.1]; exact pcn_le _
theorem near_0 {ss su : Nat → Nat} {v w x : Nat} (hl : low1 ss) (hw : v ≤ 12) (h : AnsOf ss su v 0 x) : NearI ss su v w 1 x (pcn (x ^^^ w)) :=
  ⟨⟨0, by omega, Nat.two_pow_pos _, h⟩, rfl, fun q b h1 _ h2 => by
    have e : q = 0 := by omega
    subst e
    have := ans_one hl hw h h2
    subst this
    exact Or.inr ⟨rfl, Nat.le_refl _⟩⟩
theorem near_hit {ss su : Nat → Nat} {v w z y fw x : Nat} (hl : low1 ss) (hw : v ≤ 12) (h : NearI ss su v w z y fw) (hx : AnsOf ss su v z x) (hz : z < 2 ^ fr ss v) (hlt : pcn (x ^^^ w) < fw) : NearI ss su v w (z + 1) x (pcn (x ^^^ w)) := by
  refine ⟨⟨z, by omega, hz, hx⟩, rfl, fun q b h1 h2 h3 => ?_⟩
  by_cases e : q = z
  · subst e
    have := ans_one hl hw hx h3
    subst this
    exact Or.inr ⟨rfl, Nat.le_refl _⟩
  · rcases h.2.2 q b (by omega) h2 h3 with c | c
    · exact Or.inl (by omega)
    · exact Or.inl (by omega)
theorem near_skip {ss su : Nat → Nat} {v w z y fw x : Nat} (hl : low1 ss) (hw : v ≤ 12) (h : NearI ss su v w z y fw) (hx : AnsOf ss su v z x) (hz : z < 2 ^ fr ss v) (h0 : 0 < z) (hge : fw ≤ pcn (x ^^^ w)) : NearI ss su v w (z + 1) y fw := by
  obtain ⟨⟨r, r1, r2, r3⟩, h2, h3⟩ := h
  refine ⟨⟨r, by omega, r2, r3⟩, h2, fun q b g1 g2 g3 => ?_⟩
  by_cases e : q = z
  · subst e
    have := ans_one hl hw hx g3
    subst this
    have hlt := ans_mono hl hw r3 hx r1 hz
    rcases Nat.lt_or_ge fw (pcn (x ^^^ w)) with c | c
    · exact Or.inl c
    · exact Or.inr ⟨by omega, by omega⟩
  · exact h3 q b (by omega) g2 g3
theorem near_end {ss su : Nat → Nat} {v w z y fw : Nat} (h : NearI ss su v w z y fw) (hz : 2 ^ fr ss v ≤ z) : (∃ q, q < 2 ^ fr ss v ∧ AnsOf ss su v q y) ∧ ∀ q b, q < 2 ^ fr ss v → AnsOf ss su v q b → pcn (y ^^^ w) < pcn (b ^^^ w) ∨ pcn (y ^^^ w) = pcn (b ^^^ w) ∧ y ≤ b := by
  obtain ⟨⟨q, -, h1, h2⟩, h3, h4⟩ := h
  refine ⟨⟨q, h1, h2⟩, fun r b g1 g2 => ?_⟩
  have h5 := h4 r b (Nat.lt_of_lt_of_le g1 hz) g1 g2
  rw [h3] at h5
  exact h5
set_option maxHeartbeats 4000000 in
set_option maxRecDepth 100000 in
theorem c_X4_combine (l : Launch) (G : gT) (a0 a1 a2 a3 a4 a5 a6 a7 : Nat) (vc : Int32) (vm : Int32) (rs : Int32) (rm : Int32) (rr : Int32) (ss : Nat → Nat) (su : Nat → Nat) (sr : Nat → Nat) (x : Nat) (y : Nat) (q1 : Nat) (q2 : Nat) (q3 : Nat) (hx0 : x < 4096) (hss : ∀ j, ss j < 4096) (hq : red ss su sr 12 (x, y, 0) = (q1, q2, q3)) : CV l yX4_combine wsX4_combine ({ frames := 0, cells := 0, slots := 0, locals := 0 } : Room) G [.ref a0, .int (nI x), .int (nI y)] [(a0, .inr (4, [.int vc, .int vm, .ref a1, .ref a2, .ref a3, .ref a4, .ref a5, .ref a6, .int rs, .int rm, .int rr, .ref a7])), (a4, .inl (gI G, 12, .inl (nA ss))), (a5, .inl (gI G, 12, .inl (nA su))), (a6, .inl (gI G, 12, .inl (nA sr)))] 0 0 (fun (u : Unit) => True) (fun (u : Unit) => [(a0, .inr (4, [.int vc, .int vm, .ref a1, .ref a2, .ref a3, .ref a4, .ref a5, .ref a6, .int (nI q1), .int (nI q2), .int (nI q3), .ref a7])), (a4, .inl (gI G, 12, .inl (nA ss))), (a5, .inl (gI G, 12, .inl (nA su))), (a6, .inl (gI G, 12, .inl (nA sr)))]) := by
  refine CV.of (cc := cX4_combine) (maxL := 4) (ret := none) (by decide +kernel) rfl (Nat.le_of_ble_eq_true rfl) rfl (fun p e s m args below meth c A S hrt hlk hnm K hA hP hD hS ls hl => ?_)
  have hx := S.1
  have hb := S.2.1
  have hl : lv_has ls 4 [(0, .ref a0), (1, .int (nI x)), (2, .int (nI y))] := hl
  refine lv_aload_n hx hb dX4_combine_0 rfl (lv_at hl 0 rfl) ?_
  refine lv_iload_n hx hb dX4_combine_1 rfl (lv_at hl 1 rfl) ?_
  refine z_put S K hP hD hS (ty0 := tyX4) hX4_combine_X4 tyX4_ok nmX4 0 rfl rfl 8 (by decide) kX4_combine_1 rfl rfl rfl rfl (Nat.le_of_ble_eq_true rfl) dX4_combine_2 (fun H locs hP hD hS => ?_)
  have hP : va_P (gD G) vwCl [(a0, .inr (4, [.int vc, .int vm, .ref a1, .ref a2, .ref a3, .ref a4, .ref a5, .ref a6, .int (nI x), .int rm, .int rr, .ref a7])), (a4, .inl (gI G, 12, .inl (nA ss))), (a5, .inl (gI G, 12, .inl (nA su))), (a6, .inl (gI G, 12, .inl (nA sr)))] H := hP
  have hD : va_D A [(a0, .inr (4, [.int vc, .int vm, .ref a1, .ref a2, .ref a3, .ref a4, .ref a5, .ref a6, .int (nI x), .int rm, .int rr, .ref a7])), (a4, .inl (gI G, 12, .inl (nA ss))), (a5, .inl (gI G, 12, .inl (nA su))), (a6, .inl (gI G, 12, .inl (nA sr)))] := hD
  refine lv_aload_n hx hb dX4_combine_5 rfl (lv_at hl 0 rfl) ?_
  refine lv_iload_n hx hb dX4_combine_6 rfl (lv_at hl 2 rfl) ?_
  refine z_put S K hP hD hS (ty0 := tyX4) hX4_combine_X4 tyX4_ok nmX4 0 rfl rfl 9 (by decide) kX4_combine_2 rfl rfl rfl rfl (Nat.le_of_ble_eq_true rfl) dX4_combine_7 (fun H locs hP hD hS => ?_)
  have hP : va_P (gD G) vwCl [(a0, .inr (4, [.int vc, .int vm, .ref a1, .ref a2, .ref a3, .ref a4, .ref a5, .ref a6, .int (nI x), .int (nI y), .int rr, .ref a7])), (a4, .inl (gI G, 12, .inl (nA ss))), (a5, .inl (gI G, 12, .inl (nA su))), (a6, .inl (gI G, 12, .inl (nA sr)))] H := hP
  have hD : va_D A [(a0, .inr (4, [.int vc, .int vm, .ref a1, .ref a2, .ref a3, .ref a4, .ref a5, .ref a6, .int (nI x), .int (nI y), .int rr, .ref a7])), (a4, .inl (gI G, 12, .inl (nA ss))), (a5, .inl (gI G, 12, .inl (nA su))), (a6, .inl (gI G, 12, .inl (nA sr)))] := hD
  refine lv_aload_n hx hb dX4_combine_10 rfl (lv_at hl 0 rfl) ?_
  refine lv_iconst (v := nI 0) hx hb dX4_combine_11 (by decide +kernel) ?_
  refine z_put S K hP hD hS (ty0 := tyX4) hX4_combine_X4 tyX4_ok nmX4 0 rfl rfl 10 (by decide) kX4_combine_3 rfl rfl rfl rfl (Nat.le_of_ble_eq_true rfl) dX4_combine_12 (fun H locs hP hD hS => ?_)
  have hP : va_P (gD G) vwCl [(a0, .inr (4, [.int vc, .int vm, .ref a1, .ref a2, .ref a3, .ref a4, .ref a5, .ref a6, .int (nI x), .int (nI y), .int (nI 0), .ref a7])), (a4, .inl (gI G, 12, .inl (nA ss))), (a5, .inl (gI G, 12, .inl (nA su))), (a6, .inl (gI G, 12, .inl (nA sr)))] H := hP
  have hD : va_D A [(a0, .inr (4, [.int vc, .int vm, .ref a1, .ref a2, .ref a3, .ref a4, .ref a5, .ref a6, .int (nI x), .int (nI y), .int (nI 0), .ref a7])), (a4, .inl (gI G, 12, .inl (nA ss))), (a5, .inl (gI G, 12, .inl (nA su))), (a6, .inl (gI G, 12, .inl (nA sr)))] := hD
  refine lv_iconst (v := nI 0) hx hb dX4_combine_15 (by decide +kernel) ?_
  refine lv_istore_n (lv' := [(3, .int (nI 0)), (0, .ref a0), (1, .int (nI x)), (2, .int (nI y))]) hx hb dX4_combine_16 rfl hl (by decide) rfl (fun ls hl => ?_)
  have lp_17 : ∀ (n_17 : Nat) (i r1 r2 r3 : Nat), 12 - i < n_17 → (i ≤ 12) → (red ss su sr i (x, y, 0) = (r1, r2, r3)) → (r1 < 4096) → ∀ (H : Heap) (locs : List Loc), va_P (gD G) vwCl [(a0, .inr (4, [.int vc, .int vm, .ref a1, .ref a2, .ref a3, .ref a4, .ref a5, .ref a6, .int (nI r1), .int (nI r2), .int (nI r3), .ref a7])), (a4, .inl (gI G, 12, .inl (nA ss))), (a5, .inl (gI G, 12, .inl (nA su))), (a6, .inl (gI G, 12, .inl (nA sr)))] H → va_D A [(a0, .inr (4, [.int vc, .int vm, .ref a1, .ref a2, .ref a3, .ref a4, .ref a5, .ref a6, .int (nI r1), .int (nI r2), .int (nI r3), .ref a7])), (a4, .inl (gI G, 12, .inl (nA ss))), (a5, .inl (gI G, 12, .inl (nA su))), (a6, .inl (gI G, 12, .inl (nA sr)))] → va_S A s.heap H locs → ∀ ls : Array Slot, lv_has ls 4 [(3, .int (nI i)), (0, .ref a0), (1, .int (nI x)), (2, .int (nI y))] → W p l e ({ frames := 0, cells := 0, slots := 0, locals := 0 } : Room) s m args below meth c H locs 0 0 (MQ below (va_Qv (fun (u : Unit) => True) (cB G A (fun (u : Unit) => [(a0, .inr (4, [.int vc, .int vm, .ref a1, .ref a2, .ref a3, .ref a4, .ref a5, .ref a6, .int (nI q1), .int (nI q2), .int (nI q3), .ref a7])), (a4, .inl (gI G, 12, .inl (nA ss))), (a5, .inl (gI G, 12, .inl (nA su))), (a6, .inl (gI G, 12, .inl (nA sr)))])) A) args s 0 0 A) (F0 m 17 ls []) := by
    intro n_17
    induction n_17 with
    | zero =>
      intro i r1 r2 r3 h0
      exact absurd h0 (Nat.not_lt_zero _)
    | succ n_17 ih_17 =>
      intro i r1 r2 r3 hm_17 hi hr hb1 H locs hP hD hS ls hl
      refine lv_iload_n hx hb dX4_combine_17 rfl (lv_at hl 0 rfl) ?_
      refine lv_bipush (v := nI 12) hx hb dX4_combine_18 (by decide +kernel) ?_
      refine zb_ge (tgt := 95) S dX4_combine_20 (by decide) (by omega) (by decide) (fun c_20 => ?_) (fun c_20 => ?_)
      · skip
        have hi12 : i = 12 := by omega
        obtain rfl : i = 12 := hi12
        have hz := hr.symm.trans hq
        obtain rfl : q1 = r1 := Eq.symm (congrArg (·.1) hz)
        obtain rfl : q2 = r2 := Eq.symm (congrArg (·.2.1) hz)
        obtain rfl : q3 = r3 := Eq.symm (congrArg (·.2.2) hz)
        exact z_vret S hrt hlk hP hD hS () rfl trivial dX4_combine_95
      · skip
        refine lv_aload_n hx hb dX4_combine_23 rfl (lv_at hl 1 rfl) ?_
        refine z_get S K hP hX4_combine_X4 0 rfl rfl 8 (by decide) kX4_combine_1 rfl rfl dX4_combine_24 ?_
        refine lv_iload_n hx hb dX4_combine_27 rfl (lv_at hl 0 rfl) ?_
        refine zi_shr S dX4_combine_28 (by omega) (by omega) ?_
        refine lv_iconst (v := nI 1) hx hb dX4_combine_29 (by decide +kernel) ?_
        refine zi_and S dX4_combine_30 ?_
        refine lv_iconst (v := nI 1) hx hb dX4_combine_31 (by decide +kernel) ?_
        refine zb_ne (tgt := 89) S dX4_combine_32 (by decide) and1_31 (by decide) (fun c_32 => ?_) (fun c_32 => ?_)
        · skip
          refine lv_iinc (v := (nI (i + 1))) (lv' := [(3, .int (nI (i + 1))), (0, .ref a0), (1, .int (nI x)), (2, .int (nI y))]) hx hb dX4_combine_89 hl (k := 0) rfl (z_i1 _) (by decide) rfl (fun ls hl => ?_)
          refine lv_goto (tgt := 17) hx hb dX4_combine_92 (by decide) ?_
          exact ih_17 (i + 1) r1 r2 r3 (by omega) (by omega) (by first | exact red_hit hr c_32 c_41 | exact red_sk1 hr c_32 | exact red_sk2 hr c_41) (by first | assumption | exact xor12 hb1 (hss _)) _ _ hP hD hS _ (lv_sub hl [0, 1, 2, 3] rfl)
        · skip
          refine lv_aload_n hx hb dX4_combine_35 rfl (lv_at hl 1 rfl) ?_
          refine z_get S K hP hX4_combine_X4 0 rfl rfl 5 (by decide) kX4_combine_4 rfl rfl dX4_combine_36 ?_
          refine lv_iload_n hx hb dX4_combine_39 rfl (lv_at hl 0 rfl) ?_
          refine z_iald S K hP 1 rfl (by omega) (by decide) dX4_combine_40 ?_
          have q_40 := hss i
          refine zf_eq (tgt := 89) S dX4_combine_41 (by decide) (by omega) (fun c_41 => ?_) (fun c_41 => ?_)
          · skip
            refine lv_iinc (v := (nI (i + 1))) (lv' := [(3, .int (nI (i + 1))), (0, .ref a0), (1, .int (nI x)), (2, .int (nI y))]) hx hb dX4_combine_89 hl (k := 0) rfl (z_i1 _) (by decide) rfl (fun ls hl => ?_)
            refine lv_goto (tgt := 17) hx hb dX4_combine_92 (by decide) ?_
            exact ih_17 (i + 1) r1 r2 r3 (by omega) (by omega) (by first | exact red_hit hr c_32 c_41 | exact red_sk1 hr c_32 | exact red_sk2 hr c_41) (by first | assumption | exact xor12 hb1 (hss _)) _ _ hP hD hS _ (lv_sub hl [0, 1, 2, 3] rfl)
          · skip
            refine lv_aload_n hx hb dX4_combine_44 rfl (lv_at hl 1 rfl) ?_
            refine lv_dup hx hb dX4_combine_45 rfl ?_
            refine z_get S K hP hX4_combine_X4 0 rfl rfl 8 (by decide) kX4_combine_1 rfl rfl dX4_combine_46 ?_
            refine lv_aload_n hx hb dX4_combine_49 rfl (lv_at hl 1 rfl) ?_
            refine z_get S K hP hX4_combine_X4 0 rfl rfl 5 (by decide) kX4_combine_4 rfl rfl dX4_combine_50 ?_
            refine lv_iload_n hx hb dX4_combine_53 rfl (lv_at hl 0 rfl) ?_
            refine z_iald S K hP 1 rfl (by omega) (by decide) dX4_combine_54 ?_
            have q_54 := hss i
            refine zi_xor S dX4_combine_55 ?_
            refine z_put S K hP hD hS (ty0 := tyX4) hX4_combine_X4 tyX4_ok nmX4 0 rfl rfl 8 (by decide) kX4_combine_1 rfl rfl rfl rfl (Nat.le_of_ble_eq_true rfl) dX4_combine_56 (fun H locs hP hD hS => ?_)
            have hP : va_P (gD G) vwCl [(a0, .inr (4, [.int vc, .int vm, .ref a1, .ref a2, .ref a3, .ref a4, .ref a5, .ref a6, .int (nI (r1 ^^^ (ss i))), .int (nI r2), .int (nI r3), .ref a7])), (a4, .inl (gI G, 12, .inl (nA ss))), (a5, .inl (gI G, 12, .inl (nA su))), (a6, .inl (gI G, 12, .inl (nA sr)))] H := hP
            have hD : va_D A [(a0, .inr (4, [.int vc, .int vm, .ref a1, .ref a2, .ref a3, .ref a4, .ref a5, .ref a6, .int (nI (r1 ^^^ (ss i))), .int (nI r2), .int (nI r3), .ref a7])), (a4, .inl (gI G, 12, .inl (nA ss))), (a5, .inl (gI G, 12, .inl (nA su))), (a6, .inl (gI G, 12, .inl (nA sr)))] := hD
            refine lv_aload_n hx hb dX4_combine_59 rfl (lv_at hl 1 rfl) ?_
            refine lv_dup hx hb dX4_combine_60 rfl ?_
            refine z_get S K hP hX4_combine_X4 0 rfl rfl 9 (by decide) kX4_combine_2 rfl rfl dX4_combine_61 ?_
            refine lv_aload_n hx hb dX4_combine_64 rfl (lv_at hl 1 rfl) ?_
            refine z_get S K hP hX4_combine_X4 0 rfl rfl 6 (by decide) kX4_combine_5 rfl rfl dX4_combine_65 ?_
            refine lv_iload_n hx hb dX4_combine_68 rfl (lv_at hl 0 rfl) ?_
            refine z_iald S K hP 2 rfl (by omega) (by decide) dX4_combine_69 ?_
            refine zi_xor S dX4_combine_70 ?_
            refine z_put S K hP hD hS (ty0 := tyX4) hX4_combine_X4 tyX4_ok nmX4 0 rfl rfl 9 (by decide) kX4_combine_2 rfl rfl rfl rfl (Nat.le_of_ble_eq_true rfl) dX4_combine_71 (fun H locs hP hD hS => ?_)
            have hP : va_P (gD G) vwCl [(a0, .inr (4, [.int vc, .int vm, .ref a1, .ref a2, .ref a3, .ref a4, .ref a5, .ref a6, .int (nI (r1 ^^^ (ss i))), .int (nI (r2 ^^^ (su i))), .int (nI r3), .ref a7])), (a4, .inl (gI G, 12, .inl (nA ss))), (a5, .inl (gI G, 12, .inl (nA su))), (a6, .inl (gI G, 12, .inl (nA sr)))] H := hP
            have hD : va_D A [(a0, .inr (4, [.int vc, .int vm, .ref a1, .ref a2, .ref a3, .ref a4, .ref a5, .ref a6, .int (nI (r1 ^^^ (ss i))), .int (nI (r2 ^^^ (su i))), .int (nI r3), .ref a7])), (a4, .inl (gI G, 12, .inl (nA ss))), (a5, .inl (gI G, 12, .inl (nA su))), (a6, .inl (gI G, 12, .inl (nA sr)))] := hD
            refine lv_aload_n hx hb dX4_combine_74 rfl (lv_at hl 1 rfl) ?_
            refine lv_dup hx hb dX4_combine_75 rfl ?_
            refine z_get S K hP hX4_combine_X4 0 rfl rfl 10 (by decide) kX4_combine_3 rfl rfl dX4_combine_76 ?_
            refine lv_aload_n hx hb dX4_combine_79 rfl (lv_at hl 1 rfl) ?_
            refine z_get S K hP hX4_combine_X4 0 rfl rfl 7 (by decide) kX4_combine_6 rfl rfl dX4_combine_80 ?_
            refine lv_iload_n hx hb dX4_combine_83 rfl (lv_at hl 0 rfl) ?_
            refine z_iald S K hP 3 rfl (by omega) (by decide) dX4_combine_84 ?_
            refine zi_xor S dX4_combine_85 ?_
            refine z_put S K hP hD hS (ty0 := tyX4) hX4_combine_X4 tyX4_ok nmX4 0 rfl rfl 10 (by decide) kX4_combine_3 rfl rfl rfl rfl (Nat.le_of_ble_eq_true rfl) dX4_combine_86 (fun H locs hP hD hS => ?_)
            have hP : va_P (gD G) vwCl [(a0, .inr (4, [.int vc, .int vm, .ref a1, .ref a2, .ref a3, .ref a4, .ref a5, .ref a6, .int (nI (r1 ^^^ (ss i))), .int (nI (r2 ^^^ (su i))), .int (nI (r3 ^^^ (sr i))), .ref a7])), (a4, .inl (gI G, 12, .inl (nA ss))), (a5, .inl (gI G, 12, .inl (nA su))), (a6, .inl (gI G, 12, .inl (nA sr)))] H := hP
            have hD : va_D A [(a0, .inr (4, [.int vc, .int vm, .ref a1, .ref a2, .ref a3, .ref a4, .ref a5, .ref a6, .int (nI (r1 ^^^ (ss i))), .int (nI (r2 ^^^ (su i))), .int (nI (r3 ^^^ (sr i))), .ref a7])), (a4, .inl (gI G, 12, .inl (nA ss))), (a5, .inl (gI G, 12, .inl (nA su))), (a6, .inl (gI G, 12, .inl (nA sr)))] := hD
            refine lv_iinc (v := (nI (i + 1))) (lv' := [(3, .int (nI (i + 1))), (0, .ref a0), (1, .int (nI x)), (2, .int (nI y))]) hx hb dX4_combine_89 hl (k := 0) rfl (z_i1 _) (by decide) rfl (fun ls hl => ?_)
            refine lv_goto (tgt := 17) hx hb dX4_combine_92 (by decide) ?_
            exact ih_17 (i + 1) (r1 ^^^ (ss i)) (r2 ^^^ (su i)) (r3 ^^^ (sr i)) (by omega) (by omega) (by first | exact red_hit hr c_32 c_41 | exact red_sk1 hr c_32 | exact red_sk2 hr c_41) (by first | assumption | exact xor12 hb1 (hss _)) _ _ hP hD hS _ (lv_sub hl [0, 1, 2, 3] rfl)
  exact lp_17 _ 0 x y 0 (Nat.lt_succ_self _) (by omega) rfl hx0 _ _ hP hD hS _ (lv_sub hl [0, 1, 2, 3] rfl)
set_option maxHeartbeats 4000000 in
set_option maxRecDepth 100000 in
theorem c_X4_stateOf (l : Launch) (G : gT) (a0 a1 a2 a3 a4 a5 a6 a7 : Nat) (vc : Int32) (vm : Int32) (rs : Int32) (rm : Int32) (rr : Int32) (ss : Nat → Nat) (su : Nat → Nat) (sr : Nat → Nat) (x : Nat) (y : Nat) (q1 : Nat) (q2 : Nat) (q3 : Nat) (hx0 : x < 4096) (hss : ∀ j, ss j < 4096) (hq : red ss su sr 12 (x, y, 0) = (q1, q2, q3)) (hq1 : q1 < 4096) (hq2 : q2 ≤ 1) : CI l yX4_stateOf wsX4_stateOf ({ frames := 1, cells := 0, slots := 0, locals := 23 } : Room) G [.ref a0, .int (nI x), .int (nI y)] [(a0, .inr (4, [.int vc, .int vm, .ref a1, .ref a2, .ref a3, .ref a4, .ref a5, .ref a6, .int rs, .int rm, .int rr, .ref a7])), (a4, .inl (gI G, 12, .inl (nA ss))), (a5, .inl (gI G, 12, .inl (nA su))), (a6, .inl (gI G, 12, .inl (nA sr)))] 0 0 (fun (r : Int32) (u : Unit) => r = nI (sto q1 q2)) (fun (u : Unit) => [(a0, .inr (4, [.int vc, .int vm, .ref a1, .ref a2, .ref a3, .ref a4, .ref a5, .ref a6, .int (nI q1), .int (nI q2), .int (nI q3), .ref a7])), (a4, .inl (gI G, 12, .inl (nA ss))), (a5, .inl (gI G, 12, .inl (nA su))), (a6, .inl (gI G, 12, .inl (nA sr)))]) := by
  refine CI.of (cc := cX4_stateOf) (maxL := 3) (ret := (some .int)) (by decide +kernel) rfl (Nat.le_of_ble_eq_true rfl) rfl (fun p e s m args below meth c A S hrt hlk hnm K hA hP hD hS ls hl => ?_)
  have hx := S.1
  have hb := S.2.1
  have hl : lv_has ls 3 [(0, .ref a0), (1, .int (nI x)), (2, .int (nI y))] := hl
  refine lv_aload_n hx hb dX4_stateOf_0 rfl (lv_at hl 0 rfl) ?_
  refine lv_iload_n hx hb dX4_stateOf_1 rfl (lv_at hl 1 rfl) ?_
  refine lv_iload_n hx hb dX4_stateOf_2 rfl (lv_at hl 2 rfl) ?_
  refine zcVv (rest := []) S K hP hD hS hA hl.1 (c_X4_combine l G a0 a1 a2 a3 a4 a5 a6 a7 vc vm rs rm rr ss su sr x y q1 q2 q3 hx0 hss hq) rfl rfl gX4_stateOf_X4_combine rfl eX4_combine [0, 1, 2, 3] (by decide +kernel) rfl (fun _ => rfl) 4 0 rfl rfl rfl rfl rfl (Nat.le_of_ble_eq_true rfl) (Nat.le_of_ble_eq_true rfl) (Nat.le_of_ble_eq_true rfl) ⟨Nat.zero_le _, Nat.zero_le _⟩ dX4_stateOf_3 (fun u_3 H locs hw_3 hP hD hS => ?_)
  obtain ⟨hP, hD⟩ := mx_ok [some 0, some 1, some 2, some 3] (by decide +kernel) rfl rfl hP hD
  have hP : va_P (gD G) vwCl [(a0, .inr (4, [.int vc, .int vm, .ref a1, .ref a2, .ref a3, .ref a4, .ref a5, .ref a6, .int (nI q1), .int (nI q2), .int (nI q3), .ref a7])), (a4, .inl (gI G, 12, .inl (nA ss))), (a5, .inl (gI G, 12, .inl (nA su))), (a6, .inl (gI G, 12, .inl (nA sr)))] H := hP
  have hD : va_D A [(a0, .inr (4, [.int vc, .int vm, .ref a1, .ref a2, .ref a3, .ref a4, .ref a5, .ref a6, .int (nI q1), .int (nI q2), .int (nI q3), .ref a7])), (a4, .inl (gI G, 12, .inl (nA ss))), (a5, .inl (gI G, 12, .inl (nA su))), (a6, .inl (gI G, 12, .inl (nA sr)))] := hD
  refine lv_aload_n hx hb dX4_stateOf_6 rfl (lv_at hl 0 rfl) ?_
  refine z_get S K hP hX4_stateOf_X4 0 rfl rfl 8 (by decide) kX4_stateOf_1 rfl rfl dX4_stateOf_7 ?_
  refine zf_eq (tgt := 15) S dX4_stateOf_10 (by decide) (by omega) (fun c_10 => ?_) (fun c_10 => ?_)
  · skip
    refine lv_aload_n hx hb dX4_stateOf_15 rfl (lv_at hl 0 rfl) ?_
    refine z_get S K hP hX4_stateOf_X4 0 rfl rfl 9 (by decide) kX4_stateOf_2 rfl rfl dX4_stateOf_16 ?_
    refine zf_ne (tgt := 26) S dX4_stateOf_19 (by decide) (by omega) (fun c_19 => ?_) (fun c_19 => ?_)
    · skip
      refine lv_iconst (v := nI 2) hx hb dX4_stateOf_26 (by decide +kernel) ?_
      refine z_top (y := nI (sto q1 q2)) (congrArg nI (by unfold sto; first | rw [if_pos c_10, if_pos c_19] | rw [if_pos c_10, if_neg c_19] | rw [if_neg c_10])) ?_
      exact z_iret S hrt hlk hP hD hS () rfl rfl dX4_stateOf_27
    · skip
      refine lv_iconst (v := nI 1) hx hb dX4_stateOf_22 (by decide +kernel) ?_
      refine lv_goto (tgt := 27) hx hb dX4_stateOf_23 (by decide) ?_
      refine z_top (y := nI (sto q1 q2)) (congrArg nI (by unfold sto; first | rw [if_pos c_10, if_pos c_19] | rw [if_pos c_10, if_neg c_19] | rw [if_neg c_10])) ?_
      exact z_iret S hrt hlk hP hD hS () rfl rfl dX4_stateOf_27
  · skip
    refine lv_iconst (v := nI 0) hx hb dX4_stateOf_13 (by decide +kernel) ?_
    refine z_top (y := nI (sto q1 q2)) (congrArg nI (by unfold sto; first | rw [if_pos c_10, if_pos c_19] | rw [if_pos c_10, if_neg c_19] | rw [if_neg c_10])) ?_
    exact z_iret S hrt hlk hP hD hS () rfl rfl dX4_stateOf_14
set_option maxHeartbeats 4000000 in
set_option maxRecDepth 100000 in
theorem c_X4_sumOf (l : Launch) (G : gT) (a0 a1 a2 a3 a4 a5 a6 a7 : Nat) (vc : Int32) (vm : Int32) (rs : Int32) (rm : Int32) (rr : Int32) (ss : Nat → Nat) (su : Nat → Nat) (sr : Nat → Nat) (x : Nat) (q1 : Nat) (q2 : Nat) (q3 : Nat) (hx0 : x < 4096) (hss : ∀ j, ss j < 4096) (hq : red ss su sr 12 (x, 0, 0) = (q1, q2, q3)) (hq1 : q1 < 4096) (hq2 : q2 ≤ 1) : CI l yX4_sumOf wsX4_sumOf ({ frames := 1, cells := 0, slots := 0, locals := 23 } : Room) G [.ref a0, .int (nI x)] [(a0, .inr (4, [.int vc, .int vm, .ref a1, .ref a2, .ref a3, .ref a4, .ref a5, .ref a6, .int rs, .int rm, .int rr, .ref a7])), (a4, .inl (gI G, 12, .inl (nA ss))), (a5, .inl (gI G, 12, .inl (nA su))), (a6, .inl (gI G, 12, .inl (nA sr)))] 0 0 (fun (r : Int32) (u : Unit) => r = (if q1 = 0 then nI q2 else -6)) (fun (u : Unit) => [(a0, .inr (4, [.int vc, .int vm, .ref a1, .ref a2, .ref a3, .ref a4, .ref a5, .ref a6, .int (nI q1), .int (nI q2), .int (nI q3), .ref a7])), (a4, .inl (gI G, 12, .inl (nA ss))), (a5, .inl (gI G, 12, .inl (nA su))), (a6, .inl (gI G, 12, .inl (nA sr)))]) := by
  refine CI.of (cc := cX4_sumOf) (maxL := 2) (ret := (some .int)) (by decide +kernel) rfl (Nat.le_of_ble_eq_true rfl) rfl (fun p e s m args below meth c A S hrt hlk hnm K hA hP hD hS ls hl => ?_)
  have hx := S.1
  have hb := S.2.1
  have hl : lv_has ls 2 [(0, .ref a0), (1, .int (nI x))] := hl
  refine lv_aload_n hx hb dX4_sumOf_0 rfl (lv_at hl 0 rfl) ?_
  refine lv_iload_n hx hb dX4_sumOf_1 rfl (lv_at hl 1 rfl) ?_
  refine lv_iconst (v := nI 0) hx hb dX4_sumOf_2 (by decide +kernel) ?_
  refine zcVv (rest := []) S K hP hD hS hA hl.1 (c_X4_combine l G a0 a1 a2 a3 a4 a5 a6 a7 vc vm rs rm rr ss su sr x 0 q1 q2 q3 hx0 hss hq) rfl rfl gX4_sumOf_X4_combine rfl eX4_combine [0, 1, 2, 3] (by decide +kernel) rfl (fun _ => rfl) 4 0 rfl rfl rfl rfl rfl (Nat.le_of_ble_eq_true rfl) (Nat.le_of_ble_eq_true rfl) (Nat.le_of_ble_eq_true rfl) ⟨Nat.zero_le _, Nat.zero_le _⟩ dX4_sumOf_3 (fun u_3 H locs hw_3 hP hD hS => ?_)
  obtain ⟨hP, hD⟩ := mx_ok [some 0, some 1, some 2, some 3] (by decide +kernel) rfl rfl hP hD
  have hP : va_P (gD G) vwCl [(a0, .inr (4, [.int vc, .int vm, .ref a1, .ref a2, .ref a3, .ref a4, .ref a5, .ref a6, .int (nI q1), .int (nI q2), .int (nI q3), .ref a7])), (a4, .inl (gI G, 12, .inl (nA ss))), (a5, .inl (gI G, 12, .inl (nA su))), (a6, .inl (gI G, 12, .inl (nA sr)))] H := hP
  have hD : va_D A [(a0, .inr (4, [.int vc, .int vm, .ref a1, .ref a2, .ref a3, .ref a4, .ref a5, .ref a6, .int (nI q1), .int (nI q2), .int (nI q3), .ref a7])), (a4, .inl (gI G, 12, .inl (nA ss))), (a5, .inl (gI G, 12, .inl (nA su))), (a6, .inl (gI G, 12, .inl (nA sr)))] := hD
  refine lv_aload_n hx hb dX4_sumOf_6 rfl (lv_at hl 0 rfl) ?_
  refine z_get S K hP hX4_sumOf_X4 0 rfl rfl 8 (by decide) kX4_sumOf_1 rfl rfl dX4_sumOf_7 ?_
  refine zf_ne (tgt := 20) S dX4_sumOf_10 (by decide) (by omega) (fun c_10 => ?_) (fun c_10 => ?_)
  · skip
    refine lv_bipush (v := -6) hx hb dX4_sumOf_20 (by decide +kernel) ?_
    refine z_top (y := (if q1 = 0 then nI q2 else -6)) (by first | rw [if_pos c_10] | rw [if_neg c_10]) ?_
    exact z_iret S hrt hlk hP hD hS () rfl rfl dX4_sumOf_22
  · skip
    refine lv_aload_n hx hb dX4_sumOf_13 rfl (lv_at hl 0 rfl) ?_
    refine z_get S K hP hX4_sumOf_X4 0 rfl rfl 9 (by decide) kX4_sumOf_2 rfl rfl dX4_sumOf_14 ?_
    refine lv_goto (tgt := 22) hx hb dX4_sumOf_17 (by decide) ?_
    refine z_top (y := (if q1 = 0 then nI q2 else -6)) (by first | rw [if_pos c_10] | rw [if_neg c_10]) ?_
    exact z_iret S hrt hlk hP hD hS () rfl rfl dX4_sumOf_22
set_option maxHeartbeats 4000000 in
set_option maxRecDepth 100000 in
theorem c_X4_judgeNext (l : Launch) (G : gT) (a0 a1 a2 a3 a4 a5 a6 a7 : Nat) (vc : Int32) (rs : Int32) (rm : Int32) (rr : Int32) (n : Nat) (f : Nat → Nat) (g : Nat → Nat) (st : Nat → Nat) (re : Nat → Nat) (ta : Nat → Nat) (ss : Nat → Nat) (su : Nat → Nat) (sr : Nat → Nat) (hn : n < 20) (hf : f n < 4096) (hg : g n ≤ 1) (hV : VI f g n st re ta ss su sr) : CV l yX4_judgeNext wsX4_judgeNext ({ frames := 2, cells := 0, slots := 0, locals := 45 } : Room) G [.ref a0, .int (nI (f n)), .int (nI (g n))] [(a0, .inr (4, [.int vc, .int (nI n), .ref a1, .ref a2, .ref a3, .ref a4, .ref a5, .ref a6, .int rs, .int rm, .int rr, .ref a7])), (a1, .inl (gI G, 20, .inl (nA st))), (a2, .inl (gI G, 20, .inl (nA re))), (a3, .inl (gI G, 3, .inl (nA ta))), (a4, .inl (gI G, 12, .inl (nA ss))), (a5, .inl (gI G, 12, .inl (nA su))), (a6, .inl (gI G, 12, .inl (nA sr)))] 0 0 (fun (u : Int32 × Int32 × Int32 × (Nat → Nat) × (Nat → Nat) × (Nat → Nat) × (Nat → Nat) × (Nat → Nat) × (Nat → Nat)) => VI f g (n + 1) u.2.2.2.1 u.2.2.2.2.1 u.2.2.2.2.2.1 u.2.2.2.2.2.2.1 u.2.2.2.2.2.2.2.1 u.2.2.2.2.2.2.2.2) (fun (u : Int32 × Int32 × Int32 × (Nat → Nat) × (Nat → Nat) × (Nat → Nat) × (Nat → Nat) × (Nat → Nat) × (Nat → Nat)) => [(a0, .inr (4, [.int vc, .int (nI (n + 1)), .ref a1, .ref a2, .ref a3, .ref a4, .ref a5, .ref a6, .int u.1, .int u.2.1, .int u.2.2.1, .ref a7])), (a1, .inl (gI G, 20, .inl (nA u.2.2.2.1))), (a2, .inl (gI G, 20, .inl (nA u.2.2.2.2.1))), (a3, .inl (gI G, 3, .inl (nA u.2.2.2.2.2.1))), (a4, .inl (gI G, 12, .inl (nA u.2.2.2.2.2.2.1))), (a5, .inl (gI G, 12, .inl (nA u.2.2.2.2.2.2.2.1))), (a6, .inl (gI G, 12, .inl (nA u.2.2.2.2.2.2.2.2)))]) := by
  refine CV.of (cc := cX4_judgeNext) (maxL := 5) (ret := none) (by decide +kernel) rfl (Nat.le_of_ble_eq_true rfl) rfl (fun p e s m args below meth c A S hrt hlk hnm K hA hP hD hS ls hl => ?_)
  have hx := S.1
  have hb := S.2.1
  have hl : lv_has ls 5 [(0, .ref a0), (1, .int (nI (f n))), (2, .int (nI (g n)))] := hl
  obtain ⟨q1, q2, q3, hq⟩ : ∃ a b d, red ss su sr 12 (f n, g n, 0) = (a, b, d) := ⟨_, _, _, rfl⟩
  have hss := hV.2.2.2.2.1
  have hsu := hV.2.2.2.2.2.1
  have hq1 : q1 < 4096 := by have := red_lt (su := su) (sr := sr) hss (b := g n) (m0 := 0) hf 12; rw [hq] at this; exact this
  have hq2 : q2 ≤ 1 := by have := red_le1 (sr := sr) hsu (v := f n) (m0 := 0) hg 12; rw [hq] at this; exact this
  have hsto := vi_sto hV hq
  have hk2 := stt_le f g n (f n) (g n)
  refine lv_aload_n hx hb dX4_judgeNext_0 rfl (lv_at hl 0 rfl) ?_
  refine lv_iload_n hx hb dX4_judgeNext_1 rfl (lv_at hl 1 rfl) ?_
  refine lv_iload_n hx hb dX4_judgeNext_2 rfl (lv_at hl 2 rfl) ?_
  refine zcVi (rest := []) S K hP hD hS hA hl.1 (c_X4_stateOf l G a0 a1 a2 a3 a4 a5 a6 a7 vc (nI n) rs rm rr ss su sr (f n) (g n) q1 q2 q3 hf hss hq hq1 hq2) rfl rfl gX4_judgeNext_X4_stateOf rfl eX4_stateOf [0, 4, 5, 6] (by decide +kernel) rfl (fun _ => rfl) 4 0 rfl rfl rfl rfl rfl (Nat.le_of_ble_eq_true rfl) (Nat.le_of_ble_eq_true rfl) (Nat.le_of_ble_eq_true rfl) ⟨Nat.zero_le _, Nat.zero_le _⟩ dX4_judgeNext_3 (fun r_3 u_3 H locs hw_3 hP hD hS => ?_)
  obtain ⟨hP, hD⟩ := mx_ok [some 0, none, none, none, some 1, some 2, some 3] (by decide +kernel) rfl rfl hP hD
  replace hw_3 : r_3 = nI (sto q1 q2) := hw_3
  obtain rfl := hw_3
  have hP : va_P (gD G) vwCl [(a0, .inr (4, [.int vc, .int (nI n), .ref a1, .ref a2, .ref a3, .ref a4, .ref a5, .ref a6, .int (nI q1), .int (nI q2), .int (nI q3), .ref a7])), (a1, .inl (gI G, 20, .inl (nA st))), (a2, .inl (gI G, 20, .inl (nA re))), (a3, .inl (gI G, 3, .inl (nA ta))), (a4, .inl (gI G, 12, .inl (nA ss))), (a5, .inl (gI G, 12, .inl (nA su))), (a6, .inl (gI G, 12, .inl (nA sr)))] H := hP
  have hD : va_D A [(a0, .inr (4, [.int vc, .int (nI n), .ref a1, .ref a2, .ref a3, .ref a4, .ref a5, .ref a6, .int (nI q1), .int (nI q2), .int (nI q3), .ref a7])), (a1, .inl (gI G, 20, .inl (nA st))), (a2, .inl (gI G, 20, .inl (nA re))), (a3, .inl (gI G, 3, .inl (nA ta))), (a4, .inl (gI G, 12, .inl (nA ss))), (a5, .inl (gI G, 12, .inl (nA su))), (a6, .inl (gI G, 12, .inl (nA sr)))] := hD
  refine z_top (y := nI (stt f g n (f n) (g n))) (congrArg nI hsto) ?_
  refine lv_istore_n (lv' := [(3, .int (nI (stt f g n (f n) (g n)))), (0, .ref a0), (1, .int (nI (f n))), (2, .int (nI (g n)))]) hx hb dX4_judgeNext_6 rfl hl (by decide) rfl (fun ls hl => ?_)
  refine lv_iload_n hx hb dX4_judgeNext_7 rfl (lv_at hl 0 rfl) ?_
  refine zf_ne (tgt := 60) S dX4_judgeNext_8 (by decide) (by omega) (fun c_8 => ?_) (fun c_8 => ?_)
  · skip
    have hq0 : q1 = 0 := by rcases Nat.eq_zero_or_pos q1 with z | z; exact z; exact absurd (by rw [← hsto]; exact if_neg (by omega)) c_8
    refine lv_aload_n hx hb dX4_judgeNext_60 rfl (lv_at hl 1 rfl) ?_
    refine z_get S K hP hX4_judgeNext_X4 0 rfl rfl 2 (by decide) kX4_judgeNext_8 rfl rfl dX4_judgeNext_61 ?_
    refine lv_aload_n hx hb dX4_judgeNext_64 rfl (lv_at hl 1 rfl) ?_
    refine z_get S K hP hX4_judgeNext_X4 0 rfl rfl 1 (by decide) kX4_judgeNext_7 rfl rfl dX4_judgeNext_65 ?_
    refine lv_iload_n hx hb dX4_judgeNext_68 rfl (lv_at hl 0 rfl) ?_
    refine z_iast S K hP hD hS 1 rfl hn (by decide) dX4_judgeNext_69 (fun H locs hP hD hS => ?_)
    have hP : va_P (gD G) vwCl [(a0, .inr (4, [.int vc, .int (nI n), .ref a1, .ref a2, .ref a3, .ref a4, .ref a5, .ref a6, .int (nI q1), .int (nI q2), .int (nI q3), .ref a7])), (a1, .inl (gI G, 20, .inl (nA (pu st n (stt f g n (f n) (g n)))))), (a2, .inl (gI G, 20, .inl (nA re))), (a3, .inl (gI G, 3, .inl (nA ta))), (a4, .inl (gI G, 12, .inl (nA ss))), (a5, .inl (gI G, 12, .inl (nA su))), (a6, .inl (gI G, 12, .inl (nA sr)))] H := hP
    have hD : va_D A [(a0, .inr (4, [.int vc, .int (nI n), .ref a1, .ref a2, .ref a3, .ref a4, .ref a5, .ref a6, .int (nI q1), .int (nI q2), .int (nI q3), .ref a7])), (a1, .inl (gI G, 20, .inl (nA (pu st n (stt f g n (f n) (g n)))))), (a2, .inl (gI G, 20, .inl (nA re))), (a3, .inl (gI G, 3, .inl (nA ta))), (a4, .inl (gI G, 12, .inl (nA ss))), (a5, .inl (gI G, 12, .inl (nA su))), (a6, .inl (gI G, 12, .inl (nA sr)))] := hD
    refine lv_aload_n hx hb dX4_judgeNext_70 rfl (lv_at hl 1 rfl) ?_
    refine z_get S K hP hX4_judgeNext_X4 0 rfl rfl 3 (by decide) kX4_judgeNext_9 rfl rfl dX4_judgeNext_71 ?_
    refine lv_aload_n hx hb dX4_judgeNext_74 rfl (lv_at hl 1 rfl) ?_
    refine z_get S K hP hX4_judgeNext_X4 0 rfl rfl 1 (by decide) kX4_judgeNext_7 rfl rfl dX4_judgeNext_75 ?_
    refine lv_iload_n hx hb dX4_judgeNext_78 rfl (lv_at hl 0 rfl) ?_
    refine zf_ne (tgt := 86) S dX4_judgeNext_79 (by decide) (by omega) (fun c_79 => ?_) (fun c_79 => ?_)
    · skip
      refine lv_aload_n hx hb dX4_judgeNext_86 rfl (lv_at hl 1 rfl) ?_
      refine z_get S K hP hX4_judgeNext_X4 0 rfl rfl 10 (by decide) kX4_judgeNext_6 rfl rfl dX4_judgeNext_87 ?_
      refine z_iast S K hP hD hS 2 rfl hn (by decide) dX4_judgeNext_90 (fun H locs hP hD hS => ?_)
      have hP : va_P (gD G) vwCl [(a0, .inr (4, [.int vc, .int (nI n), .ref a1, .ref a2, .ref a3, .ref a4, .ref a5, .ref a6, .int (nI q1), .int (nI q2), .int (nI q3), .ref a7])), (a1, .inl (gI G, 20, .inl (nA (pu st n (stt f g n (f n) (g n)))))), (a2, .inl (gI G, 20, .inl (nA (pu re n q3)))), (a3, .inl (gI G, 3, .inl (nA ta))), (a4, .inl (gI G, 12, .inl (nA ss))), (a5, .inl (gI G, 12, .inl (nA su))), (a6, .inl (gI G, 12, .inl (nA sr)))] H := hP
      have hD : va_D A [(a0, .inr (4, [.int vc, .int (nI n), .ref a1, .ref a2, .ref a3, .ref a4, .ref a5, .ref a6, .int (nI q1), .int (nI q2), .int (nI q3), .ref a7])), (a1, .inl (gI G, 20, .inl (nA (pu st n (stt f g n (f n) (g n)))))), (a2, .inl (gI G, 20, .inl (nA (pu re n q3)))), (a3, .inl (gI G, 3, .inl (nA ta))), (a4, .inl (gI G, 12, .inl (nA ss))), (a5, .inl (gI G, 12, .inl (nA su))), (a6, .inl (gI G, 12, .inl (nA sr)))] := hD
      refine lv_aload_n hx hb dX4_judgeNext_91 rfl (lv_at hl 1 rfl) ?_
      refine z_get S K hP hX4_judgeNext_X4 0 rfl rfl 4 (by decide) kX4_judgeNext_10 rfl rfl dX4_judgeNext_92 ?_
      refine lv_iload_n hx hb dX4_judgeNext_95 rfl (lv_at hl 0 rfl) ?_
      refine lv_dup2_11 hx hb dX4_judgeNext_96 rfl rfl ?_
      refine z_iald S K hP 3 rfl (by omega) (by decide) dX4_judgeNext_97 ?_
      refine lv_iconst (v := nI 1) hx hb dX4_judgeNext_98 (by decide +kernel) ?_
      refine zi_add S dX4_judgeNext_99 ?_
      refine z_iast S K hP hD hS 3 rfl (by omega) (by decide) dX4_judgeNext_100 (fun H locs hP hD hS => ?_)
      have hP : va_P (gD G) vwCl [(a0, .inr (4, [.int vc, .int (nI n), .ref a1, .ref a2, .ref a3, .ref a4, .ref a5, .ref a6, .int (nI q1), .int (nI q2), .int (nI q3), .ref a7])), (a1, .inl (gI G, 20, .inl (nA (pu st n (stt f g n (f n) (g n)))))), (a2, .inl (gI G, 20, .inl (nA (pu re n q3)))), (a3, .inl (gI G, 3, .inl (nA (pu ta (stt f g n (f n) (g n)) ((ta (stt f g n (f n) (g n))) + 1))))), (a4, .inl (gI G, 12, .inl (nA ss))), (a5, .inl (gI G, 12, .inl (nA su))), (a6, .inl (gI G, 12, .inl (nA sr)))] H := hP
      have hD : va_D A [(a0, .inr (4, [.int vc, .int (nI n), .ref a1, .ref a2, .ref a3, .ref a4, .ref a5, .ref a6, .int (nI q1), .int (nI q2), .int (nI q3), .ref a7])), (a1, .inl (gI G, 20, .inl (nA (pu st n (stt f g n (f n) (g n)))))), (a2, .inl (gI G, 20, .inl (nA (pu re n q3)))), (a3, .inl (gI G, 3, .inl (nA (pu ta (stt f g n (f n) (g n)) ((ta (stt f g n (f n) (g n))) + 1))))), (a4, .inl (gI G, 12, .inl (nA ss))), (a5, .inl (gI G, 12, .inl (nA su))), (a6, .inl (gI G, 12, .inl (nA sr)))] := hD
      refine lv_aload_n hx hb dX4_judgeNext_101 rfl (lv_at hl 1 rfl) ?_
      refine lv_dup hx hb dX4_judgeNext_102 rfl ?_
      refine z_get S K hP hX4_judgeNext_X4 0 rfl rfl 1 (by decide) kX4_judgeNext_7 rfl rfl dX4_judgeNext_103 ?_
      refine lv_iconst (v := nI 1) hx hb dX4_judgeNext_106 (by decide +kernel) ?_
      refine zi_add S dX4_judgeNext_107 ?_
      refine z_put S K hP hD hS (ty0 := tyX4) hX4_judgeNext_X4 tyX4_ok nmX4 0 rfl rfl 1 (by decide) kX4_judgeNext_7 rfl rfl rfl rfl (Nat.le_of_ble_eq_true rfl) dX4_judgeNext_108 (fun H locs hP hD hS => ?_)
      have hP : va_P (gD G) vwCl [(a0, .inr (4, [.int vc, .int (nI (n + 1)), .ref a1, .ref a2, .ref a3, .ref a4, .ref a5, .ref a6, .int (nI q1), .int (nI q2), .int (nI q3), .ref a7])), (a1, .inl (gI G, 20, .inl (nA (pu st n (stt f g n (f n) (g n)))))), (a2, .inl (gI G, 20, .inl (nA (pu re n q3)))), (a3, .inl (gI G, 3, .inl (nA (pu ta (stt f g n (f n) (g n)) ((ta (stt f g n (f n) (g n))) + 1))))), (a4, .inl (gI G, 12, .inl (nA ss))), (a5, .inl (gI G, 12, .inl (nA su))), (a6, .inl (gI G, 12, .inl (nA sr)))] H := hP
      have hD : va_D A [(a0, .inr (4, [.int vc, .int (nI (n + 1)), .ref a1, .ref a2, .ref a3, .ref a4, .ref a5, .ref a6, .int (nI q1), .int (nI q2), .int (nI q3), .ref a7])), (a1, .inl (gI G, 20, .inl (nA (pu st n (stt f g n (f n) (g n)))))), (a2, .inl (gI G, 20, .inl (nA (pu re n q3)))), (a3, .inl (gI G, 3, .inl (nA (pu ta (stt f g n (f n) (g n)) ((ta (stt f g n (f n) (g n))) + 1))))), (a4, .inl (gI G, 12, .inl (nA ss))), (a5, .inl (gI G, 12, .inl (nA su))), (a6, .inl (gI G, 12, .inl (nA sr)))] := hD
      exact z_vret S hrt hlk hP hD hS (nI q1, nI q2, nI q3, pu st n (stt f g n (f n) (g n)), pu re n q3, pu ta (stt f g n (f n) (g n)) ((ta (stt f g n (f n) (g n))) + 1), ss, su, sr) rfl (by first | exact vi_not hV hq hq0 _ rfl | exact vi_kept hV hq hf hg hq0 _ rfl) dX4_judgeNext_111
    · skip
      exact (by exfalso; exact c_8 c_79)
  · skip
    have hq0 : ¬ q1 = 0 := by intro z; rw [← hsto] at c_8; unfold sto at c_8; rw [if_pos z] at c_8; split at c_8 <;> omega
    have hlb := (lb_ok (n := q1) (by omega) hq1).1
    refine lv_aload_n hx hb dX4_judgeNext_11 rfl (lv_at hl 1 rfl) ?_
    refine z_get S K hP hX4_judgeNext_X4 0 rfl rfl 8 (by decide) kX4_judgeNext_1 rfl rfl dX4_judgeNext_12 ?_
    refine zcNi (rest := []) S K hP hD hS hA hl.1 (c_X5_lowestBit l G q1 (by omega) hq1) rfl rfl gX4_judgeNext_X5_lowestBit_n61 rfl (List.mem_of_getElem? (i := 8) rfl) kX4_judgeNext_21 kX4_judgeNext_20 eX5_lowestBit.2 [] (by decide +kernel) rfl (fun _ => rfl) rfl rfl (Nat.le_of_ble_eq_true rfl) (Nat.le_of_ble_eq_true rfl) (Nat.le_of_ble_eq_true rfl) ⟨Nat.zero_le _, Nat.zero_le _⟩ dX4_judgeNext_15 (fun r_15 u_15 H locs hw_15 hP hD hS => ?_)
    replace hw_15 : r_15 = nI (lb q1) := hw_15
    obtain rfl := hw_15
    have hP : va_P (gD G) vwCl [(a0, .inr (4, [.int vc, .int (nI n), .ref a1, .ref a2, .ref a3, .ref a4, .ref a5, .ref a6, .int (nI q1), .int (nI q2), .int (nI q3), .ref a7])), (a1, .inl (gI G, 20, .inl (nA st))), (a2, .inl (gI G, 20, .inl (nA re))), (a3, .inl (gI G, 3, .inl (nA ta))), (a4, .inl (gI G, 12, .inl (nA ss))), (a5, .inl (gI G, 12, .inl (nA su))), (a6, .inl (gI G, 12, .inl (nA sr)))] H := hP
    have hD : va_D A [(a0, .inr (4, [.int vc, .int (nI n), .ref a1, .ref a2, .ref a3, .ref a4, .ref a5, .ref a6, .int (nI q1), .int (nI q2), .int (nI q3), .ref a7])), (a1, .inl (gI G, 20, .inl (nA st))), (a2, .inl (gI G, 20, .inl (nA re))), (a3, .inl (gI G, 3, .inl (nA ta))), (a4, .inl (gI G, 12, .inl (nA ss))), (a5, .inl (gI G, 12, .inl (nA su))), (a6, .inl (gI G, 12, .inl (nA sr)))] := hD
    refine lv_istore (lv' := [(4, .int (nI (lb q1))), (3, .int (nI (stt f g n (f n) (g n)))), (0, .ref a0), (1, .int (nI (f n))), (2, .int (nI (g n)))]) hx hb dX4_judgeNext_18 hl (by decide) rfl (fun ls hl => ?_)
    refine lv_aload_n hx hb dX4_judgeNext_20 rfl (lv_at hl 2 rfl) ?_
    refine z_get S K hP hX4_judgeNext_X4 0 rfl rfl 5 (by decide) kX4_judgeNext_2 rfl rfl dX4_judgeNext_21 ?_
    refine lv_iload hx hb dX4_judgeNext_24 (lv_at hl 0 rfl) ?_
    refine lv_aload_n hx hb dX4_judgeNext_26 rfl (lv_at hl 2 rfl) ?_
    refine z_get S K hP hX4_judgeNext_X4 0 rfl rfl 8 (by decide) kX4_judgeNext_1 rfl rfl dX4_judgeNext_27 ?_
    refine z_iast S K hP hD hS 4 rfl hlb (by decide) dX4_judgeNext_30 (fun H locs hP hD hS => ?_)
    have hP : va_P (gD G) vwCl [(a0, .inr (4, [.int vc, .int (nI n), .ref a1, .ref a2, .ref a3, .ref a4, .ref a5, .ref a6, .int (nI q1), .int (nI q2), .int (nI q3), .ref a7])), (a1, .inl (gI G, 20, .inl (nA st))), (a2, .inl (gI G, 20, .inl (nA re))), (a3, .inl (gI G, 3, .inl (nA ta))), (a4, .inl (gI G, 12, .inl (nA (pu ss (lb q1) q1)))), (a5, .inl (gI G, 12, .inl (nA su))), (a6, .inl (gI G, 12, .inl (nA sr)))] H := hP
    have hD : va_D A [(a0, .inr (4, [.int vc, .int (nI n), .ref a1, .ref a2, .ref a3, .ref a4, .ref a5, .ref a6, .int (nI q1), .int (nI q2), .int (nI q3), .ref a7])), (a1, .inl (gI G, 20, .inl (nA st))), (a2, .inl (gI G, 20, .inl (nA re))), (a3, .inl (gI G, 3, .inl (nA ta))), (a4, .inl (gI G, 12, .inl (nA (pu ss (lb q1) q1)))), (a5, .inl (gI G, 12, .inl (nA su))), (a6, .inl (gI G, 12, .inl (nA sr)))] := hD
    refine lv_aload_n hx hb dX4_judgeNext_31 rfl (lv_at hl 2 rfl) ?_
    refine z_get S K hP hX4_judgeNext_X4 0 rfl rfl 6 (by decide) kX4_judgeNext_3 rfl rfl dX4_judgeNext_32 ?_
    refine lv_iload hx hb dX4_judgeNext_35 (lv_at hl 0 rfl) ?_
    refine lv_aload_n hx hb dX4_judgeNext_37 rfl (lv_at hl 2 rfl) ?_
    refine z_get S K hP hX4_judgeNext_X4 0 rfl rfl 9 (by decide) kX4_judgeNext_4 rfl rfl dX4_judgeNext_38 ?_
    refine z_iast S K hP hD hS 5 rfl hlb (by decide) dX4_judgeNext_41 (fun H locs hP hD hS => ?_)
    have hP : va_P (gD G) vwCl [(a0, .inr (4, [.int vc, .int (nI n), .ref a1, .ref a2, .ref a3, .ref a4, .ref a5, .ref a6, .int (nI q1), .int (nI q2), .int (nI q3), .ref a7])), (a1, .inl (gI G, 20, .inl (nA st))), (a2, .inl (gI G, 20, .inl (nA re))), (a3, .inl (gI G, 3, .inl (nA ta))), (a4, .inl (gI G, 12, .inl (nA (pu ss (lb q1) q1)))), (a5, .inl (gI G, 12, .inl (nA (pu su (lb q1) q2)))), (a6, .inl (gI G, 12, .inl (nA sr)))] H := hP
    have hD : va_D A [(a0, .inr (4, [.int vc, .int (nI n), .ref a1, .ref a2, .ref a3, .ref a4, .ref a5, .ref a6, .int (nI q1), .int (nI q2), .int (nI q3), .ref a7])), (a1, .inl (gI G, 20, .inl (nA st))), (a2, .inl (gI G, 20, .inl (nA re))), (a3, .inl (gI G, 3, .inl (nA ta))), (a4, .inl (gI G, 12, .inl (nA (pu ss (lb q1) q1)))), (a5, .inl (gI G, 12, .inl (nA (pu su (lb q1) q2)))), (a6, .inl (gI G, 12, .inl (nA sr)))] := hD
    refine lv_aload_n hx hb dX4_judgeNext_42 rfl (lv_at hl 2 rfl) ?_
    refine z_get S K hP hX4_judgeNext_X4 0 rfl rfl 7 (by decide) kX4_judgeNext_5 rfl rfl dX4_judgeNext_43 ?_
    refine lv_iload hx hb dX4_judgeNext_46 (lv_at hl 0 rfl) ?_
    refine lv_aload_n hx hb dX4_judgeNext_48 rfl (lv_at hl 2 rfl) ?_
    refine z_get S K hP hX4_judgeNext_X4 0 rfl rfl 10 (by decide) kX4_judgeNext_6 rfl rfl dX4_judgeNext_49 ?_
    refine lv_iconst (v := nI 1) hx hb dX4_judgeNext_52 (by decide +kernel) ?_
    refine lv_aload_n hx hb dX4_judgeNext_53 rfl (lv_at hl 2 rfl) ?_
    refine z_get S K hP hX4_judgeNext_X4 0 rfl rfl 1 (by decide) kX4_judgeNext_7 rfl rfl dX4_judgeNext_54 ?_
    refine zi_shl S dX4_judgeNext_57 (by omega) ?_
    refine zi_or S dX4_judgeNext_58 ?_
    refine z_iast S K hP hD hS 6 rfl hlb (by decide) dX4_judgeNext_59 (fun H locs hP hD hS => ?_)
    have hP : va_P (gD G) vwCl [(a0, .inr (4, [.int vc, .int (nI n), .ref a1, .ref a2, .ref a3, .ref a4, .ref a5, .ref a6, .int (nI q1), .int (nI q2), .int (nI q3), .ref a7])), (a1, .inl (gI G, 20, .inl (nA st))), (a2, .inl (gI G, 20, .inl (nA re))), (a3, .inl (gI G, 3, .inl (nA ta))), (a4, .inl (gI G, 12, .inl (nA (pu ss (lb q1) q1)))), (a5, .inl (gI G, 12, .inl (nA (pu su (lb q1) q2)))), (a6, .inl (gI G, 12, .inl (nA (pu sr (lb q1) (q3 ||| (1 <<< n))))))] H := hP
    have hD : va_D A [(a0, .inr (4, [.int vc, .int (nI n), .ref a1, .ref a2, .ref a3, .ref a4, .ref a5, .ref a6, .int (nI q1), .int (nI q2), .int (nI q3), .ref a7])), (a1, .inl (gI G, 20, .inl (nA st))), (a2, .inl (gI G, 20, .inl (nA re))), (a3, .inl (gI G, 3, .inl (nA ta))), (a4, .inl (gI G, 12, .inl (nA (pu ss (lb q1) q1)))), (a5, .inl (gI G, 12, .inl (nA (pu su (lb q1) q2)))), (a6, .inl (gI G, 12, .inl (nA (pu sr (lb q1) (q3 ||| (1 <<< n))))))] := hD
    refine lv_aload_n hx hb dX4_judgeNext_60 rfl (lv_at hl 2 rfl) ?_
    refine z_get S K hP hX4_judgeNext_X4 0 rfl rfl 2 (by decide) kX4_judgeNext_8 rfl rfl dX4_judgeNext_61 ?_
    refine lv_aload_n hx hb dX4_judgeNext_64 rfl (lv_at hl 2 rfl) ?_
    refine z_get S K hP hX4_judgeNext_X4 0 rfl rfl 1 (by decide) kX4_judgeNext_7 rfl rfl dX4_judgeNext_65 ?_
    refine lv_iload_n hx hb dX4_judgeNext_68 rfl (lv_at hl 1 rfl) ?_
    refine z_iast S K hP hD hS 1 rfl hn (by decide) dX4_judgeNext_69 (fun H locs hP hD hS => ?_)
    have hP : va_P (gD G) vwCl [(a0, .inr (4, [.int vc, .int (nI n), .ref a1, .ref a2, .ref a3, .ref a4, .ref a5, .ref a6, .int (nI q1), .int (nI q2), .int (nI q3), .ref a7])), (a1, .inl (gI G, 20, .inl (nA (pu st n (stt f g n (f n) (g n)))))), (a2, .inl (gI G, 20, .inl (nA re))), (a3, .inl (gI G, 3, .inl (nA ta))), (a4, .inl (gI G, 12, .inl (nA (pu ss (lb q1) q1)))), (a5, .inl (gI G, 12, .inl (nA (pu su (lb q1) q2)))), (a6, .inl (gI G, 12, .inl (nA (pu sr (lb q1) (q3 ||| (1 <<< n))))))] H := hP
    have hD : va_D A [(a0, .inr (4, [.int vc, .int (nI n), .ref a1, .ref a2, .ref a3, .ref a4, .ref a5, .ref a6, .int (nI q1), .int (nI q2), .int (nI q3), .ref a7])), (a1, .inl (gI G, 20, .inl (nA (pu st n (stt f g n (f n) (g n)))))), (a2, .inl (gI G, 20, .inl (nA re))), (a3, .inl (gI G, 3, .inl (nA ta))), (a4, .inl (gI G, 12, .inl (nA (pu ss (lb q1) q1)))), (a5, .inl (gI G, 12, .inl (nA (pu su (lb q1) q2)))), (a6, .inl (gI G, 12, .inl (nA (pu sr (lb q1) (q3 ||| (1 <<< n))))))] := hD
    refine lv_aload_n hx hb dX4_judgeNext_70 rfl (lv_at hl 2 rfl) ?_
    refine z_get S K hP hX4_judgeNext_X4 0 rfl rfl 3 (by decide) kX4_judgeNext_9 rfl rfl dX4_judgeNext_71 ?_
    refine lv_aload_n hx hb dX4_judgeNext_74 rfl (lv_at hl 2 rfl) ?_
    refine z_get S K hP hX4_judgeNext_X4 0 rfl rfl 1 (by decide) kX4_judgeNext_7 rfl rfl dX4_judgeNext_75 ?_
    refine lv_iload_n hx hb dX4_judgeNext_78 rfl (lv_at hl 1 rfl) ?_
    refine zf_ne (tgt := 86) S dX4_judgeNext_79 (by decide) (by omega) (fun c_79 => ?_) (fun c_79 => ?_)
    · skip
      exact (by exfalso; exact c_79 c_8)
    · skip
      refine lv_iconst (v := nI 0) hx hb dX4_judgeNext_82 (by decide +kernel) ?_
      refine lv_goto (tgt := 90) hx hb dX4_judgeNext_83 (by decide) ?_
      refine z_iast S K hP hD hS 2 rfl hn (by decide) dX4_judgeNext_90 (fun H locs hP hD hS => ?_)
      have hP : va_P (gD G) vwCl [(a0, .inr (4, [.int vc, .int (nI n), .ref a1, .ref a2, .ref a3, .ref a4, .ref a5, .ref a6, .int (nI q1), .int (nI q2), .int (nI q3), .ref a7])), (a1, .inl (gI G, 20, .inl (nA (pu st n (stt f g n (f n) (g n)))))), (a2, .inl (gI G, 20, .inl (nA (pu re n 0)))), (a3, .inl (gI G, 3, .inl (nA ta))), (a4, .inl (gI G, 12, .inl (nA (pu ss (lb q1) q1)))), (a5, .inl (gI G, 12, .inl (nA (pu su (lb q1) q2)))), (a6, .inl (gI G, 12, .inl (nA (pu sr (lb q1) (q3 ||| (1 <<< n))))))] H := hP
      have hD : va_D A [(a0, .inr (4, [.int vc, .int (nI n), .ref a1, .ref a2, .ref a3, .ref a4, .ref a5, .ref a6, .int (nI q1), .int (nI q2), .int (nI q3), .ref a7])), (a1, .inl (gI G, 20, .inl (nA (pu st n (stt f g n (f n) (g n)))))), (a2, .inl (gI G, 20, .inl (nA (pu re n 0)))), (a3, .inl (gI G, 3, .inl (nA ta))), (a4, .inl (gI G, 12, .inl (nA (pu ss (lb q1) q1)))), (a5, .inl (gI G, 12, .inl (nA (pu su (lb q1) q2)))), (a6, .inl (gI G, 12, .inl (nA (pu sr (lb q1) (q3 ||| (1 <<< n))))))] := hD
      refine lv_aload_n hx hb dX4_judgeNext_91 rfl (lv_at hl 2 rfl) ?_
      refine z_get S K hP hX4_judgeNext_X4 0 rfl rfl 4 (by decide) kX4_judgeNext_10 rfl rfl dX4_judgeNext_92 ?_
      refine lv_iload_n hx hb dX4_judgeNext_95 rfl (lv_at hl 1 rfl) ?_
      refine lv_dup2_11 hx hb dX4_judgeNext_96 rfl rfl ?_
      refine z_iald S K hP 3 rfl (by omega) (by decide) dX4_judgeNext_97 ?_
      refine lv_iconst (v := nI 1) hx hb dX4_judgeNext_98 (by decide +kernel) ?_
      refine zi_add S dX4_judgeNext_99 ?_
      refine z_iast S K hP hD hS 3 rfl (by omega) (by decide) dX4_judgeNext_100 (fun H locs hP hD hS => ?_)
      have hP : va_P (gD G) vwCl [(a0, .inr (4, [.int vc, .int (nI n), .ref a1, .ref a2, .ref a3, .ref a4, .ref a5, .ref a6, .int (nI q1), .int (nI q2), .int (nI q3), .ref a7])), (a1, .inl (gI G, 20, .inl (nA (pu st n (stt f g n (f n) (g n)))))), (a2, .inl (gI G, 20, .inl (nA (pu re n 0)))), (a3, .inl (gI G, 3, .inl (nA (pu ta (stt f g n (f n) (g n)) ((ta (stt f g n (f n) (g n))) + 1))))), (a4, .inl (gI G, 12, .inl (nA (pu ss (lb q1) q1)))), (a5, .inl (gI G, 12, .inl (nA (pu su (lb q1) q2)))), (a6, .inl (gI G, 12, .inl (nA (pu sr (lb q1) (q3 ||| (1 <<< n))))))] H := hP
      have hD : va_D A [(a0, .inr (4, [.int vc, .int (nI n), .ref a1, .ref a2, .ref a3, .ref a4, .ref a5, .ref a6, .int (nI q1), .int (nI q2), .int (nI q3), .ref a7])), (a1, .inl (gI G, 20, .inl (nA (pu st n (stt f g n (f n) (g n)))))), (a2, .inl (gI G, 20, .inl (nA (pu re n 0)))), (a3, .inl (gI G, 3, .inl (nA (pu ta (stt f g n (f n) (g n)) ((ta (stt f g n (f n) (g n))) + 1))))), (a4, .inl (gI G, 12, .inl (nA (pu ss (lb q1) q1)))), (a5, .inl (gI G, 12, .inl (nA (pu su (lb q1) q2)))), (a6, .inl (gI G, 12, .inl (nA (pu sr (lb q1) (q3 ||| (1 <<< n))))))] := hD
      refine lv_aload_n hx hb dX4_judgeNext_101 rfl (lv_at hl 2 rfl) ?_
      refine lv_dup hx hb dX4_judgeNext_102 rfl ?_
      refine z_get S K hP hX4_judgeNext_X4 0 rfl rfl 1 (by decide) kX4_judgeNext_7 rfl rfl dX4_judgeNext_103 ?_
      refine lv_iconst (v := nI 1) hx hb dX4_judgeNext_106 (by decide +kernel) ?_
      refine zi_add S dX4_judgeNext_107 ?_
      refine z_put S K hP hD hS (ty0 := tyX4) hX4_judgeNext_X4 tyX4_ok nmX4 0 rfl rfl 1 (by decide) kX4_judgeNext_7 rfl rfl rfl rfl (Nat.le_of_ble_eq_true rfl) dX4_judgeNext_108 (fun H locs hP hD hS => ?_)
      have hP : va_P (gD G) vwCl [(a0, .inr (4, [.int vc, .int (nI (n + 1)), .ref a1, .ref a2, .ref a3, .ref a4, .ref a5, .ref a6, .int (nI q1), .int (nI q2), .int (nI q3), .ref a7])), (a1, .inl (gI G, 20, .inl (nA (pu st n (stt f g n (f n) (g n)))))), (a2, .inl (gI G, 20, .inl (nA (pu re n 0)))), (a3, .inl (gI G, 3, .inl (nA (pu ta (stt f g n (f n) (g n)) ((ta (stt f g n (f n) (g n))) + 1))))), (a4, .inl (gI G, 12, .inl (nA (pu ss (lb q1) q1)))), (a5, .inl (gI G, 12, .inl (nA (pu su (lb q1) q2)))), (a6, .inl (gI G, 12, .inl (nA (pu sr (lb q1) (q3 ||| (1 <<< n))))))] H := hP
      have hD : va_D A [(a0, .inr (4, [.int vc, .int (nI (n + 1)), .ref a1, .ref a2, .ref a3, .ref a4, .ref a5, .ref a6, .int (nI q1), .int (nI q2), .int (nI q3), .ref a7])), (a1, .inl (gI G, 20, .inl (nA (pu st n (stt f g n (f n) (g n)))))), (a2, .inl (gI G, 20, .inl (nA (pu re n 0)))), (a3, .inl (gI G, 3, .inl (nA (pu ta (stt f g n (f n) (g n)) ((ta (stt f g n (f n) (g n))) + 1))))), (a4, .inl (gI G, 12, .inl (nA (pu ss (lb q1) q1)))), (a5, .inl (gI G, 12, .inl (nA (pu su (lb q1) q2)))), (a6, .inl (gI G, 12, .inl (nA (pu sr (lb q1) (q3 ||| (1 <<< n))))))] := hD
      exact z_vret S hrt hlk hP hD hS (nI q1, nI q2, nI q3, pu st n (stt f g n (f n) (g n)), pu re n 0, pu ta (stt f g n (f n) (g n)) ((ta (stt f g n (f n) (g n))) + 1), pu ss (lb q1) q1, pu su (lb q1) q2, pu sr (lb q1) (q3 ||| (1 <<< n))) rfl (by first | exact vi_not hV hq hq0 _ rfl | exact vi_kept hV hq hf hg hq0 _ rfl) dX4_judgeNext_111
set_option maxHeartbeats 4000000 in
set_option maxRecDepth 100000 in
theorem c_X4_judge (l : Launch) (G : gT) (a0 a1 a2 a3 a4 a5 a6 a7 b0 b1 b2 : Nat) (vc : Int32) (vm : Int32) (rs : Int32) (rm : Int32) (rr : Int32) (rc : Nat) (rn : Nat) (f : Nat → Nat) (g : Nat → Nat) (st : Nat → Nat) (re : Nat → Nat) (ta : Nat → Nat) (ss : Nat → Nat) (su : Nat → Nat) (sr : Nat → Nat) (hn : rn ≤ 20) (hf : ∀ j, j < rn → f j < 4096) (hg : ∀ j, j < rn → g j ≤ 1) : CV l yX4_judge wsX4_judge ({ frames := 3, cells := 0, slots := 0, locals := 69 } : Room) G [.ref a0, .ref b0] [(a0, .inr (4, [.int vc, .int vm, .ref a1, .ref a2, .ref a3, .ref a4, .ref a5, .ref a6, .int rs, .int rm, .int rr, .ref a7])), (a1, .inl (gI G, 20, .inl (nA st))), (a2, .inl (gI G, 20, .inl (nA re))), (a3, .inl (gI G, 3, .inl (nA ta))), (a4, .inl (gI G, 12, .inl (nA ss))), (a5, .inl (gI G, 12, .inl (nA su))), (a6, .inl (gI G, 12, .inl (nA sr))), (b0, .inr (3, [.int (nI rc), .int (nI rn), .ref b1, .ref b2])), (b1, .inl (gI G, 20, .inl (nA f))), (b2, .inl (gI G, 20, .inl (nA g)))] 0 0 (fun (u : Int32 × Int32 × Int32 × (Nat → Nat) × (Nat → Nat) × (Nat → Nat) × (Nat → Nat) × (Nat → Nat) × (Nat → Nat)) => VI f g rn u.2.2.2.1 u.2.2.2.2.1 u.2.2.2.2.2.1 u.2.2.2.2.2.2.1 u.2.2.2.2.2.2.2.1 u.2.2.2.2.2.2.2.2) (fun (u : Int32 × Int32 × Int32 × (Nat → Nat) × (Nat → Nat) × (Nat → Nat) × (Nat → Nat) × (Nat → Nat) × (Nat → Nat)) => [(a0, .inr (4, [.int (nI rc), .int (nI rn), .ref a1, .ref a2, .ref a3, .ref a4, .ref a5, .ref a6, .int u.1, .int u.2.1, .int u.2.2.1, .ref a7])), (a1, .inl (gI G, 20, .inl (nA u.2.2.2.1))), (a2, .inl (gI G, 20, .inl (nA u.2.2.2.2.1))), (a3, .inl (gI G, 3, .inl (nA u.2.2.2.2.2.1))), (a4, .inl (gI G, 12, .inl (nA u.2.2.2.2.2.2.1))), (a5, .inl (gI G, 12, .inl (nA u.2.2.2.2.2.2.2.1))), (a6, .inl (gI G, 12, .inl (nA u.2.2.2.2.2.2.2.2))), (b0, .inr (3, [.int (nI rc), .int (nI rn), .ref b1, .ref b2])), (b1, .inl (gI G, 20, .inl (nA f))), (b2, .inl (gI G, 20, .inl (nA g)))]) := by
  refine CV.of (cc := cX4_judge) (maxL := 3) (ret := none) (by decide +kernel) rfl (Nat.le_of_ble_eq_true rfl) rfl (fun p e s m args below meth c A S hrt hlk hnm K hA hP hD hS ls hl => ?_)
  have hx := S.1
  have hb := S.2.1
  have hl : lv_has ls 3 [(0, .ref a0), (1, .ref b0)] := hl
  refine lv_aload_n hx hb dX4_judge_0 rfl (lv_at hl 0 rfl) ?_
  refine lv_aload_n hx hb dX4_judge_1 rfl (lv_at hl 1 rfl) ?_
  refine z_get S K hP hX4_judge_X3 7 rfl rfl 0 (by decide) kX4_judge_1 rfl rfl dX4_judge_2 ?_
  refine z_put S K hP hD hS (ty0 := tyX4) hX4_judge_X4 tyX4_ok nmX4 0 rfl rfl 0 (by decide) kX4_judge_2 rfl rfl rfl rfl (Nat.le_of_ble_eq_true rfl) dX4_judge_5 (fun H locs hP hD hS => ?_)
  have hP : va_P (gD G) vwCl [(a0, .inr (4, [.int (nI rc), .int vm, .ref a1, .ref a2, .ref a3, .ref a4, .ref a5, .ref a6, .int rs, .int rm, .int rr, .ref a7])), (a1, .inl (gI G, 20, .inl (nA st))), (a2, .inl (gI G, 20, .inl (nA re))), (a3, .inl (gI G, 3, .inl (nA ta))), (a4, .inl (gI G, 12, .inl (nA ss))), (a5, .inl (gI G, 12, .inl (nA su))), (a6, .inl (gI G, 12, .inl (nA sr))), (b0, .inr (3, [.int (nI rc), .int (nI rn), .ref b1, .ref b2])), (b1, .inl (gI G, 20, .inl (nA f))), (b2, .inl (gI G, 20, .inl (nA g)))] H := hP
  have hD : va_D A [(a0, .inr (4, [.int (nI rc), .int vm, .ref a1, .ref a2, .ref a3, .ref a4, .ref a5, .ref a6, .int rs, .int rm, .int rr, .ref a7])), (a1, .inl (gI G, 20, .inl (nA st))), (a2, .inl (gI G, 20, .inl (nA re))), (a3, .inl (gI G, 3, .inl (nA ta))), (a4, .inl (gI G, 12, .inl (nA ss))), (a5, .inl (gI G, 12, .inl (nA su))), (a6, .inl (gI G, 12, .inl (nA sr))), (b0, .inr (3, [.int (nI rc), .int (nI rn), .ref b1, .ref b2])), (b1, .inl (gI G, 20, .inl (nA f))), (b2, .inl (gI G, 20, .inl (nA g)))] := hD
  refine lv_aload_n hx hb dX4_judge_8 rfl (lv_at hl 0 rfl) ?_
  refine lv_iconst (v := nI 0) hx hb dX4_judge_9 (by decide +kernel) ?_
  refine z_put S K hP hD hS (ty0 := tyX4) hX4_judge_X4 tyX4_ok nmX4 0 rfl rfl 1 (by decide) kX4_judge_3 rfl rfl rfl rfl (Nat.le_of_ble_eq_true rfl) dX4_judge_10 (fun H locs hP hD hS => ?_)
  have hP : va_P (gD G) vwCl [(a0, .inr (4, [.int (nI rc), .int (nI 0), .ref a1, .ref a2, .ref a3, .ref a4, .ref a5, .ref a6, .int rs, .int rm, .int rr, .ref a7])), (a1, .inl (gI G, 20, .inl (nA st))), (a2, .inl (gI G, 20, .inl (nA re))), (a3, .inl (gI G, 3, .inl (nA ta))), (a4, .inl (gI G, 12, .inl (nA ss))), (a5, .inl (gI G, 12, .inl (nA su))), (a6, .inl (gI G, 12, .inl (nA sr))), (b0, .inr (3, [.int (nI rc), .int (nI rn), .ref b1, .ref b2])), (b1, .inl (gI G, 20, .inl (nA f))), (b2, .inl (gI G, 20, .inl (nA g)))] H := hP
  have hD : va_D A [(a0, .inr (4, [.int (nI rc), .int (nI 0), .ref a1, .ref a2, .ref a3, .ref a4, .ref a5, .ref a6, .int rs, .int rm, .int rr, .ref a7])), (a1, .inl (gI G, 20, .inl (nA st))), (a2, .inl (gI G, 20, .inl (nA re))), (a3, .inl (gI G, 3, .inl (nA ta))), (a4, .inl (gI G, 12, .inl (nA ss))), (a5, .inl (gI G, 12, .inl (nA su))), (a6, .inl (gI G, 12, .inl (nA sr))), (b0, .inr (3, [.int (nI rc), .int (nI rn), .ref b1, .ref b2])), (b1, .inl (gI G, 20, .inl (nA f))), (b2, .inl (gI G, 20, .inl (nA g)))] := hD
  refine lv_iconst (v := nI 0) hx hb dX4_judge_13 (by decide +kernel) ?_
  refine lv_istore_n (lv' := [(2, .int (nI 0)), (0, .ref a0), (1, .ref b0)]) hx hb dX4_judge_14 rfl hl (by decide) rfl (fun ls hl => ?_)
  have lp_15 : ∀ (n_15 : Nat) (i : Nat) (t1 : Nat → Nat), 3 - i < n_15 → (i ≤ 3) → (∀ j, j < i → t1 j = 0) → ∀ (H : Heap) (locs : List Loc), va_P (gD G) vwCl [(a0, .inr (4, [.int (nI rc), .int (nI 0), .ref a1, .ref a2, .ref a3, .ref a4, .ref a5, .ref a6, .int rs, .int rm, .int rr, .ref a7])), (a1, .inl (gI G, 20, .inl (nA st))), (a2, .inl (gI G, 20, .inl (nA re))), (a3, .inl (gI G, 3, .inl (nA t1))), (a4, .inl (gI G, 12, .inl (nA ss))), (a5, .inl (gI G, 12, .inl (nA su))), (a6, .inl (gI G, 12, .inl (nA sr))), (b0, .inr (3, [.int (nI rc), .int (nI rn), .ref b1, .ref b2])), (b1, .inl (gI G, 20, .inl (nA f))), (b2, .inl (gI G, 20, .inl (nA g)))] H → va_D A [(a0, .inr (4, [.int (nI rc), .int (nI 0), .ref a1, .ref a2, .ref a3, .ref a4, .ref a5, .ref a6, .int rs, .int rm, .int rr, .ref a7])), (a1, .inl (gI G, 20, .inl (nA st))), (a2, .inl (gI G, 20, .inl (nA re))), (a3, .inl (gI G, 3, .inl (nA t1))), (a4, .inl (gI G, 12, .inl (nA ss))), (a5, .inl (gI G, 12, .inl (nA su))), (a6, .inl (gI G, 12, .inl (nA sr))), (b0, .inr (3, [.int (nI rc), .int (nI rn), .ref b1, .ref b2])), (b1, .inl (gI G, 20, .inl (nA f))), (b2, .inl (gI G, 20, .inl (nA g)))] → va_S A s.heap H locs → ∀ ls : Array Slot, lv_has ls 3 [(2, .int (nI i)), (0, .ref a0), (1, .ref b0)] → W p l e ({ frames := 3, cells := 0, slots := 0, locals := 69 } : Room) s m args below meth c H locs 0 0 (MQ below (va_Qv (fun (u : Int32 × Int32 × Int32 × (Nat → Nat) × (Nat → Nat) × (Nat → Nat) × (Nat → Nat) × (Nat → Nat) × (Nat → Nat)) => VI f g rn u.2.2.2.1 u.2.2.2.2.1 u.2.2.2.2.2.1 u.2.2.2.2.2.2.1 u.2.2.2.2.2.2.2.1 u.2.2.2.2.2.2.2.2) (cB G A (fun (u : Int32 × Int32 × Int32 × (Nat → Nat) × (Nat → Nat) × (Nat → Nat) × (Nat → Nat) × (Nat → Nat) × (Nat → Nat)) => [(a0, .inr (4, [.int (nI rc), .int (nI rn), .ref a1, .ref a2, .ref a3, .ref a4, .ref a5, .ref a6, .int u.1, .int u.2.1, .int u.2.2.1, .ref a7])), (a1, .inl (gI G, 20, .inl (nA u.2.2.2.1))), (a2, .inl (gI G, 20, .inl (nA u.2.2.2.2.1))), (a3, .inl (gI G, 3, .inl (nA u.2.2.2.2.2.1))), (a4, .inl (gI G, 12, .inl (nA u.2.2.2.2.2.2.1))), (a5, .inl (gI G, 12, .inl (nA u.2.2.2.2.2.2.2.1))), (a6, .inl (gI G, 12, .inl (nA u.2.2.2.2.2.2.2.2))), (b0, .inr (3, [.int (nI rc), .int (nI rn), .ref b1, .ref b2])), (b1, .inl (gI G, 20, .inl (nA f))), (b2, .inl (gI G, 20, .inl (nA g)))])) A) args s 0 0 A) (F0 m 15 ls []) := by
    intro n_15
    induction n_15 with
    | zero =>
      intro i t1 h0
      exact absurd h0 (Nat.not_lt_zero _)
    | succ n_15 ih_15 =>
      intro i t1 hm_15 hi hz H locs hP hD hS ls hl
      refine lv_iload_n hx hb dX4_judge_15 rfl (lv_at hl 0 rfl) ?_
      refine lv_iconst (v := nI 2) hx hb dX4_judge_16 (by decide +kernel) ?_
      refine zb_gt (tgt := 33) S dX4_judge_17 (by decide) (by omega) (by decide) (fun c_17 => ?_) (fun c_17 => ?_)
      · skip
        have hz3 := z_arrP hP hD (k := 3) rfl (nA z0) (fun j hj => congrArg nI (hz j (by omega)))
        obtain ⟨hP, hD⟩ := hz3
        have hP : va_P (gD G) vwCl [(a0, .inr (4, [.int (nI rc), .int (nI 0), .ref a1, .ref a2, .ref a3, .ref a4, .ref a5, .ref a6, .int rs, .int rm, .int rr, .ref a7])), (a1, .inl (gI G, 20, .inl (nA st))), (a2, .inl (gI G, 20, .inl (nA re))), (a3, .inl (gI G, 3, .inl (nA z0))), (a4, .inl (gI G, 12, .inl (nA ss))), (a5, .inl (gI G, 12, .inl (nA su))), (a6, .inl (gI G, 12, .inl (nA sr))), (b0, .inr (3, [.int (nI rc), .int (nI rn), .ref b1, .ref b2])), (b1, .inl (gI G, 20, .inl (nA f))), (b2, .inl (gI G, 20, .inl (nA g)))] H := hP
        have hD : va_D A [(a0, .inr (4, [.int (nI rc), .int (nI 0), .ref a1, .ref a2, .ref a3, .ref a4, .ref a5, .ref a6, .int rs, .int rm, .int rr, .ref a7])), (a1, .inl (gI G, 20, .inl (nA st))), (a2, .inl (gI G, 20, .inl (nA re))), (a3, .inl (gI G, 3, .inl (nA z0))), (a4, .inl (gI G, 12, .inl (nA ss))), (a5, .inl (gI G, 12, .inl (nA su))), (a6, .inl (gI G, 12, .inl (nA sr))), (b0, .inr (3, [.int (nI rc), .int (nI rn), .ref b1, .ref b2])), (b1, .inl (gI G, 20, .inl (nA f))), (b2, .inl (gI G, 20, .inl (nA g)))] := hD
        refine lv_iconst (v := nI 0) hx hb dX4_judge_33 (by decide +kernel) ?_
        refine lv_istore_n (lv' := [(2, .int (nI 0)), (0, .ref a0), (1, .ref b0)]) hx hb dX4_judge_34 rfl hl (by decide) rfl (fun ls hl => ?_)
        have lp_35 : ∀ (n_35 : Nat) (i2 : Nat) (s1 : Nat → Nat), 12 - i2 < n_35 → (i2 ≤ 12) → (∀ j, j < i2 → s1 j = 0) → ∀ (H : Heap) (locs : List Loc), va_P (gD G) vwCl [(a0, .inr (4, [.int (nI rc), .int (nI 0), .ref a1, .ref a2, .ref a3, .ref a4, .ref a5, .ref a6, .int rs, .int rm, .int rr, .ref a7])), (a1, .inl (gI G, 20, .inl (nA st))), (a2, .inl (gI G, 20, .inl (nA re))), (a3, .inl (gI G, 3, .inl (nA z0))), (a4, .inl (gI G, 12, .inl (nA s1))), (a5, .inl (gI G, 12, .inl (nA su))), (a6, .inl (gI G, 12, .inl (nA sr))), (b0, .inr (3, [.int (nI rc), .int (nI rn), .ref b1, .ref b2])), (b1, .inl (gI G, 20, .inl (nA f))), (b2, .inl (gI G, 20, .inl (nA g)))] H → va_D A [(a0, .inr (4, [.int (nI rc), .int (nI 0), .ref a1, .ref a2, .ref a3, .ref a4, .ref a5, .ref a6, .int rs, .int rm, .int rr, .ref a7])), (a1, .inl (gI G, 20, .inl (nA st))), (a2, .inl (gI G, 20, .inl (nA re))), (a3, .inl (gI G, 3, .inl (nA z0))), (a4, .inl (gI G, 12, .inl (nA s1))), (a5, .inl (gI G, 12, .inl (nA su))), (a6, .inl (gI G, 12, .inl (nA sr))), (b0, .inr (3, [.int (nI rc), .int (nI rn), .ref b1, .ref b2])), (b1, .inl (gI G, 20, .inl (nA f))), (b2, .inl (gI G, 20, .inl (nA g)))] → va_S A s.heap H locs → ∀ ls : Array Slot, lv_has ls 3 [(2, .int (nI i2)), (0, .ref a0), (1, .ref b0)] → W p l e ({ frames := 3, cells := 0, slots := 0, locals := 69 } : Room) s m args below meth c H locs 0 0 (MQ below (va_Qv (fun (u : Int32 × Int32 × Int32 × (Nat → Nat) × (Nat → Nat) × (Nat → Nat) × (Nat → Nat) × (Nat → Nat) × (Nat → Nat)) => VI f g rn u.2.2.2.1 u.2.2.2.2.1 u.2.2.2.2.2.1 u.2.2.2.2.2.2.1 u.2.2.2.2.2.2.2.1 u.2.2.2.2.2.2.2.2) (cB G A (fun (u : Int32 × Int32 × Int32 × (Nat → Nat) × (Nat → Nat) × (Nat → Nat) × (Nat → Nat) × (Nat → Nat) × (Nat → Nat)) => [(a0, .inr (4, [.int (nI rc), .int (nI rn), .ref a1, .ref a2, .ref a3, .ref a4, .ref a5, .ref a6, .int u.1, .int u.2.1, .int u.2.2.1, .ref a7])), (a1, .inl (gI G, 20, .inl (nA u.2.2.2.1))), (a2, .inl (gI G, 20, .inl (nA u.2.2.2.2.1))), (a3, .inl (gI G, 3, .inl (nA u.2.2.2.2.2.1))), (a4, .inl (gI G, 12, .inl (nA u.2.2.2.2.2.2.1))), (a5, .inl (gI G, 12, .inl (nA u.2.2.2.2.2.2.2.1))), (a6, .inl (gI G, 12, .inl (nA u.2.2.2.2.2.2.2.2))), (b0, .inr (3, [.int (nI rc), .int (nI rn), .ref b1, .ref b2])), (b1, .inl (gI G, 20, .inl (nA f))), (b2, .inl (gI G, 20, .inl (nA g)))])) A) args s 0 0 A) (F0 m 35 ls []) := by
          intro n_35
          induction n_35 with
          | zero =>
            intro i2 s1 h0
            exact absurd h0 (Nat.not_lt_zero _)
          | succ n_35 ih_35 =>
            intro i2 s1 hm_35 hi2 hz2 H locs hP hD hS ls hl
            refine lv_iload_n hx hb dX4_judge_35 rfl (lv_at hl 0 rfl) ?_
            refine lv_bipush (v := nI 12) hx hb dX4_judge_36 (by decide +kernel) ?_
            refine zb_ge (tgt := 54) S dX4_judge_38 (by decide) (by omega) (by decide) (fun c_38 => ?_) (fun c_38 => ?_)
            · skip
              have hz4 := z_arrP hP hD (k := 4) rfl (nA z0) (fun j hj => congrArg nI (hz2 j (by omega)))
              obtain ⟨hP, hD⟩ := hz4
              have hP : va_P (gD G) vwCl [(a0, .inr (4, [.int (nI rc), .int (nI 0), .ref a1, .ref a2, .ref a3, .ref a4, .ref a5, .ref a6, .int rs, .int rm, .int rr, .ref a7])), (a1, .inl (gI G, 20, .inl (nA st))), (a2, .inl (gI G, 20, .inl (nA re))), (a3, .inl (gI G, 3, .inl (nA z0))), (a4, .inl (gI G, 12, .inl (nA z0))), (a5, .inl (gI G, 12, .inl (nA su))), (a6, .inl (gI G, 12, .inl (nA sr))), (b0, .inr (3, [.int (nI rc), .int (nI rn), .ref b1, .ref b2])), (b1, .inl (gI G, 20, .inl (nA f))), (b2, .inl (gI G, 20, .inl (nA g)))] H := hP
              have hD : va_D A [(a0, .inr (4, [.int (nI rc), .int (nI 0), .ref a1, .ref a2, .ref a3, .ref a4, .ref a5, .ref a6, .int rs, .int rm, .int rr, .ref a7])), (a1, .inl (gI G, 20, .inl (nA st))), (a2, .inl (gI G, 20, .inl (nA re))), (a3, .inl (gI G, 3, .inl (nA z0))), (a4, .inl (gI G, 12, .inl (nA z0))), (a5, .inl (gI G, 12, .inl (nA su))), (a6, .inl (gI G, 12, .inl (nA sr))), (b0, .inr (3, [.int (nI rc), .int (nI rn), .ref b1, .ref b2])), (b1, .inl (gI G, 20, .inl (nA f))), (b2, .inl (gI G, 20, .inl (nA g)))] := hD
              refine lv_iconst (v := nI 0) hx hb dX4_judge_54 (by decide +kernel) ?_
              refine lv_istore_n (lv' := [(2, .int (nI 0)), (0, .ref a0), (1, .ref b0)]) hx hb dX4_judge_55 rfl hl (by decide) rfl (fun ls hl => ?_)
              have lp_56 : ∀ (n_56 : Nat) (i3 : Nat) (rs3 rm3 rr3 : Int32) (st3 re3 ta3 ss3 su3 sr3 : Nat → Nat), rn - i3 < n_56 → (i3 ≤ rn) → (VI f g i3 st3 re3 ta3 ss3 su3 sr3) → ∀ (H : Heap) (locs : List Loc), va_P (gD G) vwCl [(a0, .inr (4, [.int (nI rc), .int (nI i3), .ref a1, .ref a2, .ref a3, .ref a4, .ref a5, .ref a6, .int rs3, .int rm3, .int rr3, .ref a7])), (a1, .inl (gI G, 20, .inl (nA st3))), (a2, .inl (gI G, 20, .inl (nA re3))), (a3, .inl (gI G, 3, .inl (nA ta3))), (a4, .inl (gI G, 12, .inl (nA ss3))), (a5, .inl (gI G, 12, .inl (nA su3))), (a6, .inl (gI G, 12, .inl (nA sr3))), (b0, .inr (3, [.int (nI rc), .int (nI rn), .ref b1, .ref b2])), (b1, .inl (gI G, 20, .inl (nA f))), (b2, .inl (gI G, 20, .inl (nA g)))] H → va_D A [(a0, .inr (4, [.int (nI rc), .int (nI i3), .ref a1, .ref a2, .ref a3, .ref a4, .ref a5, .ref a6, .int rs3, .int rm3, .int rr3, .ref a7])), (a1, .inl (gI G, 20, .inl (nA st3))), (a2, .inl (gI G, 20, .inl (nA re3))), (a3, .inl (gI G, 3, .inl (nA ta3))), (a4, .inl (gI G, 12, .inl (nA ss3))), (a5, .inl (gI G, 12, .inl (nA su3))), (a6, .inl (gI G, 12, .inl (nA sr3))), (b0, .inr (3, [.int (nI rc), .int (nI rn), .ref b1, .ref b2])), (b1, .inl (gI G, 20, .inl (nA f))), (b2, .inl (gI G, 20, .inl (nA g)))] → va_S A s.heap H locs → ∀ ls : Array Slot, lv_has ls 3 [(2, .int (nI i3)), (0, .ref a0), (1, .ref b0)] → W p l e ({ frames := 3, cells := 0, slots := 0, locals := 69 } : Room) s m args below meth c H locs 0 0 (MQ below (va_Qv (fun (u : Int32 × Int32 × Int32 × (Nat → Nat) × (Nat → Nat) × (Nat → Nat) × (Nat → Nat) × (Nat → Nat) × (Nat → Nat)) => VI f g rn u.2.2.2.1 u.2.2.2.2.1 u.2.2.2.2.2.1 u.2.2.2.2.2.2.1 u.2.2.2.2.2.2.2.1 u.2.2.2.2.2.2.2.2) (cB G A (fun (u : Int32 × Int32 × Int32 × (Nat → Nat) × (Nat → Nat) × (Nat → Nat) × (Nat → Nat) × (Nat → Nat) × (Nat → Nat)) => [(a0, .inr (4, [.int (nI rc), .int (nI rn), .ref a1, .ref a2, .ref a3, .ref a4, .ref a5, .ref a6, .int u.1, .int u.2.1, .int u.2.2.1, .ref a7])), (a1, .inl (gI G, 20, .inl (nA u.2.2.2.1))), (a2, .inl (gI G, 20, .inl (nA u.2.2.2.2.1))), (a3, .inl (gI G, 3, .inl (nA u.2.2.2.2.2.1))), (a4, .inl (gI G, 12, .inl (nA u.2.2.2.2.2.2.1))), (a5, .inl (gI G, 12, .inl (nA u.2.2.2.2.2.2.2.1))), (a6, .inl (gI G, 12, .inl (nA u.2.2.2.2.2.2.2.2))), (b0, .inr (3, [.int (nI rc), .int (nI rn), .ref b1, .ref b2])), (b1, .inl (gI G, 20, .inl (nA f))), (b2, .inl (gI G, 20, .inl (nA g)))])) A) args s 0 0 A) (F0 m 56 ls []) := by
                intro n_56
                induction n_56 with
                | zero =>
                  intro i3 rs3 rm3 rr3 st3 re3 ta3 ss3 su3 sr3 h0
                  exact absurd h0 (Nat.not_lt_zero _)
                | succ n_56 ih_56 =>
                  intro i3 rs3 rm3 rr3 st3 re3 ta3 ss3 su3 sr3 hm_56 hi3 hV H locs hP hD hS ls hl
                  refine lv_iload_n hx hb dX4_judge_56 rfl (lv_at hl 0 rfl) ?_
                  refine lv_aload_n hx hb dX4_judge_57 rfl (lv_at hl 2 rfl) ?_
                  refine z_get S K hP hX4_judge_X3 7 rfl rfl 1 (by decide) kX4_judge_6 rfl rfl dX4_judge_58 ?_
                  refine zb_ge (tgt := 86) S dX4_judge_61 (by decide) (by omega) (by omega) (fun c_61 => ?_) (fun c_61 => ?_)
                  · skip
                    have hi3n : i3 = rn := by omega
                    obtain rfl : rn = i3 := Eq.symm (hi3n)
                    exact z_vret S hrt hlk hP hD hS (rs3, rm3, rr3, st3, re3, ta3, ss3, su3, sr3) rfl hV dX4_judge_86
                  · skip
                    refine lv_aload_n hx hb dX4_judge_64 rfl (lv_at hl 1 rfl) ?_
                    refine lv_aload_n hx hb dX4_judge_65 rfl (lv_at hl 2 rfl) ?_
                    refine z_get S K hP hX4_judge_X3 7 rfl rfl 2 (by decide) kX4_judge_7 rfl rfl dX4_judge_66 ?_
                    refine lv_iload_n hx hb dX4_judge_69 rfl (lv_at hl 0 rfl) ?_
                    refine z_iald S K hP 8 rfl (by omega) (by decide) dX4_judge_70 ?_
                    refine lv_aload_n hx hb dX4_judge_71 rfl (lv_at hl 2 rfl) ?_
                    refine z_get S K hP hX4_judge_X3 7 rfl rfl 3 (by decide) kX4_judge_8 rfl rfl dX4_judge_72 ?_
                    refine lv_iload_n hx hb dX4_judge_75 rfl (lv_at hl 0 rfl) ?_
                    refine z_iald S K hP 9 rfl (by omega) (by decide) dX4_judge_76 ?_
                    refine zcVv (rest := []) S K hP hD hS hA hl.1 (c_X4_judgeNext l G a0 a1 a2 a3 a4 a5 a6 a7 (nI rc) rs3 rm3 rr3 i3 f g st3 re3 ta3 ss3 su3 sr3 (by omega) (hf i3 c_61) (hg i3 c_61) hV) rfl rfl gX4_judge_X4_judgeNext rfl eX4_judgeNext [0, 1, 2, 3, 4, 5, 6] (by decide +kernel) rfl (fun _ => rfl) 4 0 rfl rfl rfl rfl rfl (Nat.le_of_ble_eq_true rfl) (Nat.le_of_ble_eq_true rfl) (Nat.le_of_ble_eq_true rfl) ⟨Nat.zero_le _, Nat.zero_le _⟩ dX4_judge_77 (fun u_77 H locs hw_77 hP hD hS => ?_)
                    obtain ⟨hP, hD⟩ := mx_ok [some 0, some 1, some 2, some 3, some 4, some 5, some 6, none, none, none] (by decide +kernel) rfl rfl hP hD
                    obtain ⟨rs2_77, rm2_77, rr2_77, st2_77, re2_77, ta2_77, ss2_77, su2_77, sr2_77⟩ := u_77
                    replace hw_77 : VI f g (i3 + 1) st2_77 re2_77 ta2_77 ss2_77 su2_77 sr2_77 := hw_77
                    have hP : va_P (gD G) vwCl [(a0, .inr (4, [.int (nI rc), .int (nI (i3 + 1)), .ref a1, .ref a2, .ref a3, .ref a4, .ref a5, .ref a6, .int rs2_77, .int rm2_77, .int rr2_77, .ref a7])), (a1, .inl (gI G, 20, .inl (nA st2_77))), (a2, .inl (gI G, 20, .inl (nA re2_77))), (a3, .inl (gI G, 3, .inl (nA ta2_77))), (a4, .inl (gI G, 12, .inl (nA ss2_77))), (a5, .inl (gI G, 12, .inl (nA su2_77))), (a6, .inl (gI G, 12, .inl (nA sr2_77))), (b0, .inr (3, [.int (nI rc), .int (nI rn), .ref b1, .ref b2])), (b1, .inl (gI G, 20, .inl (nA f))), (b2, .inl (gI G, 20, .inl (nA g)))] H := hP
                    have hD : va_D A [(a0, .inr (4, [.int (nI rc), .int (nI (i3 + 1)), .ref a1, .ref a2, .ref a3, .ref a4, .ref a5, .ref a6, .int rs2_77, .int rm2_77, .int rr2_77, .ref a7])), (a1, .inl (gI G, 20, .inl (nA st2_77))), (a2, .inl (gI G, 20, .inl (nA re2_77))), (a3, .inl (gI G, 3, .inl (nA ta2_77))), (a4, .inl (gI G, 12, .inl (nA ss2_77))), (a5, .inl (gI G, 12, .inl (nA su2_77))), (a6, .inl (gI G, 12, .inl (nA sr2_77))), (b0, .inr (3, [.int (nI rc), .int (nI rn), .ref b1, .ref b2])), (b1, .inl (gI G, 20, .inl (nA f))), (b2, .inl (gI G, 20, .inl (nA g)))] := hD
                    refine lv_iinc (v := (nI (i3 + 1))) (lv' := [(2, .int (nI (i3 + 1))), (0, .ref a0), (1, .ref b0)]) hx hb dX4_judge_80 hl (k := 0) rfl (z_i1 _) (by decide) rfl (fun ls hl => ?_)
                    refine lv_goto (tgt := 56) hx hb dX4_judge_83 (by decide) ?_
                    exact ih_56 (i3 + 1) rs2_77 rm2_77 rr2_77 st2_77 re2_77 ta2_77 ss2_77 su2_77 sr2_77 (by omega) (by omega) hw_77 _ _ hP hD hS _ (lv_sub hl [0, 1, 2] rfl)
              exact lp_56 _ 0 rs rm rr st re z0 z0 su sr (Nat.lt_succ_self _) (by omega) vi_0 _ _ hP hD hS _ (lv_sub hl [0, 1, 2] rfl)
            · skip
              refine lv_aload_n hx hb dX4_judge_41 rfl (lv_at hl 1 rfl) ?_
              refine z_get S K hP hX4_judge_X4 0 rfl rfl 5 (by decide) kX4_judge_5 rfl rfl dX4_judge_42 ?_
              refine lv_iload_n hx hb dX4_judge_45 rfl (lv_at hl 0 rfl) ?_
              refine lv_iconst (v := nI 0) hx hb dX4_judge_46 (by decide +kernel) ?_
              refine z_iast S K hP hD hS 4 rfl (by omega) (by decide) dX4_judge_47 (fun H locs hP hD hS => ?_)
              have hP : va_P (gD G) vwCl [(a0, .inr (4, [.int (nI rc), .int (nI 0), .ref a1, .ref a2, .ref a3, .ref a4, .ref a5, .ref a6, .int rs, .int rm, .int rr, .ref a7])), (a1, .inl (gI G, 20, .inl (nA st))), (a2, .inl (gI G, 20, .inl (nA re))), (a3, .inl (gI G, 3, .inl (nA z0))), (a4, .inl (gI G, 12, .inl (nA (pu s1 i2 0)))), (a5, .inl (gI G, 12, .inl (nA su))), (a6, .inl (gI G, 12, .inl (nA sr))), (b0, .inr (3, [.int (nI rc), .int (nI rn), .ref b1, .ref b2])), (b1, .inl (gI G, 20, .inl (nA f))), (b2, .inl (gI G, 20, .inl (nA g)))] H := hP
              have hD : va_D A [(a0, .inr (4, [.int (nI rc), .int (nI 0), .ref a1, .ref a2, .ref a3, .ref a4, .ref a5, .ref a6, .int rs, .int rm, .int rr, .ref a7])), (a1, .inl (gI G, 20, .inl (nA st))), (a2, .inl (gI G, 20, .inl (nA re))), (a3, .inl (gI G, 3, .inl (nA z0))), (a4, .inl (gI G, 12, .inl (nA (pu s1 i2 0)))), (a5, .inl (gI G, 12, .inl (nA su))), (a6, .inl (gI G, 12, .inl (nA sr))), (b0, .inr (3, [.int (nI rc), .int (nI rn), .ref b1, .ref b2])), (b1, .inl (gI G, 20, .inl (nA f))), (b2, .inl (gI G, 20, .inl (nA g)))] := hD
              refine lv_iinc (v := (nI (i2 + 1))) (lv' := [(2, .int (nI (i2 + 1))), (0, .ref a0), (1, .ref b0)]) hx hb dX4_judge_48 hl (k := 0) rfl (z_i1 _) (by decide) rfl (fun ls hl => ?_)
              refine lv_goto (tgt := 35) hx hb dX4_judge_51 (by decide) ?_
              exact ih_35 (i2 + 1) (pu s1 i2 0) (by omega) (by omega) (z_fill hz2) _ _ hP hD hS _ (lv_sub hl [0, 1, 2] rfl)
        exact lp_35 _ 0 ss (Nat.lt_succ_self _) (by omega) (fun j h => absurd h (Nat.not_lt_zero _)) _ _ hP hD hS _ (lv_sub hl [0, 1, 2] rfl)
      · skip
        refine lv_aload_n hx hb dX4_judge_20 rfl (lv_at hl 1 rfl) ?_
        refine z_get S K hP hX4_judge_X4 0 rfl rfl 4 (by decide) kX4_judge_4 rfl rfl dX4_judge_21 ?_
        refine lv_iload_n hx hb dX4_judge_24 rfl (lv_at hl 0 rfl) ?_
        refine lv_iconst (v := nI 0) hx hb dX4_judge_25 (by decide +kernel) ?_
        refine z_iast S K hP hD hS 3 rfl (by omega) (by decide) dX4_judge_26 (fun H locs hP hD hS => ?_)
        have hP : va_P (gD G) vwCl [(a0, .inr (4, [.int (nI rc), .int (nI 0), .ref a1, .ref a2, .ref a3, .ref a4, .ref a5, .ref a6, .int rs, .int rm, .int rr, .ref a7])), (a1, .inl (gI G, 20, .inl (nA st))), (a2, .inl (gI G, 20, .inl (nA re))), (a3, .inl (gI G, 3, .inl (nA (pu t1 i 0)))), (a4, .inl (gI G, 12, .inl (nA ss))), (a5, .inl (gI G, 12, .inl (nA su))), (a6, .inl (gI G, 12, .inl (nA sr))), (b0, .inr (3, [.int (nI rc), .int (nI rn), .ref b1, .ref b2])), (b1, .inl (gI G, 20, .inl (nA f))), (b2, .inl (gI G, 20, .inl (nA g)))] H := hP
        have hD : va_D A [(a0, .inr (4, [.int (nI rc), .int (nI 0), .ref a1, .ref a2, .ref a3, .ref a4, .ref a5, .ref a6, .int rs, .int rm, .int rr, .ref a7])), (a1, .inl (gI G, 20, .inl (nA st))), (a2, .inl (gI G, 20, .inl (nA re))), (a3, .inl (gI G, 3, .inl (nA (pu t1 i 0)))), (a4, .inl (gI G, 12, .inl (nA ss))), (a5, .inl (gI G, 12, .inl (nA su))), (a6, .inl (gI G, 12, .inl (nA sr))), (b0, .inr (3, [.int (nI rc), .int (nI rn), .ref b1, .ref b2])), (b1, .inl (gI G, 20, .inl (nA f))), (b2, .inl (gI G, 20, .inl (nA g)))] := hD
        refine lv_iinc (v := (nI (i + 1))) (lv' := [(2, .int (nI (i + 1))), (0, .ref a0), (1, .ref b0)]) hx hb dX4_judge_27 hl (k := 0) rfl (z_i1 _) (by decide) rfl (fun ls hl => ?_)
        refine lv_goto (tgt := 15) hx hb dX4_judge_30 (by decide) ?_
        exact ih_15 (i + 1) (pu t1 i 0) (by omega) (by omega) (z_fill hz) _ _ hP hD hS _ (lv_sub hl [0, 1, 2] rfl)
  exact lp_15 _ 0 ta (Nat.lt_succ_self _) (by omega) (fun j h => absurd h (Nat.not_lt_zero _)) _ _ hP hD hS _ (lv_sub hl [0, 1, 2] rfl)
set_option maxHeartbeats 4000000 in
set_option maxRecDepth 100000 in
theorem c_X4_reasonsWith (l : Launch) (G : gT) (a0 a1 a2 a3 a4 a5 a6 a7 : Nat) (vc : Int32) (rs : Int32) (rm : Int32) (rr : Int32) (n : Nat) (b : Nat) (re : Nat → Nat) (hn : n ≤ 20) (hb : b < 20) (hr0 : ∀ j, j < n → re j < 2147483648) : CI l yX4_reasonsWith wsX4_reasonsWith ({ frames := 0, cells := 0, slots := 0, locals := 0 } : Room) G [.ref a0, .int (nI b)] [(a0, .inr (4, [.int vc, .int (nI n), .ref a1, .ref a2, .ref a3, .ref a4, .ref a5, .ref a6, .int rs, .int rm, .int rr, .ref a7])), (a2, .inl (gI G, 20, .inl (nA re)))] 0 0 (fun (r : Int32) (u : Unit) => r = nI (smF (fun j => re j >>> b &&& 1) n)) (fun (u : Unit) => [(a0, .inr (4, [.int vc, .int (nI n), .ref a1, .ref a2, .ref a3, .ref a4, .ref a5, .ref a6, .int rs, .int rm, .int rr, .ref a7])), (a2, .inl (gI G, 20, .inl (nA re)))]) := by
  refine CI.of (cc := cX4_reasonsWith) (maxL := 4) (ret := (some .int)) (by decide +kernel) rfl (Nat.le_of_ble_eq_true rfl) rfl (fun p e s m args below meth c A S hrt hlk hnm K hA hP hD hS ls hl => ?_)
  have hx := S.1
  have hb := S.2.1
  have hl : lv_has ls 4 [(0, .ref a0), (1, .int (nI b))] := hl
  refine lv_iconst (v := nI 0) hx hb dX4_reasonsWith_0 (by decide +kernel) ?_
  refine lv_istore_n (lv' := [(2, .int (nI 0)), (0, .ref a0), (1, .int (nI b))]) hx hb dX4_reasonsWith_1 rfl hl (by decide) rfl (fun ls hl => ?_)
  refine lv_iconst (v := nI 0) hx hb dX4_reasonsWith_2 (by decide +kernel) ?_
  refine lv_istore_n (lv' := [(3, .int (nI 0)), (2, .int (nI 0)), (0, .ref a0), (1, .int (nI b))]) hx hb dX4_reasonsWith_3 rfl hl (by decide) rfl (fun ls hl => ?_)
  have lp_4 : ∀ (n_4 : Nat) (i y : Nat), n - i < n_4 → (i ≤ n) → (y = smF (fun j => re j >>> b &&& 1) i) → ∀ (H : Heap) (locs : List Loc), va_P (gD G) vwCl [(a0, .inr (4, [.int vc, .int (nI n), .ref a1, .ref a2, .ref a3, .ref a4, .ref a5, .ref a6, .int rs, .int rm, .int rr, .ref a7])), (a2, .inl (gI G, 20, .inl (nA re)))] H → va_D A [(a0, .inr (4, [.int vc, .int (nI n), .ref a1, .ref a2, .ref a3, .ref a4, .ref a5, .ref a6, .int rs, .int rm, .int rr, .ref a7])), (a2, .inl (gI G, 20, .inl (nA re)))] → va_S A s.heap H locs → ∀ ls : Array Slot, lv_has ls 4 [(3, .int (nI i)), (2, .int (nI y)), (0, .ref a0), (1, .int (nI b))] → W p l e ({ frames := 0, cells := 0, slots := 0, locals := 0 } : Room) s m args below meth c H locs 0 0 (MQ below (va_Qi (fun (r : Int32) (u : Unit) => r = nI (smF (fun j => re j >>> b &&& 1) n)) (cB G A (fun (u : Unit) => [(a0, .inr (4, [.int vc, .int (nI n), .ref a1, .ref a2, .ref a3, .ref a4, .ref a5, .ref a6, .int rs, .int rm, .int rr, .ref a7])), (a2, .inl (gI G, 20, .inl (nA re)))])) A) args s 0 0 A) (F0 m 4 ls []) := by
    intro n_4
    induction n_4 with
    | zero =>
      intro i y h0
      exact absurd h0 (Nat.not_lt_zero _)
    | succ n_4 ih_4 =>
      intro i y hm_4 hi hy H locs hP hD hS ls hl
      refine lv_iload_n hx hb dX4_reasonsWith_4 rfl (lv_at hl 0 rfl) ?_
      refine lv_aload_n hx hb dX4_reasonsWith_5 rfl (lv_at hl 2 rfl) ?_
      refine z_get S K hP hX4_reasonsWith_X4 0 rfl rfl 1 (by decide) kX4_reasonsWith_1 rfl rfl dX4_reasonsWith_6 ?_
      refine zb_ge (tgt := 31) S dX4_reasonsWith_9 (by decide) (by omega) (by omega) (fun c_9 => ?_) (fun c_9 => ?_)
      · skip
        have hin : i = n := by omega
        obtain rfl : n = i := Eq.symm (hin)
        refine lv_iload_n hx hb dX4_reasonsWith_31 rfl (lv_at hl 1 rfl) ?_
        refine z_top (y := nI (smF (fun j => re j >>> b &&& 1) n)) (congrArg nI hy) ?_
        exact z_iret S hrt hlk hP hD hS () rfl rfl dX4_reasonsWith_32
      · skip
        refine lv_iload_n hx hb dX4_reasonsWith_12 rfl (lv_at hl 1 rfl) ?_
        refine lv_aload_n hx hb dX4_reasonsWith_13 rfl (lv_at hl 2 rfl) ?_
        refine z_get S K hP hX4_reasonsWith_X4 0 rfl rfl 3 (by decide) kX4_reasonsWith_2 rfl rfl dX4_reasonsWith_14 ?_
        refine lv_iload_n hx hb dX4_reasonsWith_17 rfl (lv_at hl 0 rfl) ?_
        refine z_iald S K hP 1 rfl (by omega) (by decide) dX4_reasonsWith_18 ?_
        refine lv_iload_n hx hb dX4_reasonsWith_19 rfl (lv_at hl 3 rfl) ?_
        refine zi_shr S dX4_reasonsWith_20 (hr0 i (by omega)) (by omega) ?_
        refine lv_iconst (v := nI 1) hx hb dX4_reasonsWith_21 (by decide +kernel) ?_
        refine zi_and S dX4_reasonsWith_22 ?_
        refine zi_add S dX4_reasonsWith_23 ?_
        refine lv_istore_n (lv' := [(2, .int (nI (y + (((re i) >>> b) &&& 1)))), (3, .int (nI i)), (0, .ref a0), (1, .int (nI b))]) hx hb dX4_reasonsWith_24 rfl hl (by decide) rfl (fun ls hl => ?_)
        refine lv_iinc (v := (nI (i + 1))) (lv' := [(3, .int (nI (i + 1))), (2, .int (nI (y + (((re i) >>> b) &&& 1)))), (0, .ref a0), (1, .int (nI b))]) hx hb dX4_reasonsWith_25 hl (k := 1) rfl (z_i1 _) (by decide) rfl (fun ls hl => ?_)
        refine lv_goto (tgt := 4) hx hb dX4_reasonsWith_28 (by decide) ?_
        exact ih_4 (i + 1) (y + (((re i) >>> b) &&& 1)) (by omega) (by omega) (by rw [hy]; rfl) _ _ hP hD hS _ (lv_sub hl [0, 1, 2, 3] rfl)
  exact lp_4 _ 0 0 (Nat.lt_succ_self _) (by omega) rfl _ _ hP hD hS _ (lv_sub hl [0, 1, 2, 3] rfl)
set_option maxHeartbeats 4000000 in
set_option maxRecDepth 100000 in
theorem c_X4_answers (l : Launch) (G : gT) (a0 a1 a2 a3 a4 a5 a6 a7 : Nat) (vm : Int32) (rs : Int32) (rm : Int32) (rr : Int32) (vc : Nat) (ta : Nat → Nat) (hc : vc ≤ 12) (ht : ta 0 ≤ vc) : CI l yX4_answers wsX4_answers ({ frames := 0, cells := 0, slots := 0, locals := 0 } : Room) G [.ref a0] [(a0, .inr (4, [.int (nI vc), .int vm, .ref a1, .ref a2, .ref a3, .ref a4, .ref a5, .ref a6, .int rs, .int rm, .int rr, .ref a7])), (a3, .inl (gI G, 3, .inl (nA ta)))] 0 0 (fun (r : Int32) (u : Unit) => r = nI (1 <<< (vc - ta 0))) (fun (u : Unit) => [(a0, .inr (4, [.int (nI vc), .int vm, .ref a1, .ref a2, .ref a3, .ref a4, .ref a5, .ref a6, .int rs, .int rm, .int rr, .ref a7])), (a3, .inl (gI G, 3, .inl (nA ta)))]) := by
  refine CI.of (cc := cX4_answers) (maxL := 1) (ret := (some .int)) (by decide +kernel) rfl (Nat.le_of_ble_eq_true rfl) rfl (fun p e s m args below meth c A S hrt hlk hnm K hA hP hD hS ls hl => ?_)
  have hx := S.1
  have hb := S.2.1
  have hl : lv_has ls 1 [(0, .ref a0)] := hl
  refine lv_iconst (v := nI 1) hx hb dX4_answers_0 (by decide +kernel) ?_
  refine lv_aload_n hx hb dX4_answers_1 rfl (lv_at hl 0 rfl) ?_
  refine z_get S K hP hX4_answers_X4 0 rfl rfl 0 (by decide) kX4_answers_1 rfl rfl dX4_answers_2 ?_
  refine lv_aload_n hx hb dX4_answers_5 rfl (lv_at hl 0 rfl) ?_
  refine z_get S K hP hX4_answers_X4 0 rfl rfl 4 (by decide) kX4_answers_2 rfl rfl dX4_answers_6 ?_
  refine lv_iconst (v := nI 0) hx hb dX4_answers_9 (by decide +kernel) ?_
  refine z_iald S K hP 1 rfl (by omega) (by decide) dX4_answers_10 ?_
  refine zi_sub S dX4_answers_11 (by omega) ?_
  refine zi_shl S dX4_answers_12 (by omega) ?_
  refine z_top (y := nI (1 <<< (vc - ta 0))) rfl ?_
  exact z_iret S hrt hlk hP hD hS () rfl rfl dX4_answers_13
set_option maxHeartbeats 4000000 in
set_option maxRecDepth 100000 in
theorem c_X4_settled (l : Launch) (G : gT) (a0 a1 a2 a3 a4 a5 a6 a7 : Nat) (vm : Int32) (rs : Int32) (rm : Int32) (rr : Int32) (vc : Nat) (ss : Nat → Nat) (su : Nat → Nat) (sr : Nat → Nat) (hc : vc ≤ 12) (hss : ∀ j, ss j < 4096) (hsu : ∀ j, ¬ ss j = 0 → su j ≤ 1) : CI l yX4_settled wsX4_settled ({ frames := 2, cells := 0, slots := 0, locals := 44 } : Room) G [.ref a0] [(a0, .inr (4, [.int (nI vc), .int vm, .ref a1, .ref a2, .ref a3, .ref a4, .ref a5, .ref a6, .int rs, .int rm, .int rr, .ref a7])), (a4, .inl (gI G, 12, .inl (nA ss))), (a5, .inl (gI G, 12, .inl (nA su))), (a6, .inl (gI G, 12, .inl (nA sr)))] 0 0 (fun (r : Int32) (u : Int32 × Int32 × Int32) => r = nI (seF (fun c => kno ss su sr (1 <<< c)) vc)) (fun (u : Int32 × Int32 × Int32) => [(a0, .inr (4, [.int (nI vc), .int vm, .ref a1, .ref a2, .ref a3, .ref a4, .ref a5, .ref a6, .int u.1, .int u.2.1, .int u.2.2, .ref a7])), (a4, .inl (gI G, 12, .inl (nA ss))), (a5, .inl (gI G, 12, .inl (nA su))), (a6, .inl (gI G, 12, .inl (nA sr)))]) := by
  refine CI.of (cc := cX4_settled) (maxL := 3) (ret := (some .int)) (by decide +kernel) rfl (Nat.le_of_ble_eq_true rfl) rfl (fun p e s m args below meth c A S hrt hlk hnm K hA hP hD hS ls hl => ?_)
  have hx := S.1
  have hb := S.2.1
  have hl : lv_has ls 3 [(0, .ref a0)] := hl
  refine lv_iconst (v := nI 0) hx hb dX4_settled_0 (by decide +kernel) ?_
  refine lv_istore_n (lv' := [(1, .int (nI 0)), (0, .ref a0)]) hx hb dX4_settled_1 rfl hl (by decide) rfl (fun ls hl => ?_)
  refine lv_iconst (v := nI 0) hx hb dX4_settled_2 (by decide +kernel) ?_
  refine lv_istore_n (lv' := [(2, .int (nI 0)), (1, .int (nI 0)), (0, .ref a0)]) hx hb dX4_settled_3 rfl hl (by decide) rfl (fun ls hl => ?_)
  have lp_4 : ∀ (n_4 : Nat) (i y : Nat) (rs3 rm3 rr3 : Int32), vc - i < n_4 → (i ≤ vc) → (y = seF (fun c => kno ss su sr (1 <<< c)) i) → ∀ (H : Heap) (locs : List Loc), va_P (gD G) vwCl [(a0, .inr (4, [.int (nI vc), .int vm, .ref a1, .ref a2, .ref a3, .ref a4, .ref a5, .ref a6, .int rs3, .int rm3, .int rr3, .ref a7])), (a4, .inl (gI G, 12, .inl (nA ss))), (a5, .inl (gI G, 12, .inl (nA su))), (a6, .inl (gI G, 12, .inl (nA sr)))] H → va_D A [(a0, .inr (4, [.int (nI vc), .int vm, .ref a1, .ref a2, .ref a3, .ref a4, .ref a5, .ref a6, .int rs3, .int rm3, .int rr3, .ref a7])), (a4, .inl (gI G, 12, .inl (nA ss))), (a5, .inl (gI G, 12, .inl (nA su))), (a6, .inl (gI G, 12, .inl (nA sr)))] → va_S A s.heap H locs → ∀ ls : Array Slot, lv_has ls 3 [(2, .int (nI i)), (1, .int (nI y)), (0, .ref a0)] → W p l e ({ frames := 2, cells := 0, slots := 0, locals := 44 } : Room) s m args below meth c H locs 0 0 (MQ below (va_Qi (fun (r : Int32) (u : Int32 × Int32 × Int32) => r = nI (seF (fun c => kno ss su sr (1 <<< c)) vc)) (cB G A (fun (u : Int32 × Int32 × Int32) => [(a0, .inr (4, [.int (nI vc), .int vm, .ref a1, .ref a2, .ref a3, .ref a4, .ref a5, .ref a6, .int u.1, .int u.2.1, .int u.2.2, .ref a7])), (a4, .inl (gI G, 12, .inl (nA ss))), (a5, .inl (gI G, 12, .inl (nA su))), (a6, .inl (gI G, 12, .inl (nA sr)))])) A) args s 0 0 A) (F0 m 4 ls []) := by
    intro n_4
    induction n_4 with
    | zero =>
      intro i y rs3 rm3 rr3 h0
      exact absurd h0 (Nat.not_lt_zero _)
    | succ n_4 ih_4 =>
      intro i y rs3 rm3 rr3 hm_4 hi hy H locs hP hD hS ls hl
      refine lv_iload_n hx hb dX4_settled_4 rfl (lv_at hl 0 rfl) ?_
      refine lv_aload_n hx hb dX4_settled_5 rfl (lv_at hl 2 rfl) ?_
      refine z_get S K hP hX4_settled_X4 0 rfl rfl 0 (by decide) kX4_settled_1 rfl rfl dX4_settled_6 ?_
      refine zb_ge (tgt := 36) S dX4_settled_9 (by decide) (by omega) (by omega) (fun c_9 => ?_) (fun c_9 => ?_)
      · skip
        have hin : i = vc := by omega
        obtain rfl : vc = i := Eq.symm (hin)
        refine lv_iload_n hx hb dX4_settled_36 rfl (lv_at hl 1 rfl) ?_
        refine z_top (y := nI (seF (fun c => kno ss su sr (1 <<< c)) vc)) (congrArg nI hy) ?_
        exact z_iret S hrt hlk hP hD hS (rs3, rm3, rr3) rfl rfl dX4_settled_37
      · skip
        obtain ⟨q1, q2, q3, hq⟩ : ∃ a b d, red ss su sr 12 (1 <<< i, 0, 0) = (a, b, d) := ⟨_, _, _, rfl⟩
        have hq1 : q1 < 4096 := by have := red_lt (su := su) (sr := sr) hss (b := 0) (m0 := 0) (v := 1 <<< i) (by first | exact shl12 (by omega) | exact or12 (shl12 (by omega)) (shl12 (by omega))) 12; rw [hq] at this; exact this
        have hq2 : q2 ≤ 1 := by have := red_le1 (sr := sr) hsu (v := 1 <<< i) (b := 0) (m0 := 0) (by omega) 12; rw [hq] at this; exact this
        refine lv_aload_n hx hb dX4_settled_12 rfl (lv_at hl 2 rfl) ?_
        refine lv_iconst (v := nI 1) hx hb dX4_settled_13 (by decide +kernel) ?_
        refine lv_iload_n hx hb dX4_settled_14 rfl (lv_at hl 0 rfl) ?_
        refine zi_shl S dX4_settled_15 (by omega) ?_
        refine zcVi (rest := []) S K hP hD hS hA hl.1 (c_X4_sumOf l G a0 a1 a2 a3 a4 a5 a6 a7 (nI vc) vm rs3 rm3 rr3 ss su sr (1 <<< i) q1 q2 q3 (by first | exact shl12 (by omega) | exact or12 (shl12 (by omega)) (shl12 (by omega))) hss hq hq1 hq2) rfl rfl gX4_settled_X4_sumOf rfl eX4_sumOf [0, 1, 2, 3] (by decide +kernel) rfl (fun _ => rfl) 4 0 rfl rfl rfl rfl rfl (Nat.le_of_ble_eq_true rfl) (Nat.le_of_ble_eq_true rfl) (Nat.le_of_ble_eq_true rfl) ⟨Nat.zero_le _, Nat.zero_le _⟩ dX4_settled_16 (fun r_16 u_16 H locs hw_16 hP hD hS => ?_)
        obtain ⟨hP, hD⟩ := mx_ok [some 0, some 1, some 2, some 3] (by decide +kernel) rfl rfl hP hD
        replace hw_16 : r_16 = (if q1 = 0 then nI q2 else -6) := hw_16
        obtain rfl := hw_16
        have hP : va_P (gD G) vwCl [(a0, .inr (4, [.int (nI vc), .int vm, .ref a1, .ref a2, .ref a3, .ref a4, .ref a5, .ref a6, .int (nI q1), .int (nI q2), .int (nI q3), .ref a7])), (a4, .inl (gI G, 12, .inl (nA ss))), (a5, .inl (gI G, 12, .inl (nA su))), (a6, .inl (gI G, 12, .inl (nA sr)))] H := hP
        have hD : va_D A [(a0, .inr (4, [.int (nI vc), .int vm, .ref a1, .ref a2, .ref a3, .ref a4, .ref a5, .ref a6, .int (nI q1), .int (nI q2), .int (nI q3), .ref a7])), (a4, .inl (gI G, 12, .inl (nA ss))), (a5, .inl (gI G, 12, .inl (nA su))), (a6, .inl (gI G, 12, .inl (nA sr)))] := hD
        refine lv_bipush (v := -6) hx hb dX4_settled_19 (by decide +kernel) ?_
        refine zr_eq (tgt := 30) S dX4_settled_21 (by decide) rfl (by decide : (-6 : Int32).toInt = -6) (fun c_21 => ?_) (fun c_21 => ?_)
        · skip
          refine lv_iinc (v := (nI (i + 1))) (lv' := [(2, .int (nI (i + 1))), (1, .int (nI y)), (0, .ref a0)]) hx hb dX4_settled_30 hl (k := 0) rfl (z_i1 _) (by decide) rfl (fun ls hl => ?_)
          refine lv_goto (tgt := 4) hx hb dX4_settled_33 (by decide) ?_
          exact ih_4 (i + 1) y (nI q1) (nI q2) (nI q3) (by omega) (by omega) (by first | exact se_t hy (kno_t hq (Decidable.not_not.mp (fun z => c_21 ((n6 hq2).mpr z)))) | exact se_f hy (kno_f hq ((n6 hq2).mp c_21))) _ _ hP hD hS _ (lv_sub hl [0, 1, 2] rfl)
        · skip
          refine lv_iload_n hx hb dX4_settled_24 rfl (lv_at hl 1 rfl) ?_
          refine lv_iconst (v := nI 1) hx hb dX4_settled_25 (by decide +kernel) ?_
          refine lv_iload_n hx hb dX4_settled_26 rfl (lv_at hl 0 rfl) ?_
          refine zi_shl S dX4_settled_27 (by omega) ?_
          refine zi_or S dX4_settled_28 ?_
          refine lv_istore_n (lv' := [(1, .int (nI (y ||| (1 <<< i)))), (2, .int (nI i)), (0, .ref a0)]) hx hb dX4_settled_29 rfl hl (by decide) rfl (fun ls hl => ?_)
          refine lv_iinc (v := (nI (i + 1))) (lv' := [(2, .int (nI (i + 1))), (1, .int (nI (y ||| (1 <<< i)))), (0, .ref a0)]) hx hb dX4_settled_30 hl (k := 1) rfl (z_i1 _) (by decide) rfl (fun ls hl => ?_)
          refine lv_goto (tgt := 4) hx hb dX4_settled_33 (by decide) ?_
          exact ih_4 (i + 1) (y ||| (1 <<< i)) (nI q1) (nI q2) (nI q3) (by omega) (by omega) (by first | exact se_t hy (kno_t hq (Decidable.not_not.mp (fun z => c_21 ((n6 hq2).mpr z)))) | exact se_f hy (kno_f hq ((n6 hq2).mp c_21))) _ _ hP hD hS _ (lv_sub hl [0, 1, 2] rfl)
  exact lp_4 _ 0 0 rs rm rr (Nat.lt_succ_self _) (by omega) rfl _ _ hP hD hS _ (lv_sub hl [0, 1, 2] rfl)
set_option maxHeartbeats 4000000 in
set_option maxRecDepth 100000 in
theorem c_X4_boundTo (l : Launch) (G : gT) (a0 a1 a2 a3 a4 a5 a6 a7 : Nat) (vm : Int32) (rs : Int32) (rm : Int32) (rr : Int32) (vc : Nat) (x : Nat) (ss : Nat → Nat) (su : Nat → Nat) (sr : Nat → Nat) (hc : vc ≤ 12) (hss : ∀ j, ss j < 4096) (hsu : ∀ j, ¬ ss j = 0 → su j ≤ 1) (hx2 : x < vc) : CI l yX4_boundTo wsX4_boundTo ({ frames := 2, cells := 0, slots := 0, locals := 44 } : Room) G [.ref a0, .int (nI x)] [(a0, .inr (4, [.int (nI vc), .int vm, .ref a1, .ref a2, .ref a3, .ref a4, .ref a5, .ref a6, .int rs, .int rm, .int rr, .ref a7])), (a4, .inl (gI G, 12, .inl (nA ss))), (a5, .inl (gI G, 12, .inl (nA su))), (a6, .inl (gI G, 12, .inl (nA sr)))] 0 0 (fun (r : Int32) (u : Int32 × Int32 × Int32) => r = nI (boF ss su sr x vc)) (fun (u : Int32 × Int32 × Int32) => [(a0, .inr (4, [.int (nI vc), .int vm, .ref a1, .ref a2, .ref a3, .ref a4, .ref a5, .ref a6, .int u.1, .int u.2.1, .int u.2.2, .ref a7])), (a4, .inl (gI G, 12, .inl (nA ss))), (a5, .inl (gI G, 12, .inl (nA su))), (a6, .inl (gI G, 12, .inl (nA sr)))]) := by
  refine CI.of (cc := cX4_boundTo) (maxL := 5) (ret := (some .int)) (by decide +kernel) rfl (Nat.le_of_ble_eq_true rfl) rfl (fun p e s m args below meth c A S hrt hlk hnm K hA hP hD hS ls hl => ?_)
  have hx := S.1
  have hb := S.2.1
  have hl : lv_has ls 5 [(0, .ref a0), (1, .int (nI x))] := hl
  refine lv_iconst (v := nI 1) hx hb dX4_boundTo_0 (by decide +kernel) ?_
  refine lv_iload_n hx hb dX4_boundTo_1 rfl (lv_at hl 1 rfl) ?_
  refine zi_shl S dX4_boundTo_2 (by omega) ?_
  refine lv_istore_n (lv' := [(2, .int (nI (1 <<< x))), (0, .ref a0), (1, .int (nI x))]) hx hb dX4_boundTo_3 rfl hl (by decide) rfl (fun ls hl => ?_)
  obtain ⟨q1, q2, q3, hq⟩ : ∃ a b d, red ss su sr 12 (1 <<< x, 0, 0) = (a, b, d) := ⟨_, _, _, rfl⟩
  have hq1 : q1 < 4096 := by have := red_lt (su := su) (sr := sr) hss (b := 0) (m0 := 0) (v := 1 <<< x) (by first | exact shl12 (by omega) | exact or12 (shl12 (by omega)) (shl12 (by omega))) 12; rw [hq] at this; exact this
  have hq2 : q2 ≤ 1 := by have := red_le1 (sr := sr) hsu (v := 1 <<< x) (b := 0) (m0 := 0) (by omega) 12; rw [hq] at this; exact this
  refine lv_aload_n hx hb dX4_boundTo_4 rfl (lv_at hl 1 rfl) ?_
  refine lv_iload_n hx hb dX4_boundTo_5 rfl (lv_at hl 0 rfl) ?_
  refine zcVi (rest := []) S K hP hD hS hA hl.1 (c_X4_sumOf l G a0 a1 a2 a3 a4 a5 a6 a7 (nI vc) vm rs rm rr ss su sr (1 <<< x) q1 q2 q3 (by first | exact shl12 (by omega) | exact or12 (shl12 (by omega)) (shl12 (by omega))) hss hq hq1 hq2) rfl rfl gX4_boundTo_X4_sumOf rfl eX4_sumOf [0, 1, 2, 3] (by decide +kernel) rfl (fun _ => rfl) 4 0 rfl rfl rfl rfl rfl (Nat.le_of_ble_eq_true rfl) (Nat.le_of_ble_eq_true rfl) (Nat.le_of_ble_eq_true rfl) ⟨Nat.zero_le _, Nat.zero_le _⟩ dX4_boundTo_6 (fun r_6 u_6 H locs hw_6 hP hD hS => ?_)
  obtain ⟨hP, hD⟩ := mx_ok [some 0, some 1, some 2, some 3] (by decide +kernel) rfl rfl hP hD
  replace hw_6 : r_6 = (if q1 = 0 then nI q2 else -6) := hw_6
  obtain rfl := hw_6
  have hP : va_P (gD G) vwCl [(a0, .inr (4, [.int (nI vc), .int vm, .ref a1, .ref a2, .ref a3, .ref a4, .ref a5, .ref a6, .int (nI q1), .int (nI q2), .int (nI q3), .ref a7])), (a4, .inl (gI G, 12, .inl (nA ss))), (a5, .inl (gI G, 12, .inl (nA su))), (a6, .inl (gI G, 12, .inl (nA sr)))] H := hP
  have hD : va_D A [(a0, .inr (4, [.int (nI vc), .int vm, .ref a1, .ref a2, .ref a3, .ref a4, .ref a5, .ref a6, .int (nI q1), .int (nI q2), .int (nI q3), .ref a7])), (a4, .inl (gI G, 12, .inl (nA ss))), (a5, .inl (gI G, 12, .inl (nA su))), (a6, .inl (gI G, 12, .inl (nA sr)))] := hD
  refine lv_bipush (v := -6) hx hb dX4_boundTo_9 (by decide +kernel) ?_
  refine zr_eq (tgt := 16) S dX4_boundTo_11 (by decide) rfl (by decide : (-6 : Int32).toInt = -6) (fun c_11 => ?_) (fun c_11 => ?_)
  · skip
    have hko : kno ss su sr (1 <<< x) = false := kno_f hq ((n6 hq2).mp c_11)
    refine lv_iconst (v := nI 0) hx hb dX4_boundTo_16 (by decide +kernel) ?_
    refine lv_istore_n (lv' := [(3, .int (nI 0)), (2, .int (nI (1 <<< x))), (0, .ref a0), (1, .int (nI x))]) hx hb dX4_boundTo_17 rfl hl (by decide) rfl (fun ls hl => ?_)
    refine lv_iconst (v := nI 0) hx hb dX4_boundTo_18 (by decide +kernel) ?_
    refine lv_istore (lv' := [(4, .int (nI 0)), (3, .int (nI 0)), (2, .int (nI (1 <<< x))), (0, .ref a0), (1, .int (nI x))]) hx hb dX4_boundTo_19 hl (by decide) rfl (fun ls hl => ?_)
    have lp_21 : ∀ (n_21 : Nat) (i y : Nat) (rs3 rm3 rr3 : Int32), vc - i < n_21 → (i ≤ vc) → (y = seF (fun c => decide (¬ c = x) && kno ss su sr (1 <<< x ||| 1 <<< c)) i) → ∀ (H : Heap) (locs : List Loc), va_P (gD G) vwCl [(a0, .inr (4, [.int (nI vc), .int vm, .ref a1, .ref a2, .ref a3, .ref a4, .ref a5, .ref a6, .int rs3, .int rm3, .int rr3, .ref a7])), (a4, .inl (gI G, 12, .inl (nA ss))), (a5, .inl (gI G, 12, .inl (nA su))), (a6, .inl (gI G, 12, .inl (nA sr)))] H → va_D A [(a0, .inr (4, [.int (nI vc), .int vm, .ref a1, .ref a2, .ref a3, .ref a4, .ref a5, .ref a6, .int rs3, .int rm3, .int rr3, .ref a7])), (a4, .inl (gI G, 12, .inl (nA ss))), (a5, .inl (gI G, 12, .inl (nA su))), (a6, .inl (gI G, 12, .inl (nA sr)))] → va_S A s.heap H locs → ∀ ls : Array Slot, lv_has ls 5 [(4, .int (nI i)), (3, .int (nI y)), (2, .int (nI (1 <<< x))), (0, .ref a0), (1, .int (nI x))] → W p l e ({ frames := 2, cells := 0, slots := 0, locals := 44 } : Room) s m args below meth c H locs 0 0 (MQ below (va_Qi (fun (r : Int32) (u : Int32 × Int32 × Int32) => r = nI (boF ss su sr x vc)) (cB G A (fun (u : Int32 × Int32 × Int32) => [(a0, .inr (4, [.int (nI vc), .int vm, .ref a1, .ref a2, .ref a3, .ref a4, .ref a5, .ref a6, .int u.1, .int u.2.1, .int u.2.2, .ref a7])), (a4, .inl (gI G, 12, .inl (nA ss))), (a5, .inl (gI G, 12, .inl (nA su))), (a6, .inl (gI G, 12, .inl (nA sr)))])) A) args s 0 0 A) (F0 m 21 ls []) := by
      intro n_21
      induction n_21 with
      | zero =>
        intro i y rs3 rm3 rr3 h0
        exact absurd h0 (Nat.not_lt_zero _)
      | succ n_21 ih_21 =>
        intro i y rs3 rm3 rr3 hm_21 hi hy H locs hP hD hS ls hl
        refine lv_iload hx hb dX4_boundTo_21 (lv_at hl 0 rfl) ?_
        refine lv_aload_n hx hb dX4_boundTo_23 rfl (lv_at hl 3 rfl) ?_
        refine z_get S K hP hX4_boundTo_X4 0 rfl rfl 0 (by decide) kX4_boundTo_1 rfl rfl dX4_boundTo_24 ?_
        refine zb_ge (tgt := 64) S dX4_boundTo_27 (by decide) (by omega) (by omega) (fun c_27 => ?_) (fun c_27 => ?_)
        · skip
          have hin : i = vc := by omega
          obtain rfl : vc = i := Eq.symm (hin)
          refine lv_iload_n hx hb dX4_boundTo_64 rfl (lv_at hl 1 rfl) ?_
          refine z_top (y := nI (boF ss su sr x vc)) (congrArg nI (by unfold boF; first | rw [if_pos hko] | (rw [if_neg (by rw [hko]; exact Bool.false_ne_true)]; exact hy))) ?_
          exact z_iret S hrt hlk hP hD hS (rs3, rm3, rr3) rfl rfl dX4_boundTo_65
        · skip
          refine lv_iload hx hb dX4_boundTo_30 (lv_at hl 0 rfl) ?_
          refine lv_iload_n hx hb dX4_boundTo_32 rfl (lv_at hl 4 rfl) ?_
          refine zb_eq (tgt := 58) S dX4_boundTo_33 (by decide) (by omega) (by omega) (fun c_33 => ?_) (fun c_33 => ?_)
          · skip
            refine lv_iinc (v := (nI (i + 1))) (lv' := [(4, .int (nI (i + 1))), (3, .int (nI y)), (2, .int (nI (1 <<< x))), (0, .ref a0), (1, .int (nI x))]) hx hb dX4_boundTo_58 hl (k := 0) rfl (z_i1 _) (by decide) rfl (fun ls hl => ?_)
            refine lv_goto (tgt := 21) hx hb dX4_boundTo_61 (by decide) ?_
            exact ih_21 (i + 1) y rs3 rm3 rr3 (by omega) (by omega) (by first | exact se_t hy (by rw [kno_t hq (Decidable.not_not.mp (fun z => c_48 ((n6 hq2).mpr z))), decide_eq_true c_33]; rfl) | exact se_f hy (by rw [kno_f hq ((n6 hq2).mp c_48), Bool.and_false]) | exact se_f hy (by rw [decide_eq_false (fun z => z c_33)]; rfl)) _ _ hP hD hS _ (lv_sub hl [0, 1, 2, 3, 4] rfl)
          · skip
            obtain ⟨q1, q2, q3, hq⟩ : ∃ a b d, red ss su sr 12 (1 <<< x ||| 1 <<< i, 0, 0) = (a, b, d) := ⟨_, _, _, rfl⟩
            have hq1 : q1 < 4096 := by have := red_lt (su := su) (sr := sr) hss (b := 0) (m0 := 0) (v := 1 <<< x ||| 1 <<< i) (by first | exact shl12 (by omega) | exact or12 (shl12 (by omega)) (shl12 (by omega))) 12; rw [hq] at this; exact this
            have hq2 : q2 ≤ 1 := by have := red_le1 (sr := sr) hsu (v := 1 <<< x ||| 1 <<< i) (b := 0) (m0 := 0) (by omega) 12; rw [hq] at this; exact this
            refine lv_aload_n hx hb dX4_boundTo_36 rfl (lv_at hl 3 rfl) ?_
            refine lv_iload_n hx hb dX4_boundTo_37 rfl (lv_at hl 2 rfl) ?_
            refine lv_iconst (v := nI 1) hx hb dX4_boundTo_38 (by decide +kernel) ?_
            refine lv_iload hx hb dX4_boundTo_39 (lv_at hl 0 rfl) ?_
            refine zi_shl S dX4_boundTo_41 (by omega) ?_
            refine zi_or S dX4_boundTo_42 ?_
            refine zcVi (rest := []) S K hP hD hS hA hl.1 (c_X4_sumOf l G a0 a1 a2 a3 a4 a5 a6 a7 (nI vc) vm rs3 rm3 rr3 ss su sr ((1 <<< x) ||| (1 <<< i)) q1 q2 q3 (by first | exact shl12 (by omega) | exact or12 (shl12 (by omega)) (shl12 (by omega))) hss hq hq1 hq2) rfl rfl gX4_boundTo_X4_sumOf rfl eX4_sumOf [0, 1, 2, 3] (by decide +kernel) rfl (fun _ => rfl) 4 0 rfl rfl rfl rfl rfl (Nat.le_of_ble_eq_true rfl) (Nat.le_of_ble_eq_true rfl) (Nat.le_of_ble_eq_true rfl) ⟨Nat.zero_le _, Nat.zero_le _⟩ dX4_boundTo_43 (fun r_43 u_43 H locs hw_43 hP hD hS => ?_)
            obtain ⟨hP, hD⟩ := mx_ok [some 0, some 1, some 2, some 3] (by decide +kernel) rfl rfl hP hD
            replace hw_43 : r_43 = (if q1 = 0 then nI q2 else -6) := hw_43
            obtain rfl := hw_43
            have hP : va_P (gD G) vwCl [(a0, .inr (4, [.int (nI vc), .int vm, .ref a1, .ref a2, .ref a3, .ref a4, .ref a5, .ref a6, .int (nI q1), .int (nI q2), .int (nI q3), .ref a7])), (a4, .inl (gI G, 12, .inl (nA ss))), (a5, .inl (gI G, 12, .inl (nA su))), (a6, .inl (gI G, 12, .inl (nA sr)))] H := hP
            have hD : va_D A [(a0, .inr (4, [.int (nI vc), .int vm, .ref a1, .ref a2, .ref a3, .ref a4, .ref a5, .ref a6, .int (nI q1), .int (nI q2), .int (nI q3), .ref a7])), (a4, .inl (gI G, 12, .inl (nA ss))), (a5, .inl (gI G, 12, .inl (nA su))), (a6, .inl (gI G, 12, .inl (nA sr)))] := hD
            refine lv_bipush (v := -6) hx hb dX4_boundTo_46 (by decide +kernel) ?_
            refine zr_eq (tgt := 58) S dX4_boundTo_48 (by decide) rfl (by decide : (-6 : Int32).toInt = -6) (fun c_48 => ?_) (fun c_48 => ?_)
            · skip
              refine lv_iinc (v := (nI (i + 1))) (lv' := [(4, .int (nI (i + 1))), (3, .int (nI y)), (2, .int (nI (1 <<< x))), (0, .ref a0), (1, .int (nI x))]) hx hb dX4_boundTo_58 hl (k := 0) rfl (z_i1 _) (by decide) rfl (fun ls hl => ?_)
              refine lv_goto (tgt := 21) hx hb dX4_boundTo_61 (by decide) ?_
              exact ih_21 (i + 1) y (nI q1) (nI q2) (nI q3) (by omega) (by omega) (by first | exact se_t hy (by rw [kno_t hq (Decidable.not_not.mp (fun z => c_48 ((n6 hq2).mpr z))), decide_eq_true c_33]; rfl) | exact se_f hy (by rw [kno_f hq ((n6 hq2).mp c_48), Bool.and_false]) | exact se_f hy (by rw [decide_eq_false (fun z => z c_33)]; rfl)) _ _ hP hD hS _ (lv_sub hl [0, 1, 2, 3, 4] rfl)
            · skip
              refine lv_iload_n hx hb dX4_boundTo_51 rfl (lv_at hl 1 rfl) ?_
              refine lv_iconst (v := nI 1) hx hb dX4_boundTo_52 (by decide +kernel) ?_
              refine lv_iload hx hb dX4_boundTo_53 (lv_at hl 0 rfl) ?_
              refine zi_shl S dX4_boundTo_55 (by omega) ?_
              refine zi_or S dX4_boundTo_56 ?_
              refine lv_istore_n (lv' := [(3, .int (nI (y ||| (1 <<< i)))), (4, .int (nI i)), (2, .int (nI (1 <<< x))), (0, .ref a0), (1, .int (nI x))]) hx hb dX4_boundTo_57 rfl hl (by decide) rfl (fun ls hl => ?_)
              refine lv_iinc (v := (nI (i + 1))) (lv' := [(4, .int (nI (i + 1))), (3, .int (nI (y ||| (1 <<< i)))), (2, .int (nI (1 <<< x))), (0, .ref a0), (1, .int (nI x))]) hx hb dX4_boundTo_58 hl (k := 1) rfl (z_i1 _) (by decide) rfl (fun ls hl => ?_)
              refine lv_goto (tgt := 21) hx hb dX4_boundTo_61 (by decide) ?_
              exact ih_21 (i + 1) (y ||| (1 <<< i)) (nI q1) (nI q2) (nI q3) (by omega) (by omega) (by first | exact se_t hy (by rw [kno_t hq (Decidable.not_not.mp (fun z => c_48 ((n6 hq2).mpr z))), decide_eq_true c_33]; rfl) | exact se_f hy (by rw [kno_f hq ((n6 hq2).mp c_48), Bool.and_false]) | exact se_f hy (by rw [decide_eq_false (fun z => z c_33)]; rfl)) _ _ hP hD hS _ (lv_sub hl [0, 1, 2, 3, 4] rfl)
    exact lp_21 _ 0 0 (nI q1) (nI q2) (nI q3) (Nat.lt_succ_self _) (by omega) rfl _ _ hP hD hS _ (lv_sub hl [0, 1, 2, 3, 4] rfl)
  · skip
    have hko : kno ss su sr (1 <<< x) = true := kno_t hq (Decidable.not_not.mp (fun z => c_11 ((n6 hq2).mpr z)))
    refine lv_iconst (v := nI 0) hx hb dX4_boundTo_14 (by decide +kernel) ?_
    refine z_top (y := nI (boF ss su sr x vc)) (congrArg nI (by unfold boF; first | rw [if_pos hko] | (rw [if_neg (by rw [hko]; exact Bool.false_ne_true)]; exact hy))) ?_
    exact z_iret S hrt hlk hP hD hS (nI q1, nI q2, nI q3) rfl rfl dX4_boundTo_15
set_option maxHeartbeats 4000000 in
set_option maxRecDepth 100000 in
theorem c_X4_answerAt (l : Launch) (G : gT) (a0 a1 a2 a3 a4 a5 a6 a7 : Nat) (vm : Int32) (rs : Int32) (rm : Int32) (rr : Int32) (vc : Nat) (ta : Nat → Nat) (ss : Nat → Nat) (su : Nat → Nat) (q : Nat) (hc : vc ≤ 12) (ht : ta 0 ≤ vc) (hfr : vc - ta 0 = fr ss vc) (hl1 : low1 ss) (hss : ∀ j, ss j < 4096) (hsu : ∀ j, ¬ ss j = 0 → su j ≤ 1) (hq0 : q < 4096) : CI l yX4_answerAt wsX4_answerAt ({ frames := 2, cells := 0, slots := 0, locals := 40 } : Room) G [.ref a0, .int (nI q)] [(a0, .inr (4, [.int (nI vc), .int vm, .ref a1, .ref a2, .ref a3, .ref a4, .ref a5, .ref a6, .int rs, .int rm, .int rr, .ref a7])), (a3, .inl (gI G, 3, .inl (nA ta))), (a4, .inl (gI G, 12, .inl (nA ss))), (a5, .inl (gI G, 12, .inl (nA su)))] 0 0 (fun (r : Int32) (u : Nat) => r = nI u ∧ AnsOf ss su vc q u) (fun (u : Nat) => [(a0, .inr (4, [.int (nI vc), .int vm, .ref a1, .ref a2, .ref a3, .ref a4, .ref a5, .ref a6, .int rs, .int rm, .int rr, .ref a7])), (a3, .inl (gI G, 3, .inl (nA ta))), (a4, .inl (gI G, 12, .inl (nA ss))), (a5, .inl (gI G, 12, .inl (nA su)))]) := by
  refine CI.of (cc := cX4_answerAt) (maxL := 6) (ret := (some .int)) (by decide +kernel) rfl (Nat.le_of_ble_eq_true rfl) rfl (fun p e s m args below meth c A S hrt hlk hnm K hA hP hD hS ls hl => ?_)
  have hx := S.1
  have hb := S.2.1
  have hl : lv_has ls 6 [(0, .ref a0), (1, .int (nI q))] := hl
  refine lv_aload_n hx hb dX4_answerAt_0 rfl (lv_at hl 0 rfl) ?_
  refine z_get S K hP hX4_answerAt_X4 0 rfl rfl 0 (by decide) kX4_answerAt_1 rfl rfl dX4_answerAt_1 ?_
  refine lv_aload_n hx hb dX4_answerAt_4 rfl (lv_at hl 0 rfl) ?_
  refine z_get S K hP hX4_answerAt_X4 0 rfl rfl 4 (by decide) kX4_answerAt_2 rfl rfl dX4_answerAt_5 ?_
  refine lv_iconst (v := nI 0) hx hb dX4_answerAt_8 (by decide +kernel) ?_
  refine z_iald S K hP 1 rfl (by omega) (by decide) dX4_answerAt_9 ?_
  refine zi_sub S dX4_answerAt_10 (by omega) ?_
  refine z_top (y := nI (fr ss vc)) (congrArg nI hfr) ?_
  refine lv_istore_n (lv' := [(2, .int (nI (fr ss vc))), (0, .ref a0), (1, .int (nI q))]) hx hb dX4_answerAt_11 rfl hl (by decide) rfl (fun ls hl => ?_)
  refine lv_iconst (v := nI 0) hx hb dX4_answerAt_12 (by decide +kernel) ?_
  refine lv_istore_n (lv' := [(3, .int (nI 0)), (2, .int (nI (fr ss vc))), (0, .ref a0), (1, .int (nI q))]) hx hb dX4_answerAt_13 rfl hl (by decide) rfl (fun ls hl => ?_)
  refine lv_aload_n hx hb dX4_answerAt_14 rfl (lv_at hl 2 rfl) ?_
  refine z_get S K hP hX4_answerAt_X4 0 rfl rfl 0 (by decide) kX4_answerAt_1 rfl rfl dX4_answerAt_15 ?_
  refine lv_iconst (v := nI 1) hx hb dX4_answerAt_18 (by decide +kernel) ?_
  refine lv_isub hx hb dX4_answerAt_19 ?_
  refine z_top (z_subd _) ?_
  refine lv_istore (lv' := [(4, .int (dn vc)), (3, .int (nI 0)), (2, .int (nI (fr ss vc))), (0, .ref a0), (1, .int (nI q))]) hx hb dX4_answerAt_20 hl (by decide) rfl (fun ls hl => ?_)
  have lp_22 : ∀ (n_22 : Nat) (k a : Nat), k < n_22 → (k ≤ vc) → (AW ss su vc q k a) → ∀ (H : Heap) (locs : List Loc), va_P (gD G) vwCl [(a0, .inr (4, [.int (nI vc), .int vm, .ref a1, .ref a2, .ref a3, .ref a4, .ref a5, .ref a6, .int rs, .int rm, .int rr, .ref a7])), (a3, .inl (gI G, 3, .inl (nA ta))), (a4, .inl (gI G, 12, .inl (nA ss))), (a5, .inl (gI G, 12, .inl (nA su)))] H → va_D A [(a0, .inr (4, [.int (nI vc), .int vm, .ref a1, .ref a2, .ref a3, .ref a4, .ref a5, .ref a6, .int rs, .int rm, .int rr, .ref a7])), (a3, .inl (gI G, 3, .inl (nA ta))), (a4, .inl (gI G, 12, .inl (nA ss))), (a5, .inl (gI G, 12, .inl (nA su)))] → va_S A s.heap H locs → ∀ ls : Array Slot, lv_has ls 6 [(4, .int (dn k)), (3, .int (nI a)), (2, .int (nI (fr ss k))), (0, .ref a0), (1, .int (nI q))] → W p l e ({ frames := 2, cells := 0, slots := 0, locals := 40 } : Room) s m args below meth c H locs 0 0 (MQ below (va_Qi (fun (r : Int32) (u : Nat) => r = nI u ∧ AnsOf ss su vc q u) (cB G A (fun (u : Nat) => [(a0, .inr (4, [.int (nI vc), .int vm, .ref a1, .ref a2, .ref a3, .ref a4, .ref a5, .ref a6, .int rs, .int rm, .int rr, .ref a7])), (a3, .inl (gI G, 3, .inl (nA ta))), (a4, .inl (gI G, 12, .inl (nA ss))), (a5, .inl (gI G, 12, .inl (nA su)))])) A) args s 0 0 A) (F0 m 22 ls []) := by
    intro n_22
    induction n_22 with
    | zero =>
      intro k a h0
      exact absurd h0 (Nat.not_lt_zero _)
    | succ n_22 ih_22 =>
      intro k a hm_22 hk hw0 H locs hP hD hS ls hl
      rcases k with _ | k
      · skip
        have hl : lv_has ls 6 [(4, .int (-1)), (3, .int (nI a)), (2, .int (nI (fr ss 0))), (0, .ref a0), (1, .int (nI q))] := hl
        have hP : va_P (gD G) vwCl [(a0, .inr (4, [.int (nI vc), .int vm, .ref a1, .ref a2, .ref a3, .ref a4, .ref a5, .ref a6, .int rs, .int rm, .int rr, .ref a7])), (a3, .inl (gI G, 3, .inl (nA ta))), (a4, .inl (gI G, 12, .inl (nA ss))), (a5, .inl (gI G, 12, .inl (nA su)))] H := hP
        have hD : va_D A [(a0, .inr (4, [.int (nI vc), .int vm, .ref a1, .ref a2, .ref a3, .ref a4, .ref a5, .ref a6, .int rs, .int rm, .int rr, .ref a7])), (a3, .inl (gI G, 3, .inl (nA ta))), (a4, .inl (gI G, 12, .inl (nA ss))), (a5, .inl (gI G, 12, .inl (nA su)))] := hD
        refine lv_iload hx hb dX4_answerAt_22 (lv_at hl 0 rfl) ?_
        refine zq_lt (tgt := 86) S dX4_answerAt_24 (by decide) (by decide : (-1 : Int32).toInt = -1) (fun c_24 => ?_) (fun c_24 => ?_)
        · skip
          have hae := aw_end hw0
          refine lv_iload_n hx hb dX4_answerAt_86 rfl (lv_at hl 1 rfl) ?_
          exact z_iret S hrt hlk hP hD hS a rfl ⟨rfl, hae⟩ dX4_answerAt_87
        · skip
          exact absurd c_24 (by omega)
      · skip
        have hl : lv_has ls 6 [(4, .int (nI k)), (3, .int (nI a)), (2, .int (nI (fr ss (k + 1)))), (0, .ref a0), (1, .int (nI q))] := hl
        have hP : va_P (gD G) vwCl [(a0, .inr (4, [.int (nI vc), .int vm, .ref a1, .ref a2, .ref a3, .ref a4, .ref a5, .ref a6, .int rs, .int rm, .int rr, .ref a7])), (a3, .inl (gI G, 3, .inl (nA ta))), (a4, .inl (gI G, 12, .inl (nA ss))), (a5, .inl (gI G, 12, .inl (nA su)))] H := hP
        have hD : va_D A [(a0, .inr (4, [.int (nI vc), .int vm, .ref a1, .ref a2, .ref a3, .ref a4, .ref a5, .ref a6, .int rs, .int rm, .int rr, .ref a7])), (a3, .inl (gI G, 3, .inl (nA ta))), (a4, .inl (gI G, 12, .inl (nA ss))), (a5, .inl (gI G, 12, .inl (nA su)))] := hD
        have hfk := fr_le ss k
        have hsk := hss k
        refine lv_iload hx hb dX4_answerAt_22 (lv_at hl 0 rfl) ?_
        refine zq_lt (tgt := 86) S dX4_answerAt_24 (by decide) (z_toInt (by omega)) (fun c_24 => ?_) (fun c_24 => ?_)
        · skip
          exact absurd c_24 (by omega)
        · skip
          refine lv_aload_n hx hb dX4_answerAt_27 rfl (lv_at hl 3 rfl) ?_
          refine z_get S K hP hX4_answerAt_X4 0 rfl rfl 5 (by decide) kX4_answerAt_3 rfl rfl dX4_answerAt_28 ?_
          refine lv_iload hx hb dX4_answerAt_31 (lv_at hl 0 rfl) ?_
          refine z_iald S K hP 2 rfl (by omega) (by decide) dX4_answerAt_33 ?_
          refine zf_ne (tgt := 50) S dX4_answerAt_34 (by decide) (by omega) (fun c_34 => ?_) (fun c_34 => ?_)
          · skip
            rw [fr_step c_34] at hl
            refine lv_aload_n hx hb dX4_answerAt_50 rfl (lv_at hl 3 rfl) ?_
            refine z_get S K hP hX4_answerAt_X4 0 rfl rfl 6 (by decide) kX4_answerAt_4 rfl rfl dX4_answerAt_51 ?_
            refine lv_iload hx hb dX4_answerAt_54 (lv_at hl 0 rfl) ?_
            refine z_iald S K hP 3 rfl (by omega) (by decide) dX4_answerAt_56 ?_
            refine lv_aload_n hx hb dX4_answerAt_57 rfl (lv_at hl 3 rfl) ?_
            refine z_get S K hP hX4_answerAt_X4 0 rfl rfl 5 (by decide) kX4_answerAt_3 rfl rfl dX4_answerAt_58 ?_
            refine lv_iload hx hb dX4_answerAt_61 (lv_at hl 0 rfl) ?_
            refine z_iald S K hP 2 rfl (by omega) (by decide) dX4_answerAt_63 ?_
            refine lv_iload_n hx hb dX4_answerAt_64 rfl (lv_at hl 1 rfl) ?_
            refine zi_and S dX4_answerAt_65 ?_
            refine zcNi (rest := [.int (nI (su k))]) S K hP hD hS hA hl.1 (c_X5_parity l G ((ss k) &&& a) (and31 (by omega))) rfl rfl gX4_answerAt_X5_parity_n77 rfl (List.mem_of_getElem? (i := 9) rfl) kX4_answerAt_6 kX4_answerAt_5 eX5_parity.2 [] (by decide +kernel) rfl (fun _ => rfl) rfl rfl (Nat.le_of_ble_eq_true rfl) (Nat.le_of_ble_eq_true rfl) (Nat.le_of_ble_eq_true rfl) ⟨Nat.zero_le _, Nat.zero_le _⟩ dX4_answerAt_66 (fun r_66 u_66 H locs hw_66 hP hD hS => ?_)
            replace hw_66 : r_66 = nI (pty ((ss k) &&& a)) := hw_66
            obtain rfl := hw_66
            have hP : va_P (gD G) vwCl [(a0, .inr (4, [.int (nI vc), .int vm, .ref a1, .ref a2, .ref a3, .ref a4, .ref a5, .ref a6, .int rs, .int rm, .int rr, .ref a7])), (a3, .inl (gI G, 3, .inl (nA ta))), (a4, .inl (gI G, 12, .inl (nA ss))), (a5, .inl (gI G, 12, .inl (nA su)))] H := hP
            have hD : va_D A [(a0, .inr (4, [.int (nI vc), .int vm, .ref a1, .ref a2, .ref a3, .ref a4, .ref a5, .ref a6, .int rs, .int rm, .int rr, .ref a7])), (a3, .inl (gI G, 3, .inl (nA ta))), (a4, .inl (gI G, 12, .inl (nA ss))), (a5, .inl (gI G, 12, .inl (nA su)))] := hD
            refine zi_xor S dX4_answerAt_69 ?_
            refine lv_istore (lv' := [(5, .int (nI ((su k) ^^^ (pty ((ss k) &&& a))))), (4, .int (nI k)), (3, .int (nI a)), (2, .int (nI (fr ss k))), (0, .ref a0), (1, .int (nI q))]) hx hb dX4_answerAt_70 hl (by decide) rfl (fun ls hl => ?_)
            refine lv_iload_n hx hb dX4_answerAt_72 rfl (lv_at hl 2 rfl) ?_
            refine lv_iload hx hb dX4_answerAt_73 (lv_at hl 0 rfl) ?_
            refine lv_iload hx hb dX4_answerAt_75 (lv_at hl 1 rfl) ?_
            refine zi_shl S dX4_answerAt_77 (by omega) ?_
            refine zi_or S dX4_answerAt_78 ?_
            refine lv_istore_n (lv' := [(3, .int (nI (a ||| (((su k) ^^^ (pty ((ss k) &&& a))) <<< k)))), (5, .int (nI ((su k) ^^^ (pty ((ss k) &&& a))))), (4, .int (nI k)), (2, .int (nI (fr ss k))), (0, .ref a0), (1, .int (nI q))]) hx hb dX4_answerAt_79 rfl hl (by decide) rfl (fun ls hl => ?_)
            refine lv_iinc (v := (dn k)) (lv' := [(4, .int (dn k)), (3, .int (nI (a ||| (((su k) ^^^ (pty ((ss k) &&& a))) <<< k)))), (5, .int (nI ((su k) ^^^ (pty ((ss k) &&& a))))), (2, .int (nI (fr ss k))), (0, .ref a0), (1, .int (nI q))]) hx hb dX4_answerAt_80 hl (k := 2) rfl (z_imd _) (by decide) rfl (fun ls hl => ?_)
            refine lv_goto (tgt := 22) hx hb dX4_answerAt_83 (by decide) ?_
            exact ih_22 k (a ||| (((su k) ^^^ (pty ((ss k) &&& a))) <<< k)) (by omega) (by omega) (by first | exact aw_free hl1 hc (by omega) hw0 c_34 | exact aw_step hl1 hc (by omega) hw0 c_34 (hsu _ c_34)) _ _ hP hD hS _ (lv_sub hl [0, 1, 3, 4, 5] rfl)
          · skip
            rw [fr_free c_34] at hl
            refine lv_iinc (v := (nI (fr ss k))) (lv' := [(2, .int (nI (fr ss k))), (4, .int (nI k)), (3, .int (nI a)), (0, .ref a0), (1, .int (nI q))]) hx hb dX4_answerAt_37 hl (k := 2) rfl (z_im _) (by decide) rfl (fun ls hl => ?_)
            refine lv_iload_n hx hb dX4_answerAt_40 rfl (lv_at hl 4 rfl) ?_
            refine lv_iload_n hx hb dX4_answerAt_41 rfl (lv_at hl 0 rfl) ?_
            refine zi_shr S dX4_answerAt_42 (by omega) (by omega) ?_
            refine lv_iconst (v := nI 1) hx hb dX4_answerAt_43 (by decide +kernel) ?_
            refine zi_and S dX4_answerAt_44 ?_
            refine lv_istore (lv' := [(5, .int (nI ((q >>> (fr ss k)) &&& 1))), (2, .int (nI (fr ss k))), (4, .int (nI k)), (3, .int (nI a)), (0, .ref a0), (1, .int (nI q))]) hx hb dX4_answerAt_45 hl (by decide) rfl (fun ls hl => ?_)
            refine lv_goto (tgt := 72) hx hb dX4_answerAt_47 (by decide) ?_
            refine lv_iload_n hx hb dX4_answerAt_72 rfl (lv_at hl 3 rfl) ?_
            refine lv_iload hx hb dX4_answerAt_73 (lv_at hl 0 rfl) ?_
            refine lv_iload hx hb dX4_answerAt_75 (lv_at hl 2 rfl) ?_
            refine zi_shl S dX4_answerAt_77 (by omega) ?_
            refine zi_or S dX4_answerAt_78 ?_
            refine lv_istore_n (lv' := [(3, .int (nI (a ||| (((q >>> (fr ss k)) &&& 1) <<< k)))), (5, .int (nI ((q >>> (fr ss k)) &&& 1))), (2, .int (nI (fr ss k))), (4, .int (nI k)), (0, .ref a0), (1, .int (nI q))]) hx hb dX4_answerAt_79 rfl hl (by decide) rfl (fun ls hl => ?_)
            refine lv_iinc (v := (dn k)) (lv' := [(4, .int (dn k)), (3, .int (nI (a ||| (((q >>> (fr ss k)) &&& 1) <<< k)))), (5, .int (nI ((q >>> (fr ss k)) &&& 1))), (2, .int (nI (fr ss k))), (0, .ref a0), (1, .int (nI q))]) hx hb dX4_answerAt_80 hl (k := 3) rfl (z_imd _) (by decide) rfl (fun ls hl => ?_)
            refine lv_goto (tgt := 22) hx hb dX4_answerAt_83 (by decide) ?_
            exact ih_22 k (a ||| (((q >>> (fr ss k)) &&& 1) <<< k)) (by omega) (by omega) (by first | exact aw_free hl1 hc (by omega) hw0 c_34 | exact aw_step hl1 hc (by omega) hw0 c_34 (hsu _ c_34)) _ _ hP hD hS _ (lv_sub hl [0, 1, 3, 4, 5] rfl)
  exact lp_22 _ vc 0 (Nat.lt_succ_self _) (Nat.le_refl _) (aw_0 _ _ _ _) _ _ hP hD hS _ (lv_sub hl [0, 1, 2, 3, 4] rfl)
set_option maxHeartbeats 4000000 in
set_option maxRecDepth 100000 in
theorem c_X4_fillExchanges (l : Launch) (G : gT) (a0 a1 a2 a3 a4 a5 a6 a7 : Nat) (vm : Int32) (rs : Int32) (rm : Int32) (rr : Int32) (vc : Nat) (ta : Nat → Nat) (ss : Nat → Nat) (su : Nat → Nat) (ex : Nat → Nat) (hc : vc ≤ 12) (ht : ta 0 ≤ vc) (hfr : vc - ta 0 = fr ss vc) (hl1 : low1 ss) (hss : ∀ j, ss j < 4096) (hsu : ∀ j, ¬ ss j = 0 → su j ≤ 1) : CV l yX4_fillExchanges wsX4_fillExchanges ({ frames := 3, cells := 0, slots := 0, locals := 65 } : Room) G [.ref a0] [(a0, .inr (4, [.int (nI vc), .int vm, .ref a1, .ref a2, .ref a3, .ref a4, .ref a5, .ref a6, .int rs, .int rm, .int rr, .ref a7])), (a3, .inl (gI G, 3, .inl (nA ta))), (a4, .inl (gI G, 12, .inl (nA ss))), (a5, .inl (gI G, 12, .inl (nA su))), (a7, .inl (gI G, 12, .inl (nA ex)))] 0 0 (fun (u : (Nat → Nat)) => ∀ i, i < fr ss vc → ∃ x y, AnsOf ss su vc 0 x ∧ AnsOf ss su vc (2 ^ (i + 1) - 1) y ∧ u i = x ^^^ y) (fun (u : (Nat → Nat)) => [(a0, .inr (4, [.int (nI vc), .int vm, .ref a1, .ref a2, .ref a3, .ref a4, .ref a5, .ref a6, .int rs, .int rm, .int rr, .ref a7])), (a3, .inl (gI G, 3, .inl (nA ta))), (a4, .inl (gI G, 12, .inl (nA ss))), (a5, .inl (gI G, 12, .inl (nA su))), (a7, .inl (gI G, 12, .inl (nA u)))]) := by
  refine CV.of (cc := cX4_fillExchanges) (maxL := 4) (ret := none) (by decide +kernel) rfl (Nat.le_of_ble_eq_true rfl) rfl (fun p e s m args below meth c A S hrt hlk hnm K hA hP hD hS ls hl => ?_)
  have hx := S.1
  have hb := S.2.1
  have hl : lv_has ls 4 [(0, .ref a0)] := hl
  have hfv := fr_le ss vc
  refine lv_aload_n hx hb dX4_fillExchanges_0 rfl (lv_at hl 0 rfl) ?_
  refine lv_iconst (v := nI 0) hx hb dX4_fillExchanges_1 (by decide +kernel) ?_
  refine zcVi (rest := []) S K hP hD hS hA hl.1 (c_X4_answerAt l G a0 a1 a2 a3 a4 a5 a6 a7 vm rs rm rr vc ta ss su 0 hc ht hfr hl1 hss hsu (by omega)) rfl rfl gX4_fillExchanges_X4_answerAt rfl eX4_answerAt [0, 1, 2, 3] (by decide +kernel) rfl (fun _ => rfl) 4 0 rfl rfl rfl rfl rfl (Nat.le_of_ble_eq_true rfl) (Nat.le_of_ble_eq_true rfl) (Nat.le_of_ble_eq_true rfl) ⟨Nat.zero_le _, Nat.zero_le _⟩ dX4_fillExchanges_2 (fun r_2 u_2 H locs hw_2 hP hD hS => ?_)
  obtain ⟨hP, hD⟩ := mx_ok [some 0, some 1, some 2, some 3, none] (by decide +kernel) rfl rfl hP hD
  obtain ⟨a_2, rfl⟩ : ∃ z, z = u_2 := ⟨_, rfl⟩
  replace hw_2 : r_2 = nI a_2 ∧ AnsOf ss su vc 0 a_2 := hw_2
  obtain ⟨rfl, hw_2⟩ := hw_2
  have hP : va_P (gD G) vwCl [(a0, .inr (4, [.int (nI vc), .int vm, .ref a1, .ref a2, .ref a3, .ref a4, .ref a5, .ref a6, .int rs, .int rm, .int rr, .ref a7])), (a3, .inl (gI G, 3, .inl (nA ta))), (a4, .inl (gI G, 12, .inl (nA ss))), (a5, .inl (gI G, 12, .inl (nA su))), (a7, .inl (gI G, 12, .inl (nA ex)))] H := hP
  have hD : va_D A [(a0, .inr (4, [.int (nI vc), .int vm, .ref a1, .ref a2, .ref a3, .ref a4, .ref a5, .ref a6, .int rs, .int rm, .int rr, .ref a7])), (a3, .inl (gI G, 3, .inl (nA ta))), (a4, .inl (gI G, 12, .inl (nA ss))), (a5, .inl (gI G, 12, .inl (nA su))), (a7, .inl (gI G, 12, .inl (nA ex)))] := hD
  refine lv_istore_n (lv' := [(1, .int (nI a_2)), (0, .ref a0)]) hx hb dX4_fillExchanges_5 rfl hl (by decide) rfl (fun ls hl => ?_)
  refine lv_aload_n hx hb dX4_fillExchanges_6 rfl (lv_at hl 1 rfl) ?_
  refine z_get S K hP hX4_fillExchanges_X4 0 rfl rfl 0 (by decide) kX4_fillExchanges_1 rfl rfl dX4_fillExchanges_7 ?_
  refine lv_aload_n hx hb dX4_fillExchanges_10 rfl (lv_at hl 1 rfl) ?_
  refine z_get S K hP hX4_fillExchanges_X4 0 rfl rfl 4 (by decide) kX4_fillExchanges_2 rfl rfl dX4_fillExchanges_11 ?_
  refine lv_iconst (v := nI 0) hx hb dX4_fillExchanges_14 (by decide +kernel) ?_
  refine z_iald S K hP 1 rfl (by omega) (by decide) dX4_fillExchanges_15 ?_
  refine zi_sub S dX4_fillExchanges_16 (by omega) ?_
  refine z_top (y := nI (fr ss vc)) (congrArg nI hfr) ?_
  refine lv_istore_n (lv' := [(2, .int (nI (fr ss vc))), (1, .int (nI a_2)), (0, .ref a0)]) hx hb dX4_fillExchanges_17 rfl hl (by decide) rfl (fun ls hl => ?_)
  refine lv_iconst (v := nI 0) hx hb dX4_fillExchanges_18 (by decide +kernel) ?_
  refine lv_istore_n (lv' := [(3, .int (nI 0)), (2, .int (nI (fr ss vc))), (1, .int (nI a_2)), (0, .ref a0)]) hx hb dX4_fillExchanges_19 rfl hl (by decide) rfl (fun ls hl => ?_)
  have lp_20 : ∀ (n_20 : Nat) (i : Nat) (ex1 : Nat → Nat), fr ss vc - i < n_20 → (i ≤ fr ss vc) → (∀ j, j < i → ∃ x y, AnsOf ss su vc 0 x ∧ AnsOf ss su vc (2 ^ (j + 1) - 1) y ∧ ex1 j = x ^^^ y) → ∀ (H : Heap) (locs : List Loc), va_P (gD G) vwCl [(a0, .inr (4, [.int (nI vc), .int vm, .ref a1, .ref a2, .ref a3, .ref a4, .ref a5, .ref a6, .int rs, .int rm, .int rr, .ref a7])), (a3, .inl (gI G, 3, .inl (nA ta))), (a4, .inl (gI G, 12, .inl (nA ss))), (a5, .inl (gI G, 12, .inl (nA su))), (a7, .inl (gI G, 12, .inl (nA ex1)))] H → va_D A [(a0, .inr (4, [.int (nI vc), .int vm, .ref a1, .ref a2, .ref a3, .ref a4, .ref a5, .ref a6, .int rs, .int rm, .int rr, .ref a7])), (a3, .inl (gI G, 3, .inl (nA ta))), (a4, .inl (gI G, 12, .inl (nA ss))), (a5, .inl (gI G, 12, .inl (nA su))), (a7, .inl (gI G, 12, .inl (nA ex1)))] → va_S A s.heap H locs → ∀ ls : Array Slot, lv_has ls 4 [(3, .int (nI i)), (2, .int (nI (fr ss vc))), (1, .int (nI a_2)), (0, .ref a0)] → W p l e ({ frames := 3, cells := 0, slots := 0, locals := 65 } : Room) s m args below meth c H locs 0 0 (MQ below (va_Qv (fun (u : (Nat → Nat)) => ∀ i, i < fr ss vc → ∃ x y, AnsOf ss su vc 0 x ∧ AnsOf ss su vc (2 ^ (i + 1) - 1) y ∧ u i = x ^^^ y) (cB G A (fun (u : (Nat → Nat)) => [(a0, .inr (4, [.int (nI vc), .int vm, .ref a1, .ref a2, .ref a3, .ref a4, .ref a5, .ref a6, .int rs, .int rm, .int rr, .ref a7])), (a3, .inl (gI G, 3, .inl (nA ta))), (a4, .inl (gI G, 12, .inl (nA ss))), (a5, .inl (gI G, 12, .inl (nA su))), (a7, .inl (gI G, 12, .inl (nA u)))])) A) args s 0 0 A) (F0 m 20 ls []) := by
    intro n_20
    induction n_20 with
    | zero =>
      intro i ex1 h0
      exact absurd h0 (Nat.not_lt_zero _)
    | succ n_20 ih_20 =>
      intro i ex1 hm_20 hi he H locs hP hD hS ls hl
      refine lv_iload_n hx hb dX4_fillExchanges_20 rfl (lv_at hl 0 rfl) ?_
      refine lv_iload_n hx hb dX4_fillExchanges_21 rfl (lv_at hl 1 rfl) ?_
      refine zb_ge (tgt := 48) S dX4_fillExchanges_22 (by decide) (by omega) (by omega) (fun c_22 => ?_) (fun c_22 => ?_)
      · skip
        have hin : i = fr ss vc := by omega
        subst hin
        exact z_vret S hrt hlk hP hD hS ex1 rfl he dX4_fillExchanges_48
      · skip
        obtain ⟨h21, h22, h23⟩ := shl2 (show i < 12 by omega)
        refine lv_aload_n hx hb dX4_fillExchanges_25 rfl (lv_at hl 3 rfl) ?_
        refine z_get S K hP hX4_fillExchanges_X4 0 rfl rfl 11 (by decide) kX4_fillExchanges_3 rfl rfl dX4_fillExchanges_26 ?_
        refine lv_iload_n hx hb dX4_fillExchanges_29 rfl (lv_at hl 0 rfl) ?_
        refine lv_iload_n hx hb dX4_fillExchanges_30 rfl (lv_at hl 2 rfl) ?_
        refine lv_aload_n hx hb dX4_fillExchanges_31 rfl (lv_at hl 3 rfl) ?_
        refine lv_iconst (v := nI 2) hx hb dX4_fillExchanges_32 (by decide +kernel) ?_
        refine lv_iload_n hx hb dX4_fillExchanges_33 rfl (lv_at hl 0 rfl) ?_
        refine zi_shl S dX4_fillExchanges_34 (by omega) ?_
        refine lv_iconst (v := nI 1) hx hb dX4_fillExchanges_35 (by decide +kernel) ?_
        refine zi_sub S dX4_fillExchanges_36 (by omega) ?_
        refine zcVi (rest := [.int (nI a_2), .int (nI i), .ref a7]) S K hP hD hS hA hl.1 (c_X4_answerAt l G a0 a1 a2 a3 a4 a5 a6 a7 vm rs rm rr vc ta ss su ((2 <<< i) - 1) hc ht hfr hl1 hss hsu (by omega)) rfl rfl gX4_fillExchanges_X4_answerAt rfl eX4_answerAt [0, 1, 2, 3] (by decide +kernel) rfl (fun _ => rfl) 4 0 rfl rfl rfl rfl rfl (Nat.le_of_ble_eq_true rfl) (Nat.le_of_ble_eq_true rfl) (Nat.le_of_ble_eq_true rfl) ⟨Nat.zero_le _, Nat.zero_le _⟩ dX4_fillExchanges_37 (fun r_37 u_37 H locs hw_37 hP hD hS => ?_)
        obtain ⟨hP, hD⟩ := mx_ok [some 0, some 1, some 2, some 3, none] (by decide +kernel) rfl rfl hP hD
        obtain ⟨a_37, rfl⟩ : ∃ z, z = u_37 := ⟨_, rfl⟩
        replace hw_37 : r_37 = nI a_37 ∧ AnsOf ss su vc ((2 <<< i) - 1) a_37 := hw_37
        obtain ⟨rfl, hw_37⟩ := hw_37
        have hP : va_P (gD G) vwCl [(a0, .inr (4, [.int (nI vc), .int vm, .ref a1, .ref a2, .ref a3, .ref a4, .ref a5, .ref a6, .int rs, .int rm, .int rr, .ref a7])), (a3, .inl (gI G, 3, .inl (nA ta))), (a4, .inl (gI G, 12, .inl (nA ss))), (a5, .inl (gI G, 12, .inl (nA su))), (a7, .inl (gI G, 12, .inl (nA ex1)))] H := hP
        have hD : va_D A [(a0, .inr (4, [.int (nI vc), .int vm, .ref a1, .ref a2, .ref a3, .ref a4, .ref a5, .ref a6, .int rs, .int rm, .int rr, .ref a7])), (a3, .inl (gI G, 3, .inl (nA ta))), (a4, .inl (gI G, 12, .inl (nA ss))), (a5, .inl (gI G, 12, .inl (nA su))), (a7, .inl (gI G, 12, .inl (nA ex1)))] := hD
        refine zi_xor S dX4_fillExchanges_40 ?_
        refine z_iast S K hP hD hS 4 rfl (by omega) (by decide) dX4_fillExchanges_41 (fun H locs hP hD hS => ?_)
        have hP : va_P (gD G) vwCl [(a0, .inr (4, [.int (nI vc), .int vm, .ref a1, .ref a2, .ref a3, .ref a4, .ref a5, .ref a6, .int rs, .int rm, .int rr, .ref a7])), (a3, .inl (gI G, 3, .inl (nA ta))), (a4, .inl (gI G, 12, .inl (nA ss))), (a5, .inl (gI G, 12, .inl (nA su))), (a7, .inl (gI G, 12, .inl (nA (pu ex1 i (a_2 ^^^ a_37)))))] H := hP
        have hD : va_D A [(a0, .inr (4, [.int (nI vc), .int vm, .ref a1, .ref a2, .ref a3, .ref a4, .ref a5, .ref a6, .int rs, .int rm, .int rr, .ref a7])), (a3, .inl (gI G, 3, .inl (nA ta))), (a4, .inl (gI G, 12, .inl (nA ss))), (a5, .inl (gI G, 12, .inl (nA su))), (a7, .inl (gI G, 12, .inl (nA (pu ex1 i (a_2 ^^^ a_37)))))] := hD
        refine lv_iinc (v := (nI (i + 1))) (lv' := [(3, .int (nI (i + 1))), (2, .int (nI (fr ss vc))), (1, .int (nI a_2)), (0, .ref a0)]) hx hb dX4_fillExchanges_42 hl (k := 0) rfl (z_i1 _) (by decide) rfl (fun ls hl => ?_)
        refine lv_goto (tgt := 20) hx hb dX4_fillExchanges_45 (by decide) ?_
        exact ih_20 (i + 1) (pu ex1 i (a_2 ^^^ a_37)) (by omega) (by omega) (ex_step he hw_2 (by rw [← (shl2 (show i < 12 by omega)).2.2]; exact hw_37)) _ _ hP hD hS _ (lv_sub hl [0, 1, 2, 3] rfl)
  exact lp_20 _ 0 ex (Nat.lt_succ_self _) (by omega) (fun j h => absurd h (Nat.not_lt_zero _)) _ _ hP hD hS _ (lv_sub hl [0, 1, 2, 3] rfl)
set_option maxHeartbeats 4000000 in
set_option maxRecDepth 100000 in
theorem c_X4_nearestTo (l : Launch) (G : gT) (a0 a1 a2 a3 a4 a5 a6 a7 : Nat) (vm : Int32) (rs : Int32) (rm : Int32) (rr : Int32) (vc : Nat) (ta : Nat → Nat) (ss : Nat → Nat) (su : Nat → Nat) (ex : Nat → Nat) (w : Nat) (hc : vc ≤ 12) (ht : ta 0 ≤ vc) (hfr : vc - ta 0 = fr ss vc) (hl1 : low1 ss) (hss : ∀ j, ss j < 4096) (hsu : ∀ j, ¬ ss j = 0 → su j ≤ 1) (hw4 : w < 4096) : CI l yX4_nearestTo wsX4_nearestTo ({ frames := 4, cells := 0, slots := 0, locals := 88 } : Room) G [.ref a0, .int (nI w)] [(a0, .inr (4, [.int (nI vc), .int vm, .ref a1, .ref a2, .ref a3, .ref a4, .ref a5, .ref a6, .int rs, .int rm, .int rr, .ref a7])), (a3, .inl (gI G, 3, .inl (nA ta))), (a4, .inl (gI G, 12, .inl (nA ss))), (a5, .inl (gI G, 12, .inl (nA su))), (a7, .inl (gI G, 12, .inl (nA ex)))] 0 0 (fun (r : Int32) (u : (Nat → Nat) × Nat) => r = nI u.2 ∧ (∃ q, q < 2 ^ fr ss vc ∧ AnsOf ss su vc q u.2) ∧ ∀ q b, q < 2 ^ fr ss vc → AnsOf ss su vc q b → pcn (u.2 ^^^ w) < pcn (b ^^^ w) ∨ pcn (u.2 ^^^ w) = pcn (b ^^^ w) ∧ u.2 ≤ b) (fun (u : (Nat → Nat) × Nat) => [(a0, .inr (4, [.int (nI vc), .int vm, .ref a1, .ref a2, .ref a3, .ref a4, .ref a5, .ref a6, .int rs, .int rm, .int rr, .ref a7])), (a3, .inl (gI G, 3, .inl (nA ta))), (a4, .inl (gI G, 12, .inl (nA ss))), (a5, .inl (gI G, 12, .inl (nA su))), (a7, .inl (gI G, 12, .inl (nA u.1)))]) := by
  refine CI.of (cc := cX4_nearestTo) (maxL := 8) (ret := (some .int)) (by decide +kernel) rfl (Nat.le_of_ble_eq_true rfl) rfl (fun p e s m args below meth c A S hrt hlk hnm K hA hP hD hS ls hl => ?_)
  have hx := S.1
  have hb := S.2.1
  have hl : lv_has ls 8 [(0, .ref a0), (1, .int (nI w))] := hl
  have hfv := fr_le ss vc
  have hp12 : 2 ^ fr ss vc ≤ 4096 := Nat.pow_le_pow_right (n := 2) (j := 12) (by decide) (by omega)
  have hp0 := Nat.two_pow_pos (fr ss vc)
  refine lv_aload_n hx hb dX4_nearestTo_0 rfl (lv_at hl 0 rfl) ?_
  refine zcVv (rest := []) S K hP hD hS hA hl.1 (c_X4_fillExchanges l G a0 a1 a2 a3 a4 a5 a6 a7 vm rs rm rr vc ta ss su ex hc ht hfr hl1 hss hsu) rfl rfl gX4_nearestTo_X4_fillExchanges rfl eX4_fillExchanges [0, 1, 2, 3, 4] (by decide +kernel) rfl (fun _ => rfl) 4 0 rfl rfl rfl rfl rfl (Nat.le_of_ble_eq_true rfl) (Nat.le_of_ble_eq_true rfl) (Nat.le_of_ble_eq_true rfl) ⟨Nat.zero_le _, Nat.zero_le _⟩ dX4_nearestTo_1 (fun u_1 H locs hw_1 hP hD hS => ?_)
  obtain ⟨hP, hD⟩ := mx_ok [some 0, some 1, some 2, some 3, some 4] (by decide +kernel) rfl rfl hP hD
  obtain ⟨ex2_1, rfl⟩ : ∃ z, z = u_1 := ⟨_, rfl⟩
  replace hw_1 : ∀ i, i < fr ss vc → ∃ x y, AnsOf ss su vc 0 x ∧ AnsOf ss su vc (2 ^ (i + 1) - 1) y ∧ ex2_1 i = x ^^^ y := hw_1
  have hP : va_P (gD G) vwCl [(a0, .inr (4, [.int (nI vc), .int vm, .ref a1, .ref a2, .ref a3, .ref a4, .ref a5, .ref a6, .int rs, .int rm, .int rr, .ref a7])), (a3, .inl (gI G, 3, .inl (nA ta))), (a4, .inl (gI G, 12, .inl (nA ss))), (a5, .inl (gI G, 12, .inl (nA su))), (a7, .inl (gI G, 12, .inl (nA ex2_1)))] H := hP
  have hD : va_D A [(a0, .inr (4, [.int (nI vc), .int vm, .ref a1, .ref a2, .ref a3, .ref a4, .ref a5, .ref a6, .int rs, .int rm, .int rr, .ref a7])), (a3, .inl (gI G, 3, .inl (nA ta))), (a4, .inl (gI G, 12, .inl (nA ss))), (a5, .inl (gI G, 12, .inl (nA su))), (a7, .inl (gI G, 12, .inl (nA ex2_1)))] := hD
  refine lv_aload_n hx hb dX4_nearestTo_4 rfl (lv_at hl 0 rfl) ?_
  refine lv_iconst (v := nI 0) hx hb dX4_nearestTo_5 (by decide +kernel) ?_
  refine zcVi (rest := []) S K hP hD hS hA hl.1 (c_X4_answerAt l G a0 a1 a2 a3 a4 a5 a6 a7 vm rs rm rr vc ta ss su 0 hc ht hfr hl1 hss hsu (by omega)) rfl rfl gX4_nearestTo_X4_answerAt rfl eX4_answerAt [0, 1, 2, 3] (by decide +kernel) rfl (fun _ => rfl) 4 0 rfl rfl rfl rfl rfl (Nat.le_of_ble_eq_true rfl) (Nat.le_of_ble_eq_true rfl) (Nat.le_of_ble_eq_true rfl) ⟨Nat.zero_le _, Nat.zero_le _⟩ dX4_nearestTo_6 (fun r_6 u_6 H locs hw_6 hP hD hS => ?_)
  obtain ⟨hP, hD⟩ := mx_ok [some 0, some 1, some 2, some 3, none] (by decide +kernel) rfl rfl hP hD
  obtain ⟨a_6, rfl⟩ : ∃ z, z = u_6 := ⟨_, rfl⟩
  replace hw_6 : r_6 = nI a_6 ∧ AnsOf ss su vc 0 a_6 := hw_6
  obtain ⟨rfl, hw_6⟩ := hw_6
  have hP : va_P (gD G) vwCl [(a0, .inr (4, [.int (nI vc), .int vm, .ref a1, .ref a2, .ref a3, .ref a4, .ref a5, .ref a6, .int rs, .int rm, .int rr, .ref a7])), (a3, .inl (gI G, 3, .inl (nA ta))), (a4, .inl (gI G, 12, .inl (nA ss))), (a5, .inl (gI G, 12, .inl (nA su))), (a7, .inl (gI G, 12, .inl (nA ex2_1)))] H := hP
  have hD : va_D A [(a0, .inr (4, [.int (nI vc), .int vm, .ref a1, .ref a2, .ref a3, .ref a4, .ref a5, .ref a6, .int rs, .int rm, .int rr, .ref a7])), (a3, .inl (gI G, 3, .inl (nA ta))), (a4, .inl (gI G, 12, .inl (nA ss))), (a5, .inl (gI G, 12, .inl (nA su))), (a7, .inl (gI G, 12, .inl (nA ex2_1)))] := hD
  refine lv_istore_n (lv' := [(2, .int (nI a_6)), (0, .ref a0), (1, .int (nI w))]) hx hb dX4_nearestTo_9 rfl hl (by decide) rfl (fun ls hl => ?_)
  refine lv_iload_n hx hb dX4_nearestTo_10 rfl (lv_at hl 0 rfl) ?_
  refine lv_istore_n (lv' := [(3, .int (nI a_6)), (2, .int (nI a_6)), (0, .ref a0), (1, .int (nI w))]) hx hb dX4_nearestTo_11 rfl hl (by decide) rfl (fun ls hl => ?_)
  have ha12 := ans12 hc hw_6
  have hx12 := xor12 ha12 hw4
  have hpc := pcn_le (a_6 ^^^ w)
  refine lv_iload_n hx hb dX4_nearestTo_12 rfl (lv_at hl 1 rfl) ?_
  refine lv_iload_n hx hb dX4_nearestTo_13 rfl (lv_at hl 3 rfl) ?_
  refine zi_xor S dX4_nearestTo_14 ?_
  refine zcSi (rest := []) S K hP hD hS hA hl.1 (c_J6_bitCount_0f7a4 l G (a_6 ^^^ w) (by omega)) rfl rfl gX4_nearestTo_J6_bitCount_0f7a4 rfl eJ6_bitCount_0f7a4.2 [] (by decide +kernel) rfl (fun _ => rfl) rfl rfl (Nat.le_of_ble_eq_true rfl) (Nat.le_of_ble_eq_true rfl) (Nat.le_of_ble_eq_true rfl) ⟨Nat.zero_le _, Nat.zero_le _⟩ dX4_nearestTo_15 (fun r_15 u_15 H locs hw_15 hP hD hS => ?_)
  replace hw_15 : r_15 = nI (pcn (a_6 ^^^ w)) := hw_15
  obtain rfl := hw_15
  have hP : va_P (gD G) vwCl [(a0, .inr (4, [.int (nI vc), .int vm, .ref a1, .ref a2, .ref a3, .ref a4, .ref a5, .ref a6, .int rs, .int rm, .int rr, .ref a7])), (a3, .inl (gI G, 3, .inl (nA ta))), (a4, .inl (gI G, 12, .inl (nA ss))), (a5, .inl (gI G, 12, .inl (nA su))), (a7, .inl (gI G, 12, .inl (nA ex2_1)))] H := hP
  have hD : va_D A [(a0, .inr (4, [.int (nI vc), .int vm, .ref a1, .ref a2, .ref a3, .ref a4, .ref a5, .ref a6, .int rs, .int rm, .int rr, .ref a7])), (a3, .inl (gI G, 3, .inl (nA ta))), (a4, .inl (gI G, 12, .inl (nA ss))), (a5, .inl (gI G, 12, .inl (nA su))), (a7, .inl (gI G, 12, .inl (nA ex2_1)))] := hD
  refine lv_istore (lv' := [(4, .int (nI (pcn (a_6 ^^^ w)))), (3, .int (nI a_6)), (2, .int (nI a_6)), (0, .ref a0), (1, .int (nI w))]) hx hb dX4_nearestTo_18 hl (by decide) rfl (fun ls hl => ?_)
  refine lv_aload_n hx hb dX4_nearestTo_20 rfl (lv_at hl 3 rfl) ?_
  refine zcVi (rest := []) S K hP hD hS hA hl.1 (c_X4_answers l G a0 a1 a2 a3 a4 a5 a6 a7 vm rs rm rr vc ta hc ht) rfl rfl gX4_nearestTo_X4_answers rfl eX4_answers [0, 1] (by decide +kernel) rfl (fun _ => rfl) 4 0 rfl rfl rfl rfl rfl (Nat.le_of_ble_eq_true rfl) (Nat.le_of_ble_eq_true rfl) (Nat.le_of_ble_eq_true rfl) ⟨Nat.zero_le _, Nat.zero_le _⟩ dX4_nearestTo_21 (fun r_21 u_21 H locs hw_21 hP hD hS => ?_)
  obtain ⟨hP, hD⟩ := mx_ok [some 0, some 1, none, none, none] (by decide +kernel) rfl rfl hP hD
  replace hw_21 : r_21 = nI (1 <<< (vc - ta 0)) := hw_21
  obtain rfl := hw_21
  have hP : va_P (gD G) vwCl [(a0, .inr (4, [.int (nI vc), .int vm, .ref a1, .ref a2, .ref a3, .ref a4, .ref a5, .ref a6, .int rs, .int rm, .int rr, .ref a7])), (a3, .inl (gI G, 3, .inl (nA ta))), (a4, .inl (gI G, 12, .inl (nA ss))), (a5, .inl (gI G, 12, .inl (nA su))), (a7, .inl (gI G, 12, .inl (nA ex2_1)))] H := hP
  have hD : va_D A [(a0, .inr (4, [.int (nI vc), .int vm, .ref a1, .ref a2, .ref a3, .ref a4, .ref a5, .ref a6, .int rs, .int rm, .int rr, .ref a7])), (a3, .inl (gI G, 3, .inl (nA ta))), (a4, .inl (gI G, 12, .inl (nA ss))), (a5, .inl (gI G, 12, .inl (nA su))), (a7, .inl (gI G, 12, .inl (nA ex2_1)))] := hD
  refine z_top (y := nI (2 ^ fr ss vc)) (congrArg nI (by rw [hfr, Nat.one_shiftLeft])) ?_
  refine lv_iconst (v := nI 1) hx hb dX4_nearestTo_24 (by decide +kernel) ?_
  refine zi_sub S dX4_nearestTo_25 (by omega) ?_
  refine lv_istore (lv' := [(5, .int (nI ((2 ^ fr ss vc) - 1))), (4, .int (nI (pcn (a_6 ^^^ w)))), (3, .int (nI a_6)), (2, .int (nI a_6)), (0, .ref a0), (1, .int (nI w))]) hx hb dX4_nearestTo_26 hl (by decide) rfl (fun ls hl => ?_)
  refine lv_iconst (v := nI 1) hx hb dX4_nearestTo_28 (by decide +kernel) ?_
  refine lv_istore (lv' := [(6, .int (nI 1)), (5, .int (nI ((2 ^ fr ss vc) - 1))), (4, .int (nI (pcn (a_6 ^^^ w)))), (3, .int (nI a_6)), (2, .int (nI a_6)), (0, .ref a0), (1, .int (nI w))]) hx hb dX4_nearestTo_29 hl (by decide) rfl (fun ls hl => ?_)
  have lp_31 : ∀ (n_31 : Nat) (z x y fw : Nat), 2 ^ fr ss vc - z < n_31 → (1 ≤ z ∧ z ≤ 2 ^ fr ss vc) → (AnsOf ss su vc (z - 1) x) → (NearI ss su vc w z y fw) → ∀ (H : Heap) (locs : List Loc), va_P (gD G) vwCl [(a0, .inr (4, [.int (nI vc), .int vm, .ref a1, .ref a2, .ref a3, .ref a4, .ref a5, .ref a6, .int rs, .int rm, .int rr, .ref a7])), (a3, .inl (gI G, 3, .inl (nA ta))), (a4, .inl (gI G, 12, .inl (nA ss))), (a5, .inl (gI G, 12, .inl (nA su))), (a7, .inl (gI G, 12, .inl (nA ex2_1)))] H → va_D A [(a0, .inr (4, [.int (nI vc), .int vm, .ref a1, .ref a2, .ref a3, .ref a4, .ref a5, .ref a6, .int rs, .int rm, .int rr, .ref a7])), (a3, .inl (gI G, 3, .inl (nA ta))), (a4, .inl (gI G, 12, .inl (nA ss))), (a5, .inl (gI G, 12, .inl (nA su))), (a7, .inl (gI G, 12, .inl (nA ex2_1)))] → va_S A s.heap H locs → ∀ ls : Array Slot, lv_has ls 8 [(6, .int (nI z)), (5, .int (nI ((2 ^ fr ss vc) - 1))), (4, .int (nI fw)), (3, .int (nI y)), (2, .int (nI x)), (0, .ref a0), (1, .int (nI w))] → W p l e ({ frames := 4, cells := 0, slots := 0, locals := 88 } : Room) s m args below meth c H locs 0 0 (MQ below (va_Qi (fun (r : Int32) (u : (Nat → Nat) × Nat) => r = nI u.2 ∧ (∃ q, q < 2 ^ fr ss vc ∧ AnsOf ss su vc q u.2) ∧ ∀ q b, q < 2 ^ fr ss vc → AnsOf ss su vc q b → pcn (u.2 ^^^ w) < pcn (b ^^^ w) ∨ pcn (u.2 ^^^ w) = pcn (b ^^^ w) ∧ u.2 ≤ b) (cB G A (fun (u : (Nat → Nat) × Nat) => [(a0, .inr (4, [.int (nI vc), .int vm, .ref a1, .ref a2, .ref a3, .ref a4, .ref a5, .ref a6, .int rs, .int rm, .int rr, .ref a7])), (a3, .inl (gI G, 3, .inl (nA ta))), (a4, .inl (gI G, 12, .inl (nA ss))), (a5, .inl (gI G, 12, .inl (nA su))), (a7, .inl (gI G, 12, .inl (nA u.1)))])) A) args s 0 0 A) (F0 m 31 ls []) := by
    intro n_31
    induction n_31 with
    | zero =>
      intro z x y fw h0
      exact absurd h0 (Nat.not_lt_zero _)
    | succ n_31 ih_31 =>
      intro z x y fw hm_31 hz1 hv1 hv2 H locs hP hD hS ls hl
      refine lv_iload hx hb dX4_nearestTo_31 (lv_at hl 0 rfl) ?_
      refine lv_iload hx hb dX4_nearestTo_33 (lv_at hl 1 rfl) ?_
      refine zb_gt (tgt := 78) S dX4_nearestTo_35 (by decide) (by omega) (by omega) (fun c_35 => ?_) (fun c_35 => ?_)
      · skip
        refine lv_iload_n hx hb dX4_nearestTo_78 rfl (lv_at hl 3 rfl) ?_
        refine z_top (y := nI y) rfl ?_
        exact z_iret S hrt hlk hP hD hS (ex2_1, y) rfl ⟨rfl, (near_end hv2 (by omega))⟩ dX4_nearestTo_79
      · skip
        obtain ⟨hn1, hn2⟩ := near_ans hc hl1 hv1 hw_1 (show 0 < z by omega) (by omega)
        have hlb := (lb_ok (n := z) (by omega) (by omega)).1
        refine lv_iload_n hx hb dX4_nearestTo_38 rfl (lv_at hl 4 rfl) ?_
        refine lv_aload_n hx hb dX4_nearestTo_39 rfl (lv_at hl 5 rfl) ?_
        refine z_get S K hP hX4_nearestTo_X4 0 rfl rfl 11 (by decide) kX4_nearestTo_1 rfl rfl dX4_nearestTo_40 ?_
        refine lv_iload hx hb dX4_nearestTo_43 (lv_at hl 0 rfl) ?_
        refine zcNi (rest := [.ref a7, .int (nI x)]) S K hP hD hS hA hl.1 (c_X5_lowestBit l G z (by omega) (by omega)) rfl rfl gX4_nearestTo_X5_lowestBit_n61 rfl (List.mem_of_getElem? (i := 8) rfl) kX4_nearestTo_16 kX4_nearestTo_30 eX5_lowestBit.2 [] (by decide +kernel) rfl (fun _ => rfl) rfl rfl (Nat.le_of_ble_eq_true rfl) (Nat.le_of_ble_eq_true rfl) (Nat.le_of_ble_eq_true rfl) ⟨Nat.zero_le _, Nat.zero_le _⟩ dX4_nearestTo_45 (fun r_45 u_45 H locs hw_45 hP hD hS => ?_)
        replace hw_45 : r_45 = nI (lb z) := hw_45
        obtain rfl := hw_45
        have hP : va_P (gD G) vwCl [(a0, .inr (4, [.int (nI vc), .int vm, .ref a1, .ref a2, .ref a3, .ref a4, .ref a5, .ref a6, .int rs, .int rm, .int rr, .ref a7])), (a3, .inl (gI G, 3, .inl (nA ta))), (a4, .inl (gI G, 12, .inl (nA ss))), (a5, .inl (gI G, 12, .inl (nA su))), (a7, .inl (gI G, 12, .inl (nA ex2_1)))] H := hP
        have hD : va_D A [(a0, .inr (4, [.int (nI vc), .int vm, .ref a1, .ref a2, .ref a3, .ref a4, .ref a5, .ref a6, .int rs, .int rm, .int rr, .ref a7])), (a3, .inl (gI G, 3, .inl (nA ta))), (a4, .inl (gI G, 12, .inl (nA ss))), (a5, .inl (gI G, 12, .inl (nA su))), (a7, .inl (gI G, 12, .inl (nA ex2_1)))] := hD
        refine z_iald S K hP 4 rfl hlb (by decide) dX4_nearestTo_48 ?_
        refine zi_xor S dX4_nearestTo_49 ?_
        refine lv_istore_n (lv' := [(2, .int (nI (x ^^^ (ex2_1 (lb z))))), (6, .int (nI z)), (5, .int (nI ((2 ^ fr ss vc) - 1))), (4, .int (nI fw)), (3, .int (nI y)), (0, .ref a0), (1, .int (nI w))]) hx hb dX4_nearestTo_50 rfl hl (by decide) rfl (fun ls hl => ?_)
        have ha12 := ans12 hc hn2
        have hx12 := xor12 ha12 hw4
        have hpc := pcn_le (x ^^^ ex2_1 (lb z) ^^^ w)
        refine lv_iload_n hx hb dX4_nearestTo_51 rfl (lv_at hl 0 rfl) ?_
        refine lv_iload_n hx hb dX4_nearestTo_52 rfl (lv_at hl 6 rfl) ?_
        refine zi_xor S dX4_nearestTo_53 ?_
        refine zcSi (rest := []) S K hP hD hS hA hl.1 (c_J6_bitCount_0f7a4 l G ((x ^^^ (ex2_1 (lb z))) ^^^ w) (by omega)) rfl rfl gX4_nearestTo_J6_bitCount_0f7a4 rfl eJ6_bitCount_0f7a4.2 [] (by decide +kernel) rfl (fun _ => rfl) rfl rfl (Nat.le_of_ble_eq_true rfl) (Nat.le_of_ble_eq_true rfl) (Nat.le_of_ble_eq_true rfl) ⟨Nat.zero_le _, Nat.zero_le _⟩ dX4_nearestTo_54 (fun r_54 u_54 H locs hw_54 hP hD hS => ?_)
        replace hw_54 : r_54 = nI (pcn ((x ^^^ (ex2_1 (lb z))) ^^^ w)) := hw_54
        obtain rfl := hw_54
        have hP : va_P (gD G) vwCl [(a0, .inr (4, [.int (nI vc), .int vm, .ref a1, .ref a2, .ref a3, .ref a4, .ref a5, .ref a6, .int rs, .int rm, .int rr, .ref a7])), (a3, .inl (gI G, 3, .inl (nA ta))), (a4, .inl (gI G, 12, .inl (nA ss))), (a5, .inl (gI G, 12, .inl (nA su))), (a7, .inl (gI G, 12, .inl (nA ex2_1)))] H := hP
        have hD : va_D A [(a0, .inr (4, [.int (nI vc), .int vm, .ref a1, .ref a2, .ref a3, .ref a4, .ref a5, .ref a6, .int rs, .int rm, .int rr, .ref a7])), (a3, .inl (gI G, 3, .inl (nA ta))), (a4, .inl (gI G, 12, .inl (nA ss))), (a5, .inl (gI G, 12, .inl (nA su))), (a7, .inl (gI G, 12, .inl (nA ex2_1)))] := hD
        refine lv_istore (lv' := [(7, .int (nI (pcn ((x ^^^ (ex2_1 (lb z))) ^^^ w)))), (2, .int (nI (x ^^^ (ex2_1 (lb z))))), (6, .int (nI z)), (5, .int (nI ((2 ^ fr ss vc) - 1))), (4, .int (nI fw)), (3, .int (nI y)), (0, .ref a0), (1, .int (nI w))]) hx hb dX4_nearestTo_57 hl (by decide) rfl (fun ls hl => ?_)
        refine lv_iload hx hb dX4_nearestTo_59 (lv_at hl 0 rfl) ?_
        refine lv_iload hx hb dX4_nearestTo_61 (lv_at hl 4 rfl) ?_
        refine zb_ge (tgt := 72) S dX4_nearestTo_63 (by decide) (by omega) (by have := near_fw hv2; omega) (fun c_63 => ?_) (fun c_63 => ?_)
        · skip
          refine lv_iinc (v := (nI (z + 1))) (lv' := [(6, .int (nI (z + 1))), (7, .int (nI (pcn ((x ^^^ (ex2_1 (lb z))) ^^^ w)))), (2, .int (nI (x ^^^ (ex2_1 (lb z))))), (5, .int (nI ((2 ^ fr ss vc) - 1))), (4, .int (nI fw)), (3, .int (nI y)), (0, .ref a0), (1, .int (nI w))]) hx hb dX4_nearestTo_72 hl (k := 2) rfl (z_i1 _) (by decide) rfl (fun ls hl => ?_)
          refine lv_goto (tgt := 31) hx hb dX4_nearestTo_75 (by decide) ?_
          exact ih_31 (z + 1) (x ^^^ (ex2_1 (lb z))) y fw (by omega) (by omega) (by rw [Nat.add_sub_cancel]; exact hn2) (by first | exact near_hit hl1 hc hv2 hn2 (by omega) c_63 | exact near_skip hl1 hc hv2 hn2 (by omega) (by omega) c_63) _ _ hP hD hS _ (lv_sub hl [0, 3, 4, 5, 2, 6, 7] rfl)
        · skip
          refine lv_iload hx hb dX4_nearestTo_66 (lv_at hl 0 rfl) ?_
          refine lv_istore (lv' := [(4, .int (nI (pcn ((x ^^^ (ex2_1 (lb z))) ^^^ w)))), (7, .int (nI (pcn ((x ^^^ (ex2_1 (lb z))) ^^^ w)))), (2, .int (nI (x ^^^ (ex2_1 (lb z))))), (6, .int (nI z)), (5, .int (nI ((2 ^ fr ss vc) - 1))), (3, .int (nI y)), (0, .ref a0), (1, .int (nI w))]) hx hb dX4_nearestTo_68 hl (by decide) rfl (fun ls hl => ?_)
          refine lv_iload_n hx hb dX4_nearestTo_70 rfl (lv_at hl 2 rfl) ?_
          refine lv_istore_n (lv' := [(3, .int (nI (x ^^^ (ex2_1 (lb z))))), (4, .int (nI (pcn ((x ^^^ (ex2_1 (lb z))) ^^^ w)))), (7, .int (nI (pcn ((x ^^^ (ex2_1 (lb z))) ^^^ w)))), (2, .int (nI (x ^^^ (ex2_1 (lb z))))), (6, .int (nI z)), (5, .int (nI ((2 ^ fr ss vc) - 1))), (0, .ref a0), (1, .int (nI w))]) hx hb dX4_nearestTo_71 rfl hl (by decide) rfl (fun ls hl => ?_)
          refine lv_iinc (v := (nI (z + 1))) (lv' := [(6, .int (nI (z + 1))), (3, .int (nI (x ^^^ (ex2_1 (lb z))))), (4, .int (nI (pcn ((x ^^^ (ex2_1 (lb z))) ^^^ w)))), (7, .int (nI (pcn ((x ^^^ (ex2_1 (lb z))) ^^^ w)))), (2, .int (nI (x ^^^ (ex2_1 (lb z))))), (5, .int (nI ((2 ^ fr ss vc) - 1))), (0, .ref a0), (1, .int (nI w))]) hx hb dX4_nearestTo_72 hl (k := 4) rfl (z_i1 _) (by decide) rfl (fun ls hl => ?_)
          refine lv_goto (tgt := 31) hx hb dX4_nearestTo_75 (by decide) ?_
          exact ih_31 (z + 1) (x ^^^ (ex2_1 (lb z))) (x ^^^ (ex2_1 (lb z))) (pcn ((x ^^^ (ex2_1 (lb z))) ^^^ w)) (by omega) (by omega) (by rw [Nat.add_sub_cancel]; exact hn2) (by first | exact near_hit hl1 hc hv2 hn2 (by omega) c_63 | exact near_skip hl1 hc hv2 hn2 (by omega) (by omega) c_63) _ _ hP hD hS _ (lv_sub hl [0, 5, 2, 1, 4, 6, 7] rfl)
  exact lp_31 _ 1 a_6 a_6 (pcn (a_6 ^^^ w)) (Nat.lt_succ_self _) (by omega) hw_6 (near_0 hl1 hc hw_6) _ _ hP hD hS _ (lv_sub hl [0, 1, 2, 3, 4, 5, 6] rfl)
