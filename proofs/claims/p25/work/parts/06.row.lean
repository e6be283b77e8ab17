set_option maxHeartbeats 4000000 in
set_option maxRecDepth 100000 in
theorem c_X3_hasPlace (l : Launch) (G : gT) (a0 a1 a2 : Nat) (rc : Nat) (rn : Nat) (f : Nat → Nat) (g : Nat → Nat) (x : Int32) (hn : rn ≤ 20) : CI l yX3_hasPlace wsX3_hasPlace ({ frames := 0, cells := 0, slots := 0, locals := 0 } : Room) G [.ref a0, .int x] [(a0, .inr (3, [.int (nI rc), .int (nI rn), .ref a1, .ref a2])), (a1, .inl (gI G, 20, .inl (nA f))), (a2, .inl (gI G, 20, .inl (nA g)))] 0 0 (fun (r : Int32) (u : Unit) => r = nI (bN (decide (0 ≤ x.toInt ∧ x.toInt < (rn : Int))))) (fun (u : Unit) => [(a0, .inr (3, [.int (nI rc), .int (nI rn), .ref a1, .ref a2])), (a1, .inl (gI G, 20, .inl (nA f))), (a2, .inl (gI G, 20, .inl (nA g)))]) := by
  refine CI.of (cc := cX3_hasPlace) (maxL := 2) (ret := (some .boolean)) (by decide +kernel) rfl (Nat.le_of_ble_eq_true rfl) rfl (fun p e s m args below meth c A S hrt hlk hnm K hA hP hD hS ls hl => ?_)
  have hx := S.1
  have hb := S.2.1
  have hl : lv_has ls 2 [(0, .ref a0), (1, .int x)] := hl
  refine lv_iload_n hx hb dX3_hasPlace_0 rfl (lv_at hl 1 rfl) ?_
  refine zq_lt (tgt := 16) S dX3_hasPlace_1 (by decide) rfl (fun c_1 => ?_) (fun c_1 => ?_)
  · skip
    refine lv_iconst (v := nI 0) hx hb dX3_hasPlace_16 (by decide +kernel) ?_
    refine z_top (y := nI (bN (decide (0 ≤ x.toInt ∧ x.toInt < (rn : Int))))) (bz_f (decide_eq_false (by omega))) ?_
    exact z_zret S hrt hlk hP hD hS () rfl rfl (z_bnar _) dX3_hasPlace_17
  · skip
    refine lv_iload_n hx hb dX3_hasPlace_4 rfl (lv_at hl 1 rfl) ?_
    refine lv_aload_n hx hb dX3_hasPlace_5 rfl (lv_at hl 0 rfl) ?_
    refine z_get S K hP hX3_hasPlace_X3 0 rfl rfl 1 (by decide) kX3_hasPlace_1 rfl rfl dX3_hasPlace_6 ?_
    refine zr_ge (tgt := 16) S dX3_hasPlace_9 (by decide) rfl (z_toInt (by omega)) (fun c_9 => ?_) (fun c_9 => ?_)
    · skip
      refine lv_iconst (v := nI 0) hx hb dX3_hasPlace_16 (by decide +kernel) ?_
      refine z_top (y := nI (bN (decide (0 ≤ x.toInt ∧ x.toInt < (rn : Int))))) (bz_f (decide_eq_false (by omega))) ?_
      exact z_zret S hrt hlk hP hD hS () rfl rfl (z_bnar _) dX3_hasPlace_17
    · skip
      refine lv_iconst (v := nI 1) hx hb dX3_hasPlace_12 (by decide +kernel) ?_
      refine lv_goto (tgt := 17) hx hb dX3_hasPlace_13 (by decide) ?_
      refine z_top (y := nI (bN (decide (0 ≤ x.toInt ∧ x.toInt < (rn : Int))))) (bz_t (decide_eq_true (by omega))) ?_
      exact z_zret S hrt hlk hP hD hS () rfl rfl (z_bnar _) dX3_hasPlace_17
set_option maxHeartbeats 4000000 in
set_option maxRecDepth 100000 in
theorem c_X3_hasSet (l : Launch) (G : gT) (a0 a1 a2 : Nat) (rc : Nat) (rn : Nat) (f : Nat → Nat) (g : Nat → Nat) (x : Int32) (hc : rc ≤ 12) : CI l yX3_hasSet wsX3_hasSet ({ frames := 0, cells := 0, slots := 0, locals := 0 } : Room) G [.ref a0, .int x] [(a0, .inr (3, [.int (nI rc), .int (nI rn), .ref a1, .ref a2])), (a1, .inl (gI G, 20, .inl (nA f))), (a2, .inl (gI G, 20, .inl (nA g)))] 0 0 (fun (r : Int32) (u : Unit) => r = nI (bN (decide (0 ≤ x.toInt ∧ x.toInt < ((1 <<< rc : Nat) : Int))))) (fun (u : Unit) => [(a0, .inr (3, [.int (nI rc), .int (nI rn), .ref a1, .ref a2])), (a1, .inl (gI G, 20, .inl (nA f))), (a2, .inl (gI G, 20, .inl (nA g)))]) := by
  refine CI.of (cc := cX3_hasSet) (maxL := 2) (ret := (some .boolean)) (by decide +kernel) rfl (Nat.le_of_ble_eq_true rfl) rfl (fun p e s m args below meth c A S hrt hlk hnm K hA hP hD hS ls hl => ?_)
  have hx := S.1
  have hb := S.2.1
  have hl : lv_has ls 2 [(0, .ref a0), (1, .int x)] := hl
  refine lv_iload_n hx hb dX3_hasSet_0 rfl (lv_at hl 1 rfl) ?_
  refine zq_lt (tgt := 18) S dX3_hasSet_1 (by decide) rfl (fun c_1 => ?_) (fun c_1 => ?_)
  · skip
    refine lv_iconst (v := nI 0) hx hb dX3_hasSet_18 (by decide +kernel) ?_
    refine z_top (y := nI (bN (decide (0 ≤ x.toInt ∧ x.toInt < ((1 <<< rc : Nat) : Int))))) (bz_f (decide_eq_false (by omega))) ?_
    exact z_zret S hrt hlk hP hD hS () rfl rfl (z_bnar _) dX3_hasSet_19
  · skip
    refine lv_iload_n hx hb dX3_hasSet_4 rfl (lv_at hl 1 rfl) ?_
    refine lv_iconst (v := nI 1) hx hb dX3_hasSet_5 (by decide +kernel) ?_
    refine lv_aload_n hx hb dX3_hasSet_6 rfl (lv_at hl 0 rfl) ?_
    refine z_get S K hP hX3_hasSet_X3 0 rfl rfl 0 (by decide) kX3_hasSet_1 rfl rfl dX3_hasSet_7 ?_
    refine zi_shl S dX3_hasSet_10 (by omega) ?_
    refine zr_ge (tgt := 18) S dX3_hasSet_11 (by decide) rfl (z_toInt (shl1_lt hc)) (fun c_11 => ?_) (fun c_11 => ?_)
    · skip
      refine lv_iconst (v := nI 0) hx hb dX3_hasSet_18 (by decide +kernel) ?_
      refine z_top (y := nI (bN (decide (0 ≤ x.toInt ∧ x.toInt < ((1 <<< rc : Nat) : Int))))) (bz_f (decide_eq_false (by omega))) ?_
      exact z_zret S hrt hlk hP hD hS () rfl rfl (z_bnar _) dX3_hasSet_19
    · skip
      refine lv_iconst (v := nI 1) hx hb dX3_hasSet_14 (by decide +kernel) ?_
      refine lv_goto (tgt := 19) hx hb dX3_hasSet_15 (by decide) ?_
      refine z_top (y := nI (bN (decide (0 ≤ x.toInt ∧ x.toInt < ((1 <<< rc : Nat) : Int))))) (bz_t (decide_eq_true (by omega))) ?_
      exact z_zret S hrt hlk hP hD hS () rfl rfl (z_bnar _) dX3_hasSet_19
set_option maxHeartbeats 4000000 in
set_option maxRecDepth 100000 in
theorem c_X3_setsStayBelow (l : Launch) (G : gT) (a0 a1 a2 : Nat) (rc : Nat) (rn : Nat) (f : Nat → Nat) (g : Nat → Nat) (b : Nat) (hn : rn ≤ 20) (hb : b ≤ 12) (hf : ∀ j, j < rn → f j < 4096) : CI l yX3_setsStayBelow wsX3_setsStayBelow ({ frames := 0, cells := 0, slots := 0, locals := 0 } : Room) G [.ref a0, .int (nI b)] [(a0, .inr (3, [.int (nI rc), .int (nI rn), .ref a1, .ref a2])), (a1, .inl (gI G, 20, .inl (nA f))), (a2, .inl (gI G, 20, .inl (nA g)))] 0 0 (fun (r : Int32) (u : Unit) => r = nI (bN (decide (∀ j, j < rn → f j >>> b = 0)))) (fun (u : Unit) => [(a0, .inr (3, [.int (nI rc), .int (nI rn), .ref a1, .ref a2])), (a1, .inl (gI G, 20, .inl (nA f))), (a2, .inl (gI G, 20, .inl (nA g)))]) := by
  refine CI.of (cc := cX3_setsStayBelow) (maxL := 4) (ret := (some .boolean)) (by decide +kernel) rfl (Nat.le_of_ble_eq_true rfl) rfl (fun p e s m args below meth c A S hrt hlk hnm K hA hP hD hS ls hl => ?_)
  have hx := S.1
  have hb := S.2.1
  have hl : lv_has ls 4 [(0, .ref a0), (1, .int (nI b))] := hl
  refine lv_iconst (v := nI 0) hx hb dX3_setsStayBelow_0 (by decide +kernel) ?_
  refine lv_istore_n (lv' := [(2, .int (nI 0)), (0, .ref a0), (1, .int (nI b))]) hx hb dX3_setsStayBelow_1 rfl hl (by decide) rfl (fun ls hl => ?_)
  refine lv_iconst (v := nI 0) hx hb dX3_setsStayBelow_2 (by decide +kernel) ?_
  refine lv_istore_n (lv' := [(3, .int (nI 0)), (2, .int (nI 0)), (0, .ref a0), (1, .int (nI b))]) hx hb dX3_setsStayBelow_3 rfl hl (by decide) rfl (fun ls hl => ?_)
  have lp_4 : ∀ (n_4 : Nat) (i y : Nat), rn - i < n_4 → (i ≤ rn) → (y = orF f i) → ∀ (H : Heap) (locs : List Loc), va_P (gD G) vwCl [(a0, .inr (3, [.int (nI rc), .int (nI rn), .ref a1, .ref a2])), (a1, .inl (gI G, 20, .inl (nA f))), (a2, .inl (gI G, 20, .inl (nA g)))] H → va_D A [(a0, .inr (3, [.int (nI rc), .int (nI rn), .ref a1, .ref a2])), (a1, .inl (gI G, 20, .inl (nA f))), (a2, .inl (gI G, 20, .inl (nA g)))] → va_S A s.heap H locs → ∀ ls : Array Slot, lv_has ls 4 [(3, .int (nI i)), (2, .int (nI y)), (0, .ref a0), (1, .int (nI b))] → W p l e ({ frames := 0, cells := 0, slots := 0, locals := 0 } : Room) s m args below meth c H locs 0 0 (MQ below (va_Qi (fun (r : Int32) (u : Unit) => r = nI (bN (decide (∀ j, j < rn → f j >>> b = 0)))) (cB G A (fun (u : Unit) => [(a0, .inr (3, [.int (nI rc), .int (nI rn), .ref a1, .ref a2])), (a1, .inl (gI G, 20, .inl (nA f))), (a2, .inl (gI G, 20, .inl (nA g)))])) A) args s 0 0 A) (F0 m 4 ls []) := by
    intro n_4
    induction n_4 with
    | zero =>
      intro i y h0
      exact absurd h0 (Nat.not_lt_zero _)
    | succ n_4 ih_4 =>
      intro i y hm_4 hi hy H locs hP hD hS ls hl
      refine lv_iload_n hx hb dX3_setsStayBelow_4 rfl (lv_at hl 0 rfl) ?_
      refine lv_aload_n hx hb dX3_setsStayBelow_5 rfl (lv_at hl 2 rfl) ?_
      refine z_get S K hP hX3_setsStayBelow_X3 0 rfl rfl 1 (by decide) kX3_setsStayBelow_1 rfl rfl dX3_setsStayBelow_6 ?_
      refine zb_ge (tgt := 27) S dX3_setsStayBelow_9 (by decide) (by omega) (by omega) (fun c_9 => ?_) (fun c_9 => ?_)
      · skip
        have hirn : i = rn := by omega
        obtain rfl : rn = i := Eq.symm (hirn)
        have hor := orF_lt hf rn (Nat.le_refl _)
        refine lv_iload_n hx hb dX3_setsStayBelow_27 rfl (lv_at hl 1 rfl) ?_
        refine lv_iload_n hx hb dX3_setsStayBelow_28 rfl (lv_at hl 3 rfl) ?_
        refine zi_shr S dX3_setsStayBelow_29 (by omega) (by omega) ?_
        refine zf_ne (tgt := 37) S dX3_setsStayBelow_30 (by decide) (shr_lt (by omega)) (fun c_30 => ?_) (fun c_30 => ?_)
        · skip
          refine lv_iconst (v := nI 0) hx hb dX3_setsStayBelow_37 (by decide +kernel) ?_
          refine z_top (y := nI (bN (decide (∀ j, j < rn → f j >>> b = 0)))) (bz_f (decide_eq_false (fun z => c_30 (by rw [hy]; exact (orF_shr f b rn).mpr z)))) ?_
          exact z_zret S hrt hlk hP hD hS () rfl rfl (z_bnar _) dX3_setsStayBelow_38
        · skip
          refine lv_iconst (v := nI 1) hx hb dX3_setsStayBelow_33 (by decide +kernel) ?_
          refine lv_goto (tgt := 38) hx hb dX3_setsStayBelow_34 (by decide) ?_
          refine z_top (y := nI (bN (decide (∀ j, j < rn → f j >>> b = 0)))) (bz_t (decide_eq_true ((orF_shr f b rn).mp (by rw [← hy]; exact c_30)))) ?_
          exact z_zret S hrt hlk hP hD hS () rfl rfl (z_bnar _) dX3_setsStayBelow_38
      · skip
        refine lv_iload_n hx hb dX3_setsStayBelow_12 rfl (lv_at hl 1 rfl) ?_
        refine lv_aload_n hx hb dX3_setsStayBelow_13 rfl (lv_at hl 2 rfl) ?_
        refine z_get S K hP hX3_setsStayBelow_X3 0 rfl rfl 2 (by decide) kX3_setsStayBelow_2 rfl rfl dX3_setsStayBelow_14 ?_
        refine lv_iload_n hx hb dX3_setsStayBelow_17 rfl (lv_at hl 0 rfl) ?_
        refine z_iald S K hP 1 rfl (by omega) (by decide) dX3_setsStayBelow_18 ?_
        refine zi_or S dX3_setsStayBelow_19 ?_
        refine lv_istore_n (lv' := [(2, .int (nI (y ||| (f i)))), (3, .int (nI i)), (0, .ref a0), (1, .int (nI b))]) hx hb dX3_setsStayBelow_20 rfl hl (by decide) rfl (fun ls hl => ?_)
        refine lv_iinc (v := (nI (i + 1))) (lv' := [(3, .int (nI (i + 1))), (2, .int (nI (y ||| (f i)))), (0, .ref a0), (1, .int (nI b))]) hx hb dX3_setsStayBelow_21 hl (k := 1) rfl (z_i1 _) (by decide) rfl (fun ls hl => ?_)
        refine lv_goto (tgt := 4) hx hb dX3_setsStayBelow_24 (by decide) ?_
        exact ih_4 (i + 1) (y ||| (f i)) (by omega) (by omega) (by rw [hy]; rfl) _ _ hP hD hS _ (lv_sub hl [0, 1, 2, 3] rfl)
  exact lp_4 _ 0 0 (Nat.lt_succ_self _) (by omega) rfl _ _ hP hD hS _ (lv_sub hl [0, 1, 2, 3] rfl)
set_option maxHeartbeats 4000000 in
set_option maxRecDepth 100000 in
theorem c_X3_rulesWith (l : Launch) (G : gT) (a0 a1 a2 : Nat) (rc : Nat) (rn : Nat) (f : Nat → Nat) (g : Nat → Nat) (b : Nat) (hn : rn ≤ 20) (hb : b < 12) (hf : ∀ j, j < rn → f j < 4096) : CI l yX3_rulesWith wsX3_rulesWith ({ frames := 0, cells := 0, slots := 0, locals := 0 } : Room) G [.ref a0, .int (nI b)] [(a0, .inr (3, [.int (nI rc), .int (nI rn), .ref a1, .ref a2])), (a1, .inl (gI G, 20, .inl (nA f))), (a2, .inl (gI G, 20, .inl (nA g)))] 0 0 (fun (r : Int32) (u : Unit) => r = nI (smF (fun j => f j >>> b &&& 1) rn)) (fun (u : Unit) => [(a0, .inr (3, [.int (nI rc), .int (nI rn), .ref a1, .ref a2])), (a1, .inl (gI G, 20, .inl (nA f))), (a2, .inl (gI G, 20, .inl (nA g)))]) := by
  refine CI.of (cc := cX3_rulesWith) (maxL := 4) (ret := (some .int)) (by decide +kernel) rfl (Nat.le_of_ble_eq_true rfl) rfl (fun p e s m args below meth c A S hrt hlk hnm K hA hP hD hS ls hl => ?_)
  have hx := S.1
  have hb := S.2.1
  have hl : lv_has ls 4 [(0, .ref a0), (1, .int (nI b))] := hl
  refine lv_iconst (v := nI 0) hx hb dX3_rulesWith_0 (by decide +kernel) ?_
  refine lv_istore_n (lv' := [(2, .int (nI 0)), (0, .ref a0), (1, .int (nI b))]) hx hb dX3_rulesWith_1 rfl hl (by decide) rfl (fun ls hl => ?_)
  refine lv_iconst (v := nI 0) hx hb dX3_rulesWith_2 (by decide +kernel) ?_
  refine lv_istore_n (lv' := [(3, .int (nI 0)), (2, .int (nI 0)), (0, .ref a0), (1, .int (nI b))]) hx hb dX3_rulesWith_3 rfl hl (by decide) rfl (fun ls hl => ?_)
  have lp_4 : ∀ (n_4 : Nat) (i y : Nat), rn - i < n_4 → (i ≤ rn) → (y = smF (fun j => f j >>> b &&& 1) i) → ∀ (H : Heap) (locs : List Loc), va_P (gD G) vwCl [(a0, .inr (3, [.int (nI rc), .int (nI rn), .ref a1, .ref a2])), (a1, .inl (gI G, 20, .inl (nA f))), (a2, .inl (gI G, 20, .inl (nA g)))] H → va_D A [(a0, .inr (3, [.int (nI rc), .int (nI rn), .ref a1, .ref a2])), (a1, .inl (gI G, 20, .inl (nA f))), (a2, .inl (gI G, 20, .inl (nA g)))] → va_S A s.heap H locs → ∀ ls : Array Slot, lv_has ls 4 [(3, .int (nI i)), (2, .int (nI y)), (0, .ref a0), (1, .int (nI b))] → W p l e ({ frames := 0, cells := 0, slots := 0, locals := 0 } : Room) s m args below meth c H locs 0 0 (MQ below (va_Qi (fun (r : Int32) (u : Unit) => r = nI (smF (fun j => f j >>> b &&& 1) rn)) (cB G A (fun (u : Unit) => [(a0, .inr (3, [.int (nI rc), .int (nI rn), .ref a1, .ref a2])), (a1, .inl (gI G, 20, .inl (nA f))), (a2, .inl (gI G, 20, .inl (nA g)))])) A) args s 0 0 A) (F0 m 4 ls []) := by
    intro n_4
    induction n_4 with
    | zero =>
      intro i y h0
      exact absurd h0 (Nat.not_lt_zero _)
    | succ n_4 ih_4 =>
      intro i y hm_4 hi hy H locs hP hD hS ls hl
      refine lv_iload_n hx hb dX3_rulesWith_4 rfl (lv_at hl 0 rfl) ?_
      refine lv_aload_n hx hb dX3_rulesWith_5 rfl (lv_at hl 2 rfl) ?_
      refine z_get S K hP hX3_rulesWith_X3 0 rfl rfl 1 (by decide) kX3_rulesWith_1 rfl rfl dX3_rulesWith_6 ?_
      refine zb_ge (tgt := 31) S dX3_rulesWith_9 (by decide) (by omega) (by omega) (fun c_9 => ?_) (fun c_9 => ?_)
      · skip
        have hirn : i = rn := by omega
        obtain rfl : rn = i := Eq.symm (hirn)
        refine lv_iload_n hx hb dX3_rulesWith_31 rfl (lv_at hl 1 rfl) ?_
        refine z_top (y := nI (smF (fun j => f j >>> b &&& 1) rn)) (congrArg nI hy) ?_
        exact z_iret S hrt hlk hP hD hS () rfl rfl dX3_rulesWith_32
      · skip
        refine lv_iload_n hx hb dX3_rulesWith_12 rfl (lv_at hl 1 rfl) ?_
        refine lv_aload_n hx hb dX3_rulesWith_13 rfl (lv_at hl 2 rfl) ?_
        refine z_get S K hP hX3_rulesWith_X3 0 rfl rfl 2 (by decide) kX3_rulesWith_2 rfl rfl dX3_rulesWith_14 ?_
        refine lv_iload_n hx hb dX3_rulesWith_17 rfl (lv_at hl 0 rfl) ?_
        refine z_iald S K hP 1 rfl (by omega) (by decide) dX3_rulesWith_18 ?_
        refine lv_iload_n hx hb dX3_rulesWith_19 rfl (lv_at hl 3 rfl) ?_
        refine zi_shr S dX3_rulesWith_20 (by have := hf i (by omega); omega) (by omega) ?_
        refine lv_iconst (v := nI 1) hx hb dX3_rulesWith_21 (by decide +kernel) ?_
        refine zi_and S dX3_rulesWith_22 ?_
        refine zi_add S dX3_rulesWith_23 ?_
        refine lv_istore_n (lv' := [(2, .int (nI (y + (((f i) >>> b) &&& 1)))), (3, .int (nI i)), (0, .ref a0), (1, .int (nI b))]) hx hb dX3_rulesWith_24 rfl hl (by decide) rfl (fun ls hl => ?_)
        refine lv_iinc (v := (nI (i + 1))) (lv' := [(3, .int (nI (i + 1))), (2, .int (nI (y + (((f i) >>> b) &&& 1)))), (0, .ref a0), (1, .int (nI b))]) hx hb dX3_rulesWith_25 hl (k := 1) rfl (z_i1 _) (by decide) rfl (fun ls hl => ?_)
        refine lv_goto (tgt := 4) hx hb dX3_rulesWith_28 (by decide) ?_
        exact ih_4 (i + 1) (y + (((f i) >>> b) &&& 1)) (by omega) (by omega) (by rw [hy]; rfl) _ _ hP hD hS _ (lv_sub hl [0, 1, 2, 3] rfl)
  exact lp_4 _ 0 0 (Nat.lt_succ_self _) (by omega) rfl _ _ hP hD hS _ (lv_sub hl [0, 1, 2, 3] rfl)
set_option maxHeartbeats 4000000 in
set_option maxRecDepth 100000 in
theorem c_X3_become (l : Launch) (G : gT) (a0 a1 a2 b0 b1 b2 : Nat) (z1 : Int32) (z2 : Int32) (rc : Int32) (rn : Int32) (f : Nat → Nat) (g : Nat → Nat) (fo : Nat → Nat) (go : Nat → Nat) : CV l yX3_become wsX3_become ({ frames := 1, cells := 0, slots := 0, locals := 18 } : Room) G [.ref a0, .ref b0] [(a0, .inr (3, [.int z1, .int z2, .ref a1, .ref a2])), (a1, .inl (gI G, 20, .inl (nA f))), (a2, .inl (gI G, 20, .inl (nA g))), (b0, .inr (3, [.int rc, .int rn, .ref b1, .ref b2])), (b1, .inl (gI G, 20, .inl (nA fo))), (b2, .inl (gI G, 20, .inl (nA go)))] 0 0 (fun (u : Unit) => True) (fun (u : Unit) => [(a0, .inr (3, [.int rc, .int rn, .ref a1, .ref a2])), (a1, .inl (gI G, 20, .inl (nA fo))), (a2, .inl (gI G, 20, .inl (nA go))), (b0, .inr (3, [.int rc, .int rn, .ref b1, .ref b2])), (b1, .inl (gI G, 20, .inl (nA fo))), (b2, .inl (gI G, 20, .inl (nA go)))]) := by
  refine CV.of (cc := cX3_become) (maxL := 2) (ret := none) (by decide +kernel) rfl (Nat.le_of_ble_eq_true rfl) rfl (fun p e s m args below meth c A S hrt hlk hnm K hA hP hD hS ls hl => ?_)
  have hx := S.1
  have hb := S.2.1
  have hl : lv_has ls 2 [(0, .ref a0), (1, .ref b0)] := hl
  refine lv_aload_n hx hb dX3_become_0 rfl (lv_at hl 0 rfl) ?_
  refine lv_aload_n hx hb dX3_become_1 rfl (lv_at hl 1 rfl) ?_
  refine z_get S K hP hX3_become_X3 3 rfl rfl 0 (by decide) kX3_become_1 rfl rfl dX3_become_2 ?_
  refine z_put S K hP hD hS (ty0 := tyX3) hX3_become_X3 tyX3_ok nmX3 0 rfl rfl 0 (by decide) kX3_become_1 rfl rfl rfl rfl (Nat.le_of_ble_eq_true rfl) dX3_become_5 (fun H locs hP hD hS => ?_)
  have hP : va_P (gD G) vwCl [(a0, .inr (3, [.int rc, .int z2, .ref a1, .ref a2])), (a1, .inl (gI G, 20, .inl (nA f))), (a2, .inl (gI G, 20, .inl (nA g))), (b0, .inr (3, [.int rc, .int rn, .ref b1, .ref b2])), (b1, .inl (gI G, 20, .inl (nA fo))), (b2, .inl (gI G, 20, .inl (nA go)))] H := hP
  have hD : va_D A [(a0, .inr (3, [.int rc, .int z2, .ref a1, .ref a2])), (a1, .inl (gI G, 20, .inl (nA f))), (a2, .inl (gI G, 20, .inl (nA g))), (b0, .inr (3, [.int rc, .int rn, .ref b1, .ref b2])), (b1, .inl (gI G, 20, .inl (nA fo))), (b2, .inl (gI G, 20, .inl (nA go)))] := hD
  refine lv_aload_n hx hb dX3_become_8 rfl (lv_at hl 0 rfl) ?_
  refine lv_aload_n hx hb dX3_become_9 rfl (lv_at hl 1 rfl) ?_
  refine z_get S K hP hX3_become_X3 3 rfl rfl 1 (by decide) kX3_become_2 rfl rfl dX3_become_10 ?_
  refine z_put S K hP hD hS (ty0 := tyX3) hX3_become_X3 tyX3_ok nmX3 0 rfl rfl 1 (by decide) kX3_become_2 rfl rfl rfl rfl (Nat.le_of_ble_eq_true rfl) dX3_become_13 (fun H locs hP hD hS => ?_)
  have hP : va_P (gD G) vwCl [(a0, .inr (3, [.int rc, .int rn, .ref a1, .ref a2])), (a1, .inl (gI G, 20, .inl (nA f))), (a2, .inl (gI G, 20, .inl (nA g))), (b0, .inr (3, [.int rc, .int rn, .ref b1, .ref b2])), (b1, .inl (gI G, 20, .inl (nA fo))), (b2, .inl (gI G, 20, .inl (nA go)))] H := hP
  have hD : va_D A [(a0, .inr (3, [.int rc, .int rn, .ref a1, .ref a2])), (a1, .inl (gI G, 20, .inl (nA f))), (a2, .inl (gI G, 20, .inl (nA g))), (b0, .inr (3, [.int rc, .int rn, .ref b1, .ref b2])), (b1, .inl (gI G, 20, .inl (nA fo))), (b2, .inl (gI G, 20, .inl (nA go)))] := hD
  refine lv_aload_n hx hb dX3_become_16 rfl (lv_at hl 1 rfl) ?_
  refine z_get S K hP hX3_become_X3 3 rfl rfl 2 (by decide) kX3_become_3 rfl rfl dX3_become_17 ?_
  refine lv_iconst (v := nI 0) hx hb dX3_become_20 (by decide +kernel) ?_
  refine lv_aload_n hx hb dX3_become_21 rfl (lv_at hl 0 rfl) ?_
  refine z_get S K hP hX3_become_X3 0 rfl rfl 2 (by decide) kX3_become_3 rfl rfl dX3_become_22 ?_
  refine lv_iconst (v := nI 0) hx hb dX3_become_25 (by decide +kernel) ?_
  refine lv_bipush (v := nI 20) hx hb dX3_become_26 (by decide +kernel) ?_
  refine z_copy S hl.1 kX3_become_4 kX3_become_5 kX3_become_6 kX3_become_7 K hP hD hS 4 1 rfl rfl (by decide) (Nat.le_of_ble_eq_true rfl) (Nat.le_of_ble_eq_true rfl) dX3_become_28 (fun H locs hP hD hS => ?_)
  have hP : va_P (gD G) vwCl [(a0, .inr (3, [.int rc, .int rn, .ref a1, .ref a2])), (a1, .inl (gI G, 20, .inl (nA fo))), (a2, .inl (gI G, 20, .inl (nA g))), (b0, .inr (3, [.int rc, .int rn, .ref b1, .ref b2])), (b1, .inl (gI G, 20, .inl (nA fo))), (b2, .inl (gI G, 20, .inl (nA go)))] H := hP
  have hD : va_D A [(a0, .inr (3, [.int rc, .int rn, .ref a1, .ref a2])), (a1, .inl (gI G, 20, .inl (nA fo))), (a2, .inl (gI G, 20, .inl (nA g))), (b0, .inr (3, [.int rc, .int rn, .ref b1, .ref b2])), (b1, .inl (gI G, 20, .inl (nA fo))), (b2, .inl (gI G, 20, .inl (nA go)))] := hD
  refine lv_aload_n hx hb dX3_become_31 rfl (lv_at hl 1 rfl) ?_
  refine z_get S K hP hX3_become_X3 3 rfl rfl 3 (by decide) kX3_become_8 rfl rfl dX3_become_32 ?_
  refine lv_iconst (v := nI 0) hx hb dX3_become_35 (by decide +kernel) ?_
  refine lv_aload_n hx hb dX3_become_36 rfl (lv_at hl 0 rfl) ?_
  refine z_get S K hP hX3_become_X3 0 rfl rfl 3 (by decide) kX3_become_8 rfl rfl dX3_become_37 ?_
  refine lv_iconst (v := nI 0) hx hb dX3_become_40 (by decide +kernel) ?_
  refine lv_bipush (v := nI 20) hx hb dX3_become_41 (by decide +kernel) ?_
  refine z_copy S hl.1 kX3_become_4 kX3_become_5 kX3_become_6 kX3_become_7 K hP hD hS 5 2 rfl rfl (by decide) (Nat.le_of_ble_eq_true rfl) (Nat.le_of_ble_eq_true rfl) dX3_become_43 (fun H locs hP hD hS => ?_)
  have hP : va_P (gD G) vwCl [(a0, .inr (3, [.int rc, .int rn, .ref a1, .ref a2])), (a1, .inl (gI G, 20, .inl (nA fo))), (a2, .inl (gI G, 20, .inl (nA go))), (b0, .inr (3, [.int rc, .int rn, .ref b1, .ref b2])), (b1, .inl (gI G, 20, .inl (nA fo))), (b2, .inl (gI G, 20, .inl (nA go)))] H := hP
  have hD : va_D A [(a0, .inr (3, [.int rc, .int rn, .ref a1, .ref a2])), (a1, .inl (gI G, 20, .inl (nA fo))), (a2, .inl (gI G, 20, .inl (nA go))), (b0, .inr (3, [.int rc, .int rn, .ref b1, .ref b2])), (b1, .inl (gI G, 20, .inl (nA fo))), (b2, .inl (gI G, 20, .inl (nA go)))] := hD
  exact z_vret S hrt hlk hP hD hS () rfl trivial dX3_become_46
set_option maxHeartbeats 4000000 in
set_option maxRecDepth 100000 in
theorem c_X3_append (l : Launch) (G : gT) (a0 a1 a2 : Nat) (rc : Int32) (rn : Nat) (f : Nat → Nat) (g : Nat → Nat) (x : Nat) (y : Nat) (hn : rn < 20) : CV l yX3_append wsX3_append ({ frames := 0, cells := 0, slots := 0, locals := 0 } : Room) G [.ref a0, .int (nI x), .int (nI y)] [(a0, .inr (3, [.int rc, .int (nI rn), .ref a1, .ref a2])), (a1, .inl (gI G, 20, .inl (nA f))), (a2, .inl (gI G, 20, .inl (nA g)))] 0 0 (fun (u : Unit) => True) (fun (u : Unit) => [(a0, .inr (3, [.int rc, .int (nI (rn + 1)), .ref a1, .ref a2])), (a1, .inl (gI G, 20, .inl (nA (pu f rn x)))), (a2, .inl (gI G, 20, .inl (nA (pu g rn y))))]) := by
  refine CV.of (cc := cX3_append) (maxL := 3) (ret := none) (by decide +kernel) rfl (Nat.le_of_ble_eq_true rfl) rfl (fun p e s m args below meth c A S hrt hlk hnm K hA hP hD hS ls hl => ?_)
  have hx := S.1
  have hb := S.2.1
  have hl : lv_has ls 3 [(0, .ref a0), (1, .int (nI x)), (2, .int (nI y))] := hl
  refine lv_aload_n hx hb dX3_append_0 rfl (lv_at hl 0 rfl) ?_
  refine z_get S K hP hX3_append_X3 0 rfl rfl 1 (by decide) kX3_append_1 rfl rfl dX3_append_1 ?_
  refine lv_bipush (v := nI 20) hx hb dX3_append_4 (by decide +kernel) ?_
  refine zb_ge (tgt := 39) S dX3_append_6 (by decide) (by omega) (by decide) (fun c_6 => ?_) (fun c_6 => ?_)
  · skip
    exact (by exfalso; omega)
  · skip
    refine lv_aload_n hx hb dX3_append_9 rfl (lv_at hl 0 rfl) ?_
    refine z_get S K hP hX3_append_X3 0 rfl rfl 2 (by decide) kX3_append_2 rfl rfl dX3_append_10 ?_
    refine lv_aload_n hx hb dX3_append_13 rfl (lv_at hl 0 rfl) ?_
    refine z_get S K hP hX3_append_X3 0 rfl rfl 1 (by decide) kX3_append_1 rfl rfl dX3_append_14 ?_
    refine lv_iload_n hx hb dX3_append_17 rfl (lv_at hl 1 rfl) ?_
    refine z_iast S K hP hD hS 1 rfl (by omega) (by decide) dX3_append_18 (fun H locs hP hD hS => ?_)
    have hP : va_P (gD G) vwCl [(a0, .inr (3, [.int rc, .int (nI rn), .ref a1, .ref a2])), (a1, .inl (gI G, 20, .inl (nA (pu f rn x)))), (a2, .inl (gI G, 20, .inl (nA g)))] H := hP
    have hD : va_D A [(a0, .inr (3, [.int rc, .int (nI rn), .ref a1, .ref a2])), (a1, .inl (gI G, 20, .inl (nA (pu f rn x)))), (a2, .inl (gI G, 20, .inl (nA g)))] := hD
    refine lv_aload_n hx hb dX3_append_19 rfl (lv_at hl 0 rfl) ?_
    refine z_get S K hP hX3_append_X3 0 rfl rfl 3 (by decide) kX3_append_3 rfl rfl dX3_append_20 ?_
    refine lv_aload_n hx hb dX3_append_23 rfl (lv_at hl 0 rfl) ?_
    refine z_get S K hP hX3_append_X3 0 rfl rfl 1 (by decide) kX3_append_1 rfl rfl dX3_append_24 ?_
    refine lv_iload_n hx hb dX3_append_27 rfl (lv_at hl 2 rfl) ?_
    refine z_iast S K hP hD hS 2 rfl (by omega) (by decide) dX3_append_28 (fun H locs hP hD hS => ?_)
    have hP : va_P (gD G) vwCl [(a0, .inr (3, [.int rc, .int (nI rn), .ref a1, .ref a2])), (a1, .inl (gI G, 20, .inl (nA (pu f rn x)))), (a2, .inl (gI G, 20, .inl (nA (pu g rn y))))] H := hP
    have hD : va_D A [(a0, .inr (3, [.int rc, .int (nI rn), .ref a1, .ref a2])), (a1, .inl (gI G, 20, .inl (nA (pu f rn x)))), (a2, .inl (gI G, 20, .inl (nA (pu g rn y))))] := hD
    refine lv_aload_n hx hb dX3_append_29 rfl (lv_at hl 0 rfl) ?_
    refine lv_dup hx hb dX3_append_30 rfl ?_
    refine z_get S K hP hX3_append_X3 0 rfl rfl 1 (by decide) kX3_append_1 rfl rfl dX3_append_31 ?_
    refine lv_iconst (v := nI 1) hx hb dX3_append_34 (by decide +kernel) ?_
    refine zi_add S dX3_append_35 ?_
    refine z_put S K hP hD hS (ty0 := tyX3) hX3_append_X3 tyX3_ok nmX3 0 rfl rfl 1 (by decide) kX3_append_1 rfl rfl rfl rfl (Nat.le_of_ble_eq_true rfl) dX3_append_36 (fun H locs hP hD hS => ?_)
    have hP : va_P (gD G) vwCl [(a0, .inr (3, [.int rc, .int (nI (rn + 1)), .ref a1, .ref a2])), (a1, .inl (gI G, 20, .inl (nA (pu f rn x)))), (a2, .inl (gI G, 20, .inl (nA (pu g rn y))))] H := hP
    have hD : va_D A [(a0, .inr (3, [.int rc, .int (nI (rn + 1)), .ref a1, .ref a2])), (a1, .inl (gI G, 20, .inl (nA (pu f rn x)))), (a2, .inl (gI G, 20, .inl (nA (pu g rn y))))] := hD
    exact z_vret S hrt hlk hP hD hS () rfl trivial dX3_append_39
set_option maxHeartbeats 4000000 in
set_option maxRecDepth 100000 in
theorem c_X3_carryRule (l : Launch) (G : gT) (a0 a1 a2 : Nat) (rc : Nat) (rn : Nat) (f : Nat → Nat) (g : Nat → Nat) (i : Nat) (k : Nat) (hi : i < 20) (hk : k < 20) : CV l yX3_carryRule wsX3_carryRule ({ frames := 1, cells := 0, slots := 0, locals := 24 } : Room) G [.ref a0, .int (nI i), .int (nI k)] [(a0, .inr (3, [.int (nI rc), .int (nI rn), .ref a1, .ref a2])), (a1, .inl (gI G, 20, .inl (nA f))), (a2, .inl (gI G, 20, .inl (nA g)))] 0 0 (fun (u : (Nat → Nat) × (Nat → Nat)) => (∀ j, u.1 j = carF f i k j) ∧ ∀ j, u.2 j = carF g i k j) (fun (u : (Nat → Nat) × (Nat → Nat)) => [(a0, .inr (3, [.int (nI rc), .int (nI rn), .ref a1, .ref a2])), (a1, .inl (gI G, 20, .inl (nA u.1))), (a2, .inl (gI G, 20, .inl (nA u.2)))]) := by
  refine CV.of (cc := cX3_carryRule) (maxL := 3) (ret := none) (by decide +kernel) rfl (Nat.le_of_ble_eq_true rfl) rfl (fun p e s m args below meth c A S hrt hlk hnm K hA hP hD hS ls hl => ?_)
  have hx := S.1
  have hb := S.2.1
  have hl : lv_has ls 3 [(0, .ref a0), (1, .int (nI i)), (2, .int (nI k))] := hl
  refine lv_aload_n hx hb dX3_carryRule_0 rfl (lv_at hl 0 rfl) ?_
  refine z_get S K hP hX3_carryRule_X3 0 rfl rfl 2 (by decide) kX3_carryRule_1 rfl rfl dX3_carryRule_1 ?_
  refine lv_iload_n hx hb dX3_carryRule_4 rfl (lv_at hl 1 rfl) ?_
  refine lv_iload_n hx hb dX3_carryRule_5 rfl (lv_at hl 2 rfl) ?_
  refine zcNv (rest := []) S K hP hD hS hA hl.1 (c_X5_carry l G a1 f i k (by first | assumption | omega) (by first | assumption | omega)) rfl rfl gX3_carryRule_X5_carry_n31 rfl (List.mem_of_getElem? (i := 7) rfl) kX3_carryRule_4 kX3_carryRule_3 eX5_carry.2 [1] (by decide +kernel) rfl (fun _ => rfl) rfl rfl (Nat.le_of_ble_eq_true rfl) (Nat.le_of_ble_eq_true rfl) (Nat.le_of_ble_eq_true rfl) ⟨Nat.zero_le _, Nat.zero_le _⟩ dX3_carryRule_6 (fun u_6 H locs hw_6 hP hD hS => ?_)
  obtain ⟨h_6, rfl⟩ : ∃ z, z = u_6 := ⟨_, rfl⟩
  replace hw_6 : ∀ j, h_6 j = carF f i k j := hw_6
  have hP : va_P (gD G) vwCl [(a0, .inr (3, [.int (nI rc), .int (nI rn), .ref a1, .ref a2])), (a1, .inl (gI G, 20, .inl (nA h_6))), (a2, .inl (gI G, 20, .inl (nA g)))] H := hP
  have hD : va_D A [(a0, .inr (3, [.int (nI rc), .int (nI rn), .ref a1, .ref a2])), (a1, .inl (gI G, 20, .inl (nA h_6))), (a2, .inl (gI G, 20, .inl (nA g)))] := hD
  refine lv_aload_n hx hb dX3_carryRule_9 rfl (lv_at hl 0 rfl) ?_
  refine z_get S K hP hX3_carryRule_X3 0 rfl rfl 3 (by decide) kX3_carryRule_2 rfl rfl dX3_carryRule_10 ?_
  refine lv_iload_n hx hb dX3_carryRule_13 rfl (lv_at hl 1 rfl) ?_
  refine lv_iload_n hx hb dX3_carryRule_14 rfl (lv_at hl 2 rfl) ?_
  refine zcNv (rest := []) S K hP hD hS hA hl.1 (c_X5_carry l G a2 g i k (by first | assumption | omega) (by first | assumption | omega)) rfl rfl gX3_carryRule_X5_carry_n31 rfl (List.mem_of_getElem? (i := 7) rfl) kX3_carryRule_4 kX3_carryRule_3 eX5_carry.2 [2] (by decide +kernel) rfl (fun _ => rfl) rfl rfl (Nat.le_of_ble_eq_true rfl) (Nat.le_of_ble_eq_true rfl) (Nat.le_of_ble_eq_true rfl) ⟨Nat.zero_le _, Nat.zero_le _⟩ dX3_carryRule_15 (fun u_15 H locs hw_15 hP hD hS => ?_)
  obtain ⟨h_15, rfl⟩ : ∃ z, z = u_15 := ⟨_, rfl⟩
  replace hw_15 : ∀ j, h_15 j = carF g i k j := hw_15
  have hP : va_P (gD G) vwCl [(a0, .inr (3, [.int (nI rc), .int (nI rn), .ref a1, .ref a2])), (a1, .inl (gI G, 20, .inl (nA h_6))), (a2, .inl (gI G, 20, .inl (nA h_15)))] H := hP
  have hD : va_D A [(a0, .inr (3, [.int (nI rc), .int (nI rn), .ref a1, .ref a2])), (a1, .inl (gI G, 20, .inl (nA h_6))), (a2, .inl (gI G, 20, .inl (nA h_15)))] := hD
  exact z_vret S hrt hlk hP hD hS (h_6, h_15) rfl ⟨hw_6, hw_15⟩ dX3_carryRule_18
set_option maxHeartbeats 4000000 in
set_option maxRecDepth 100000 in
theorem c_X3_takeOut (l : Launch) (G : gT) (a0 a1 a2 : Nat) (rc : Nat) (rn : Nat) (f : Nat → Nat) (g : Nat → Nat) (i : Nat) (hi : i < rn) (hn : rn ≤ 20) : CV l yX3_takeOut wsX3_takeOut ({ frames := 2, cells := 0, slots := 0, locals := 46 } : Room) G [.ref a0, .int (nI i)] [(a0, .inr (3, [.int (nI rc), .int (nI rn), .ref a1, .ref a2])), (a1, .inl (gI G, 20, .inl (nA f))), (a2, .inl (gI G, 20, .inl (nA g)))] 0 0 (fun (u : (Nat → Nat) × (Nat → Nat)) => (∀ j, u.1 j = carF f i (rn - 1) j) ∧ ∀ j, u.2 j = carF g i (rn - 1) j) (fun (u : (Nat → Nat) × (Nat → Nat)) => [(a0, .inr (3, [.int (nI rc), .int (nI (rn - 1)), .ref a1, .ref a2])), (a1, .inl (gI G, 20, .inl (nA u.1))), (a2, .inl (gI G, 20, .inl (nA u.2)))]) := by
  refine CV.of (cc := cX3_takeOut) (maxL := 2) (ret := none) (by decide +kernel) rfl (Nat.le_of_ble_eq_true rfl) rfl (fun p e s m args below meth c A S hrt hlk hnm K hA hP hD hS ls hl => ?_)
  have hx := S.1
  have hb := S.2.1
  have hl : lv_has ls 2 [(0, .ref a0), (1, .int (nI i))] := hl
  refine lv_aload_n hx hb dX3_takeOut_0 rfl (lv_at hl 0 rfl) ?_
  refine lv_iload_n hx hb dX3_takeOut_1 rfl (lv_at hl 1 rfl) ?_
  refine lv_aload_n hx hb dX3_takeOut_2 rfl (lv_at hl 0 rfl) ?_
  refine z_get S K hP hX3_takeOut_X3 0 rfl rfl 1 (by decide) kX3_takeOut_1 rfl rfl dX3_takeOut_3 ?_
  refine lv_iconst (v := nI 1) hx hb dX3_takeOut_6 (by decide +kernel) ?_
  refine zi_sub S dX3_takeOut_7 (by omega) ?_
  refine zcVv (rest := []) S K hP hD hS hA hl.1 (c_X3_carryRule l G a0 a1 a2 rc rn f g i (rn - 1) (by first | assumption | omega) (by first | assumption | omega)) rfl rfl gX3_takeOut_X3_carryRule rfl eX3_carryRule [0, 1, 2] (by decide +kernel) rfl (fun _ => rfl) 3 0 rfl rfl rfl rfl rfl (Nat.le_of_ble_eq_true rfl) (Nat.le_of_ble_eq_true rfl) (Nat.le_of_ble_eq_true rfl) ⟨Nat.zero_le _, Nat.zero_le _⟩ dX3_takeOut_8 (fun u_8 H locs hw_8 hP hD hS => ?_)
  obtain ⟨hP, hD⟩ := mx_ok [some 0, some 1, some 2] (by decide +kernel) rfl rfl hP hD
  obtain ⟨f2_8, g2_8⟩ := u_8
  replace hw_8 : (∀ j, f2_8 j = carF f i (rn - 1) j) ∧ ∀ j, g2_8 j = carF g i (rn - 1) j := hw_8
  have hP : va_P (gD G) vwCl [(a0, .inr (3, [.int (nI rc), .int (nI rn), .ref a1, .ref a2])), (a1, .inl (gI G, 20, .inl (nA f2_8))), (a2, .inl (gI G, 20, .inl (nA g2_8)))] H := hP
  have hD : va_D A [(a0, .inr (3, [.int (nI rc), .int (nI rn), .ref a1, .ref a2])), (a1, .inl (gI G, 20, .inl (nA f2_8))), (a2, .inl (gI G, 20, .inl (nA g2_8)))] := hD
  refine lv_aload_n hx hb dX3_takeOut_11 rfl (lv_at hl 0 rfl) ?_
  refine lv_dup hx hb dX3_takeOut_12 rfl ?_
  refine z_get S K hP hX3_takeOut_X3 0 rfl rfl 1 (by decide) kX3_takeOut_1 rfl rfl dX3_takeOut_13 ?_
  refine lv_iconst (v := nI 1) hx hb dX3_takeOut_16 (by decide +kernel) ?_
  refine zi_sub S dX3_takeOut_17 (by omega) ?_
  refine z_put S K hP hD hS (ty0 := tyX3) hX3_takeOut_X3 tyX3_ok nmX3 0 rfl rfl 1 (by decide) kX3_takeOut_1 rfl rfl rfl rfl (Nat.le_of_ble_eq_true rfl) dX3_takeOut_18 (fun H locs hP hD hS => ?_)
  have hP : va_P (gD G) vwCl [(a0, .inr (3, [.int (nI rc), .int (nI (rn - 1)), .ref a1, .ref a2])), (a1, .inl (gI G, 20, .inl (nA f2_8))), (a2, .inl (gI G, 20, .inl (nA g2_8)))] H := hP
  have hD : va_D A [(a0, .inr (3, [.int (nI rc), .int (nI (rn - 1)), .ref a1, .ref a2])), (a1, .inl (gI G, 20, .inl (nA f2_8))), (a2, .inl (gI G, 20, .inl (nA g2_8)))] := hD
  exact z_vret S hrt hlk hP hD hS (f2_8, g2_8) rfl hw_8 dX3_takeOut_21
