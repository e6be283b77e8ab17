theorem car_s1 {f h1 : Nat → Nat} {i x : Nat} (v : ∀ j, h1 j = if i ≤ j ∧ j < x then f (j + 1) else f j) (hx : i ≤ x) : ∀ j, pu h1 x (h1 (x + 1)) j = if i ≤ j ∧ j < x + 1 then f (j + 1) else f j := by
  intro j
  by_cases h : j = x
  · subst h
    rw [pu_s, if_pos (by omega), v, if_neg (by omega)]
  · rw [pu_n h, v]
    by_cases q : i ≤ j ∧ j < x
    · rw [if_pos q, if_pos (by omega)]
    · rw [if_neg q, if_neg (by omega)]
theorem car_s2 {h1 h2 : Nat → Nat} {i z : Nat} (v : ∀ j, h2 j = if z < j ∧ j ≤ i then h1 (j - 1) else h1 j) (hz : z ≤ i) (h0 : 0 < z) : ∀ j, pu h2 z (h2 (z - 1)) j = if z - 1 < j ∧ j ≤ i then h1 (j - 1) else h1 j := by
  intro j
  by_cases h : j = z
  · subst h
    rw [pu_s, if_pos (by omega), v, if_neg (by omega)]
  · rw [pu_n h, v]
    by_cases q : z < j ∧ j ≤ i
    · rw [if_pos q, if_pos (by omega)]
    · rw [if_neg q, if_neg (by omega)]
set_option maxHeartbeats 4000000 in
set_option maxRecDepth 100000 in
theorem c_J6_bitCount_0f7a4 (l : Launch) (G : gT) (n : Nat) (hn : n < 2147483648) : CI l yJ6_bitCount_0f7a4 wsJ6_bitCount_0f7a4 ({ frames := 0, cells := 0, slots := 0, locals := 0 } : Room) G [.int (nI n)] [] 0 0 (fun (r : Int32) (u : Unit) => r = nI (pcn n)) (fun (u : Unit) => []) := by
  refine CI.of (cc := cJ6_bitCount_0f7a4) (maxL := 1) (ret := (some .int)) (by decide +kernel) rfl (Nat.le_of_ble_eq_true rfl) rfl (fun p e s m args below meth c A S hrt hlk hnm K hA hP hD hS ls hl => ?_)
  have hx := S.1
  have hb := S.2.1
  have hl : lv_has ls 1 [(0, .int (nI n))] := hl
  refine lv_iload_n hx hb dJ6_bitCount_0f7a4_0 rfl (lv_at hl 0 rfl) ?_
  refine lv_iload_n hx hb dJ6_bitCount_0f7a4_1 rfl (lv_at hl 0 rfl) ?_
  refine lv_iconst (v := nI 1) hx hb dJ6_bitCount_0f7a4_2 (by decide +kernel) ?_
  refine lv_iushr (v := nI (n / 2)) hx hb dJ6_bitCount_0f7a4_3 (pk_ushrN (by omega) _ 1 (by decide +kernel)) ?_
  refine lv_ldcw (v := nI 1431655765) hx hb S.2.2.2.1 (S.2.2.2.2 _ kJ6_bitCount_0f7a4_1) dJ6_bitCount_0f7a4_4 ?_
  refine zi_and S dJ6_bitCount_0f7a4_7 ?_
  refine zi_sub S dJ6_bitCount_0f7a4_8 (Nat.le_trans Nat.and_le_left (Nat.div_le_self _ _)) ?_
  refine z_top (y := nI (bc1 n)) rfl ?_
  refine lv_istore_n (lv' := [(0, .int (nI (bc1 n)))]) hx hb dJ6_bitCount_0f7a4_9 rfl hl (by decide) rfl (fun ls hl => ?_)
  have f1 := bc1_le n
  refine lv_iload_n hx hb dJ6_bitCount_0f7a4_10 rfl (lv_at hl 0 rfl) ?_
  refine lv_ldcw (v := nI 858993459) hx hb S.2.2.2.1 (S.2.2.2.2 _ kJ6_bitCount_0f7a4_2) dJ6_bitCount_0f7a4_11 ?_
  refine zi_and S dJ6_bitCount_0f7a4_14 ?_
  refine lv_iload_n hx hb dJ6_bitCount_0f7a4_15 rfl (lv_at hl 0 rfl) ?_
  refine lv_iconst (v := nI 2) hx hb dJ6_bitCount_0f7a4_16 (by decide +kernel) ?_
  refine lv_iushr (v := nI ((bc1 n) / 4)) hx hb dJ6_bitCount_0f7a4_17 (pk_ushrN (by omega) _ 2 (by decide +kernel)) ?_
  refine lv_ldcw (v := nI 858993459) hx hb S.2.2.2.1 (S.2.2.2.2 _ kJ6_bitCount_0f7a4_2) dJ6_bitCount_0f7a4_18 ?_
  refine zi_and S dJ6_bitCount_0f7a4_21 ?_
  refine zi_add S dJ6_bitCount_0f7a4_22 ?_
  refine z_top (y := nI (bc2 (bc1 n))) rfl ?_
  refine lv_istore_n (lv' := [(0, .int (nI (bc2 (bc1 n))))]) hx hb dJ6_bitCount_0f7a4_23 rfl hl (by decide) rfl (fun ls hl => ?_)
  have f2 := bc2_le (bc1 n)
  refine lv_iload_n hx hb dJ6_bitCount_0f7a4_24 rfl (lv_at hl 0 rfl) ?_
  refine lv_iload_n hx hb dJ6_bitCount_0f7a4_25 rfl (lv_at hl 0 rfl) ?_
  refine lv_iconst (v := nI 4) hx hb dJ6_bitCount_0f7a4_26 (by decide +kernel) ?_
  refine lv_iushr (v := nI ((bc2 (bc1 n)) / 16)) hx hb dJ6_bitCount_0f7a4_27 (pk_ushrN (by omega) _ 4 (by decide +kernel)) ?_
  refine zi_add S dJ6_bitCount_0f7a4_28 ?_
  refine lv_ldcw (v := nI 252645135) hx hb S.2.2.2.1 (S.2.2.2.2 _ kJ6_bitCount_0f7a4_3) dJ6_bitCount_0f7a4_29 ?_
  refine zi_and S dJ6_bitCount_0f7a4_32 ?_
  refine z_top (y := nI (bc3 (bc2 (bc1 n)))) rfl ?_
  refine lv_istore_n (lv' := [(0, .int (nI (bc3 (bc2 (bc1 n)))))]) hx hb dJ6_bitCount_0f7a4_33 rfl hl (by decide) rfl (fun ls hl => ?_)
  have f3 := bc3_le (bc2 (bc1 n))
  refine lv_iload_n hx hb dJ6_bitCount_0f7a4_34 rfl (lv_at hl 0 rfl) ?_
  refine lv_iload_n hx hb dJ6_bitCount_0f7a4_35 rfl (lv_at hl 0 rfl) ?_
  refine lv_bipush (v := nI 8) hx hb dJ6_bitCount_0f7a4_36 (by decide +kernel) ?_
  refine lv_iushr (v := nI ((bc3 (bc2 (bc1 n))) / 256)) hx hb dJ6_bitCount_0f7a4_38 (pk_ushrN (by omega) _ 8 (by decide +kernel)) ?_
  refine zi_add S dJ6_bitCount_0f7a4_39 ?_
  refine z_top (y := nI (bc4 (bc3 (bc2 (bc1 n))))) rfl ?_
  refine lv_istore_n (lv' := [(0, .int (nI (bc4 (bc3 (bc2 (bc1 n))))))]) hx hb dJ6_bitCount_0f7a4_40 rfl hl (by decide) rfl (fun ls hl => ?_)
  have f4 := bc4_le f3
  refine lv_iload_n hx hb dJ6_bitCount_0f7a4_41 rfl (lv_at hl 0 rfl) ?_
  refine lv_iload_n hx hb dJ6_bitCount_0f7a4_42 rfl (lv_at hl 0 rfl) ?_
  refine lv_bipush (v := nI 16) hx hb dJ6_bitCount_0f7a4_43 (by decide +kernel) ?_
  refine lv_iushr (v := nI ((bc4 (bc3 (bc2 (bc1 n)))) / 65536)) hx hb dJ6_bitCount_0f7a4_45 (pk_ushrN (by omega) _ 16 (by decide +kernel)) ?_
  refine zi_add S dJ6_bitCount_0f7a4_46 ?_
  refine z_top (y := nI (bc5 (bc4 (bc3 (bc2 (bc1 n)))))) rfl ?_
  refine lv_istore_n (lv' := [(0, .int (nI (bc5 (bc4 (bc3 (bc2 (bc1 n)))))))]) hx hb dJ6_bitCount_0f7a4_47 rfl hl (by decide) rfl (fun ls hl => ?_)
  refine lv_iload_n hx hb dJ6_bitCount_0f7a4_48 rfl (lv_at hl 0 rfl) ?_
  refine lv_bipush (v := nI 63) hx hb dJ6_bitCount_0f7a4_49 (by decide +kernel) ?_
  refine zi_and S dJ6_bitCount_0f7a4_51 ?_
  refine z_top (y := nI (pcn n)) (congrArg nI ((bc_ok (by omega)).trans (pcn_eq n).symm)) ?_
  exact z_iret S hrt hlk hP hD hS () rfl rfl dJ6_bitCount_0f7a4_52
set_option maxHeartbeats 4000000 in
set_option maxRecDepth 100000 in
theorem c_X5_parity (l : Launch) (G : gT) (n : Nat) (hn : n < 2147483648) : CI l yX5_parity wsX5_parity ({ frames := 1, cells := 0, slots := 0, locals := 20 } : Room) G [.int (nI n)] [] 0 0 (fun (r : Int32) (u : Unit) => r = nI (pty n)) (fun (u : Unit) => []) := by
  refine CI.of (cc := cX5_parity) (maxL := 1) (ret := (some .int)) (by decide +kernel) rfl (Nat.le_of_ble_eq_true rfl) rfl (fun p e s m args below meth c A S hrt hlk hnm K hA hP hD hS ls hl => ?_)
  have hx := S.1
  have hb := S.2.1
  have hl : lv_has ls 1 [(0, .int (nI n))] := hl
  refine lv_iload_n hx hb dX5_parity_0 rfl (lv_at hl 0 rfl) ?_
  refine zcSi (rest := []) S K hP hD hS hA hl.1 (c_J6_bitCount_0f7a4 l G n (by first | assumption | omega)) rfl rfl gX5_parity_J6_bitCount_0f7a4 rfl eJ6_bitCount_0f7a4.2 [] (by decide +kernel) rfl (fun _ => rfl) rfl rfl (Nat.le_of_ble_eq_true rfl) (Nat.le_of_ble_eq_true rfl) (Nat.le_of_ble_eq_true rfl) ⟨Nat.zero_le _, Nat.zero_le _⟩ dX5_parity_1 (fun r_1 u_1 H locs hw_1 hP hD hS => ?_)
  replace hw_1 : r_1 = nI (pcn n) := hw_1
  obtain rfl := hw_1
  have hP : va_P (gD G) vwCl [] H := hP
  have hD : va_D A [] := hD
  refine lv_iconst (v := nI 1) hx hb dX5_parity_4 (by decide +kernel) ?_
  refine zi_and S dX5_parity_5 ?_
  refine z_top (y := nI (pty n)) rfl ?_
  exact z_iret S hrt hlk hP hD hS () rfl rfl dX5_parity_6
set_option maxHeartbeats 4000000 in
set_option maxRecDepth 100000 in
theorem c_X5_lowestBit (l : Launch) (G : gT) (n : Nat) (h0 : 0 < n) (hn : n < 4096) : CI l yX5_lowestBit wsX5_lowestBit ({ frames := 1, cells := 0, slots := 0, locals := 20 } : Room) G [.int (nI n)] [] 0 0 (fun (r : Int32) (u : Unit) => r = nI (lb n)) (fun (u : Unit) => []) := by
  refine CI.of (cc := cX5_lowestBit) (maxL := 1) (ret := (some .int)) (by decide +kernel) rfl (Nat.le_of_ble_eq_true rfl) rfl (fun p e s m args below meth c A S hrt hlk hnm K hA hP hD hS ls hl => ?_)
  have hx := S.1
  have hb := S.2.1
  have hl : lv_has ls 1 [(0, .int (nI n))] := hl
  refine lv_iload_n hx hb dX5_lowestBit_0 rfl (lv_at hl 0 rfl) ?_
  refine lv_iconst (v := -1) hx hb dX5_lowestBit_1 (by decide +kernel) ?_
  refine lv_ixor hx hb dX5_lowestBit_2 ?_
  refine lv_iload_n hx hb dX5_lowestBit_3 rfl (lv_at hl 0 rfl) ?_
  refine lv_iconst (v := nI 1) hx hb dX5_lowestBit_4 (by decide +kernel) ?_
  refine zi_sub S dX5_lowestBit_5 (by omega) ?_
  refine lv_iand hx hb dX5_lowestBit_6 ?_
  refine z_top (y := nI (2 ^ lb n - 1)) (lb_mask h0 hn) ?_
  refine zcSi (rest := []) S K hP hD hS hA hl.1 (c_J6_bitCount_0f7a4 l G (2 ^ lb n - 1) (lb_31 h0 hn)) rfl rfl gX5_lowestBit_J6_bitCount_0f7a4 rfl eJ6_bitCount_0f7a4.2 [] (by decide +kernel) rfl (fun _ => rfl) rfl rfl (Nat.le_of_ble_eq_true rfl) (Nat.le_of_ble_eq_true rfl) (Nat.le_of_ble_eq_true rfl) ⟨Nat.zero_le _, Nat.zero_le _⟩ dX5_lowestBit_7 (fun r_7 u_7 H locs hw_7 hP hD hS => ?_)
  replace hw_7 : r_7 = nI (pcn (2 ^ lb n - 1)) := hw_7
  obtain rfl := hw_7
  have hP : va_P (gD G) vwCl [] H := hP
  have hD : va_D A [] := hD
  refine z_top (y := nI (lb n)) (congrArg nI ((pcn_eq _).trans (pcnt_ones _ (lb_ok h0 hn).1))) ?_
  exact z_iret S hrt hlk hP hD hS () rfl rfl dX5_lowestBit_10
set_option maxHeartbeats 4000000 in
set_option maxRecDepth 100000 in
theorem c_X5_carry (l : Launch) (G : gT) (a1 : Nat) (f : Nat → Nat) (i : Nat) (k : Nat) (hi : i < 20) (hk : k < 20) : CV l yX5_carry wsX5_carry ({ frames := 0, cells := 0, slots := 0, locals := 0 } : Room) G [.ref a1, .int (nI i), .int (nI k)] [(a1, .inl (gI G, 20, .inl (nA f)))] 0 0 (fun (u : (Nat → Nat)) => ∀ j, u j = carF f i k j) (fun (u : (Nat → Nat)) => [(a1, .inl (gI G, 20, .inl (nA u)))]) := by
  refine CV.of (cc := cX5_carry) (maxL := 5) (ret := none) (by decide +kernel) rfl (Nat.le_of_ble_eq_true rfl) rfl (fun p e s m args below meth c A S hrt hlk hnm K hA hP hD hS ls hl => ?_)
  have hx := S.1
  have hb := S.2.1
  have hl : lv_has ls 5 [(0, .ref a1), (1, .int (nI i)), (2, .int (nI k))] := hl
  refine lv_aload_n hx hb dX5_carry_0 rfl (lv_at hl 0 rfl) ?_
  refine lv_iload_n hx hb dX5_carry_1 rfl (lv_at hl 1 rfl) ?_
  refine z_iald S K hP 0 rfl (by omega) (by decide) dX5_carry_2 ?_
  refine lv_istore_n (lv' := [(3, .int (nI (f i))), (0, .ref a1), (1, .int (nI i)), (2, .int (nI k))]) hx hb dX5_carry_3 rfl hl (by decide) rfl (fun ls hl => ?_)
  refine lv_iload_n hx hb dX5_carry_4 rfl (lv_at hl 2 rfl) ?_
  refine lv_istore (lv' := [(4, .int (nI i)), (3, .int (nI (f i))), (0, .ref a1), (1, .int (nI i)), (2, .int (nI k))]) hx hb dX5_carry_5 hl (by decide) rfl (fun ls hl => ?_)
  have lp_7 : ∀ (n_7 : Nat) (x : Nat) (h1 : Nat → Nat), 20 - x < n_7 → (x = i ∨ i ≤ x ∧ x ≤ k) → (∀ j, h1 j = if i ≤ j ∧ j < x then f (j + 1) else f j) → ∀ (H : Heap) (locs : List Loc), va_P (gD G) vwCl [(a1, .inl (gI G, 20, .inl (nA h1)))] H → va_D A [(a1, .inl (gI G, 20, .inl (nA h1)))] → va_S A s.heap H locs → ∀ ls : Array Slot, lv_has ls 5 [(4, .int (nI x)), (3, .int (nI (f i))), (0, .ref a1), (1, .int (nI i)), (2, .int (nI k))] → W p l e ({ frames := 0, cells := 0, slots := 0, locals := 0 } : Room) s m args below meth c H locs 0 0 (MQ below (va_Qv (fun (u : (Nat → Nat)) => ∀ j, u j = carF f i k j) (cB G A (fun (u : (Nat → Nat)) => [(a1, .inl (gI G, 20, .inl (nA u)))])) A) args s 0 0 A) (F0 m 7 ls []) := by
    intro n_7
    induction n_7 with
    | zero =>
      intro x h1 h0
      exact absurd h0 (Nat.not_lt_zero _)
    | succ n_7 ih_7 =>
      intro x h1 hm_7 v1 v2 H locs hP hD hS ls hl
      refine lv_iload hx hb dX5_carry_7 (lv_at hl 0 rfl) ?_
      refine lv_iload_n hx hb dX5_carry_9 rfl (lv_at hl 4 rfl) ?_
      refine zb_ge (tgt := 29) S dX5_carry_10 (by decide) (by omega) (by omega) (fun c_10 => ?_) (fun c_10 => ?_)
      · skip
        refine lv_iload_n hx hb dX5_carry_29 rfl (lv_at hl 3 rfl) ?_
        refine lv_istore (lv' := [(4, .int (nI i)), (3, .int (nI (f i))), (0, .ref a1), (1, .int (nI i)), (2, .int (nI k))]) hx hb dX5_carry_30 hl (by decide) rfl (fun ls hl => ?_)
        have lp_32 : ∀ (n_32 : Nat) (z : Nat) (h2 : Nat → Nat), z < n_32 → (z = i ∨ k ≤ z ∧ z ≤ i) → (∀ j, h2 j = if z < j ∧ j ≤ i then h1 (j - 1) else h1 j) → ∀ (H : Heap) (locs : List Loc), va_P (gD G) vwCl [(a1, .inl (gI G, 20, .inl (nA h2)))] H → va_D A [(a1, .inl (gI G, 20, .inl (nA h2)))] → va_S A s.heap H locs → ∀ ls : Array Slot, lv_has ls 5 [(4, .int (nI z)), (3, .int (nI (f i))), (0, .ref a1), (1, .int (nI i)), (2, .int (nI k))] → W p l e ({ frames := 0, cells := 0, slots := 0, locals := 0 } : Room) s m args below meth c H locs 0 0 (MQ below (va_Qv (fun (u : (Nat → Nat)) => ∀ j, u j = carF f i k j) (cB G A (fun (u : (Nat → Nat)) => [(a1, .inl (gI G, 20, .inl (nA u)))])) A) args s 0 0 A) (F0 m 32 ls []) := by
          intro n_32
          induction n_32 with
          | zero =>
            intro z h2 h0
            exact absurd h0 (Nat.not_lt_zero _)
          | succ n_32 ih_32 =>
            intro z h2 hm_32 u1 u2 H locs hP hD hS ls hl
            refine lv_iload hx hb dX5_carry_32 (lv_at hl 0 rfl) ?_
            refine lv_iload_n hx hb dX5_carry_34 rfl (lv_at hl 4 rfl) ?_
            refine zb_le (tgt := 54) S dX5_carry_35 (by decide) (by omega) (by omega) (fun c_35 => ?_) (fun c_35 => ?_)
            · skip
              refine lv_aload_n hx hb dX5_carry_54 rfl (lv_at hl 2 rfl) ?_
              refine lv_iload_n hx hb dX5_carry_55 rfl (lv_at hl 4 rfl) ?_
              refine lv_iload_n hx hb dX5_carry_56 rfl (lv_at hl 1 rfl) ?_
              refine z_iast S K hP hD hS 0 rfl (by omega) (by decide) dX5_carry_57 (fun H locs hP hD hS => ?_)
              have hP : va_P (gD G) vwCl [(a1, .inl (gI G, 20, .inl (nA (pu h2 k (f i)))))] H := hP
              have hD : va_D A [(a1, .inl (gI G, 20, .inl (nA (pu h2 k (f i)))))] := hD
              exact z_vret S hrt hlk hP hD hS (pu h2 k (f i)) rfl (car_end v2 u2 (by omega) (by omega) (by omega) (by omega) (by omega) (by omega)) dX5_carry_58
            · skip
              refine lv_aload_n hx hb dX5_carry_38 rfl (lv_at hl 2 rfl) ?_
              refine lv_iload hx hb dX5_carry_39 (lv_at hl 0 rfl) ?_
              refine lv_aload_n hx hb dX5_carry_41 rfl (lv_at hl 2 rfl) ?_
              refine lv_iload hx hb dX5_carry_42 (lv_at hl 0 rfl) ?_
              refine lv_iconst (v := nI 1) hx hb dX5_carry_44 (by decide +kernel) ?_
              refine zi_sub S dX5_carry_45 (by omega) ?_
              refine z_iald S K hP 0 rfl (by omega) (by decide) dX5_carry_46 ?_
              refine z_iast S K hP hD hS 0 rfl (by omega) (by decide) dX5_carry_47 (fun H locs hP hD hS => ?_)
              have hP : va_P (gD G) vwCl [(a1, .inl (gI G, 20, .inl (nA (pu h2 z (h2 (z - 1))))))] H := hP
              have hD : va_D A [(a1, .inl (gI G, 20, .inl (nA (pu h2 z (h2 (z - 1))))))] := hD
              refine lv_iinc (v := (nI (z - 1))) (lv' := [(4, .int (nI (z - 1))), (3, .int (nI (f i))), (0, .ref a1), (1, .int (nI i)), (2, .int (nI k))]) hx hb dX5_carry_48 hl (k := 0) rfl (z_im1 (by omega)) (by decide) rfl (fun ls hl => ?_)
              refine lv_goto (tgt := 32) hx hb dX5_carry_51 (by decide) ?_
              exact ih_32 (z - 1) (pu h2 z (h2 (z - 1))) (by omega) (Or.inr (by omega)) (car_s2 u2 (by omega) (by omega)) _ _ hP hD hS _ (lv_sub hl [0, 1, 2, 3, 4] rfl)
        exact lp_32 _ i h1 (Nat.lt_succ_self _) (Or.inl rfl) (fun j => (if_neg (by omega)).symm) _ _ hP hD hS _ (lv_sub hl [0, 1, 2, 3, 4] rfl)
      · skip
        refine lv_aload_n hx hb dX5_carry_13 rfl (lv_at hl 2 rfl) ?_
        refine lv_iload hx hb dX5_carry_14 (lv_at hl 0 rfl) ?_
        refine lv_aload_n hx hb dX5_carry_16 rfl (lv_at hl 2 rfl) ?_
        refine lv_iload hx hb dX5_carry_17 (lv_at hl 0 rfl) ?_
        refine lv_iconst (v := nI 1) hx hb dX5_carry_19 (by decide +kernel) ?_
        refine zi_add S dX5_carry_20 ?_
        refine z_iald S K hP 0 rfl (by omega) (by decide) dX5_carry_21 ?_
        refine z_iast S K hP hD hS 0 rfl (by omega) (by decide) dX5_carry_22 (fun H locs hP hD hS => ?_)
        have hP : va_P (gD G) vwCl [(a1, .inl (gI G, 20, .inl (nA (pu h1 x (h1 (x + 1))))))] H := hP
        have hD : va_D A [(a1, .inl (gI G, 20, .inl (nA (pu h1 x (h1 (x + 1))))))] := hD
        refine lv_iinc (v := (nI (x + 1))) (lv' := [(4, .int (nI (x + 1))), (3, .int (nI (f i))), (0, .ref a1), (1, .int (nI i)), (2, .int (nI k))]) hx hb dX5_carry_23 hl (k := 0) rfl (z_i1 _) (by decide) rfl (fun ls hl => ?_)
        refine lv_goto (tgt := 7) hx hb dX5_carry_26 (by decide) ?_
        exact ih_7 (x + 1) (pu h1 x (h1 (x + 1))) (by omega) (Or.inr (by omega)) (car_s1 v2 (by omega)) _ _ hP hD hS _ (lv_sub hl [0, 1, 2, 3, 4] rfl)
  exact lp_7 _ i f (Nat.lt_succ_self _) (Or.inl rfl) (fun j => (if_neg (by omega)).symm) _ _ hP hD hS _ (lv_sub hl [0, 1, 2, 3, 4] rfl)
