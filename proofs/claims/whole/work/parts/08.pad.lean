set_option maxHeartbeats 4000000 in
set_option maxRecDepth 100000 in
theorem c_X2_append (l : Launch) (G : gT) (a0 a1 : Nat) (sg : Int32) (ah : Int32) (he : Int32) (se : Int32) (len : Nat) (x : Nat) (ch : Nat → Nat) (hl0 : len < 80) (hx0 : x < 65536) : CV l yX2_append wsX2_append ({ frames := 0, cells := 0, slots := 0, locals := 0 } : Room) G [.ref a0, .int (nI x)] [(a0, .inr (2, [.ref a1, .int (nI len), .int sg, .int ah, .int he, .int se])), (a1, .inl (gC G, 80, .inl (nA ch)))] 0 0 (fun (u : Unit) => True) (fun (u : Unit) => [(a0, .inr (2, [.ref a1, .int (nI (len + 1)), .int sg, .int ah, .int he, .int se])), (a1, .inl (gC G, 80, .inl (nA (pu ch len x))))]) := by
  refine CV.of (cc := cX2_append) (maxL := 2) (ret := none) (by decide +kernel) rfl (Nat.le_of_ble_eq_true rfl) rfl (fun p e s m args below meth c A S hrt hlk hnm K hA hP hD hS ls hl => ?_)
  have hx := S.1
  have hb := S.2.1
  have hl : lv_has ls 2 [(0, .ref a0), (1, .int (nI x))] := hl
  refine lv_aload_n hx hb dX2_append_0 rfl (lv_at hl 0 rfl) ?_
  refine z_get S K hP hX2_append_X2 0 rfl rfl 1 (by decide) kX2_append_1 rfl rfl dX2_append_1 ?_
  refine lv_bipush (v := nI 80) hx hb dX2_append_4 (by decide +kernel) ?_
  refine zb_ge (tgt := 29) S dX2_append_6 (by decide) (by omega) (by decide) (fun c_6 => ?_) (fun c_6 => ?_)
  · skip
    exact (by exfalso; omega)
  · skip
    refine lv_aload_n hx hb dX2_append_9 rfl (lv_at hl 0 rfl) ?_
    refine z_get S K hP hX2_append_X2 0 rfl rfl 0 (by decide) kX2_append_2 rfl rfl dX2_append_10 ?_
    refine lv_aload_n hx hb dX2_append_13 rfl (lv_at hl 0 rfl) ?_
    refine z_get S K hP hX2_append_X2 0 rfl rfl 1 (by decide) kX2_append_1 rfl rfl dX2_append_14 ?_
    refine lv_iload_n hx hb dX2_append_17 rfl (lv_at hl 1 rfl) ?_
    refine z_cast S K hP hD hS 1 rfl (by omega) (by decide) hx0 dX2_append_18 (fun H locs hP hD hS => ?_)
    have hP : va_P (gD G) vwCl [(a0, .inr (2, [.ref a1, .int (nI len), .int sg, .int ah, .int he, .int se])), (a1, .inl (gC G, 80, .inl (nA (pu ch len x))))] H := hP
    have hD : va_D A [(a0, .inr (2, [.ref a1, .int (nI len), .int sg, .int ah, .int he, .int se])), (a1, .inl (gC G, 80, .inl (nA (pu ch len x))))] := hD
    refine lv_aload_n hx hb dX2_append_19 rfl (lv_at hl 0 rfl) ?_
    refine lv_dup hx hb dX2_append_20 rfl ?_
    refine z_get S K hP hX2_append_X2 0 rfl rfl 1 (by decide) kX2_append_1 rfl rfl dX2_append_21 ?_
    refine lv_iconst (v := nI 1) hx hb dX2_append_24 (by decide +kernel) ?_
    refine zi_add S dX2_append_25 ?_
    refine z_put S K hP hD hS (ty0 := tyX2) hX2_append_X2 tyX2_ok nmX2 0 rfl rfl 1 (by decide) kX2_append_1 rfl rfl rfl rfl (Nat.le_of_ble_eq_true rfl) dX2_append_26 (fun H locs hP hD hS => ?_)
    have hP : va_P (gD G) vwCl [(a0, .inr (2, [.ref a1, .int (nI (len + 1)), .int sg, .int ah, .int he, .int se])), (a1, .inl (gC G, 80, .inl (nA (pu ch len x))))] H := hP
    have hD : va_D A [(a0, .inr (2, [.ref a1, .int (nI (len + 1)), .int sg, .int ah, .int he, .int se])), (a1, .inl (gC G, 80, .inl (nA (pu ch len x))))] := hD
    exact z_vret S hrt hlk hP hD hS () rfl trivial dX2_append_29
set_option maxHeartbeats 4000000 in
set_option maxRecDepth 100000 in
theorem c_X2_startRule (l : Launch) (G : gT) (a0 a1 : Nat) (le : Int32) (sg : Int32) (ah : Int32) (he : Int32) (se : Int32) : CV l yX2_startRule wsX2_startRule ({ frames := 0, cells := 0, slots := 0, locals := 0 } : Room) G [.ref a0] [(a0, .inr (2, [.ref a1, .int le, .int sg, .int ah, .int he, .int se]))] 0 0 (fun (u : Unit) => True) (fun (u : Unit) => [(a0, .inr (2, [.ref a1, .int le, .int (nI 0), .int (-1), .int he, .int (nI 0)]))]) := by
  refine CV.of (cc := cX2_startRule) (maxL := 1) (ret := none) (by decide +kernel) rfl (Nat.le_of_ble_eq_true rfl) rfl (fun p e s m args below meth c A S hrt hlk hnm K hA hP hD hS ls hl => ?_)
  have hx := S.1
  have hb := S.2.1
  have hl : lv_has ls 1 [(0, .ref a0)] := hl
  refine lv_aload_n hx hb dX2_startRule_0 rfl (lv_at hl 0 rfl) ?_
  refine lv_iconst (v := nI 0) hx hb dX2_startRule_1 (by decide +kernel) ?_
  refine z_put S K hP hD hS (ty0 := tyX2) hX2_startRule_X2 tyX2_ok nmX2 0 rfl rfl 2 (by decide) kX2_startRule_1 rfl rfl rfl rfl (Nat.le_of_ble_eq_true rfl) dX2_startRule_2 (fun H locs hP hD hS => ?_)
  have hP : va_P (gD G) vwCl [(a0, .inr (2, [.ref a1, .int le, .int (nI 0), .int ah, .int he, .int se]))] H := hP
  have hD : va_D A [(a0, .inr (2, [.ref a1, .int le, .int (nI 0), .int ah, .int he, .int se]))] := hD
  refine lv_aload_n hx hb dX2_startRule_5 rfl (lv_at hl 0 rfl) ?_
  refine lv_iconst (v := -1) hx hb dX2_startRule_6 (by decide +kernel) ?_
  refine z_put S K hP hD hS (ty0 := tyX2) hX2_startRule_X2 tyX2_ok nmX2 0 rfl rfl 3 (by decide) kX2_startRule_2 rfl rfl rfl rfl (Nat.le_of_ble_eq_true rfl) dX2_startRule_7 (fun H locs hP hD hS => ?_)
  have hP : va_P (gD G) vwCl [(a0, .inr (2, [.ref a1, .int le, .int (nI 0), .int (-1), .int he, .int se]))] H := hP
  have hD : va_D A [(a0, .inr (2, [.ref a1, .int le, .int (nI 0), .int (-1), .int he, .int se]))] := hD
  refine lv_aload_n hx hb dX2_startRule_10 rfl (lv_at hl 0 rfl) ?_
  refine lv_iconst (v := nI 0) hx hb dX2_startRule_11 (by decide +kernel) ?_
  refine z_put S K hP hD hS (ty0 := tyX2) hX2_startRule_X2 tyX2_ok nmX2 0 rfl rfl 5 (by decide) kX2_startRule_3 rfl rfl rfl rfl (Nat.le_of_ble_eq_true rfl) dX2_startRule_12 (fun H locs hP hD hS => ?_)
  have hP : va_P (gD G) vwCl [(a0, .inr (2, [.ref a1, .int le, .int (nI 0), .int (-1), .int he, .int (nI 0)]))] H := hP
  have hD : va_D A [(a0, .inr (2, [.ref a1, .int le, .int (nI 0), .int (-1), .int he, .int (nI 0)]))] := hD
  exact z_vret S hrt hlk hP hD hS () rfl trivial dX2_startRule_15
set_option maxHeartbeats 4000000 in
set_option maxRecDepth 100000 in
theorem c_X2_canStartChoice (l : Launch) (G : gT) (a0 a1 : Nat) (le : Int32) (he : Int32) (se : Int32) (k : Nat) (x : Nat) (hk : k ≤ 12) (hx0 : x < 65536) : CI l yX2_canStartChoice wsX2_canStartChoice ({ frames := 0, cells := 0, slots := 0, locals := 0 } : Room) G [.ref a0, .int (nI x)] [(a0, .inr (2, [.ref a1, .int le, .int (nI 0), .int (dn k), .int he, .int se]))] 0 0 (fun (r : Int32) (u : Bool × Nat × Int32) => r = nI (bN u.1) ∧ (u.1 = false → ¬ (48 ≤ x ∧ x ≤ 57 ∧ k ≤ topc (x - 48))) ∧ (u.1 = true → (48 ≤ x ∧ x ≤ 57 ∧ k ≤ topc (x - 48)) ∧ u.2.1 = 1 ∧ u.2.2 = nI (x - 48))) (fun (u : Bool × Nat × Int32) => [(a0, .inr (2, [.ref a1, .int le, .int (nI u.2.1), .int (dn k), .int u.2.2, .int se]))]) := by
  refine CI.of (cc := cX2_canStartChoice) (maxL := 4) (ret := (some .boolean)) (by decide +kernel) rfl (Nat.le_of_ble_eq_true rfl) rfl (fun p e s m args below meth c A S hrt hlk hnm K hA hP hD hS ls hl => ?_)
  have hx := S.1
  have hb := S.2.1
  have hl : lv_has ls 4 [(0, .ref a0), (1, .int (nI x))] := hl
  refine lv_iload_n hx hb dX2_canStartChoice_0 rfl (lv_at hl 1 rfl) ?_
  refine lv_bipush (v := nI 48) hx hb dX2_canStartChoice_1 (by decide +kernel) ?_
  refine zb_lt (tgt := 12) S dX2_canStartChoice_3 (by decide) (by omega) (by decide) (fun c_3 => ?_) (fun c_3 => ?_)
  · skip
    refine lv_iconst (v := nI 0) hx hb dX2_canStartChoice_12 (by decide +kernel) ?_
    exact z_zret S hrt hlk hP hD hS (false, 0, he) rfl ⟨rfl, ⟨(by intro hb0; first | (cases hb0; done) | (intro q; obtain ⟨q1, q2, q3⟩ := q; unfold topc at q3; split at q3 <;> omega)), (by intro hb0; first | (cases hb0; done) | exact ⟨⟨by omega, by omega, by unfold topc; split <;> omega⟩, rfl, rfl⟩)⟩⟩ (z_bnar false) dX2_canStartChoice_13
  · skip
    refine lv_iload_n hx hb dX2_canStartChoice_6 rfl (lv_at hl 1 rfl) ?_
    refine lv_bipush (v := nI 57) hx hb dX2_canStartChoice_7 (by decide +kernel) ?_
    refine zb_le (tgt := 14) S dX2_canStartChoice_9 (by decide) (by omega) (by decide) (fun c_9 => ?_) (fun c_9 => ?_)
    · skip
      refine lv_iload_n hx hb dX2_canStartChoice_14 rfl (lv_at hl 1 rfl) ?_
      refine lv_bipush (v := nI 48) hx hb dX2_canStartChoice_15 (by decide +kernel) ?_
      refine zi_sub S dX2_canStartChoice_17 (by omega) ?_
      refine lv_istore_n (lv' := [(2, .int (nI (x - 48))), (0, .ref a0), (1, .int (nI x))]) hx hb dX2_canStartChoice_18 rfl hl (by decide) rfl (fun ls hl => ?_)
      refine lv_iload_n hx hb dX2_canStartChoice_19 rfl (lv_at hl 0 rfl) ?_
      refine lv_iconst (v := nI 1) hx hb dX2_canStartChoice_20 (by decide +kernel) ?_
      refine zb_ne (tgt := 29) S dX2_canStartChoice_21 (by decide) (by omega) (by decide) (fun c_21 => ?_) (fun c_21 => ?_)
      · skip
        refine lv_iload_n hx hb dX2_canStartChoice_29 rfl (lv_at hl 0 rfl) ?_
        refine lv_istore_n (lv' := [(3, .int (nI (x - 48))), (2, .int (nI (x - 48))), (0, .ref a0), (1, .int (nI x))]) hx hb dX2_canStartChoice_30 rfl hl (by decide) rfl (fun ls hl => ?_)
        refine lv_iload_n hx hb dX2_canStartChoice_31 rfl (lv_at hl 0 rfl) ?_
        refine lv_aload_n hx hb dX2_canStartChoice_32 rfl (lv_at hl 2 rfl) ?_
        refine z_get S K hP hX2_canStartChoice_X2 0 rfl rfl 3 (by decide) kX2_canStartChoice_1 rfl rfl dX2_canStartChoice_33 ?_
        refine zr_gt (tgt := 41) S dX2_canStartChoice_36 (by decide) (z_toInt (by omega)) (dn_toInt (by omega)) (fun c_36 => ?_) (fun c_36 => ?_)
        · skip
          refine lv_aload_n hx hb dX2_canStartChoice_41 rfl (lv_at hl 2 rfl) ?_
          refine lv_iload_n hx hb dX2_canStartChoice_42 rfl (lv_at hl 1 rfl) ?_
          refine z_put S K hP hD hS (ty0 := tyX2) hX2_canStartChoice_X2 tyX2_ok nmX2 0 rfl rfl 4 (by decide) kX2_canStartChoice_2 rfl rfl rfl rfl (Nat.le_of_ble_eq_true rfl) dX2_canStartChoice_43 (fun H locs hP hD hS => ?_)
          have hP : va_P (gD G) vwCl [(a0, .inr (2, [.ref a1, .int le, .int (nI 0), .int (dn k), .int (nI (x - 48)), .int se]))] H := hP
          have hD : va_D A [(a0, .inr (2, [.ref a1, .int le, .int (nI 0), .int (dn k), .int (nI (x - 48)), .int se]))] := hD
          refine lv_aload_n hx hb dX2_canStartChoice_46 rfl (lv_at hl 2 rfl) ?_
          refine lv_iconst (v := nI 1) hx hb dX2_canStartChoice_47 (by decide +kernel) ?_
          refine z_put S K hP hD hS (ty0 := tyX2) hX2_canStartChoice_X2 tyX2_ok nmX2 0 rfl rfl 2 (by decide) kX2_canStartChoice_3 rfl rfl rfl rfl (Nat.le_of_ble_eq_true rfl) dX2_canStartChoice_48 (fun H locs hP hD hS => ?_)
          have hP : va_P (gD G) vwCl [(a0, .inr (2, [.ref a1, .int le, .int (nI 1), .int (dn k), .int (nI (x - 48)), .int se]))] H := hP
          have hD : va_D A [(a0, .inr (2, [.ref a1, .int le, .int (nI 1), .int (dn k), .int (nI (x - 48)), .int se]))] := hD
          refine lv_iconst (v := nI 1) hx hb dX2_canStartChoice_51 (by decide +kernel) ?_
          exact z_zret S hrt hlk hP hD hS (true, 1, nI (x - 48)) rfl ⟨rfl, ⟨(by intro hb0; first | (cases hb0; done) | (intro q; obtain ⟨q1, q2, q3⟩ := q; unfold topc at q3; split at q3 <;> omega)), (by intro hb0; first | (cases hb0; done) | exact ⟨⟨by omega, by omega, by unfold topc; split <;> omega⟩, rfl, rfl⟩)⟩⟩ (z_bnar true) dX2_canStartChoice_52
        · skip
          refine lv_iconst (v := nI 0) hx hb dX2_canStartChoice_39 (by decide +kernel) ?_
          exact z_zret S hrt hlk hP hD hS (false, 0, he) rfl ⟨rfl, ⟨(by intro hb0; first | (cases hb0; done) | (intro q; obtain ⟨q1, q2, q3⟩ := q; unfold topc at q3; split at q3 <;> omega)), (by intro hb0; first | (cases hb0; done) | exact ⟨⟨by omega, by omega, by unfold topc; split <;> omega⟩, rfl, rfl⟩)⟩⟩ (z_bnar false) dX2_canStartChoice_40
      · skip
        refine lv_bipush (v := nI 11) hx hb dX2_canStartChoice_24 (by decide +kernel) ?_
        refine lv_goto (tgt := 30) hx hb dX2_canStartChoice_26 (by decide) ?_
        refine lv_istore_n (lv' := [(3, .int (nI 11)), (2, .int (nI (x - 48))), (0, .ref a0), (1, .int (nI x))]) hx hb dX2_canStartChoice_30 rfl hl (by decide) rfl (fun ls hl => ?_)
        refine lv_iload_n hx hb dX2_canStartChoice_31 rfl (lv_at hl 0 rfl) ?_
        refine lv_aload_n hx hb dX2_canStartChoice_32 rfl (lv_at hl 2 rfl) ?_
        refine z_get S K hP hX2_canStartChoice_X2 0 rfl rfl 3 (by decide) kX2_canStartChoice_1 rfl rfl dX2_canStartChoice_33 ?_
        refine zr_gt (tgt := 41) S dX2_canStartChoice_36 (by decide) (z_toInt (by decide)) (dn_toInt (by omega)) (fun c_36 => ?_) (fun c_36 => ?_)
        · skip
          refine lv_aload_n hx hb dX2_canStartChoice_41 rfl (lv_at hl 2 rfl) ?_
          refine lv_iload_n hx hb dX2_canStartChoice_42 rfl (lv_at hl 1 rfl) ?_
          refine z_put S K hP hD hS (ty0 := tyX2) hX2_canStartChoice_X2 tyX2_ok nmX2 0 rfl rfl 4 (by decide) kX2_canStartChoice_2 rfl rfl rfl rfl (Nat.le_of_ble_eq_true rfl) dX2_canStartChoice_43 (fun H locs hP hD hS => ?_)
          have hP : va_P (gD G) vwCl [(a0, .inr (2, [.ref a1, .int le, .int (nI 0), .int (dn k), .int (nI (x - 48)), .int se]))] H := hP
          have hD : va_D A [(a0, .inr (2, [.ref a1, .int le, .int (nI 0), .int (dn k), .int (nI (x - 48)), .int se]))] := hD
          refine lv_aload_n hx hb dX2_canStartChoice_46 rfl (lv_at hl 2 rfl) ?_
          refine lv_iconst (v := nI 1) hx hb dX2_canStartChoice_47 (by decide +kernel) ?_
          refine z_put S K hP hD hS (ty0 := tyX2) hX2_canStartChoice_X2 tyX2_ok nmX2 0 rfl rfl 2 (by decide) kX2_canStartChoice_3 rfl rfl rfl rfl (Nat.le_of_ble_eq_true rfl) dX2_canStartChoice_48 (fun H locs hP hD hS => ?_)
          have hP : va_P (gD G) vwCl [(a0, .inr (2, [.ref a1, .int le, .int (nI 1), .int (dn k), .int (nI (x - 48)), .int se]))] H := hP
          have hD : va_D A [(a0, .inr (2, [.ref a1, .int le, .int (nI 1), .int (dn k), .int (nI (x - 48)), .int se]))] := hD
          refine lv_iconst (v := nI 1) hx hb dX2_canStartChoice_51 (by decide +kernel) ?_
          exact z_zret S hrt hlk hP hD hS (true, 1, nI (x - 48)) rfl ⟨rfl, ⟨(by intro hb0; first | (cases hb0; done) | (intro q; obtain ⟨q1, q2, q3⟩ := q; unfold topc at q3; split at q3 <;> omega)), (by intro hb0; first | (cases hb0; done) | exact ⟨⟨by omega, by omega, by unfold topc; split <;> omega⟩, rfl, rfl⟩)⟩⟩ (z_bnar true) dX2_canStartChoice_52
        · skip
          refine lv_iconst (v := nI 0) hx hb dX2_canStartChoice_39 (by decide +kernel) ?_
          exact z_zret S hrt hlk hP hD hS (false, 0, he) rfl ⟨rfl, ⟨(by intro hb0; first | (cases hb0; done) | (intro q; obtain ⟨q1, q2, q3⟩ := q; unfold topc at q3; split at q3 <;> omega)), (by intro hb0; first | (cases hb0; done) | exact ⟨⟨by omega, by omega, by unfold topc; split <;> omega⟩, rfl, rfl⟩)⟩⟩ (z_bnar false) dX2_canStartChoice_40
    · skip
      refine lv_iconst (v := nI 0) hx hb dX2_canStartChoice_12 (by decide +kernel) ?_
      exact z_zret S hrt hlk hP hD hS (false, 0, he) rfl ⟨rfl, ⟨(by intro hb0; first | (cases hb0; done) | (intro q; obtain ⟨q1, q2, q3⟩ := q; unfold topc at q3; split at q3 <;> omega)), (by intro hb0; first | (cases hb0; done) | exact ⟨⟨by omega, by omega, by unfold topc; split <;> omega⟩, rfl, rfl⟩)⟩⟩ (z_bnar false) dX2_canStartChoice_13
set_option maxHeartbeats 4000000 in
set_option maxRecDepth 100000 in
theorem c_X2_canStandInChoice (l : Launch) (G : gT) (a0 a1 : Nat) (le : Int32) (k : Nat) (h : Nat) (set : Nat) (x : Nat) (y : Nat × (Nat → Nat) × (Nat → Nat)) (hk : k ≤ 12) (hh : h ≤ 11) (hx0 : x < 65536) : CI l yX2_canStandInChoice wsX2_canStandInChoice ({ frames := 0, cells := 0, slots := 0, locals := 0 } : Room) G [.ref a0, .int (nI x)] [(a0, .inr (2, [.ref a1, .int le, .int (nI 1), .int (dn k), .int (nI h), .int (nI set)]))] 0 0 (fun (r : Int32) (u : Bool × Nat × Nat × Nat × Nat) => r = nI (bN u.1) ∧ (u.1 = false → cst1 (1, k, h, set, y) x = none) ∧ (u.1 = true → cst1 (1, k, h, set, y) x = some (u.2.1, u.2.2.1, u.2.2.2.1, u.2.2.2.2, y))) (fun (u : Bool × Nat × Nat × Nat × Nat) => [(a0, .inr (2, [.ref a1, .int le, .int (nI u.2.1), .int (dn u.2.2.1), .int (nI u.2.2.2.1), .int (nI u.2.2.2.2)]))]) := by
  refine CI.of (cc := cX2_canStandInChoice) (maxL := 3) (ret := (some .boolean)) (by decide +kernel) rfl (Nat.le_of_ble_eq_true rfl) rfl (fun p e s m args below meth c A S hrt hlk hnm K hA hP hD hS ls hl => ?_)
  have hx := S.1
  have hb := S.2.1
  have hl : lv_has ls 3 [(0, .ref a0), (1, .int (nI x))] := hl
  refine lv_aload_n hx hb dX2_canStandInChoice_0 rfl (lv_at hl 0 rfl) ?_
  refine z_get S K hP hX2_canStandInChoice_X2 0 rfl rfl 4 (by decide) kX2_canStandInChoice_1 rfl rfl dX2_canStandInChoice_1 ?_
  refine lv_iconst (v := nI 1) hx hb dX2_canStandInChoice_4 (by decide +kernel) ?_
  refine zb_ne (tgt := 48) S dX2_canStandInChoice_5 (by decide) (by omega) (by decide) (fun c_5 => ?_) (fun c_5 => ?_)
  · skip
    refine lv_iload_n hx hb dX2_canStandInChoice_48 rfl (lv_at hl 1 rfl) ?_
    refine lv_bipush (v := nI 61) hx hb dX2_canStandInChoice_49 (by decide +kernel) ?_
    refine zb_eq (tgt := 69) S dX2_canStandInChoice_51 (by decide) (by omega) (by decide) (fun c_51 => ?_) (fun c_51 => ?_)
    · skip
      refine lv_iconst (v := nI 1) hx hb dX2_canStandInChoice_69 (by decide +kernel) ?_
      refine lv_goto (tgt := 74) hx hb dX2_canStandInChoice_70 (by decide) ?_
      refine lv_istore_n (lv' := [(2, .int (nI 1)), (0, .ref a0), (1, .int (nI x))]) hx hb dX2_canStandInChoice_74 rfl hl (by decide) rfl (fun ls hl => ?_)
      refine lv_iload_n hx hb dX2_canStandInChoice_75 rfl (lv_at hl 0 rfl) ?_
      refine zf_eq (tgt := 90) S dX2_canStandInChoice_76 (by decide) (by decide) (fun c_76 => ?_) (fun c_76 => ?_)
      · skip
        refine lv_iconst (v := nI 0) hx hb dX2_canStandInChoice_90 (by decide +kernel) ?_
        exact z_zret S hrt hlk hP hD hS (false, 1, k, h, set) rfl ⟨rfl, ⟨(by intro hb0; first | (cases hb0; done) | (unfold cst1; dsimp only; first | rw [if_pos ⟨by omega, by omega⟩, if_neg hkh] | rw [if_neg (by omega), if_neg (fun q => by omega)])), (by intro hb0; first | (cases hb0; done) | (unfold cst1; dsimp only; first | rw [if_pos ⟨by omega, by omega⟩, if_pos hkh] | (rw [if_neg (by omega), if_pos ⟨by omega, hkh⟩]; first | rw [if_pos c_119] | rw [if_neg c_119])))⟩⟩ (z_bnar false) dX2_canStandInChoice_91
      · skip
        refine lv_aload_n hx hb dX2_canStandInChoice_79 rfl (lv_at hl 1 rfl) ?_
        refine z_get S K hP hX2_canStandInChoice_X2 0 rfl rfl 4 (by decide) kX2_canStandInChoice_1 rfl rfl dX2_canStandInChoice_80 ?_
        refine lv_aload_n hx hb dX2_canStandInChoice_83 rfl (lv_at hl 1 rfl) ?_
        refine z_get S K hP hX2_canStandInChoice_X2 0 rfl rfl 3 (by decide) kX2_canStandInChoice_2 rfl rfl dX2_canStandInChoice_84 ?_
        refine zr_gt (tgt := 92) S dX2_canStandInChoice_87 (by decide) (z_toInt (by omega)) (dn_toInt (by omega)) (fun c_87 => ?_) (fun c_87 => ?_)
        · skip
          have hkh : k ≤ h := by omega
          refine lv_aload_n hx hb dX2_canStandInChoice_92 rfl (lv_at hl 1 rfl) ?_
          refine lv_dup hx hb dX2_canStandInChoice_93 rfl ?_
          refine z_get S K hP hX2_canStandInChoice_X2 0 rfl rfl 5 (by decide) kX2_canStandInChoice_3 rfl rfl dX2_canStandInChoice_94 ?_
          refine lv_iconst (v := nI 1) hx hb dX2_canStandInChoice_97 (by decide +kernel) ?_
          refine lv_aload_n hx hb dX2_canStandInChoice_98 rfl (lv_at hl 1 rfl) ?_
          refine z_get S K hP hX2_canStandInChoice_X2 0 rfl rfl 4 (by decide) kX2_canStandInChoice_1 rfl rfl dX2_canStandInChoice_99 ?_
          refine zi_shl S dX2_canStandInChoice_102 (by omega) ?_
          refine zi_or S dX2_canStandInChoice_103 ?_
          refine z_put S K hP hD hS (ty0 := tyX2) hX2_canStandInChoice_X2 tyX2_ok nmX2 0 rfl rfl 5 (by decide) kX2_canStandInChoice_3 rfl rfl rfl rfl (Nat.le_of_ble_eq_true rfl) dX2_canStandInChoice_104 (fun H locs hP hD hS => ?_)
          have hP : va_P (gD G) vwCl [(a0, .inr (2, [.ref a1, .int le, .int (nI 1), .int (dn k), .int (nI h), .int (nI (set ||| (1 <<< h)))]))] H := hP
          have hD : va_D A [(a0, .inr (2, [.ref a1, .int le, .int (nI 1), .int (dn k), .int (nI h), .int (nI (set ||| (1 <<< h)))]))] := hD
          refine lv_aload_n hx hb dX2_canStandInChoice_107 rfl (lv_at hl 1 rfl) ?_
          refine lv_aload_n hx hb dX2_canStandInChoice_108 rfl (lv_at hl 1 rfl) ?_
          refine z_get S K hP hX2_canStandInChoice_X2 0 rfl rfl 4 (by decide) kX2_canStandInChoice_1 rfl rfl dX2_canStandInChoice_109 ?_
          refine z_put S K hP hD hS (ty0 := tyX2) hX2_canStandInChoice_X2 tyX2_ok nmX2 0 rfl rfl 3 (by decide) kX2_canStandInChoice_2 rfl rfl rfl rfl (Nat.le_of_ble_eq_true rfl) dX2_canStandInChoice_112 (fun H locs hP hD hS => ?_)
          have hP : va_P (gD G) vwCl [(a0, .inr (2, [.ref a1, .int le, .int (nI 1), .int (nI h), .int (nI h), .int (nI (set ||| (1 <<< h)))]))] H := hP
          have hD : va_D A [(a0, .inr (2, [.ref a1, .int le, .int (nI 1), .int (nI h), .int (nI h), .int (nI (set ||| (1 <<< h)))]))] := hD
          refine lv_aload_n hx hb dX2_canStandInChoice_115 rfl (lv_at hl 1 rfl) ?_
          refine lv_iload_n hx hb dX2_canStandInChoice_116 rfl (lv_at hl 2 rfl) ?_
          refine lv_bipush (v := nI 43) hx hb dX2_canStandInChoice_117 (by decide +kernel) ?_
          refine zb_ne (tgt := 126) S dX2_canStandInChoice_119 (by decide) (by omega) (by decide) (fun c_119 => ?_) (fun c_119 => ?_)
          · skip
            refine lv_iconst (v := nI 2) hx hb dX2_canStandInChoice_126 (by decide +kernel) ?_
            refine z_put S K hP hD hS (ty0 := tyX2) hX2_canStandInChoice_X2 tyX2_ok nmX2 0 rfl rfl 2 (by decide) kX2_canStandInChoice_4 rfl rfl rfl rfl (Nat.le_of_ble_eq_true rfl) dX2_canStandInChoice_127 (fun H locs hP hD hS => ?_)
            have hP : va_P (gD G) vwCl [(a0, .inr (2, [.ref a1, .int le, .int (nI 2), .int (nI h), .int (nI h), .int (nI (set ||| (1 <<< h)))]))] H := hP
            have hD : va_D A [(a0, .inr (2, [.ref a1, .int le, .int (nI 2), .int (nI h), .int (nI h), .int (nI (set ||| (1 <<< h)))]))] := hD
            refine lv_iconst (v := nI 1) hx hb dX2_canStandInChoice_130 (by decide +kernel) ?_
            exact z_zret S hrt hlk hP hD hS (true, 2, h + 1, h, set ||| (1 <<< h)) rfl ⟨rfl, ⟨(by intro hb0; first | (cases hb0; done) | (unfold cst1; dsimp only; first | rw [if_pos ⟨by omega, by omega⟩, if_neg hkh] | rw [if_neg (by omega), if_neg (fun q => by omega)])), (by intro hb0; first | (cases hb0; done) | (unfold cst1; dsimp only; first | rw [if_pos ⟨by omega, by omega⟩, if_pos hkh] | (rw [if_neg (by omega), if_pos ⟨by omega, hkh⟩]; first | rw [if_pos c_119] | rw [if_neg c_119])))⟩⟩ (z_bnar true) dX2_canStandInChoice_131
          · skip
            refine lv_iconst (v := nI 0) hx hb dX2_canStandInChoice_122 (by decide +kernel) ?_
            refine lv_goto (tgt := 127) hx hb dX2_canStandInChoice_123 (by decide) ?_
            refine z_put S K hP hD hS (ty0 := tyX2) hX2_canStandInChoice_X2 tyX2_ok nmX2 0 rfl rfl 2 (by decide) kX2_canStandInChoice_4 rfl rfl rfl rfl (Nat.le_of_ble_eq_true rfl) dX2_canStandInChoice_127 (fun H locs hP hD hS => ?_)
            have hP : va_P (gD G) vwCl [(a0, .inr (2, [.ref a1, .int le, .int (nI 0), .int (nI h), .int (nI h), .int (nI (set ||| (1 <<< h)))]))] H := hP
            have hD : va_D A [(a0, .inr (2, [.ref a1, .int le, .int (nI 0), .int (nI h), .int (nI h), .int (nI (set ||| (1 <<< h)))]))] := hD
            refine lv_iconst (v := nI 1) hx hb dX2_canStandInChoice_130 (by decide +kernel) ?_
            exact z_zret S hrt hlk hP hD hS (true, 0, h + 1, h, set ||| (1 <<< h)) rfl ⟨rfl, ⟨(by intro hb0; first | (cases hb0; done) | (unfold cst1; dsimp only; first | rw [if_pos ⟨by omega, by omega⟩, if_neg hkh] | rw [if_neg (by omega), if_neg (fun q => by omega)])), (by intro hb0; first | (cases hb0; done) | (unfold cst1; dsimp only; first | rw [if_pos ⟨by omega, by omega⟩, if_pos hkh] | (rw [if_neg (by omega), if_pos ⟨by omega, hkh⟩]; first | rw [if_pos c_119] | rw [if_neg c_119])))⟩⟩ (z_bnar true) dX2_canStandInChoice_131
        · skip
          have hkh : ¬ k ≤ h := by omega
          refine lv_iconst (v := nI 0) hx hb dX2_canStandInChoice_90 (by decide +kernel) ?_
          exact z_zret S hrt hlk hP hD hS (false, 1, k, h, set) rfl ⟨rfl, ⟨(by intro hb0; first | (cases hb0; done) | (unfold cst1; dsimp only; first | rw [if_pos ⟨by omega, by omega⟩, if_neg hkh] | rw [if_neg (by omega), if_neg (fun q => by omega)])), (by intro hb0; first | (cases hb0; done) | (unfold cst1; dsimp only; first | rw [if_pos ⟨by omega, by omega⟩, if_pos hkh] | (rw [if_neg (by omega), if_pos ⟨by omega, hkh⟩]; first | rw [if_pos c_119] | rw [if_neg c_119])))⟩⟩ (z_bnar false) dX2_canStandInChoice_91
    · skip
      refine lv_iload_n hx hb dX2_canStandInChoice_54 rfl (lv_at hl 1 rfl) ?_
      refine lv_bipush (v := nI 43) hx hb dX2_canStandInChoice_55 (by decide +kernel) ?_
      refine zb_ne (tgt := 73) S dX2_canStandInChoice_57 (by decide) (by omega) (by decide) (fun c_57 => ?_) (fun c_57 => ?_)
      · skip
        refine lv_iconst (v := nI 0) hx hb dX2_canStandInChoice_73 (by decide +kernel) ?_
        refine lv_istore_n (lv' := [(2, .int (nI 0)), (0, .ref a0), (1, .int (nI x))]) hx hb dX2_canStandInChoice_74 rfl hl (by decide) rfl (fun ls hl => ?_)
        refine lv_iload_n hx hb dX2_canStandInChoice_75 rfl (lv_at hl 0 rfl) ?_
        refine zf_eq (tgt := 90) S dX2_canStandInChoice_76 (by decide) (by decide) (fun c_76 => ?_) (fun c_76 => ?_)
        · skip
          refine lv_iconst (v := nI 0) hx hb dX2_canStandInChoice_90 (by decide +kernel) ?_
          exact z_zret S hrt hlk hP hD hS (false, 1, k, h, set) rfl ⟨rfl, ⟨(by intro hb0; first | (cases hb0; done) | (unfold cst1; dsimp only; first | rw [if_pos ⟨by omega, by omega⟩, if_neg hkh] | rw [if_neg (by omega), if_neg (fun q => by omega)])), (by intro hb0; first | (cases hb0; done) | (unfold cst1; dsimp only; first | rw [if_pos ⟨by omega, by omega⟩, if_pos hkh] | (rw [if_neg (by omega), if_pos ⟨by omega, hkh⟩]; first | rw [if_pos c_119] | rw [if_neg c_119])))⟩⟩ (z_bnar false) dX2_canStandInChoice_91
        · skip
          refine lv_aload_n hx hb dX2_canStandInChoice_79 rfl (lv_at hl 1 rfl) ?_
          refine z_get S K hP hX2_canStandInChoice_X2 0 rfl rfl 4 (by decide) kX2_canStandInChoice_1 rfl rfl dX2_canStandInChoice_80 ?_
          refine lv_aload_n hx hb dX2_canStandInChoice_83 rfl (lv_at hl 1 rfl) ?_
          refine z_get S K hP hX2_canStandInChoice_X2 0 rfl rfl 3 (by decide) kX2_canStandInChoice_2 rfl rfl dX2_canStandInChoice_84 ?_
          refine zr_gt (tgt := 92) S dX2_canStandInChoice_87 (by decide) (z_toInt (by omega)) (dn_toInt (by omega)) (fun c_87 => ?_) (fun c_87 => ?_)
          · skip
            have hkh : k ≤ h := by omega
            refine lv_aload_n hx hb dX2_canStandInChoice_92 rfl (lv_at hl 1 rfl) ?_
            refine lv_dup hx hb dX2_canStandInChoice_93 rfl ?_
            refine z_get S K hP hX2_canStandInChoice_X2 0 rfl rfl 5 (by decide) kX2_canStandInChoice_3 rfl rfl dX2_canStandInChoice_94 ?_
            refine lv_iconst (v := nI 1) hx hb dX2_canStandInChoice_97 (by decide +kernel) ?_
            refine lv_aload_n hx hb dX2_canStandInChoice_98 rfl (lv_at hl 1 rfl) ?_
            refine z_get S K hP hX2_canStandInChoice_X2 0 rfl rfl 4 (by decide) kX2_canStandInChoice_1 rfl rfl dX2_canStandInChoice_99 ?_
            refine zi_shl S dX2_canStandInChoice_102 (by omega) ?_
            refine zi_or S dX2_canStandInChoice_103 ?_
            refine z_put S K hP hD hS (ty0 := tyX2) hX2_canStandInChoice_X2 tyX2_ok nmX2 0 rfl rfl 5 (by decide) kX2_canStandInChoice_3 rfl rfl rfl rfl (Nat.le_of_ble_eq_true rfl) dX2_canStandInChoice_104 (fun H locs hP hD hS => ?_)
            have hP : va_P (gD G) vwCl [(a0, .inr (2, [.ref a1, .int le, .int (nI 1), .int (dn k), .int (nI h), .int (nI (set ||| (1 <<< h)))]))] H := hP
            have hD : va_D A [(a0, .inr (2, [.ref a1, .int le, .int (nI 1), .int (dn k), .int (nI h), .int (nI (set ||| (1 <<< h)))]))] := hD
            refine lv_aload_n hx hb dX2_canStandInChoice_107 rfl (lv_at hl 1 rfl) ?_
            refine lv_aload_n hx hb dX2_canStandInChoice_108 rfl (lv_at hl 1 rfl) ?_
            refine z_get S K hP hX2_canStandInChoice_X2 0 rfl rfl 4 (by decide) kX2_canStandInChoice_1 rfl rfl dX2_canStandInChoice_109 ?_
            refine z_put S K hP hD hS (ty0 := tyX2) hX2_canStandInChoice_X2 tyX2_ok nmX2 0 rfl rfl 3 (by decide) kX2_canStandInChoice_2 rfl rfl rfl rfl (Nat.le_of_ble_eq_true rfl) dX2_canStandInChoice_112 (fun H locs hP hD hS => ?_)
            have hP : va_P (gD G) vwCl [(a0, .inr (2, [.ref a1, .int le, .int (nI 1), .int (nI h), .int (nI h), .int (nI (set ||| (1 <<< h)))]))] H := hP
            have hD : va_D A [(a0, .inr (2, [.ref a1, .int le, .int (nI 1), .int (nI h), .int (nI h), .int (nI (set ||| (1 <<< h)))]))] := hD
            refine lv_aload_n hx hb dX2_canStandInChoice_115 rfl (lv_at hl 1 rfl) ?_
            refine lv_iload_n hx hb dX2_canStandInChoice_116 rfl (lv_at hl 2 rfl) ?_
            refine lv_bipush (v := nI 43) hx hb dX2_canStandInChoice_117 (by decide +kernel) ?_
            refine zb_ne (tgt := 126) S dX2_canStandInChoice_119 (by decide) (by omega) (by decide) (fun c_119 => ?_) (fun c_119 => ?_)
            · skip
              refine lv_iconst (v := nI 2) hx hb dX2_canStandInChoice_126 (by decide +kernel) ?_
              refine z_put S K hP hD hS (ty0 := tyX2) hX2_canStandInChoice_X2 tyX2_ok nmX2 0 rfl rfl 2 (by decide) kX2_canStandInChoice_4 rfl rfl rfl rfl (Nat.le_of_ble_eq_true rfl) dX2_canStandInChoice_127 (fun H locs hP hD hS => ?_)
              have hP : va_P (gD G) vwCl [(a0, .inr (2, [.ref a1, .int le, .int (nI 2), .int (nI h), .int (nI h), .int (nI (set ||| (1 <<< h)))]))] H := hP
              have hD : va_D A [(a0, .inr (2, [.ref a1, .int le, .int (nI 2), .int (nI h), .int (nI h), .int (nI (set ||| (1 <<< h)))]))] := hD
              refine lv_iconst (v := nI 1) hx hb dX2_canStandInChoice_130 (by decide +kernel) ?_
              exact z_zret S hrt hlk hP hD hS (true, 2, h + 1, h, set ||| (1 <<< h)) rfl ⟨rfl, ⟨(by intro hb0; first | (cases hb0; done) | (unfold cst1; dsimp only; first | rw [if_pos ⟨by omega, by omega⟩, if_neg hkh] | rw [if_neg (by omega), if_neg (fun q => by omega)])), (by intro hb0; first | (cases hb0; done) | (unfold cst1; dsimp only; first | rw [if_pos ⟨by omega, by omega⟩, if_pos hkh] | (rw [if_neg (by omega), if_pos ⟨by omega, hkh⟩]; first | rw [if_pos c_119] | rw [if_neg c_119])))⟩⟩ (z_bnar true) dX2_canStandInChoice_131
            · skip
              refine lv_iconst (v := nI 0) hx hb dX2_canStandInChoice_122 (by decide +kernel) ?_
              refine lv_goto (tgt := 127) hx hb dX2_canStandInChoice_123 (by decide) ?_
              refine z_put S K hP hD hS (ty0 := tyX2) hX2_canStandInChoice_X2 tyX2_ok nmX2 0 rfl rfl 2 (by decide) kX2_canStandInChoice_4 rfl rfl rfl rfl (Nat.le_of_ble_eq_true rfl) dX2_canStandInChoice_127 (fun H locs hP hD hS => ?_)
              have hP : va_P (gD G) vwCl [(a0, .inr (2, [.ref a1, .int le, .int (nI 0), .int (nI h), .int (nI h), .int (nI (set ||| (1 <<< h)))]))] H := hP
              have hD : va_D A [(a0, .inr (2, [.ref a1, .int le, .int (nI 0), .int (nI h), .int (nI h), .int (nI (set ||| (1 <<< h)))]))] := hD
              refine lv_iconst (v := nI 1) hx hb dX2_canStandInChoice_130 (by decide +kernel) ?_
              exact z_zret S hrt hlk hP hD hS (true, 0, h + 1, h, set ||| (1 <<< h)) rfl ⟨rfl, ⟨(by intro hb0; first | (cases hb0; done) | (unfold cst1; dsimp only; first | rw [if_pos ⟨by omega, by omega⟩, if_neg hkh] | rw [if_neg (by omega), if_neg (fun q => by omega)])), (by intro hb0; first | (cases hb0; done) | (unfold cst1; dsimp only; first | rw [if_pos ⟨by omega, by omega⟩, if_pos hkh] | (rw [if_neg (by omega), if_pos ⟨by omega, hkh⟩]; first | rw [if_pos c_119] | rw [if_neg c_119])))⟩⟩ (z_bnar true) dX2_canStandInChoice_131
          · skip
            have hkh : ¬ k ≤ h := by omega
            refine lv_iconst (v := nI 0) hx hb dX2_canStandInChoice_90 (by decide +kernel) ?_
            exact z_zret S hrt hlk hP hD hS (false, 1, k, h, set) rfl ⟨rfl, ⟨(by intro hb0; first | (cases hb0; done) | (unfold cst1; dsimp only; first | rw [if_pos ⟨by omega, by omega⟩, if_neg hkh] | rw [if_neg (by omega), if_neg (fun q => by omega)])), (by intro hb0; first | (cases hb0; done) | (unfold cst1; dsimp only; first | rw [if_pos ⟨by omega, by omega⟩, if_pos hkh] | (rw [if_neg (by omega), if_pos ⟨by omega, hkh⟩]; first | rw [if_pos c_119] | rw [if_neg c_119])))⟩⟩ (z_bnar false) dX2_canStandInChoice_91
      · skip
        refine lv_aload_n hx hb dX2_canStandInChoice_60 rfl (lv_at hl 0 rfl) ?_
        refine z_get S K hP hX2_canStandInChoice_X2 0 rfl rfl 4 (by decide) kX2_canStandInChoice_1 rfl rfl dX2_canStandInChoice_61 ?_
        refine lv_bipush (v := nI 11) hx hb dX2_canStandInChoice_64 (by decide +kernel) ?_
        refine zb_ge (tgt := 73) S dX2_canStandInChoice_66 (by decide) (by omega) (by decide) (fun c_66 => ?_) (fun c_66 => ?_)
        · skip
          refine lv_iconst (v := nI 0) hx hb dX2_canStandInChoice_73 (by decide +kernel) ?_
          refine lv_istore_n (lv' := [(2, .int (nI 0)), (0, .ref a0), (1, .int (nI x))]) hx hb dX2_canStandInChoice_74 rfl hl (by decide) rfl (fun ls hl => ?_)
          refine lv_iload_n hx hb dX2_canStandInChoice_75 rfl (lv_at hl 0 rfl) ?_
          refine zf_eq (tgt := 90) S dX2_canStandInChoice_76 (by decide) (by decide) (fun c_76 => ?_) (fun c_76 => ?_)
          · skip
            refine lv_iconst (v := nI 0) hx hb dX2_canStandInChoice_90 (by decide +kernel) ?_
            exact z_zret S hrt hlk hP hD hS (false, 1, k, h, set) rfl ⟨rfl, ⟨(by intro hb0; first | (cases hb0; done) | (unfold cst1; dsimp only; first | rw [if_pos ⟨by omega, by omega⟩, if_neg hkh] | rw [if_neg (by omega), if_neg (fun q => by omega)])), (by intro hb0; first | (cases hb0; done) | (unfold cst1; dsimp only; first | rw [if_pos ⟨by omega, by omega⟩, if_pos hkh] | (rw [if_neg (by omega), if_pos ⟨by omega, hkh⟩]; first | rw [if_pos c_119] | rw [if_neg c_119])))⟩⟩ (z_bnar false) dX2_canStandInChoice_91
          · skip
            refine lv_aload_n hx hb dX2_canStandInChoice_79 rfl (lv_at hl 1 rfl) ?_
            refine z_get S K hP hX2_canStandInChoice_X2 0 rfl rfl 4 (by decide) kX2_canStandInChoice_1 rfl rfl dX2_canStandInChoice_80 ?_
            refine lv_aload_n hx hb dX2_canStandInChoice_83 rfl (lv_at hl 1 rfl) ?_
            refine z_get S K hP hX2_canStandInChoice_X2 0 rfl rfl 3 (by decide) kX2_canStandInChoice_2 rfl rfl dX2_canStandInChoice_84 ?_
            refine zr_gt (tgt := 92) S dX2_canStandInChoice_87 (by decide) (z_toInt (by omega)) (dn_toInt (by omega)) (fun c_87 => ?_) (fun c_87 => ?_)
            · skip
              have hkh : k ≤ h := by omega
              refine lv_aload_n hx hb dX2_canStandInChoice_92 rfl (lv_at hl 1 rfl) ?_
              refine lv_dup hx hb dX2_canStandInChoice_93 rfl ?_
              refine z_get S K hP hX2_canStandInChoice_X2 0 rfl rfl 5 (by decide) kX2_canStandInChoice_3 rfl rfl dX2_canStandInChoice_94 ?_
              refine lv_iconst (v := nI 1) hx hb dX2_canStandInChoice_97 (by decide +kernel) ?_
              refine lv_aload_n hx hb dX2_canStandInChoice_98 rfl (lv_at hl 1 rfl) ?_
              refine z_get S K hP hX2_canStandInChoice_X2 0 rfl rfl 4 (by decide) kX2_canStandInChoice_1 rfl rfl dX2_canStandInChoice_99 ?_
              refine zi_shl S dX2_canStandInChoice_102 (by omega) ?_
              refine zi_or S dX2_canStandInChoice_103 ?_
              refine z_put S K hP hD hS (ty0 := tyX2) hX2_canStandInChoice_X2 tyX2_ok nmX2 0 rfl rfl 5 (by decide) kX2_canStandInChoice_3 rfl rfl rfl rfl (Nat.le_of_ble_eq_true rfl) dX2_canStandInChoice_104 (fun H locs hP hD hS => ?_)
              have hP : va_P (gD G) vwCl [(a0, .inr (2, [.ref a1, .int le, .int (nI 1), .int (dn k), .int (nI h), .int (nI (set ||| (1 <<< h)))]))] H := hP
              have hD : va_D A [(a0, .inr (2, [.ref a1, .int le, .int (nI 1), .int (dn k), .int (nI h), .int (nI (set ||| (1 <<< h)))]))] := hD
              refine lv_aload_n hx hb dX2_canStandInChoice_107 rfl (lv_at hl 1 rfl) ?_
              refine lv_aload_n hx hb dX2_canStandInChoice_108 rfl (lv_at hl 1 rfl) ?_
              refine z_get S K hP hX2_canStandInChoice_X2 0 rfl rfl 4 (by decide) kX2_canStandInChoice_1 rfl rfl dX2_canStandInChoice_109 ?_
              refine z_put S K hP hD hS (ty0 := tyX2) hX2_canStandInChoice_X2 tyX2_ok nmX2 0 rfl rfl 3 (by decide) kX2_canStandInChoice_2 rfl rfl rfl rfl (Nat.le_of_ble_eq_true rfl) dX2_canStandInChoice_112 (fun H locs hP hD hS => ?_)
              have hP : va_P (gD G) vwCl [(a0, .inr (2, [.ref a1, .int le, .int (nI 1), .int (nI h), .int (nI h), .int (nI (set ||| (1 <<< h)))]))] H := hP
              have hD : va_D A [(a0, .inr (2, [.ref a1, .int le, .int (nI 1), .int (nI h), .int (nI h), .int (nI (set ||| (1 <<< h)))]))] := hD
              refine lv_aload_n hx hb dX2_canStandInChoice_115 rfl (lv_at hl 1 rfl) ?_
              refine lv_iload_n hx hb dX2_canStandInChoice_116 rfl (lv_at hl 2 rfl) ?_
              refine lv_bipush (v := nI 43) hx hb dX2_canStandInChoice_117 (by decide +kernel) ?_
              refine zb_ne (tgt := 126) S dX2_canStandInChoice_119 (by decide) (by omega) (by decide) (fun c_119 => ?_) (fun c_119 => ?_)
              · skip
                refine lv_iconst (v := nI 2) hx hb dX2_canStandInChoice_126 (by decide +kernel) ?_
                refine z_put S K hP hD hS (ty0 := tyX2) hX2_canStandInChoice_X2 tyX2_ok nmX2 0 rfl rfl 2 (by decide) kX2_canStandInChoice_4 rfl rfl rfl rfl (Nat.le_of_ble_eq_true rfl) dX2_canStandInChoice_127 (fun H locs hP hD hS => ?_)
                have hP : va_P (gD G) vwCl [(a0, .inr (2, [.ref a1, .int le, .int (nI 2), .int (nI h), .int (nI h), .int (nI (set ||| (1 <<< h)))]))] H := hP
                have hD : va_D A [(a0, .inr (2, [.ref a1, .int le, .int (nI 2), .int (nI h), .int (nI h), .int (nI (set ||| (1 <<< h)))]))] := hD
                refine lv_iconst (v := nI 1) hx hb dX2_canStandInChoice_130 (by decide +kernel) ?_
                exact z_zret S hrt hlk hP hD hS (true, 2, h + 1, h, set ||| (1 <<< h)) rfl ⟨rfl, ⟨(by intro hb0; first | (cases hb0; done) | (unfold cst1; dsimp only; first | rw [if_pos ⟨by omega, by omega⟩, if_neg hkh] | rw [if_neg (by omega), if_neg (fun q => by omega)])), (by intro hb0; first | (cases hb0; done) | (unfold cst1; dsimp only; first | rw [if_pos ⟨by omega, by omega⟩, if_pos hkh] | (rw [if_neg (by omega), if_pos ⟨by omega, hkh⟩]; first | rw [if_pos c_119] | rw [if_neg c_119])))⟩⟩ (z_bnar true) dX2_canStandInChoice_131
              · skip
                refine lv_iconst (v := nI 0) hx hb dX2_canStandInChoice_122 (by decide +kernel) ?_
                refine lv_goto (tgt := 127) hx hb dX2_canStandInChoice_123 (by decide) ?_
                refine z_put S K hP hD hS (ty0 := tyX2) hX2_canStandInChoice_X2 tyX2_ok nmX2 0 rfl rfl 2 (by decide) kX2_canStandInChoice_4 rfl rfl rfl rfl (Nat.le_of_ble_eq_true rfl) dX2_canStandInChoice_127 (fun H locs hP hD hS => ?_)
                have hP : va_P (gD G) vwCl [(a0, .inr (2, [.ref a1, .int le, .int (nI 0), .int (nI h), .int (nI h), .int (nI (set ||| (1 <<< h)))]))] H := hP
                have hD : va_D A [(a0, .inr (2, [.ref a1, .int le, .int (nI 0), .int (nI h), .int (nI h), .int (nI (set ||| (1 <<< h)))]))] := hD
                refine lv_iconst (v := nI 1) hx hb dX2_canStandInChoice_130 (by decide +kernel) ?_
                exact z_zret S hrt hlk hP hD hS (true, 0, h + 1, h, set ||| (1 <<< h)) rfl ⟨rfl, ⟨(by intro hb0; first | (cases hb0; done) | (unfold cst1; dsimp only; first | rw [if_pos ⟨by omega, by omega⟩, if_neg hkh] | rw [if_neg (by omega), if_neg (fun q => by omega)])), (by intro hb0; first | (cases hb0; done) | (unfold cst1; dsimp only; first | rw [if_pos ⟨by omega, by omega⟩, if_pos hkh] | (rw [if_neg (by omega), if_pos ⟨by omega, hkh⟩]; first | rw [if_pos c_119] | rw [if_neg c_119])))⟩⟩ (z_bnar true) dX2_canStandInChoice_131
            · skip
              have hkh : ¬ k ≤ h := by omega
              refine lv_iconst (v := nI 0) hx hb dX2_canStandInChoice_90 (by decide +kernel) ?_
              exact z_zret S hrt hlk hP hD hS (false, 1, k, h, set) rfl ⟨rfl, ⟨(by intro hb0; first | (cases hb0; done) | (unfold cst1; dsimp only; first | rw [if_pos ⟨by omega, by omega⟩, if_neg hkh] | rw [if_neg (by omega), if_neg (fun q => by omega)])), (by intro hb0; first | (cases hb0; done) | (unfold cst1; dsimp only; first | rw [if_pos ⟨by omega, by omega⟩, if_pos hkh] | (rw [if_neg (by omega), if_pos ⟨by omega, hkh⟩]; first | rw [if_pos c_119] | rw [if_neg c_119])))⟩⟩ (z_bnar false) dX2_canStandInChoice_91
        · skip
          refine lv_iconst (v := nI 1) hx hb dX2_canStandInChoice_69 (by decide +kernel) ?_
          refine lv_goto (tgt := 74) hx hb dX2_canStandInChoice_70 (by decide) ?_
          refine lv_istore_n (lv' := [(2, .int (nI 1)), (0, .ref a0), (1, .int (nI x))]) hx hb dX2_canStandInChoice_74 rfl hl (by decide) rfl (fun ls hl => ?_)
          refine lv_iload_n hx hb dX2_canStandInChoice_75 rfl (lv_at hl 0 rfl) ?_
          refine zf_eq (tgt := 90) S dX2_canStandInChoice_76 (by decide) (by decide) (fun c_76 => ?_) (fun c_76 => ?_)
          · skip
            refine lv_iconst (v := nI 0) hx hb dX2_canStandInChoice_90 (by decide +kernel) ?_
            exact z_zret S hrt hlk hP hD hS (false, 1, k, h, set) rfl ⟨rfl, ⟨(by intro hb0; first | (cases hb0; done) | (unfold cst1; dsimp only; first | rw [if_pos ⟨by omega, by omega⟩, if_neg hkh] | rw [if_neg (by omega), if_neg (fun q => by omega)])), (by intro hb0; first | (cases hb0; done) | (unfold cst1; dsimp only; first | rw [if_pos ⟨by omega, by omega⟩, if_pos hkh] | (rw [if_neg (by omega), if_pos ⟨by omega, hkh⟩]; first | rw [if_pos c_119] | rw [if_neg c_119])))⟩⟩ (z_bnar false) dX2_canStandInChoice_91
          · skip
            refine lv_aload_n hx hb dX2_canStandInChoice_79 rfl (lv_at hl 1 rfl) ?_
            refine z_get S K hP hX2_canStandInChoice_X2 0 rfl rfl 4 (by decide) kX2_canStandInChoice_1 rfl rfl dX2_canStandInChoice_80 ?_
            refine lv_aload_n hx hb dX2_canStandInChoice_83 rfl (lv_at hl 1 rfl) ?_
            refine z_get S K hP hX2_canStandInChoice_X2 0 rfl rfl 3 (by decide) kX2_canStandInChoice_2 rfl rfl dX2_canStandInChoice_84 ?_
            refine zr_gt (tgt := 92) S dX2_canStandInChoice_87 (by decide) (z_toInt (by omega)) (dn_toInt (by omega)) (fun c_87 => ?_) (fun c_87 => ?_)
            · skip
              have hkh : k ≤ h := by omega
              refine lv_aload_n hx hb dX2_canStandInChoice_92 rfl (lv_at hl 1 rfl) ?_
              refine lv_dup hx hb dX2_canStandInChoice_93 rfl ?_
              refine z_get S K hP hX2_canStandInChoice_X2 0 rfl rfl 5 (by decide) kX2_canStandInChoice_3 rfl rfl dX2_canStandInChoice_94 ?_
              refine lv_iconst (v := nI 1) hx hb dX2_canStandInChoice_97 (by decide +kernel) ?_
              refine lv_aload_n hx hb dX2_canStandInChoice_98 rfl (lv_at hl 1 rfl) ?_
              refine z_get S K hP hX2_canStandInChoice_X2 0 rfl rfl 4 (by decide) kX2_canStandInChoice_1 rfl rfl dX2_canStandInChoice_99 ?_
              refine zi_shl S dX2_canStandInChoice_102 (by omega) ?_
              refine zi_or S dX2_canStandInChoice_103 ?_
              refine z_put S K hP hD hS (ty0 := tyX2) hX2_canStandInChoice_X2 tyX2_ok nmX2 0 rfl rfl 5 (by decide) kX2_canStandInChoice_3 rfl rfl rfl rfl (Nat.le_of_ble_eq_true rfl) dX2_canStandInChoice_104 (fun H locs hP hD hS => ?_)
              have hP : va_P (gD G) vwCl [(a0, .inr (2, [.ref a1, .int le, .int (nI 1), .int (dn k), .int (nI h), .int (nI (set ||| (1 <<< h)))]))] H := hP
              have hD : va_D A [(a0, .inr (2, [.ref a1, .int le, .int (nI 1), .int (dn k), .int (nI h), .int (nI (set ||| (1 <<< h)))]))] := hD
              refine lv_aload_n hx hb dX2_canStandInChoice_107 rfl (lv_at hl 1 rfl) ?_
              refine lv_aload_n hx hb dX2_canStandInChoice_108 rfl (lv_at hl 1 rfl) ?_
              refine z_get S K hP hX2_canStandInChoice_X2 0 rfl rfl 4 (by decide) kX2_canStandInChoice_1 rfl rfl dX2_canStandInChoice_109 ?_
              refine z_put S K hP hD hS (ty0 := tyX2) hX2_canStandInChoice_X2 tyX2_ok nmX2 0 rfl rfl 3 (by decide) kX2_canStandInChoice_2 rfl rfl rfl rfl (Nat.le_of_ble_eq_true rfl) dX2_canStandInChoice_112 (fun H locs hP hD hS => ?_)
              have hP : va_P (gD G) vwCl [(a0, .inr (2, [.ref a1, .int le, .int (nI 1), .int (nI h), .int (nI h), .int (nI (set ||| (1 <<< h)))]))] H := hP
              have hD : va_D A [(a0, .inr (2, [.ref a1, .int le, .int (nI 1), .int (nI h), .int (nI h), .int (nI (set ||| (1 <<< h)))]))] := hD
              refine lv_aload_n hx hb dX2_canStandInChoice_115 rfl (lv_at hl 1 rfl) ?_
              refine lv_iload_n hx hb dX2_canStandInChoice_116 rfl (lv_at hl 2 rfl) ?_
              refine lv_bipush (v := nI 43) hx hb dX2_canStandInChoice_117 (by decide +kernel) ?_
              refine zb_ne (tgt := 126) S dX2_canStandInChoice_119 (by decide) (by omega) (by decide) (fun c_119 => ?_) (fun c_119 => ?_)
              · skip
                refine lv_iconst (v := nI 2) hx hb dX2_canStandInChoice_126 (by decide +kernel) ?_
                refine z_put S K hP hD hS (ty0 := tyX2) hX2_canStandInChoice_X2 tyX2_ok nmX2 0 rfl rfl 2 (by decide) kX2_canStandInChoice_4 rfl rfl rfl rfl (Nat.le_of_ble_eq_true rfl) dX2_canStandInChoice_127 (fun H locs hP hD hS => ?_)
                have hP : va_P (gD G) vwCl [(a0, .inr (2, [.ref a1, .int le, .int (nI 2), .int (nI h), .int (nI h), .int (nI (set ||| (1 <<< h)))]))] H := hP
                have hD : va_D A [(a0, .inr (2, [.ref a1, .int le, .int (nI 2), .int (nI h), .int (nI h), .int (nI (set ||| (1 <<< h)))]))] := hD
                refine lv_iconst (v := nI 1) hx hb dX2_canStandInChoice_130 (by decide +kernel) ?_
                exact z_zret S hrt hlk hP hD hS (true, 2, h + 1, h, set ||| (1 <<< h)) rfl ⟨rfl, ⟨(by intro hb0; first | (cases hb0; done) | (unfold cst1; dsimp only; first | rw [if_pos ⟨by omega, by omega⟩, if_neg hkh] | rw [if_neg (by omega), if_neg (fun q => by omega)])), (by intro hb0; first | (cases hb0; done) | (unfold cst1; dsimp only; first | rw [if_pos ⟨by omega, by omega⟩, if_pos hkh] | (rw [if_neg (by omega), if_pos ⟨by omega, hkh⟩]; first | rw [if_pos c_119] | rw [if_neg c_119])))⟩⟩ (z_bnar true) dX2_canStandInChoice_131
              · skip
                refine lv_iconst (v := nI 0) hx hb dX2_canStandInChoice_122 (by decide +kernel) ?_
                refine lv_goto (tgt := 127) hx hb dX2_canStandInChoice_123 (by decide) ?_
                refine z_put S K hP hD hS (ty0 := tyX2) hX2_canStandInChoice_X2 tyX2_ok nmX2 0 rfl rfl 2 (by decide) kX2_canStandInChoice_4 rfl rfl rfl rfl (Nat.le_of_ble_eq_true rfl) dX2_canStandInChoice_127 (fun H locs hP hD hS => ?_)
                have hP : va_P (gD G) vwCl [(a0, .inr (2, [.ref a1, .int le, .int (nI 0), .int (nI h), .int (nI h), .int (nI (set ||| (1 <<< h)))]))] H := hP
                have hD : va_D A [(a0, .inr (2, [.ref a1, .int le, .int (nI 0), .int (nI h), .int (nI h), .int (nI (set ||| (1 <<< h)))]))] := hD
                refine lv_iconst (v := nI 1) hx hb dX2_canStandInChoice_130 (by decide +kernel) ?_
                exact z_zret S hrt hlk hP hD hS (true, 0, h + 1, h, set ||| (1 <<< h)) rfl ⟨rfl, ⟨(by intro hb0; first | (cases hb0; done) | (unfold cst1; dsimp only; first | rw [if_pos ⟨by omega, by omega⟩, if_neg hkh] | rw [if_neg (by omega), if_neg (fun q => by omega)])), (by intro hb0; first | (cases hb0; done) | (unfold cst1; dsimp only; first | rw [if_pos ⟨by omega, by omega⟩, if_pos hkh] | (rw [if_neg (by omega), if_pos ⟨by omega, hkh⟩]; first | rw [if_pos c_119] | rw [if_neg c_119])))⟩⟩ (z_bnar true) dX2_canStandInChoice_131
            · skip
              have hkh : ¬ k ≤ h := by omega
              refine lv_iconst (v := nI 0) hx hb dX2_canStandInChoice_90 (by decide +kernel) ?_
              exact z_zret S hrt hlk hP hD hS (false, 1, k, h, set) rfl ⟨rfl, ⟨(by intro hb0; first | (cases hb0; done) | (unfold cst1; dsimp only; first | rw [if_pos ⟨by omega, by omega⟩, if_neg hkh] | rw [if_neg (by omega), if_neg (fun q => by omega)])), (by intro hb0; first | (cases hb0; done) | (unfold cst1; dsimp only; first | rw [if_pos ⟨by omega, by omega⟩, if_pos hkh] | (rw [if_neg (by omega), if_pos ⟨by omega, hkh⟩]; first | rw [if_pos c_119] | rw [if_neg c_119])))⟩⟩ (z_bnar false) dX2_canStandInChoice_91
  · skip
    refine lv_iload_n hx hb dX2_canStandInChoice_8 rfl (lv_at hl 1 rfl) ?_
    refine lv_bipush (v := nI 48) hx hb dX2_canStandInChoice_9 (by decide +kernel) ?_
    refine zb_eq (tgt := 20) S dX2_canStandInChoice_11 (by decide) (by omega) (by decide) (fun c_11 => ?_) (fun c_11 => ?_)
    · skip
      refine lv_aload_n hx hb dX2_canStandInChoice_20 rfl (lv_at hl 0 rfl) ?_
      refine lv_bipush (v := nI 10) hx hb dX2_canStandInChoice_21 (by decide +kernel) ?_
      refine lv_iload_n hx hb dX2_canStandInChoice_23 rfl (lv_at hl 1 rfl) ?_
      refine zi_add S dX2_canStandInChoice_24 ?_
      refine lv_bipush (v := nI 48) hx hb dX2_canStandInChoice_25 (by decide +kernel) ?_
      refine zi_sub S dX2_canStandInChoice_27 (by omega) ?_
      refine z_top (y := nI (10 + x - 48)) rfl ?_
      refine z_put S K hP hD hS (ty0 := tyX2) hX2_canStandInChoice_X2 tyX2_ok nmX2 0 rfl rfl 4 (by decide) kX2_canStandInChoice_1 rfl rfl rfl rfl (Nat.le_of_ble_eq_true rfl) dX2_canStandInChoice_28 (fun H locs hP hD hS => ?_)
      have hP : va_P (gD G) vwCl [(a0, .inr (2, [.ref a1, .int le, .int (nI 1), .int (dn k), .int (nI (10 + x - 48)), .int (nI set)]))] H := hP
      have hD : va_D A [(a0, .inr (2, [.ref a1, .int le, .int (nI 1), .int (dn k), .int (nI (10 + x - 48)), .int (nI set)]))] := hD
      refine lv_aload_n hx hb dX2_canStandInChoice_31 rfl (lv_at hl 0 rfl) ?_
      refine z_get S K hP hX2_canStandInChoice_X2 0 rfl rfl 4 (by decide) kX2_canStandInChoice_1 rfl rfl dX2_canStandInChoice_32 ?_
      refine lv_aload_n hx hb dX2_canStandInChoice_35 rfl (lv_at hl 0 rfl) ?_
      refine z_get S K hP hX2_canStandInChoice_X2 0 rfl rfl 3 (by decide) kX2_canStandInChoice_2 rfl rfl dX2_canStandInChoice_36 ?_
      refine zr_le (tgt := 46) S dX2_canStandInChoice_39 (by decide) (z_toInt (by omega)) (dn_toInt (by omega)) (fun c_39 => ?_) (fun c_39 => ?_)
      · skip
        have hkh : ¬ k ≤ 10 + x - 48 := by omega
        refine lv_iconst (v := nI 0) hx hb dX2_canStandInChoice_46 (by decide +kernel) ?_
        exact z_zret S hrt hlk hP hD hS (false, 1, k, 10 + x - 48, set) rfl ⟨rfl, ⟨(by intro hb0; first | (cases hb0; done) | (unfold cst1; dsimp only; first | rw [if_pos ⟨by omega, by omega⟩, if_neg hkh] | rw [if_neg (by omega), if_neg (fun q => by omega)])), (by intro hb0; first | (cases hb0; done) | (unfold cst1; dsimp only; first | rw [if_pos ⟨by omega, by omega⟩, if_pos hkh] | (rw [if_neg (by omega), if_pos ⟨by omega, hkh⟩]; first | rw [if_pos c_119] | rw [if_neg c_119])))⟩⟩ (z_bnar false) dX2_canStandInChoice_47
      · skip
        have hkh : k ≤ 10 + x - 48 := by omega
        refine lv_iconst (v := nI 1) hx hb dX2_canStandInChoice_42 (by decide +kernel) ?_
        refine lv_goto (tgt := 47) hx hb dX2_canStandInChoice_43 (by decide) ?_
        exact z_zret S hrt hlk hP hD hS (true, 1, k, 10 + x - 48, set) rfl ⟨rfl, ⟨(by intro hb0; first | (cases hb0; done) | (unfold cst1; dsimp only; first | rw [if_pos ⟨by omega, by omega⟩, if_neg hkh] | rw [if_neg (by omega), if_neg (fun q => by omega)])), (by intro hb0; first | (cases hb0; done) | (unfold cst1; dsimp only; first | rw [if_pos ⟨by omega, by omega⟩, if_pos hkh] | (rw [if_neg (by omega), if_pos ⟨by omega, hkh⟩]; first | rw [if_pos c_119] | rw [if_neg c_119])))⟩⟩ (z_bnar true) dX2_canStandInChoice_47
    · skip
      refine lv_iload_n hx hb dX2_canStandInChoice_14 rfl (lv_at hl 1 rfl) ?_
      refine lv_bipush (v := nI 49) hx hb dX2_canStandInChoice_15 (by decide +kernel) ?_
      refine zb_ne (tgt := 48) S dX2_canStandInChoice_17 (by decide) (by omega) (by decide) (fun c_17 => ?_) (fun c_17 => ?_)
      · skip
        refine lv_iload_n hx hb dX2_canStandInChoice_48 rfl (lv_at hl 1 rfl) ?_
        refine lv_bipush (v := nI 61) hx hb dX2_canStandInChoice_49 (by decide +kernel) ?_
        refine zb_eq (tgt := 69) S dX2_canStandInChoice_51 (by decide) (by omega) (by decide) (fun c_51 => ?_) (fun c_51 => ?_)
        · skip
          refine lv_iconst (v := nI 1) hx hb dX2_canStandInChoice_69 (by decide +kernel) ?_
          refine lv_goto (tgt := 74) hx hb dX2_canStandInChoice_70 (by decide) ?_
          refine lv_istore_n (lv' := [(2, .int (nI 1)), (0, .ref a0), (1, .int (nI x))]) hx hb dX2_canStandInChoice_74 rfl hl (by decide) rfl (fun ls hl => ?_)
          refine lv_iload_n hx hb dX2_canStandInChoice_75 rfl (lv_at hl 0 rfl) ?_
          refine zf_eq (tgt := 90) S dX2_canStandInChoice_76 (by decide) (by decide) (fun c_76 => ?_) (fun c_76 => ?_)
          · skip
            refine lv_iconst (v := nI 0) hx hb dX2_canStandInChoice_90 (by decide +kernel) ?_
            exact z_zret S hrt hlk hP hD hS (false, 1, k, h, set) rfl ⟨rfl, ⟨(by intro hb0; first | (cases hb0; done) | (unfold cst1; dsimp only; first | rw [if_pos ⟨by omega, by omega⟩, if_neg hkh] | rw [if_neg (by omega), if_neg (fun q => by omega)])), (by intro hb0; first | (cases hb0; done) | (unfold cst1; dsimp only; first | rw [if_pos ⟨by omega, by omega⟩, if_pos hkh] | (rw [if_neg (by omega), if_pos ⟨by omega, hkh⟩]; first | rw [if_pos c_119] | rw [if_neg c_119])))⟩⟩ (z_bnar false) dX2_canStandInChoice_91
          · skip
            refine lv_aload_n hx hb dX2_canStandInChoice_79 rfl (lv_at hl 1 rfl) ?_
            refine z_get S K hP hX2_canStandInChoice_X2 0 rfl rfl 4 (by decide) kX2_canStandInChoice_1 rfl rfl dX2_canStandInChoice_80 ?_
            refine lv_aload_n hx hb dX2_canStandInChoice_83 rfl (lv_at hl 1 rfl) ?_
            refine z_get S K hP hX2_canStandInChoice_X2 0 rfl rfl 3 (by decide) kX2_canStandInChoice_2 rfl rfl dX2_canStandInChoice_84 ?_
            refine zr_gt (tgt := 92) S dX2_canStandInChoice_87 (by decide) (z_toInt (by omega)) (dn_toInt (by omega)) (fun c_87 => ?_) (fun c_87 => ?_)
            · skip
              have hkh : k ≤ h := by omega
              refine lv_aload_n hx hb dX2_canStandInChoice_92 rfl (lv_at hl 1 rfl) ?_
              refine lv_dup hx hb dX2_canStandInChoice_93 rfl ?_
              refine z_get S K hP hX2_canStandInChoice_X2 0 rfl rfl 5 (by decide) kX2_canStandInChoice_3 rfl rfl dX2_canStandInChoice_94 ?_
              refine lv_iconst (v := nI 1) hx hb dX2_canStandInChoice_97 (by decide +kernel) ?_
              refine lv_aload_n hx hb dX2_canStandInChoice_98 rfl (lv_at hl 1 rfl) ?_
              refine z_get S K hP hX2_canStandInChoice_X2 0 rfl rfl 4 (by decide) kX2_canStandInChoice_1 rfl rfl dX2_canStandInChoice_99 ?_
              refine zi_shl S dX2_canStandInChoice_102 (by omega) ?_
              refine zi_or S dX2_canStandInChoice_103 ?_
              refine z_put S K hP hD hS (ty0 := tyX2) hX2_canStandInChoice_X2 tyX2_ok nmX2 0 rfl rfl 5 (by decide) kX2_canStandInChoice_3 rfl rfl rfl rfl (Nat.le_of_ble_eq_true rfl) dX2_canStandInChoice_104 (fun H locs hP hD hS => ?_)
              have hP : va_P (gD G) vwCl [(a0, .inr (2, [.ref a1, .int le, .int (nI 1), .int (dn k), .int (nI h), .int (nI (set ||| (1 <<< h)))]))] H := hP
              have hD : va_D A [(a0, .inr (2, [.ref a1, .int le, .int (nI 1), .int (dn k), .int (nI h), .int (nI (set ||| (1 <<< h)))]))] := hD
              refine lv_aload_n hx hb dX2_canStandInChoice_107 rfl (lv_at hl 1 rfl) ?_
              refine lv_aload_n hx hb dX2_canStandInChoice_108 rfl (lv_at hl 1 rfl) ?_
              refine z_get S K hP hX2_canStandInChoice_X2 0 rfl rfl 4 (by decide) kX2_canStandInChoice_1 rfl rfl dX2_canStandInChoice_109 ?_
              refine z_put S K hP hD hS (ty0 := tyX2) hX2_canStandInChoice_X2 tyX2_ok nmX2 0 rfl rfl 3 (by decide) kX2_canStandInChoice_2 rfl rfl rfl rfl (Nat.le_of_ble_eq_true rfl) dX2_canStandInChoice_112 (fun H locs hP hD hS => ?_)
              have hP : va_P (gD G) vwCl [(a0, .inr (2, [.ref a1, .int le, .int (nI 1), .int (nI h), .int (nI h), .int (nI (set ||| (1 <<< h)))]))] H := hP
              have hD : va_D A [(a0, .inr (2, [.ref a1, .int le, .int (nI 1), .int (nI h), .int (nI h), .int (nI (set ||| (1 <<< h)))]))] := hD
              refine lv_aload_n hx hb dX2_canStandInChoice_115 rfl (lv_at hl 1 rfl) ?_
              refine lv_iload_n hx hb dX2_canStandInChoice_116 rfl (lv_at hl 2 rfl) ?_
              refine lv_bipush (v := nI 43) hx hb dX2_canStandInChoice_117 (by decide +kernel) ?_
              refine zb_ne (tgt := 126) S dX2_canStandInChoice_119 (by decide) (by omega) (by decide) (fun c_119 => ?_) (fun c_119 => ?_)
              · skip
                refine lv_iconst (v := nI 2) hx hb dX2_canStandInChoice_126 (by decide +kernel) ?_
                refine z_put S K hP hD hS (ty0 := tyX2) hX2_canStandInChoice_X2 tyX2_ok nmX2 0 rfl rfl 2 (by decide) kX2_canStandInChoice_4 rfl rfl rfl rfl (Nat.le_of_ble_eq_true rfl) dX2_canStandInChoice_127 (fun H locs hP hD hS => ?_)
                have hP : va_P (gD G) vwCl [(a0, .inr (2, [.ref a1, .int le, .int (nI 2), .int (nI h), .int (nI h), .int (nI (set ||| (1 <<< h)))]))] H := hP
                have hD : va_D A [(a0, .inr (2, [.ref a1, .int le, .int (nI 2), .int (nI h), .int (nI h), .int (nI (set ||| (1 <<< h)))]))] := hD
                refine lv_iconst (v := nI 1) hx hb dX2_canStandInChoice_130 (by decide +kernel) ?_
                exact z_zret S hrt hlk hP hD hS (true, 2, h + 1, h, set ||| (1 <<< h)) rfl ⟨rfl, ⟨(by intro hb0; first | (cases hb0; done) | (unfold cst1; dsimp only; first | rw [if_pos ⟨by omega, by omega⟩, if_neg hkh] | rw [if_neg (by omega), if_neg (fun q => by omega)])), (by intro hb0; first | (cases hb0; done) | (unfold cst1; dsimp only; first | rw [if_pos ⟨by omega, by omega⟩, if_pos hkh] | (rw [if_neg (by omega), if_pos ⟨by omega, hkh⟩]; first | rw [if_pos c_119] | rw [if_neg c_119])))⟩⟩ (z_bnar true) dX2_canStandInChoice_131
              · skip
                refine lv_iconst (v := nI 0) hx hb dX2_canStandInChoice_122 (by decide +kernel) ?_
                refine lv_goto (tgt := 127) hx hb dX2_canStandInChoice_123 (by decide) ?_
                refine z_put S K hP hD hS (ty0 := tyX2) hX2_canStandInChoice_X2 tyX2_ok nmX2 0 rfl rfl 2 (by decide) kX2_canStandInChoice_4 rfl rfl rfl rfl (Nat.le_of_ble_eq_true rfl) dX2_canStandInChoice_127 (fun H locs hP hD hS => ?_)
                have hP : va_P (gD G) vwCl [(a0, .inr (2, [.ref a1, .int le, .int (nI 0), .int (nI h), .int (nI h), .int (nI (set ||| (1 <<< h)))]))] H := hP
                have hD : va_D A [(a0, .inr (2, [.ref a1, .int le, .int (nI 0), .int (nI h), .int (nI h), .int (nI (set ||| (1 <<< h)))]))] := hD
                refine lv_iconst (v := nI 1) hx hb dX2_canStandInChoice_130 (by decide +kernel) ?_
                exact z_zret S hrt hlk hP hD hS (true, 0, h + 1, h, set ||| (1 <<< h)) rfl ⟨rfl, ⟨(by intro hb0; first | (cases hb0; done) | (unfold cst1; dsimp only; first | rw [if_pos ⟨by omega, by omega⟩, if_neg hkh] | rw [if_neg (by omega), if_neg (fun q => by omega)])), (by intro hb0; first | (cases hb0; done) | (unfold cst1; dsimp only; first | rw [if_pos ⟨by omega, by omega⟩, if_pos hkh] | (rw [if_neg (by omega), if_pos ⟨by omega, hkh⟩]; first | rw [if_pos c_119] | rw [if_neg c_119])))⟩⟩ (z_bnar true) dX2_canStandInChoice_131
            · skip
              have hkh : ¬ k ≤ h := by omega
              refine lv_iconst (v := nI 0) hx hb dX2_canStandInChoice_90 (by decide +kernel) ?_
              exact z_zret S hrt hlk hP hD hS (false, 1, k, h, set) rfl ⟨rfl, ⟨(by intro hb0; first | (cases hb0; done) | (unfold cst1; dsimp only; first | rw [if_pos ⟨by omega, by omega⟩, if_neg hkh] | rw [if_neg (by omega), if_neg (fun q => by omega)])), (by intro hb0; first | (cases hb0; done) | (unfold cst1; dsimp only; first | rw [if_pos ⟨by omega, by omega⟩, if_pos hkh] | (rw [if_neg (by omega), if_pos ⟨by omega, hkh⟩]; first | rw [if_pos c_119] | rw [if_neg c_119])))⟩⟩ (z_bnar false) dX2_canStandInChoice_91
        · skip
          refine lv_iload_n hx hb dX2_canStandInChoice_54 rfl (lv_at hl 1 rfl) ?_
          refine lv_bipush (v := nI 43) hx hb dX2_canStandInChoice_55 (by decide +kernel) ?_
          refine zb_ne (tgt := 73) S dX2_canStandInChoice_57 (by decide) (by omega) (by decide) (fun c_57 => ?_) (fun c_57 => ?_)
          · skip
            refine lv_iconst (v := nI 0) hx hb dX2_canStandInChoice_73 (by decide +kernel) ?_
            refine lv_istore_n (lv' := [(2, .int (nI 0)), (0, .ref a0), (1, .int (nI x))]) hx hb dX2_canStandInChoice_74 rfl hl (by decide) rfl (fun ls hl => ?_)
            refine lv_iload_n hx hb dX2_canStandInChoice_75 rfl (lv_at hl 0 rfl) ?_
            refine zf_eq (tgt := 90) S dX2_canStandInChoice_76 (by decide) (by decide) (fun c_76 => ?_) (fun c_76 => ?_)
            · skip
              refine lv_iconst (v := nI 0) hx hb dX2_canStandInChoice_90 (by decide +kernel) ?_
              exact z_zret S hrt hlk hP hD hS (false, 1, k, h, set) rfl ⟨rfl, ⟨(by intro hb0; first | (cases hb0; done) | (unfold cst1; dsimp only; first | rw [if_pos ⟨by omega, by omega⟩, if_neg hkh] | rw [if_neg (by omega), if_neg (fun q => by omega)])), (by intro hb0; first | (cases hb0; done) | (unfold cst1; dsimp only; first | rw [if_pos ⟨by omega, by omega⟩, if_pos hkh] | (rw [if_neg (by omega), if_pos ⟨by omega, hkh⟩]; first | rw [if_pos c_119] | rw [if_neg c_119])))⟩⟩ (z_bnar false) dX2_canStandInChoice_91
            · skip
              refine lv_aload_n hx hb dX2_canStandInChoice_79 rfl (lv_at hl 1 rfl) ?_
              refine z_get S K hP hX2_canStandInChoice_X2 0 rfl rfl 4 (by decide) kX2_canStandInChoice_1 rfl rfl dX2_canStandInChoice_80 ?_
              refine lv_aload_n hx hb dX2_canStandInChoice_83 rfl (lv_at hl 1 rfl) ?_
              refine z_get S K hP hX2_canStandInChoice_X2 0 rfl rfl 3 (by decide) kX2_canStandInChoice_2 rfl rfl dX2_canStandInChoice_84 ?_
              refine zr_gt (tgt := 92) S dX2_canStandInChoice_87 (by decide) (z_toInt (by omega)) (dn_toInt (by omega)) (fun c_87 => ?_) (fun c_87 => ?_)
              · skip
                have hkh : k ≤ h := by omega
                refine lv_aload_n hx hb dX2_canStandInChoice_92 rfl (lv_at hl 1 rfl) ?_
                refine lv_dup hx hb dX2_canStandInChoice_93 rfl ?_
                refine z_get S K hP hX2_canStandInChoice_X2 0 rfl rfl 5 (by decide) kX2_canStandInChoice_3 rfl rfl dX2_canStandInChoice_94 ?_
                refine lv_iconst (v := nI 1) hx hb dX2_canStandInChoice_97 (by decide +kernel) ?_
                refine lv_aload_n hx hb dX2_canStandInChoice_98 rfl (lv_at hl 1 rfl) ?_
                refine z_get S K hP hX2_canStandInChoice_X2 0 rfl rfl 4 (by decide) kX2_canStandInChoice_1 rfl rfl dX2_canStandInChoice_99 ?_
                refine zi_shl S dX2_canStandInChoice_102 (by omega) ?_
                refine zi_or S dX2_canStandInChoice_103 ?_
                refine z_put S K hP hD hS (ty0 := tyX2) hX2_canStandInChoice_X2 tyX2_ok nmX2 0 rfl rfl 5 (by decide) kX2_canStandInChoice_3 rfl rfl rfl rfl (Nat.le_of_ble_eq_true rfl) dX2_canStandInChoice_104 (fun H locs hP hD hS => ?_)
                have hP : va_P (gD G) vwCl [(a0, .inr (2, [.ref a1, .int le, .int (nI 1), .int (dn k), .int (nI h), .int (nI (set ||| (1 <<< h)))]))] H := hP
                have hD : va_D A [(a0, .inr (2, [.ref a1, .int le, .int (nI 1), .int (dn k), .int (nI h), .int (nI (set ||| (1 <<< h)))]))] := hD
                refine lv_aload_n hx hb dX2_canStandInChoice_107 rfl (lv_at hl 1 rfl) ?_
                refine lv_aload_n hx hb dX2_canStandInChoice_108 rfl (lv_at hl 1 rfl) ?_
                refine z_get S K hP hX2_canStandInChoice_X2 0 rfl rfl 4 (by decide) kX2_canStandInChoice_1 rfl rfl dX2_canStandInChoice_109 ?_
                refine z_put S K hP hD hS (ty0 := tyX2) hX2_canStandInChoice_X2 tyX2_ok nmX2 0 rfl rfl 3 (by decide) kX2_canStandInChoice_2 rfl rfl rfl rfl (Nat.le_of_ble_eq_true rfl) dX2_canStandInChoice_112 (fun H locs hP hD hS => ?_)
                have hP : va_P (gD G) vwCl [(a0, .inr (2, [.ref a1, .int le, .int (nI 1), .int (nI h), .int (nI h), .int (nI (set ||| (1 <<< h)))]))] H := hP
                have hD : va_D A [(a0, .inr (2, [.ref a1, .int le, .int (nI 1), .int (nI h), .int (nI h), .int (nI (set ||| (1 <<< h)))]))] := hD
                refine lv_aload_n hx hb dX2_canStandInChoice_115 rfl (lv_at hl 1 rfl) ?_
                refine lv_iload_n hx hb dX2_canStandInChoice_116 rfl (lv_at hl 2 rfl) ?_
                refine lv_bipush (v := nI 43) hx hb dX2_canStandInChoice_117 (by decide +kernel) ?_
                refine zb_ne (tgt := 126) S dX2_canStandInChoice_119 (by decide) (by omega) (by decide) (fun c_119 => ?_) (fun c_119 => ?_)
                · skip
                  refine lv_iconst (v := nI 2) hx hb dX2_canStandInChoice_126 (by decide +kernel) ?_
                  refine z_put S K hP hD hS (ty0 := tyX2) hX2_canStandInChoice_X2 tyX2_ok nmX2 0 rfl rfl 2 (by decide) kX2_canStandInChoice_4 rfl rfl rfl rfl (Nat.le_of_ble_eq_true rfl) dX2_canStandInChoice_127 (fun H locs hP hD hS => ?_)
                  have hP : va_P (gD G) vwCl [(a0, .inr (2, [.ref a1, .int le, .int (nI 2), .int (nI h), .int (nI h), .int (nI (set ||| (1 <<< h)))]))] H := hP
                  have hD : va_D A [(a0, .inr (2, [.ref a1, .int le, .int (nI 2), .int (nI h), .int (nI h), .int (nI (set ||| (1 <<< h)))]))] := hD
                  refine lv_iconst (v := nI 1) hx hb dX2_canStandInChoice_130 (by decide +kernel) ?_
                  exact z_zret S hrt hlk hP hD hS (true, 2, h + 1, h, set ||| (1 <<< h)) rfl ⟨rfl, ⟨(by intro hb0; first | (cases hb0; done) | (unfold cst1; dsimp only; first | rw [if_pos ⟨by omega, by omega⟩, if_neg hkh] | rw [if_neg (by omega), if_neg (fun q => by omega)])), (by intro hb0; first | (cases hb0; done) | (unfold cst1; dsimp only; first | rw [if_pos ⟨by omega, by omega⟩, if_pos hkh] | (rw [if_neg (by omega), if_pos ⟨by omega, hkh⟩]; first | rw [if_pos c_119] | rw [if_neg c_119])))⟩⟩ (z_bnar true) dX2_canStandInChoice_131
                · skip
                  refine lv_iconst (v := nI 0) hx hb dX2_canStandInChoice_122 (by decide +kernel) ?_
                  refine lv_goto (tgt := 127) hx hb dX2_canStandInChoice_123 (by decide) ?_
                  refine z_put S K hP hD hS (ty0 := tyX2) hX2_canStandInChoice_X2 tyX2_ok nmX2 0 rfl rfl 2 (by decide) kX2_canStandInChoice_4 rfl rfl rfl rfl (Nat.le_of_ble_eq_true rfl) dX2_canStandInChoice_127 (fun H locs hP hD hS => ?_)
                  have hP : va_P (gD G) vwCl [(a0, .inr (2, [.ref a1, .int le, .int (nI 0), .int (nI h), .int (nI h), .int (nI (set ||| (1 <<< h)))]))] H := hP
                  have hD : va_D A [(a0, .inr (2, [.ref a1, .int le, .int (nI 0), .int (nI h), .int (nI h), .int (nI (set ||| (1 <<< h)))]))] := hD
                  refine lv_iconst (v := nI 1) hx hb dX2_canStandInChoice_130 (by decide +kernel) ?_
                  exact z_zret S hrt hlk hP hD hS (true, 0, h + 1, h, set ||| (1 <<< h)) rfl ⟨rfl, ⟨(by intro hb0; first | (cases hb0; done) | (unfold cst1; dsimp only; first | rw [if_pos ⟨by omega, by omega⟩, if_neg hkh] | rw [if_neg (by omega), if_neg (fun q => by omega)])), (by intro hb0; first | (cases hb0; done) | (unfold cst1; dsimp only; first | rw [if_pos ⟨by omega, by omega⟩, if_pos hkh] | (rw [if_neg (by omega), if_pos ⟨by omega, hkh⟩]; first | rw [if_pos c_119] | rw [if_neg c_119])))⟩⟩ (z_bnar true) dX2_canStandInChoice_131
              · skip
                have hkh : ¬ k ≤ h := by omega
                refine lv_iconst (v := nI 0) hx hb dX2_canStandInChoice_90 (by decide +kernel) ?_
                exact z_zret S hrt hlk hP hD hS (false, 1, k, h, set) rfl ⟨rfl, ⟨(by intro hb0; first | (cases hb0; done) | (unfold cst1; dsimp only; first | rw [if_pos ⟨by omega, by omega⟩, if_neg hkh] | rw [if_neg (by omega), if_neg (fun q => by omega)])), (by intro hb0; first | (cases hb0; done) | (unfold cst1; dsimp only; first | rw [if_pos ⟨by omega, by omega⟩, if_pos hkh] | (rw [if_neg (by omega), if_pos ⟨by omega, hkh⟩]; first | rw [if_pos c_119] | rw [if_neg c_119])))⟩⟩ (z_bnar false) dX2_canStandInChoice_91
          · skip
            refine lv_aload_n hx hb dX2_canStandInChoice_60 rfl (lv_at hl 0 rfl) ?_
            refine z_get S K hP hX2_canStandInChoice_X2 0 rfl rfl 4 (by decide) kX2_canStandInChoice_1 rfl rfl dX2_canStandInChoice_61 ?_
            refine lv_bipush (v := nI 11) hx hb dX2_canStandInChoice_64 (by decide +kernel) ?_
            refine zb_ge (tgt := 73) S dX2_canStandInChoice_66 (by decide) (by omega) (by decide) (fun c_66 => ?_) (fun c_66 => ?_)
            · skip
              refine lv_iconst (v := nI 0) hx hb dX2_canStandInChoice_73 (by decide +kernel) ?_
              refine lv_istore_n (lv' := [(2, .int (nI 0)), (0, .ref a0), (1, .int (nI x))]) hx hb dX2_canStandInChoice_74 rfl hl (by decide) rfl (fun ls hl => ?_)
              refine lv_iload_n hx hb dX2_canStandInChoice_75 rfl (lv_at hl 0 rfl) ?_
              refine zf_eq (tgt := 90) S dX2_canStandInChoice_76 (by decide) (by decide) (fun c_76 => ?_) (fun c_76 => ?_)
              · skip
                refine lv_iconst (v := nI 0) hx hb dX2_canStandInChoice_90 (by decide +kernel) ?_
                exact z_zret S hrt hlk hP hD hS (false, 1, k, h, set) rfl ⟨rfl, ⟨(by intro hb0; first | (cases hb0; done) | (unfold cst1; dsimp only; first | rw [if_pos ⟨by omega, by omega⟩, if_neg hkh] | rw [if_neg (by omega), if_neg (fun q => by omega)])), (by intro hb0; first | (cases hb0; done) | (unfold cst1; dsimp only; first | rw [if_pos ⟨by omega, by omega⟩, if_pos hkh] | (rw [if_neg (by omega), if_pos ⟨by omega, hkh⟩]; first | rw [if_pos c_119] | rw [if_neg c_119])))⟩⟩ (z_bnar false) dX2_canStandInChoice_91
              · skip
                refine lv_aload_n hx hb dX2_canStandInChoice_79 rfl (lv_at hl 1 rfl) ?_
                refine z_get S K hP hX2_canStandInChoice_X2 0 rfl rfl 4 (by decide) kX2_canStandInChoice_1 rfl rfl dX2_canStandInChoice_80 ?_
                refine lv_aload_n hx hb dX2_canStandInChoice_83 rfl (lv_at hl 1 rfl) ?_
                refine z_get S K hP hX2_canStandInChoice_X2 0 rfl rfl 3 (by decide) kX2_canStandInChoice_2 rfl rfl dX2_canStandInChoice_84 ?_
                refine zr_gt (tgt := 92) S dX2_canStandInChoice_87 (by decide) (z_toInt (by omega)) (dn_toInt (by omega)) (fun c_87 => ?_) (fun c_87 => ?_)
                · skip
                  have hkh : k ≤ h := by omega
                  refine lv_aload_n hx hb dX2_canStandInChoice_92 rfl (lv_at hl 1 rfl) ?_
                  refine lv_dup hx hb dX2_canStandInChoice_93 rfl ?_
                  refine z_get S K hP hX2_canStandInChoice_X2 0 rfl rfl 5 (by decide) kX2_canStandInChoice_3 rfl rfl dX2_canStandInChoice_94 ?_
                  refine lv_iconst (v := nI 1) hx hb dX2_canStandInChoice_97 (by decide +kernel) ?_
                  refine lv_aload_n hx hb dX2_canStandInChoice_98 rfl (lv_at hl 1 rfl) ?_
                  refine z_get S K hP hX2_canStandInChoice_X2 0 rfl rfl 4 (by decide) kX2_canStandInChoice_1 rfl rfl dX2_canStandInChoice_99 ?_
                  refine zi_shl S dX2_canStandInChoice_102 (by omega) ?_
                  refine zi_or S dX2_canStandInChoice_103 ?_
                  refine z_put S K hP hD hS (ty0 := tyX2) hX2_canStandInChoice_X2 tyX2_ok nmX2 0 rfl rfl 5 (by decide) kX2_canStandInChoice_3 rfl rfl rfl rfl (Nat.le_of_ble_eq_true rfl) dX2_canStandInChoice_104 (fun H locs hP hD hS => ?_)
                  have hP : va_P (gD G) vwCl [(a0, .inr (2, [.ref a1, .int le, .int (nI 1), .int (dn k), .int (nI h), .int (nI (set ||| (1 <<< h)))]))] H := hP
                  have hD : va_D A [(a0, .inr (2, [.ref a1, .int le, .int (nI 1), .int (dn k), .int (nI h), .int (nI (set ||| (1 <<< h)))]))] := hD
                  refine lv_aload_n hx hb dX2_canStandInChoice_107 rfl (lv_at hl 1 rfl) ?_
                  refine lv_aload_n hx hb dX2_canStandInChoice_108 rfl (lv_at hl 1 rfl) ?_
                  refine z_get S K hP hX2_canStandInChoice_X2 0 rfl rfl 4 (by decide) kX2_canStandInChoice_1 rfl rfl dX2_canStandInChoice_109 ?_
                  refine z_put S K hP hD hS (ty0 := tyX2) hX2_canStandInChoice_X2 tyX2_ok nmX2 0 rfl rfl 3 (by decide) kX2_canStandInChoice_2 rfl rfl rfl rfl (Nat.le_of_ble_eq_true rfl) dX2_canStandInChoice_112 (fun H locs hP hD hS => ?_)
                  have hP : va_P (gD G) vwCl [(a0, .inr (2, [.ref a1, .int le, .int (nI 1), .int (nI h), .int (nI h), .int (nI (set ||| (1 <<< h)))]))] H := hP
                  have hD : va_D A [(a0, .inr (2, [.ref a1, .int le, .int (nI 1), .int (nI h), .int (nI h), .int (nI (set ||| (1 <<< h)))]))] := hD
                  refine lv_aload_n hx hb dX2_canStandInChoice_115 rfl (lv_at hl 1 rfl) ?_
                  refine lv_iload_n hx hb dX2_canStandInChoice_116 rfl (lv_at hl 2 rfl) ?_
                  refine lv_bipush (v := nI 43) hx hb dX2_canStandInChoice_117 (by decide +kernel) ?_
                  refine zb_ne (tgt := 126) S dX2_canStandInChoice_119 (by decide) (by omega) (by decide) (fun c_119 => ?_) (fun c_119 => ?_)
                  · skip
                    refine lv_iconst (v := nI 2) hx hb dX2_canStandInChoice_126 (by decide +kernel) ?_
                    refine z_put S K hP hD hS (ty0 := tyX2) hX2_canStandInChoice_X2 tyX2_ok nmX2 0 rfl rfl 2 (by decide) kX2_canStandInChoice_4 rfl rfl rfl rfl (Nat.le_of_ble_eq_true rfl) dX2_canStandInChoice_127 (fun H locs hP hD hS => ?_)
                    have hP : va_P (gD G) vwCl [(a0, .inr (2, [.ref a1, .int le, .int (nI 2), .int (nI h), .int (nI h), .int (nI (set ||| (1 <<< h)))]))] H := hP
                    have hD : va_D A [(a0, .inr (2, [.ref a1, .int le, .int (nI 2), .int (nI h), .int (nI h), .int (nI (set ||| (1 <<< h)))]))] := hD
                    refine lv_iconst (v := nI 1) hx hb dX2_canStandInChoice_130 (by decide +kernel) ?_
                    exact z_zret S hrt hlk hP hD hS (true, 2, h + 1, h, set ||| (1 <<< h)) rfl ⟨rfl, ⟨(by intro hb0; first | (cases hb0; done) | (unfold cst1; dsimp only; first | rw [if_pos ⟨by omega, by omega⟩, if_neg hkh] | rw [if_neg (by omega), if_neg (fun q => by omega)])), (by intro hb0; first | (cases hb0; done) | (unfold cst1; dsimp only; first | rw [if_pos ⟨by omega, by omega⟩, if_pos hkh] | (rw [if_neg (by omega), if_pos ⟨by omega, hkh⟩]; first | rw [if_pos c_119] | rw [if_neg c_119])))⟩⟩ (z_bnar true) dX2_canStandInChoice_131
                  · skip
                    refine lv_iconst (v := nI 0) hx hb dX2_canStandInChoice_122 (by decide +kernel) ?_
                    refine lv_goto (tgt := 127) hx hb dX2_canStandInChoice_123 (by decide) ?_
                    refine z_put S K hP hD hS (ty0 := tyX2) hX2_canStandInChoice_X2 tyX2_ok nmX2 0 rfl rfl 2 (by decide) kX2_canStandInChoice_4 rfl rfl rfl rfl (Nat.le_of_ble_eq_true rfl) dX2_canStandInChoice_127 (fun H locs hP hD hS => ?_)
                    have hP : va_P (gD G) vwCl [(a0, .inr (2, [.ref a1, .int le, .int (nI 0), .int (nI h), .int (nI h), .int (nI (set ||| (1 <<< h)))]))] H := hP
                    have hD : va_D A [(a0, .inr (2, [.ref a1, .int le, .int (nI 0), .int (nI h), .int (nI h), .int (nI (set ||| (1 <<< h)))]))] := hD
                    refine lv_iconst (v := nI 1) hx hb dX2_canStandInChoice_130 (by decide +kernel) ?_
                    exact z_zret S hrt hlk hP hD hS (true, 0, h + 1, h, set ||| (1 <<< h)) rfl ⟨rfl, ⟨(by intro hb0; first | (cases hb0; done) | (unfold cst1; dsimp only; first | rw [if_pos ⟨by omega, by omega⟩, if_neg hkh] | rw [if_neg (by omega), if_neg (fun q => by omega)])), (by intro hb0; first | (cases hb0; done) | (unfold cst1; dsimp only; first | rw [if_pos ⟨by omega, by omega⟩, if_pos hkh] | (rw [if_neg (by omega), if_pos ⟨by omega, hkh⟩]; first | rw [if_pos c_119] | rw [if_neg c_119])))⟩⟩ (z_bnar true) dX2_canStandInChoice_131
                · skip
                  have hkh : ¬ k ≤ h := by omega
                  refine lv_iconst (v := nI 0) hx hb dX2_canStandInChoice_90 (by decide +kernel) ?_
                  exact z_zret S hrt hlk hP hD hS (false, 1, k, h, set) rfl ⟨rfl, ⟨(by intro hb0; first | (cases hb0; done) | (unfold cst1; dsimp only; first | rw [if_pos ⟨by omega, by omega⟩, if_neg hkh] | rw [if_neg (by omega), if_neg (fun q => by omega)])), (by intro hb0; first | (cases hb0; done) | (unfold cst1; dsimp only; first | rw [if_pos ⟨by omega, by omega⟩, if_pos hkh] | (rw [if_neg (by omega), if_pos ⟨by omega, hkh⟩]; first | rw [if_pos c_119] | rw [if_neg c_119])))⟩⟩ (z_bnar false) dX2_canStandInChoice_91
            · skip
              refine lv_iconst (v := nI 1) hx hb dX2_canStandInChoice_69 (by decide +kernel) ?_
              refine lv_goto (tgt := 74) hx hb dX2_canStandInChoice_70 (by decide) ?_
              refine lv_istore_n (lv' := [(2, .int (nI 1)), (0, .ref a0), (1, .int (nI x))]) hx hb dX2_canStandInChoice_74 rfl hl (by decide) rfl (fun ls hl => ?_)
              refine lv_iload_n hx hb dX2_canStandInChoice_75 rfl (lv_at hl 0 rfl) ?_
              refine zf_eq (tgt := 90) S dX2_canStandInChoice_76 (by decide) (by decide) (fun c_76 => ?_) (fun c_76 => ?_)
              · skip
                refine lv_iconst (v := nI 0) hx hb dX2_canStandInChoice_90 (by decide +kernel) ?_
                exact z_zret S hrt hlk hP hD hS (false, 1, k, h, set) rfl ⟨rfl, ⟨(by intro hb0; first | (cases hb0; done) | (unfold cst1; dsimp only; first | rw [if_pos ⟨by omega, by omega⟩, if_neg hkh] | rw [if_neg (by omega), if_neg (fun q => by omega)])), (by intro hb0; first | (cases hb0; done) | (unfold cst1; dsimp only; first | rw [if_pos ⟨by omega, by omega⟩, if_pos hkh] | (rw [if_neg (by omega), if_pos ⟨by omega, hkh⟩]; first | rw [if_pos c_119] | rw [if_neg c_119])))⟩⟩ (z_bnar false) dX2_canStandInChoice_91
              · skip
                refine lv_aload_n hx hb dX2_canStandInChoice_79 rfl (lv_at hl 1 rfl) ?_
                refine z_get S K hP hX2_canStandInChoice_X2 0 rfl rfl 4 (by decide) kX2_canStandInChoice_1 rfl rfl dX2_canStandInChoice_80 ?_
                refine lv_aload_n hx hb dX2_canStandInChoice_83 rfl (lv_at hl 1 rfl) ?_
                refine z_get S K hP hX2_canStandInChoice_X2 0 rfl rfl 3 (by decide) kX2_canStandInChoice_2 rfl rfl dX2_canStandInChoice_84 ?_
                refine zr_gt (tgt := 92) S dX2_canStandInChoice_87 (by decide) (z_toInt (by omega)) (dn_toInt (by omega)) (fun c_87 => ?_) (fun c_87 => ?_)
                · skip
                  have hkh : k ≤ h := by omega
                  refine lv_aload_n hx hb dX2_canStandInChoice_92 rfl (lv_at hl 1 rfl) ?_
                  refine lv_dup hx hb dX2_canStandInChoice_93 rfl ?_
                  refine z_get S K hP hX2_canStandInChoice_X2 0 rfl rfl 5 (by decide) kX2_canStandInChoice_3 rfl rfl dX2_canStandInChoice_94 ?_
                  refine lv_iconst (v := nI 1) hx hb dX2_canStandInChoice_97 (by decide +kernel) ?_
                  refine lv_aload_n hx hb dX2_canStandInChoice_98 rfl (lv_at hl 1 rfl) ?_
                  refine z_get S K hP hX2_canStandInChoice_X2 0 rfl rfl 4 (by decide) kX2_canStandInChoice_1 rfl rfl dX2_canStandInChoice_99 ?_
                  refine zi_shl S dX2_canStandInChoice_102 (by omega) ?_
                  refine zi_or S dX2_canStandInChoice_103 ?_
                  refine z_put S K hP hD hS (ty0 := tyX2) hX2_canStandInChoice_X2 tyX2_ok nmX2 0 rfl rfl 5 (by decide) kX2_canStandInChoice_3 rfl rfl rfl rfl (Nat.le_of_ble_eq_true rfl) dX2_canStandInChoice_104 (fun H locs hP hD hS => ?_)
                  have hP : va_P (gD G) vwCl [(a0, .inr (2, [.ref a1, .int le, .int (nI 1), .int (dn k), .int (nI h), .int (nI (set ||| (1 <<< h)))]))] H := hP
                  have hD : va_D A [(a0, .inr (2, [.ref a1, .int le, .int (nI 1), .int (dn k), .int (nI h), .int (nI (set ||| (1 <<< h)))]))] := hD
                  refine lv_aload_n hx hb dX2_canStandInChoice_107 rfl (lv_at hl 1 rfl) ?_
                  refine lv_aload_n hx hb dX2_canStandInChoice_108 rfl (lv_at hl 1 rfl) ?_
                  refine z_get S K hP hX2_canStandInChoice_X2 0 rfl rfl 4 (by decide) kX2_canStandInChoice_1 rfl rfl dX2_canStandInChoice_109 ?_
                  refine z_put S K hP hD hS (ty0 := tyX2) hX2_canStandInChoice_X2 tyX2_ok nmX2 0 rfl rfl 3 (by decide) kX2_canStandInChoice_2 rfl rfl rfl rfl (Nat.le_of_ble_eq_true rfl) dX2_canStandInChoice_112 (fun H locs hP hD hS => ?_)
                  have hP : va_P (gD G) vwCl [(a0, .inr (2, [.ref a1, .int le, .int (nI 1), .int (nI h), .int (nI h), .int (nI (set ||| (1 <<< h)))]))] H := hP
                  have hD : va_D A [(a0, .inr (2, [.ref a1, .int le, .int (nI 1), .int (nI h), .int (nI h), .int (nI (set ||| (1 <<< h)))]))] := hD
                  refine lv_aload_n hx hb dX2_canStandInChoice_115 rfl (lv_at hl 1 rfl) ?_
                  refine lv_iload_n hx hb dX2_canStandInChoice_116 rfl (lv_at hl 2 rfl) ?_
                  refine lv_bipush (v := nI 43) hx hb dX2_canStandInChoice_117 (by decide +kernel) ?_
                  refine zb_ne (tgt := 126) S dX2_canStandInChoice_119 (by decide) (by omega) (by decide) (fun c_119 => ?_) (fun c_119 => ?_)
                  · skip
                    refine lv_iconst (v := nI 2) hx hb dX2_canStandInChoice_126 (by decide +kernel) ?_
                    refine z_put S K hP hD hS (ty0 := tyX2) hX2_canStandInChoice_X2 tyX2_ok nmX2 0 rfl rfl 2 (by decide) kX2_canStandInChoice_4 rfl rfl rfl rfl (Nat.le_of_ble_eq_true rfl) dX2_canStandInChoice_127 (fun H locs hP hD hS => ?_)
                    have hP : va_P (gD G) vwCl [(a0, .inr (2, [.ref a1, .int le, .int (nI 2), .int (nI h), .int (nI h), .int (nI (set ||| (1 <<< h)))]))] H := hP
                    have hD : va_D A [(a0, .inr (2, [.ref a1, .int le, .int (nI 2), .int (nI h), .int (nI h), .int (nI (set ||| (1 <<< h)))]))] := hD
                    refine lv_iconst (v := nI 1) hx hb dX2_canStandInChoice_130 (by decide +kernel) ?_
                    exact z_zret S hrt hlk hP hD hS (true, 2, h + 1, h, set ||| (1 <<< h)) rfl ⟨rfl, ⟨(by intro hb0; first | (cases hb0; done) | (unfold cst1; dsimp only; first | rw [if_pos ⟨by omega, by omega⟩, if_neg hkh] | rw [if_neg (by omega), if_neg (fun q => by omega)])), (by intro hb0; first | (cases hb0; done) | (unfold cst1; dsimp only; first | rw [if_pos ⟨by omega, by omega⟩, if_pos hkh] | (rw [if_neg (by omega), if_pos ⟨by omega, hkh⟩]; first | rw [if_pos c_119] | rw [if_neg c_119])))⟩⟩ (z_bnar true) dX2_canStandInChoice_131
                  · skip
                    refine lv_iconst (v := nI 0) hx hb dX2_canStandInChoice_122 (by decide +kernel) ?_
                    refine lv_goto (tgt := 127) hx hb dX2_canStandInChoice_123 (by decide) ?_
                    refine z_put S K hP hD hS (ty0 := tyX2) hX2_canStandInChoice_X2 tyX2_ok nmX2 0 rfl rfl 2 (by decide) kX2_canStandInChoice_4 rfl rfl rfl rfl (Nat.le_of_ble_eq_true rfl) dX2_canStandInChoice_127 (fun H locs hP hD hS => ?_)
                    have hP : va_P (gD G) vwCl [(a0, .inr (2, [.ref a1, .int le, .int (nI 0), .int (nI h), .int (nI h), .int (nI (set ||| (1 <<< h)))]))] H := hP
                    have hD : va_D A [(a0, .inr (2, [.ref a1, .int le, .int (nI 0), .int (nI h), .int (nI h), .int (nI (set ||| (1 <<< h)))]))] := hD
                    refine lv_iconst (v := nI 1) hx hb dX2_canStandInChoice_130 (by decide +kernel) ?_
                    exact z_zret S hrt hlk hP hD hS (true, 0, h + 1, h, set ||| (1 <<< h)) rfl ⟨rfl, ⟨(by intro hb0; first | (cases hb0; done) | (unfold cst1; dsimp only; first | rw [if_pos ⟨by omega, by omega⟩, if_neg hkh] | rw [if_neg (by omega), if_neg (fun q => by omega)])), (by intro hb0; first | (cases hb0; done) | (unfold cst1; dsimp only; first | rw [if_pos ⟨by omega, by omega⟩, if_pos hkh] | (rw [if_neg (by omega), if_pos ⟨by omega, hkh⟩]; first | rw [if_pos c_119] | rw [if_neg c_119])))⟩⟩ (z_bnar true) dX2_canStandInChoice_131
                · skip
                  have hkh : ¬ k ≤ h := by omega
                  refine lv_iconst (v := nI 0) hx hb dX2_canStandInChoice_90 (by decide +kernel) ?_
                  exact z_zret S hrt hlk hP hD hS (false, 1, k, h, set) rfl ⟨rfl, ⟨(by intro hb0; first | (cases hb0; done) | (unfold cst1; dsimp only; first | rw [if_pos ⟨by omega, by omega⟩, if_neg hkh] | rw [if_neg (by omega), if_neg (fun q => by omega)])), (by intro hb0; first | (cases hb0; done) | (unfold cst1; dsimp only; first | rw [if_pos ⟨by omega, by omega⟩, if_pos hkh] | (rw [if_neg (by omega), if_pos ⟨by omega, hkh⟩]; first | rw [if_pos c_119] | rw [if_neg c_119])))⟩⟩ (z_bnar false) dX2_canStandInChoice_91
      · skip
        refine lv_aload_n hx hb dX2_canStandInChoice_20 rfl (lv_at hl 0 rfl) ?_
        refine lv_bipush (v := nI 10) hx hb dX2_canStandInChoice_21 (by decide +kernel) ?_
        refine lv_iload_n hx hb dX2_canStandInChoice_23 rfl (lv_at hl 1 rfl) ?_
        refine zi_add S dX2_canStandInChoice_24 ?_
        refine lv_bipush (v := nI 48) hx hb dX2_canStandInChoice_25 (by decide +kernel) ?_
        refine zi_sub S dX2_canStandInChoice_27 (by omega) ?_
        refine z_top (y := nI (10 + x - 48)) rfl ?_
        refine z_put S K hP hD hS (ty0 := tyX2) hX2_canStandInChoice_X2 tyX2_ok nmX2 0 rfl rfl 4 (by decide) kX2_canStandInChoice_1 rfl rfl rfl rfl (Nat.le_of_ble_eq_true rfl) dX2_canStandInChoice_28 (fun H locs hP hD hS => ?_)
        have hP : va_P (gD G) vwCl [(a0, .inr (2, [.ref a1, .int le, .int (nI 1), .int (dn k), .int (nI (10 + x - 48)), .int (nI set)]))] H := hP
        have hD : va_D A [(a0, .inr (2, [.ref a1, .int le, .int (nI 1), .int (dn k), .int (nI (10 + x - 48)), .int (nI set)]))] := hD
        refine lv_aload_n hx hb dX2_canStandInChoice_31 rfl (lv_at hl 0 rfl) ?_
        refine z_get S K hP hX2_canStandInChoice_X2 0 rfl rfl 4 (by decide) kX2_canStandInChoice_1 rfl rfl dX2_canStandInChoice_32 ?_
        refine lv_aload_n hx hb dX2_canStandInChoice_35 rfl (lv_at hl 0 rfl) ?_
        refine z_get S K hP hX2_canStandInChoice_X2 0 rfl rfl 3 (by decide) kX2_canStandInChoice_2 rfl rfl dX2_canStandInChoice_36 ?_
        refine zr_le (tgt := 46) S dX2_canStandInChoice_39 (by decide) (z_toInt (by omega)) (dn_toInt (by omega)) (fun c_39 => ?_) (fun c_39 => ?_)
        · skip
          have hkh : ¬ k ≤ 10 + x - 48 := by omega
          refine lv_iconst (v := nI 0) hx hb dX2_canStandInChoice_46 (by decide +kernel) ?_
          exact z_zret S hrt hlk hP hD hS (false, 1, k, 10 + x - 48, set) rfl ⟨rfl, ⟨(by intro hb0; first | (cases hb0; done) | (unfold cst1; dsimp only; first | rw [if_pos ⟨by omega, by omega⟩, if_neg hkh] | rw [if_neg (by omega), if_neg (fun q => by omega)])), (by intro hb0; first | (cases hb0; done) | (unfold cst1; dsimp only; first | rw [if_pos ⟨by omega, by omega⟩, if_pos hkh] | (rw [if_neg (by omega), if_pos ⟨by omega, hkh⟩]; first | rw [if_pos c_119] | rw [if_neg c_119])))⟩⟩ (z_bnar false) dX2_canStandInChoice_47
        · skip
          have hkh : k ≤ 10 + x - 48 := by omega
          refine lv_iconst (v := nI 1) hx hb dX2_canStandInChoice_42 (by decide +kernel) ?_
          refine lv_goto (tgt := 47) hx hb dX2_canStandInChoice_43 (by decide) ?_
          exact z_zret S hrt hlk hP hD hS (true, 1, k, 10 + x - 48, set) rfl ⟨rfl, ⟨(by intro hb0; first | (cases hb0; done) | (unfold cst1; dsimp only; first | rw [if_pos ⟨by omega, by omega⟩, if_neg hkh] | rw [if_neg (by omega), if_neg (fun q => by omega)])), (by intro hb0; first | (cases hb0; done) | (unfold cst1; dsimp only; first | rw [if_pos ⟨by omega, by omega⟩, if_pos hkh] | (rw [if_neg (by omega), if_pos ⟨by omega, hkh⟩]; first | rw [if_pos c_119] | rw [if_neg c_119])))⟩⟩ (z_bnar true) dX2_canStandInChoice_47
set_option maxHeartbeats 4000000 in
set_option maxRecDepth 100000 in
theorem c_X2_canBeSum (l : Launch) (G : gT) (a0 a1 b0 b1 b2 : Nat) (le : Int32) (ah : Int32) (he : Int32) (rc : Int32) (set : Nat) (mm : Nat) (x : Nat) (f : Nat → Nat) (g : Nat → Nat) (hm20 : mm < 20) (hx0 : x < 65536) : CI l yX2_canBeSum wsX2_canBeSum ({ frames := 1, cells := 0, slots := 0, locals := 22 } : Room) G [.ref a0, .int (nI x), .ref b0] [(a0, .inr (2, [.ref a1, .int le, .int (nI 2), .int ah, .int he, .int (nI set)])), (b0, .inr (3, [.int rc, .int (nI mm), .ref b1, .ref b2])), (b1, .inl (gI G, 20, .inl (nA f))), (b2, .inl (gI G, 20, .inl (nA g)))] 0 0 (fun (r : Int32) (u : Bool × Nat × Nat × (Nat → Nat) × (Nat → Nat)) => r = nI (bN u.1) ∧ (u.1 = false → ¬ (x = 48 ∨ x = 49)) ∧ (u.1 = true → (x = 48 ∨ x = 49) ∧ u.2.1 = 3 ∧ u.2.2.1 = mm + 1 ∧ u.2.2.2.1 = pu f mm set ∧ u.2.2.2.2 = pu g mm (x - 48))) (fun (u : Bool × Nat × Nat × (Nat → Nat) × (Nat → Nat)) => [(a0, .inr (2, [.ref a1, .int le, .int (nI u.2.1), .int ah, .int he, .int (nI set)])), (b0, .inr (3, [.int rc, .int (nI u.2.2.1), .ref b1, .ref b2])), (b1, .inl (gI G, 20, .inl (nA u.2.2.2.1))), (b2, .inl (gI G, 20, .inl (nA u.2.2.2.2)))]) := by
  refine CI.of (cc := cX2_canBeSum) (maxL := 3) (ret := (some .boolean)) (by decide +kernel) rfl (Nat.le_of_ble_eq_true rfl) rfl (fun p e s m args below meth c A S hrt hlk hnm K hA hP hD hS ls hl => ?_)
  have hx := S.1
  have hb := S.2.1
  have hl : lv_has ls 3 [(0, .ref a0), (1, .int (nI x)), (2, .ref b0)] := hl
  refine lv_iload_n hx hb dX2_canBeSum_0 rfl (lv_at hl 1 rfl) ?_
  refine lv_bipush (v := nI 48) hx hb dX2_canBeSum_1 (by decide +kernel) ?_
  refine zb_eq (tgt := 14) S dX2_canBeSum_3 (by decide) (by omega) (by decide) (fun c_3 => ?_) (fun c_3 => ?_)
  · skip
    refine lv_aload_n hx hb dX2_canBeSum_14 rfl (lv_at hl 2 rfl) ?_
    refine lv_aload_n hx hb dX2_canBeSum_15 rfl (lv_at hl 0 rfl) ?_
    refine z_get S K hP hX2_canBeSum_X2 0 rfl rfl 5 (by decide) kX2_canBeSum_1 rfl rfl dX2_canBeSum_16 ?_
    refine lv_iload_n hx hb dX2_canBeSum_19 rfl (lv_at hl 1 rfl) ?_
    refine lv_bipush (v := nI 48) hx hb dX2_canBeSum_20 (by decide +kernel) ?_
    refine zi_sub S dX2_canBeSum_22 (by omega) ?_
    refine zcVv (rest := []) S K hP hD hS hA hl.1 (c_X3_append l G b0 b1 b2 rc mm f g set (x - 48) hm20) rfl rfl gX2_canBeSum_X3_append rfl eX3_append [1, 2, 3] (by decide +kernel) rfl (fun _ => rfl) 3 1 rfl rfl rfl rfl rfl (Nat.le_of_ble_eq_true rfl) (Nat.le_of_ble_eq_true rfl) (Nat.le_of_ble_eq_true rfl) ⟨Nat.zero_le _, Nat.zero_le _⟩ dX2_canBeSum_23 (fun u_23 H locs hw_23 hP hD hS => ?_)
    obtain ⟨hP, hD⟩ := mx_ok [none, some 0, some 1, some 2] (by decide +kernel) rfl rfl hP hD
    have hP : va_P (gD G) vwCl [(a0, .inr (2, [.ref a1, .int le, .int (nI 2), .int ah, .int he, .int (nI set)])), (b0, .inr (3, [.int rc, .int (nI (mm + 1)), .ref b1, .ref b2])), (b1, .inl (gI G, 20, .inl (nA (pu f mm set)))), (b2, .inl (gI G, 20, .inl (nA (pu g mm (x - 48)))))] H := hP
    have hD : va_D A [(a0, .inr (2, [.ref a1, .int le, .int (nI 2), .int ah, .int he, .int (nI set)])), (b0, .inr (3, [.int rc, .int (nI (mm + 1)), .ref b1, .ref b2])), (b1, .inl (gI G, 20, .inl (nA (pu f mm set)))), (b2, .inl (gI G, 20, .inl (nA (pu g mm (x - 48)))))] := hD
    refine lv_aload_n hx hb dX2_canBeSum_26 rfl (lv_at hl 0 rfl) ?_
    refine lv_iconst (v := nI 3) hx hb dX2_canBeSum_27 (by decide +kernel) ?_
    refine z_put S K hP hD hS (ty0 := tyX2) hX2_canBeSum_X2 tyX2_ok nmX2 0 rfl rfl 2 (by decide) kX2_canBeSum_2 rfl rfl rfl rfl (Nat.le_of_ble_eq_true rfl) dX2_canBeSum_28 (fun H locs hP hD hS => ?_)
    have hP : va_P (gD G) vwCl [(a0, .inr (2, [.ref a1, .int le, .int (nI 3), .int ah, .int he, .int (nI set)])), (b0, .inr (3, [.int rc, .int (nI (mm + 1)), .ref b1, .ref b2])), (b1, .inl (gI G, 20, .inl (nA (pu f mm set)))), (b2, .inl (gI G, 20, .inl (nA (pu g mm (x - 48)))))] H := hP
    have hD : va_D A [(a0, .inr (2, [.ref a1, .int le, .int (nI 3), .int ah, .int he, .int (nI set)])), (b0, .inr (3, [.int rc, .int (nI (mm + 1)), .ref b1, .ref b2])), (b1, .inl (gI G, 20, .inl (nA (pu f mm set)))), (b2, .inl (gI G, 20, .inl (nA (pu g mm (x - 48)))))] := hD
    refine lv_iconst (v := nI 1) hx hb dX2_canBeSum_31 (by decide +kernel) ?_
    exact z_zret S hrt hlk hP hD hS (true, 3, mm + 1, pu f mm set, pu g mm (x - 48)) rfl ⟨rfl, ⟨(by intro hb0; first | (cases hb0; done) | omega), (by intro hb0; first | (cases hb0; done) | exact ⟨by omega, rfl, rfl, rfl, rfl⟩)⟩⟩ (z_bnar true) dX2_canBeSum_32
  · skip
    refine lv_iload_n hx hb dX2_canBeSum_6 rfl (lv_at hl 1 rfl) ?_
    refine lv_bipush (v := nI 49) hx hb dX2_canBeSum_7 (by decide +kernel) ?_
    refine zb_eq (tgt := 14) S dX2_canBeSum_9 (by decide) (by omega) (by decide) (fun c_9 => ?_) (fun c_9 => ?_)
    · skip
      refine lv_aload_n hx hb dX2_canBeSum_14 rfl (lv_at hl 2 rfl) ?_
      refine lv_aload_n hx hb dX2_canBeSum_15 rfl (lv_at hl 0 rfl) ?_
      refine z_get S K hP hX2_canBeSum_X2 0 rfl rfl 5 (by decide) kX2_canBeSum_1 rfl rfl dX2_canBeSum_16 ?_
      refine lv_iload_n hx hb dX2_canBeSum_19 rfl (lv_at hl 1 rfl) ?_
      refine lv_bipush (v := nI 48) hx hb dX2_canBeSum_20 (by decide +kernel) ?_
      refine zi_sub S dX2_canBeSum_22 (by omega) ?_
      refine zcVv (rest := []) S K hP hD hS hA hl.1 (c_X3_append l G b0 b1 b2 rc mm f g set (x - 48) hm20) rfl rfl gX2_canBeSum_X3_append rfl eX3_append [1, 2, 3] (by decide +kernel) rfl (fun _ => rfl) 3 1 rfl rfl rfl rfl rfl (Nat.le_of_ble_eq_true rfl) (Nat.le_of_ble_eq_true rfl) (Nat.le_of_ble_eq_true rfl) ⟨Nat.zero_le _, Nat.zero_le _⟩ dX2_canBeSum_23 (fun u_23 H locs hw_23 hP hD hS => ?_)
      obtain ⟨hP, hD⟩ := mx_ok [none, some 0, some 1, some 2] (by decide +kernel) rfl rfl hP hD
      have hP : va_P (gD G) vwCl [(a0, .inr (2, [.ref a1, .int le, .int (nI 2), .int ah, .int he, .int (nI set)])), (b0, .inr (3, [.int rc, .int (nI (mm + 1)), .ref b1, .ref b2])), (b1, .inl (gI G, 20, .inl (nA (pu f mm set)))), (b2, .inl (gI G, 20, .inl (nA (pu g mm (x - 48)))))] H := hP
      have hD : va_D A [(a0, .inr (2, [.ref a1, .int le, .int (nI 2), .int ah, .int he, .int (nI set)])), (b0, .inr (3, [.int rc, .int (nI (mm + 1)), .ref b1, .ref b2])), (b1, .inl (gI G, 20, .inl (nA (pu f mm set)))), (b2, .inl (gI G, 20, .inl (nA (pu g mm (x - 48)))))] := hD
      refine lv_aload_n hx hb dX2_canBeSum_26 rfl (lv_at hl 0 rfl) ?_
      refine lv_iconst (v := nI 3) hx hb dX2_canBeSum_27 (by decide +kernel) ?_
      refine z_put S K hP hD hS (ty0 := tyX2) hX2_canBeSum_X2 tyX2_ok nmX2 0 rfl rfl 2 (by decide) kX2_canBeSum_2 rfl rfl rfl rfl (Nat.le_of_ble_eq_true rfl) dX2_canBeSum_28 (fun H locs hP hD hS => ?_)
      have hP : va_P (gD G) vwCl [(a0, .inr (2, [.ref a1, .int le, .int (nI 3), .int ah, .int he, .int (nI set)])), (b0, .inr (3, [.int rc, .int (nI (mm + 1)), .ref b1, .ref b2])), (b1, .inl (gI G, 20, .inl (nA (pu f mm set)))), (b2, .inl (gI G, 20, .inl (nA (pu g mm (x - 48)))))] H := hP
      have hD : va_D A [(a0, .inr (2, [.ref a1, .int le, .int (nI 3), .int ah, .int he, .int (nI set)])), (b0, .inr (3, [.int rc, .int (nI (mm + 1)), .ref b1, .ref b2])), (b1, .inl (gI G, 20, .inl (nA (pu f mm set)))), (b2, .inl (gI G, 20, .inl (nA (pu g mm (x - 48)))))] := hD
      refine lv_iconst (v := nI 1) hx hb dX2_canBeSum_31 (by decide +kernel) ?_
      exact z_zret S hrt hlk hP hD hS (true, 3, mm + 1, pu f mm set, pu g mm (x - 48)) rfl ⟨rfl, ⟨(by intro hb0; first | (cases hb0; done) | omega), (by intro hb0; first | (cases hb0; done) | exact ⟨by omega, rfl, rfl, rfl, rfl⟩)⟩⟩ (z_bnar true) dX2_canBeSum_32
    · skip
      refine lv_iconst (v := nI 0) hx hb dX2_canBeSum_12 (by decide +kernel) ?_
      exact z_zret S hrt hlk hP hD hS (false, 2, mm, f, g) rfl ⟨rfl, ⟨(by intro hb0; first | (cases hb0; done) | omega), (by intro hb0; first | (cases hb0; done) | exact ⟨by omega, rfl, rfl, rfl, rfl⟩)⟩⟩ (z_bnar false) dX2_canBeSum_13
set_option maxHeartbeats 4000000 in
set_option maxRecDepth 100000 in
theorem c_X2_canStand (l : Launch) (G : gT) (a0 a1 b0 b1 b2 : Nat) (le : Int32) (he : Int32) (rc : Int32) (sg : Nat) (k : Nat) (h : Nat) (set : Nat) (mm : Nat) (x : Nat) (f : Nat → Nat) (g : Nat → Nat) (hsg : sg = 0 ∨ sg = 1 ∨ sg = 2 ∨ sg = 3) (hk : k ≤ 12) (hh : h ≤ 11) (hm20 : sg = 2 → mm < 20) (hx0 : x < 65536) (hhe : sg = 1 → he = nI h) : CI l yX2_canStand wsX2_canStand ({ frames := 2, cells := 0, slots := 0, locals := 44 } : Room) G [.ref a0, .int (nI x), .ref b0] [(a0, .inr (2, [.ref a1, .int le, .int (nI sg), .int (dn k), .int he, .int (nI set)])), (b0, .inr (3, [.int rc, .int (nI mm), .ref b1, .ref b2])), (b1, .inl (gI G, 20, .inl (nA f))), (b2, .inl (gI G, 20, .inl (nA g)))] 0 0 (fun (r : Int32) (u : Bool × Nat × Nat × Nat × Nat × Int32 × (Nat → Nat) × (Nat → Nat)) => r = nI (bN u.1) ∧ (u.1 = false → cst (sg, k, h, set, mm, f, g) x = none) ∧ (u.1 = true → ∃ h2, (u.2.1 = 1 → u.2.2.2.2.2.1 = nI h2) ∧ cst (sg, k, h, set, mm, f, g) x = some (u.2.1, u.2.2.1, h2, u.2.2.2.1, u.2.2.2.2.1, u.2.2.2.2.2.2.1, u.2.2.2.2.2.2.2))) (fun (u : Bool × Nat × Nat × Nat × Nat × Int32 × (Nat → Nat) × (Nat → Nat)) => [(a0, .inr (2, [.ref a1, .int le, .int (nI u.2.1), .int (dn u.2.2.1), .int u.2.2.2.2.2.1, .int (nI u.2.2.2.1)])), (b0, .inr (3, [.int rc, .int (nI u.2.2.2.2.1), .ref b1, .ref b2])), (b1, .inl (gI G, 20, .inl (nA u.2.2.2.2.2.2.1))), (b2, .inl (gI G, 20, .inl (nA u.2.2.2.2.2.2.2)))]) := by
  refine CI.of (cc := cX2_canStand) (maxL := 3) (ret := (some .boolean)) (by decide +kernel) rfl (Nat.le_of_ble_eq_true rfl) rfl (fun p e s m args below meth c A S hrt hlk hnm K hA hP hD hS ls hl => ?_)
  have hx := S.1
  have hb := S.2.1
  have hl : lv_has ls 3 [(0, .ref a0), (1, .int (nI x)), (2, .ref b0)] := hl
  rcases hsg with rfl | rfl | rfl | rfl
  · skip
    refine lv_aload_n hx hb dX2_canStand_0 rfl (lv_at hl 0 rfl) ?_
    refine z_get S K hP hX2_canStand_X2 0 rfl rfl 2 (by decide) kX2_canStand_1 rfl rfl dX2_canStand_1 ?_
    refine lv_tableIn (off := 28) (tgt := 32) hx hb dX2_canStand_4 (by decide +kernel) (by decide +kernel) (by decide +kernel) (by decide) ?_
    refine lv_aload_n hx hb dX2_canStand_32 rfl (lv_at hl 0 rfl) ?_
    refine lv_iload_n hx hb dX2_canStand_33 rfl (lv_at hl 1 rfl) ?_
    refine zcVi (rest := []) S K hP hD hS hA hl.1 (c_X2_canStartChoice l G a0 a1 le he (nI set) k x (by first | assumption | omega) (by first | assumption | omega)) rfl rfl gX2_canStand_X2_canStartChoice rfl eX2_canStartChoice [0] (by decide +kernel) rfl (fun _ => rfl) 2 0 rfl rfl rfl rfl rfl (Nat.le_of_ble_eq_true rfl) (Nat.le_of_ble_eq_true rfl) (Nat.le_of_ble_eq_true rfl) ⟨Nat.zero_le _, Nat.zero_le _⟩ dX2_canStand_34 (fun r_34 u_34 H locs hw_34 hP hD hS => ?_)
    obtain ⟨b_34, sg2_34, he2_34⟩ := u_34
    replace hw_34 : r_34 = nI (bN b_34) ∧ (b_34 = false → ¬ (48 ≤ x ∧ x ≤ 57 ∧ k ≤ topc (x - 48))) ∧ (b_34 = true → (48 ≤ x ∧ x ≤ 57 ∧ k ≤ topc (x - 48)) ∧ sg2_34 = 1 ∧ he2_34 = nI (x - 48)) := hw_34
    obtain ⟨rfl, hw_34⟩ := hw_34
    have hP : va_P (gD G) vwCl [(a0, .inr (2, [.ref a1, .int le, .int (nI sg2_34), .int (dn k), .int he2_34, .int (nI set)])), (b0, .inr (3, [.int rc, .int (nI mm), .ref b1, .ref b2])), (b1, .inl (gI G, 20, .inl (nA f))), (b2, .inl (gI G, 20, .inl (nA g)))] H := hP
    have hD : va_D A [(a0, .inr (2, [.ref a1, .int le, .int (nI sg2_34), .int (dn k), .int he2_34, .int (nI set)])), (b0, .inr (3, [.int rc, .int (nI mm), .ref b1, .ref b2])), (b1, .inl (gI G, 20, .inl (nA f))), (b2, .inl (gI G, 20, .inl (nA g)))] := hD
    exact z_zret S hrt hlk hP hD hS (b_34, sg2_34, k, set, mm, he2_34, f, g) rfl ⟨rfl, ⟨fun q => if_neg (hw_34.1 q), fun q => by obtain ⟨z1, z2, z3⟩ := hw_34.2 q; subst z2; exact ⟨x - 48, fun _ => z3, if_pos z1⟩⟩⟩ (z_bnar b_34) dX2_canStand_37
  · skip
    refine lv_aload_n hx hb dX2_canStand_0 rfl (lv_at hl 0 rfl) ?_
    refine z_get S K hP hX2_canStand_X2 0 rfl rfl 2 (by decide) kX2_canStand_1 rfl rfl dX2_canStand_1 ?_
    refine lv_tableIn (off := 34) (tgt := 38) hx hb dX2_canStand_4 (by decide +kernel) (by decide +kernel) (by decide +kernel) (by decide) ?_
    obtain rfl := hhe rfl
    refine lv_aload_n hx hb dX2_canStand_38 rfl (lv_at hl 0 rfl) ?_
    refine lv_iload_n hx hb dX2_canStand_39 rfl (lv_at hl 1 rfl) ?_
    refine zcVi (rest := []) S K hP hD hS hA hl.1 (c_X2_canStandInChoice l G a0 a1 le k h set x (mm, f, g) (by first | assumption | omega) (by first | assumption | omega) (by first | assumption | omega)) rfl rfl gX2_canStand_X2_canStandInChoice rfl eX2_canStandInChoice [0] (by decide +kernel) rfl (fun _ => rfl) 2 0 rfl rfl rfl rfl rfl (Nat.le_of_ble_eq_true rfl) (Nat.le_of_ble_eq_true rfl) (Nat.le_of_ble_eq_true rfl) ⟨Nat.zero_le _, Nat.zero_le _⟩ dX2_canStand_40 (fun r_40 u_40 H locs hw_40 hP hD hS => ?_)
    obtain ⟨b_40, sg2_40, k2_40, h2_40, set2_40⟩ := u_40
    replace hw_40 : r_40 = nI (bN b_40) ∧ (b_40 = false → cst1 (1, k, h, set, (mm, f, g)) x = none) ∧ (b_40 = true → cst1 (1, k, h, set, (mm, f, g)) x = some (sg2_40, k2_40, h2_40, set2_40, (mm, f, g))) := hw_40
    obtain ⟨rfl, hw_40⟩ := hw_40
    have hP : va_P (gD G) vwCl [(a0, .inr (2, [.ref a1, .int le, .int (nI sg2_40), .int (dn k2_40), .int (nI h2_40), .int (nI set2_40)])), (b0, .inr (3, [.int rc, .int (nI mm), .ref b1, .ref b2])), (b1, .inl (gI G, 20, .inl (nA f))), (b2, .inl (gI G, 20, .inl (nA g)))] H := hP
    have hD : va_D A [(a0, .inr (2, [.ref a1, .int le, .int (nI sg2_40), .int (dn k2_40), .int (nI h2_40), .int (nI set2_40)])), (b0, .inr (3, [.int rc, .int (nI mm), .ref b1, .ref b2])), (b1, .inl (gI G, 20, .inl (nA f))), (b2, .inl (gI G, 20, .inl (nA g)))] := hD
    exact z_zret S hrt hlk hP hD hS (b_40, sg2_40, k2_40, set2_40, mm, nI h2_40, f, g) rfl ⟨rfl, ⟨fun q => hw_40.1 q, fun q => ⟨_, fun _ => rfl, hw_40.2 q⟩⟩⟩ (z_bnar b_40) dX2_canStand_43
  · skip
    refine lv_aload_n hx hb dX2_canStand_0 rfl (lv_at hl 0 rfl) ?_
    refine z_get S K hP hX2_canStand_X2 0 rfl rfl 2 (by decide) kX2_canStand_1 rfl rfl dX2_canStand_1 ?_
    refine lv_tableIn (off := 40) (tgt := 44) hx hb dX2_canStand_4 (by decide +kernel) (by decide +kernel) (by decide +kernel) (by decide) ?_
    refine lv_aload_n hx hb dX2_canStand_44 rfl (lv_at hl 0 rfl) ?_
    refine lv_iload_n hx hb dX2_canStand_45 rfl (lv_at hl 1 rfl) ?_
    refine lv_aload_n hx hb dX2_canStand_46 rfl (lv_at hl 2 rfl) ?_
    refine zcVi (rest := []) S K hP hD hS hA hl.1 (c_X2_canBeSum l G a0 a1 b0 b1 b2 le (dn k) he rc set mm x f g (hm20 rfl) (by first | assumption | omega)) rfl rfl gX2_canStand_X2_canBeSum rfl eX2_canBeSum [0, 1, 2, 3] (by decide +kernel) rfl (fun _ => rfl) 2 0 rfl rfl rfl rfl rfl (Nat.le_of_ble_eq_true rfl) (Nat.le_of_ble_eq_true rfl) (Nat.le_of_ble_eq_true rfl) ⟨Nat.zero_le _, Nat.zero_le _⟩ dX2_canStand_47 (fun r_47 u_47 H locs hw_47 hP hD hS => ?_)
    obtain ⟨hP, hD⟩ := mx_ok [some 0, some 1, some 2, some 3] (by decide +kernel) rfl rfl hP hD
    obtain ⟨b_47, sg2_47, m2_47, f2_47, g2_47⟩ := u_47
    replace hw_47 : r_47 = nI (bN b_47) ∧ (b_47 = false → ¬ (x = 48 ∨ x = 49)) ∧ (b_47 = true → (x = 48 ∨ x = 49) ∧ sg2_47 = 3 ∧ m2_47 = mm + 1 ∧ f2_47 = pu f mm set ∧ g2_47 = pu g mm (x - 48)) := hw_47
    obtain ⟨rfl, hw_47⟩ := hw_47
    have hP : va_P (gD G) vwCl [(a0, .inr (2, [.ref a1, .int le, .int (nI sg2_47), .int (dn k), .int he, .int (nI set)])), (b0, .inr (3, [.int rc, .int (nI m2_47), .ref b1, .ref b2])), (b1, .inl (gI G, 20, .inl (nA f2_47))), (b2, .inl (gI G, 20, .inl (nA g2_47)))] H := hP
    have hD : va_D A [(a0, .inr (2, [.ref a1, .int le, .int (nI sg2_47), .int (dn k), .int he, .int (nI set)])), (b0, .inr (3, [.int rc, .int (nI m2_47), .ref b1, .ref b2])), (b1, .inl (gI G, 20, .inl (nA f2_47))), (b2, .inl (gI G, 20, .inl (nA g2_47)))] := hD
    exact z_zret S hrt hlk hP hD hS (b_47, sg2_47, k, set, m2_47, he, f2_47, g2_47) rfl ⟨rfl, ⟨fun q => if_neg (hw_47.1 q), fun q => by obtain ⟨z1, z2, z3, z4, z5⟩ := hw_47.2 q; subst z2; subst z3; subst z4; subst z5; exact ⟨h, (fun z => by have z9 : (3 : Nat) = 1 := z; omega), if_pos z1⟩⟩⟩ (z_bnar b_47) dX2_canStand_50
  · skip
    refine lv_aload_n hx hb dX2_canStand_0 rfl (lv_at hl 0 rfl) ?_
    refine z_get S K hP hX2_canStand_X2 0 rfl rfl 2 (by decide) kX2_canStand_1 rfl rfl dX2_canStand_1 ?_
    refine lv_tableOut (tgt := 51) hx hb dX2_canStand_4 (by decide +kernel) (by decide) ?_
    refine lv_iload_n hx hb dX2_canStand_51 rfl (lv_at hl 1 rfl) ?_
    refine lv_bipush (v := nI 59) hx hb dX2_canStand_52 (by decide +kernel) ?_
    refine zb_eq (tgt := 59) S dX2_canStand_54 (by decide) (by omega) (by decide) (fun c_54 => ?_) (fun c_54 => ?_)
    · skip
      refine lv_aload_n hx hb dX2_canStand_59 rfl (lv_at hl 0 rfl) ?_
      refine zcVv (rest := []) S K hP hD hS hA hl.1 (c_X2_startRule l G a0 a1 le (nI 3) (dn k) he (nI set) ) rfl rfl gX2_canStand_X2_startRule rfl eX2_startRule [0] (by decide +kernel) rfl (fun _ => rfl) 2 0 rfl rfl rfl rfl rfl (Nat.le_of_ble_eq_true rfl) (Nat.le_of_ble_eq_true rfl) (Nat.le_of_ble_eq_true rfl) ⟨Nat.zero_le _, Nat.zero_le _⟩ dX2_canStand_60 (fun u_60 H locs hw_60 hP hD hS => ?_)
      have hP : va_P (gD G) vwCl [(a0, .inr (2, [.ref a1, .int le, .int (nI 0), .int (-1), .int he, .int (nI 0)])), (b0, .inr (3, [.int rc, .int (nI mm), .ref b1, .ref b2])), (b1, .inl (gI G, 20, .inl (nA f))), (b2, .inl (gI G, 20, .inl (nA g)))] H := hP
      have hD : va_D A [(a0, .inr (2, [.ref a1, .int le, .int (nI 0), .int (-1), .int he, .int (nI 0)])), (b0, .inr (3, [.int rc, .int (nI mm), .ref b1, .ref b2])), (b1, .inl (gI G, 20, .inl (nA f))), (b2, .inl (gI G, 20, .inl (nA g)))] := hD
      refine lv_iconst (v := nI 1) hx hb dX2_canStand_63 (by decide +kernel) ?_
      exact z_zret S hrt hlk hP hD hS (true, 0, 0, 0, mm, he, f, g) rfl ⟨rfl, ⟨(fun q => by cases q), fun _ => ⟨h, (fun z => by have z9 : (0 : Nat) = 1 := z; omega), if_pos c_54⟩⟩⟩ (z_bnar true) dX2_canStand_64
    · skip
      refine lv_iconst (v := nI 0) hx hb dX2_canStand_57 (by decide +kernel) ?_
      exact z_zret S hrt hlk hP hD hS (false, 3, k, set, mm, he, f, g) rfl ⟨rfl, ⟨fun _ => if_neg c_54, (fun q => by cases q)⟩⟩ (z_bnar false) dX2_canStand_58
set_option maxHeartbeats 4000000 in
set_option maxRecDepth 100000 in
theorem c_X2_readInto (l : Launch) (G : gT) (a0 a1 b0 b1 b2 : Nat) (sg : Int32) (ah : Int32) (he : Int32) (se : Int32) (rc : Int32) (rn : Int32) (len : Nat) (ch : Nat → Nat) (f0 : Nat → Nat) (g0 : Nat → Nat) (hl0 : len ≤ 80) (hch : ∀ j, j < len → ch j < 127) : CI l yX2_readInto wsX2_readInto ({ frames := 3, cells := 0, slots := 0, locals := 66 } : Room) G [.ref a0, .ref b0] [(a0, .inr (2, [.ref a1, .int (nI len), .int sg, .int ah, .int he, .int se])), (a1, .inl (gC G, 80, .inl (nA ch))), (b0, .inr (3, [.int rc, .int rn, .ref b1, .ref b2])), (b1, .inl (gI G, 20, .inl (nA f0))), (b2, .inl (gI G, 20, .inl (nA g0)))] 0 0 (fun (r : Int32) (u : Int32 × Int32 × Int32 × Int32 × Nat × (Nat → Nat) × (Nat → Nat)) => FT f0 g0 ch len r u.2.2.2.2.1 u.2.2.2.2.2.1 u.2.2.2.2.2.2) (fun (u : Int32 × Int32 × Int32 × Int32 × Nat × (Nat → Nat) × (Nat → Nat)) => [(a0, .inr (2, [.ref a1, .int (nI len), .int u.1, .int u.2.1, .int u.2.2.1, .int u.2.2.2.1])), (a1, .inl (gC G, 80, .inl (nA ch))), (b0, .inr (3, [.int rc, .int (nI u.2.2.2.2.1), .ref b1, .ref b2])), (b1, .inl (gI G, 20, .inl (nA u.2.2.2.2.2.1))), (b2, .inl (gI G, 20, .inl (nA u.2.2.2.2.2.2)))]) := by
  refine CI.of (cc := cX2_readInto) (maxL := 3) (ret := (some .int)) (by decide +kernel) rfl (Nat.le_of_ble_eq_true rfl) rfl (fun p e s m args below meth c A S hrt hlk hnm K hA hP hD hS ls hl => ?_)
  have hx := S.1
  have hb := S.2.1
  have hl : lv_has ls 3 [(0, .ref a0), (1, .ref b0)] := hl
  refine lv_aload_n hx hb dX2_readInto_0 rfl (lv_at hl 1 rfl) ?_
  refine lv_iconst (v := nI 0) hx hb dX2_readInto_1 (by decide +kernel) ?_
  refine z_put S K hP hD hS (ty0 := tyX3) hX2_readInto_X3 tyX3_ok nmX3 2 rfl rfl 1 (by decide) kX2_readInto_1 rfl rfl rfl rfl (Nat.le_of_ble_eq_true rfl) dX2_readInto_2 (fun H locs hP hD hS => ?_)
  have hP : va_P (gD G) vwCl [(a0, .inr (2, [.ref a1, .int (nI len), .int sg, .int ah, .int he, .int se])), (a1, .inl (gC G, 80, .inl (nA ch))), (b0, .inr (3, [.int rc, .int (nI 0), .ref b1, .ref b2])), (b1, .inl (gI G, 20, .inl (nA f0))), (b2, .inl (gI G, 20, .inl (nA g0)))] H := hP
  have hD : va_D A [(a0, .inr (2, [.ref a1, .int (nI len), .int sg, .int ah, .int he, .int se])), (a1, .inl (gC G, 80, .inl (nA ch))), (b0, .inr (3, [.int rc, .int (nI 0), .ref b1, .ref b2])), (b1, .inl (gI G, 20, .inl (nA f0))), (b2, .inl (gI G, 20, .inl (nA g0)))] := hD
  refine lv_aload_n hx hb dX2_readInto_5 rfl (lv_at hl 0 rfl) ?_
  refine zcVv (rest := []) S K hP hD hS hA hl.1 (c_X2_startRule l G a0 a1 (nI len) sg ah he se ) rfl rfl gX2_readInto_X2_startRule rfl eX2_startRule [0] (by decide +kernel) rfl (fun _ => rfl) 2 0 rfl rfl rfl rfl rfl (Nat.le_of_ble_eq_true rfl) (Nat.le_of_ble_eq_true rfl) (Nat.le_of_ble_eq_true rfl) ⟨Nat.zero_le _, Nat.zero_le _⟩ dX2_readInto_6 (fun u_6 H locs hw_6 hP hD hS => ?_)
  have hP : va_P (gD G) vwCl [(a0, .inr (2, [.ref a1, .int (nI len), .int (nI 0), .int (-1), .int he, .int (nI 0)])), (a1, .inl (gC G, 80, .inl (nA ch))), (b0, .inr (3, [.int rc, .int (nI 0), .ref b1, .ref b2])), (b1, .inl (gI G, 20, .inl (nA f0))), (b2, .inl (gI G, 20, .inl (nA g0)))] H := hP
  have hD : va_D A [(a0, .inr (2, [.ref a1, .int (nI len), .int (nI 0), .int (-1), .int he, .int (nI 0)])), (a1, .inl (gC G, 80, .inl (nA ch))), (b0, .inr (3, [.int rc, .int (nI 0), .ref b1, .ref b2])), (b1, .inl (gI G, 20, .inl (nA f0))), (b2, .inl (gI G, 20, .inl (nA g0)))] := hD
  refine lv_iconst (v := nI 0) hx hb dX2_readInto_9 (by decide +kernel) ?_
  refine lv_istore_n (lv' := [(2, .int (nI 0)), (0, .ref a0), (1, .ref b0)]) hx hb dX2_readInto_10 rfl hl (by decide) rfl (fun ls hl => ?_)
  have lp_11 : ∀ (n_11 : Nat) (i : Nat) (sg1 : Nat) (k1 : Nat) (h1 : Nat) (set1 : Nat) (mm1 : Nat) (he1 : Int32) (f1 : Nat → Nat) (g1 : Nat → Nat), len - i < n_11 → (i ≤ len) → (runP f0 g0 ch i = some (sg1, k1, h1, set1, mm1, f1, g1)) → (sg1 = 1 → he1 = nI h1) → ∀ (H : Heap) (locs : List Loc), va_P (gD G) vwCl [(a0, .inr (2, [.ref a1, .int (nI len), .int (nI sg1), .int (dn k1), .int he1, .int (nI set1)])), (a1, .inl (gC G, 80, .inl (nA ch))), (b0, .inr (3, [.int rc, .int (nI mm1), .ref b1, .ref b2])), (b1, .inl (gI G, 20, .inl (nA f1))), (b2, .inl (gI G, 20, .inl (nA g1)))] H → va_D A [(a0, .inr (2, [.ref a1, .int (nI len), .int (nI sg1), .int (dn k1), .int he1, .int (nI set1)])), (a1, .inl (gC G, 80, .inl (nA ch))), (b0, .inr (3, [.int rc, .int (nI mm1), .ref b1, .ref b2])), (b1, .inl (gI G, 20, .inl (nA f1))), (b2, .inl (gI G, 20, .inl (nA g1)))] → va_S A s.heap H locs → ∀ ls : Array Slot, lv_has ls 3 [(2, .int (nI i)), (0, .ref a0), (1, .ref b0)] → W p l e ({ frames := 3, cells := 0, slots := 0, locals := 66 } : Room) s m args below meth c H locs 0 0 (MQ below (va_Qi (fun (r : Int32) (u : Int32 × Int32 × Int32 × Int32 × Nat × (Nat → Nat) × (Nat → Nat)) => FT f0 g0 ch len r u.2.2.2.2.1 u.2.2.2.2.2.1 u.2.2.2.2.2.2) (cB G A (fun (u : Int32 × Int32 × Int32 × Int32 × Nat × (Nat → Nat) × (Nat → Nat)) => [(a0, .inr (2, [.ref a1, .int (nI len), .int u.1, .int u.2.1, .int u.2.2.1, .int u.2.2.2.1])), (a1, .inl (gC G, 80, .inl (nA ch))), (b0, .inr (3, [.int rc, .int (nI u.2.2.2.2.1), .ref b1, .ref b2])), (b1, .inl (gI G, 20, .inl (nA u.2.2.2.2.2.1))), (b2, .inl (gI G, 20, .inl (nA u.2.2.2.2.2.2)))])) A) args s 0 0 A) (F0 m 11 ls []) := by
    intro n_11
    induction n_11 with
    | zero =>
      intro i sg1 k1 h1 set1 mm1 he1 f1 g1 h0
      exact absurd h0 (Nat.not_lt_zero _)
    | succ n_11 ih_11 =>
      intro i sg1 k1 h1 set1 mm1 he1 f1 g1 hm_11 hi hR hhe H locs hP hD hS ls hl
      refine lv_iload_n hx hb dX2_readInto_11 rfl (lv_at hl 0 rfl) ?_
      refine lv_aload_n hx hb dX2_readInto_12 rfl (lv_at hl 1 rfl) ?_
      refine z_get S K hP hX2_readInto_X2 0 rfl rfl 1 (by decide) kX2_readInto_2 rfl rfl dX2_readInto_13 ?_
      refine zb_ge (tgt := 41) S dX2_readInto_16 (by decide) (by omega) (by omega) (fun c_16 => ?_) (fun c_16 => ?_)
      · skip
        have hin : i = len := by omega
        obtain rfl : len = i := Eq.symm (hin)
        have hpi := (pinv_run hR).1
        dsimp only at hpi
        refine lv_aload_n hx hb dX2_readInto_41 rfl (lv_at hl 1 rfl) ?_
        refine z_get S K hP hX2_readInto_X2 0 rfl rfl 2 (by decide) kX2_readInto_4 rfl rfl dX2_readInto_42 ?_
        refine lv_iconst (v := nI 3) hx hb dX2_readInto_45 (by decide +kernel) ?_
        refine zb_ne (tgt := 54) S dX2_readInto_46 (by decide) (by omega) (by decide) (fun c_46 => ?_) (fun c_46 => ?_)
        · skip
          refine lv_aload_n hx hb dX2_readInto_54 rfl (lv_at hl 1 rfl) ?_
          refine z_get S K hP hX2_readInto_X2 0 rfl rfl 1 (by decide) kX2_readInto_2 rfl rfl dX2_readInto_55 ?_
          exact z_iret S hrt hlk hP hD hS (nI sg1, dn k1, he1, nI set1, mm1, f1, g1) rfl (Or.inr ⟨_, hR, by first | exact (if_pos c_46).symm | exact (if_neg c_46).symm, rfl⟩) dX2_readInto_58
        · skip
          refine lv_bipush (v := -6) hx hb dX2_readInto_49 (by decide +kernel) ?_
          refine lv_goto (tgt := 58) hx hb dX2_readInto_51 (by decide) ?_
          exact z_iret S hrt hlk hP hD hS (nI sg1, dn k1, he1, nI set1, mm1, f1, g1) rfl (Or.inr ⟨_, hR, by first | exact (if_pos c_46).symm | exact (if_neg c_46).symm, rfl⟩) dX2_readInto_58
      · skip
        have hpi := pinv_run hR
        obtain ⟨v1, v2, v3, v4, v5, v6⟩ := hpi
        dsimp only at v1 v2 v3 v4 v5
        have hchi := hch i c_16
        refine lv_aload_n hx hb dX2_readInto_19 rfl (lv_at hl 1 rfl) ?_
        refine lv_aload_n hx hb dX2_readInto_20 rfl (lv_at hl 1 rfl) ?_
        refine z_get S K hP hX2_readInto_X2 0 rfl rfl 0 (by decide) kX2_readInto_3 rfl rfl dX2_readInto_21 ?_
        refine lv_iload_n hx hb dX2_readInto_24 rfl (lv_at hl 0 rfl) ?_
        refine z_cald S K hP 1 rfl (by omega) (by decide) dX2_readInto_25 ?_
        refine lv_aload_n hx hb dX2_readInto_26 rfl (lv_at hl 2 rfl) ?_
        refine zcVi (rest := []) S K hP hD hS hA hl.1 (c_X2_canStand l G a0 a1 b0 b1 b2 (nI len) he1 rc sg1 k1 h1 set1 mm1 (ch i) f1 g1 (by omega) v2 v3 (fun q => by omega) (by omega) hhe) rfl rfl gX2_readInto_X2_canStand rfl eX2_canStand [0, 2, 3, 4] (by decide +kernel) rfl (fun _ => rfl) 2 0 rfl rfl rfl rfl rfl (Nat.le_of_ble_eq_true rfl) (Nat.le_of_ble_eq_true rfl) (Nat.le_of_ble_eq_true rfl) ⟨Nat.zero_le _, Nat.zero_le _⟩ dX2_readInto_27 (fun r_27 u_27 H locs hw_27 hP hD hS => ?_)
        obtain ⟨hP, hD⟩ := mx_ok [some 0, none, some 1, some 2, some 3] (by decide +kernel) rfl rfl hP hD
        obtain ⟨b_27, sg2_27, k2_27, set2_27, m2_27, he2_27, f2_27, g2_27⟩ := u_27
        replace hw_27 : r_27 = nI (bN b_27) ∧ (b_27 = false → cst (sg1, k1, h1, set1, mm1, f1, g1) (ch i) = none) ∧ (b_27 = true → ∃ h2, (sg2_27 = 1 → he2_27 = nI h2) ∧ cst (sg1, k1, h1, set1, mm1, f1, g1) (ch i) = some (sg2_27, k2_27, h2, set2_27, m2_27, f2_27, g2_27)) := hw_27
        obtain ⟨rfl, hw_27⟩ := hw_27
        have hP : va_P (gD G) vwCl [(a0, .inr (2, [.ref a1, .int (nI len), .int (nI sg2_27), .int (dn k2_27), .int he2_27, .int (nI set2_27)])), (a1, .inl (gC G, 80, .inl (nA ch))), (b0, .inr (3, [.int rc, .int (nI m2_27), .ref b1, .ref b2])), (b1, .inl (gI G, 20, .inl (nA f2_27))), (b2, .inl (gI G, 20, .inl (nA g2_27)))] H := hP
        have hD : va_D A [(a0, .inr (2, [.ref a1, .int (nI len), .int (nI sg2_27), .int (dn k2_27), .int he2_27, .int (nI set2_27)])), (a1, .inl (gC G, 80, .inl (nA ch))), (b0, .inr (3, [.int rc, .int (nI m2_27), .ref b1, .ref b2])), (b1, .inl (gI G, 20, .inl (nA f2_27))), (b2, .inl (gI G, 20, .inl (nA g2_27)))] := hD
        refine zf_ne (tgt := 35) S dX2_readInto_30 (by decide) (bN_31 _) (fun c_30 => ?_) (fun c_30 => ?_)
        · skip
          have c_30 := bN_ne0 c_30
          obtain ⟨h2, hhe2, hcs⟩ := hw_27.2 c_30
          refine lv_iinc (v := (nI (i + 1))) (lv' := [(2, .int (nI (i + 1))), (0, .ref a0), (1, .ref b0)]) hx hb dX2_readInto_35 hl (k := 0) rfl (z_i1 _) (by decide) rfl (fun ls hl => ?_)
          refine lv_goto (tgt := 11) hx hb dX2_readInto_38 (by decide) ?_
          exact ih_11 (i + 1) sg2_27 k2_27 h2 set2_27 m2_27 he2_27 f2_27 g2_27 (by omega) (by omega) ((runP_s hR).trans hcs) hhe2 _ _ hP hD hS _ (lv_sub hl [0, 1, 2] rfl)
        · skip
          have c_30 := bN_eq0 c_30
          have hcn := hw_27.1 c_30
          refine lv_iload_n hx hb dX2_readInto_33 rfl (lv_at hl 0 rfl) ?_
          exact z_iret S hrt hlk hP hD hS (nI sg2_27, dn k2_27, he2_27, nI set2_27, m2_27, f2_27, g2_27) rfl (Or.inl ⟨i, _, c_16, hR, hcn, rfl⟩) dX2_readInto_34
  exact lp_11 _ 0 0 0 0 0 0 he f0 g0 (Nat.lt_succ_self _) (by omega) rfl (fun q => by omega) _ _ hP hD hS _ (lv_sub hl [0, 1, 2] rfl)
