set_option maxHeartbeats 4000000 in
set_option maxRecDepth 100000 in
theorem c_X6_changed (l : Launch) (G : gT) (e0 ea ek eh es ei el ew et er ed ep ex eu : Nat) (lf : Int32) (md : Int32) (pn : Int32) (sp : Int32) (rm : Int32) (la : Int32) (ka : Nat → Nat) (hy : Nat → Nat) (hq : Nat) (x : Int32) (hq6 : hq ≤ 6) (hn : ∀ k, k < hq → hy (42 * k + 1) ≤ 20) (hk1 : ka 1 ≤ 20) : CI l yX6_changed wsX6_changed ({ frames := 0, cells := 0, slots := 0, locals := 0 } : Room) G [.ref e0, .int x] [(e0, .inr (6, [.ref ea, .ref ek, .ref eh, .int (nI hq), .ref es, .ref ei, .ref el, .ref ew, .ref et, .ref er, .int lf, .int md, .ref ed, .ref ep, .int pn, .int sp, .ref ex, .ref eu, .int rm, .int la])), (ek, .inl (gI G, 42, .inl (nA ka))), (eh, .inl (gI G, 252, .inl (nA hy)))] 0 0 (fun (r : Int32) (u : Nat × (Nat → Nat)) => r = (x) ∧ mH u.1 u.2 = pushH (mH hq hy) (mR ka)) (fun (u : Nat × (Nat → Nat)) => [(e0, .inr (6, [.ref ea, .ref ek, .ref eh, .int (nI u.1), .ref es, .ref ei, .ref el, .ref ew, .ref et, .ref er, .int lf, .int md, .ref ed, .ref ep, .int pn, .int sp, .ref ex, .ref eu, .int rm, .int la])), (ek, .inl (gI G, 42, .inl (nA ka))), (eh, .inl (gI G, 252, .inl (nA u.2)))]) := by
  refine CI.of (cc := cX6_changed) (maxL := 3) (ret := (some .int)) (by decide +kernel) rfl (Nat.le_of_ble_eq_true rfl) rfl (fun p e s m args below meth c A S hrt hlk hnm K hA hP hD hS ls hl => ?_)
  have hx := S.1
  have hb := S.2.1
  have hl : lv_has ls 3 [(0, .ref e0), (1, .int x)] := hl
  refine lv_aload_n hx hb dX6_changed_0 rfl (lv_at hl 0 rfl) ?_
  refine z_get S K hP hX6_changed_X6 0 rfl rfl 3 (by decide) kX6_changed_1 rfl rfl dX6_changed_1 ?_
  refine lv_bipush (v := nI 6) hx hb dX6_changed_4 (by decide +kernel) ?_
  refine zb_ne (tgt := 49) S dX6_changed_6 (by decide) (by omega) (by decide) (fun c_6 => ?_) (fun c_6 => ?_)
  · skip
    refine lv_iconst (v := nI 0) hx hb dX6_changed_49 (by decide +kernel) ?_
    refine lv_istore_n (lv' := [(2, .int (nI 0)), (0, .ref e0), (1, .int x)]) hx hb dX6_changed_50 rfl hl (by decide) rfl (fun ls hl => ?_)
    have lp_51 : ∀ (n_51 : Nat) (i2 : Nat) (q : Nat) (k2 : Nat → Nat) (k3 : Nat → Nat), 42 - i2 < n_51 → (i2 ≤ 42) → (q < 6) → (∀ j, k2 j = if 42 * q ≤ j ∧ j < 42 * q + i2 then ka (j - 42 * q) else k3 j) → (q = hq ∧ hq < 6 ∧ k3 = hy ∨ hq = 6 ∧ q = 5 ∧ ∀ j, j < 210 → k3 j = hy (j + 42)) → ∀ (H : Heap) (locs : List Loc), va_P (gD G) vwCl [(e0, .inr (6, [.ref ea, .ref ek, .ref eh, .int (nI q), .ref es, .ref ei, .ref el, .ref ew, .ref et, .ref er, .int lf, .int md, .ref ed, .ref ep, .int pn, .int sp, .ref ex, .ref eu, .int rm, .int la])), (ek, .inl (gI G, 42, .inl (nA ka))), (eh, .inl (gI G, 252, .inl (nA k2)))] H → va_D A [(e0, .inr (6, [.ref ea, .ref ek, .ref eh, .int (nI q), .ref es, .ref ei, .ref el, .ref ew, .ref et, .ref er, .int lf, .int md, .ref ed, .ref ep, .int pn, .int sp, .ref ex, .ref eu, .int rm, .int la])), (ek, .inl (gI G, 42, .inl (nA ka))), (eh, .inl (gI G, 252, .inl (nA k2)))] → va_S A s.heap H locs → ∀ ls : Array Slot, lv_has ls 3 [(2, .int (nI i2)), (0, .ref e0), (1, .int x)] → W p l e ({ frames := 0, cells := 0, slots := 0, locals := 0 } : Room) s m args below meth c H locs 0 0 (MQ below (va_Qi (fun (r : Int32) (u : Nat × (Nat → Nat)) => r = (x) ∧ mH u.1 u.2 = pushH (mH hq hy) (mR ka)) (cB G A (fun (u : Nat × (Nat → Nat)) => [(e0, .inr (6, [.ref ea, .ref ek, .ref eh, .int (nI u.1), .ref es, .ref ei, .ref el, .ref ew, .ref et, .ref er, .int lf, .int md, .ref ed, .ref ep, .int pn, .int sp, .ref ex, .ref eu, .int rm, .int la])), (ek, .inl (gI G, 42, .inl (nA ka))), (eh, .inl (gI G, 252, .inl (nA u.2)))])) A) args s 0 0 A) (F0 m 51 ls []) := by
      intro n_51
      induction n_51 with
      | zero =>
        intro i2 q k2 k3 h0
        exact absurd h0 (Nat.not_lt_zero _)
      | succ n_51 ih_51 =>
        intro i2 q k2 k3 hm_51 hi2 hq5 hk2 hk3 H locs hP hD hS ls hl
        refine lv_iload_n hx hb dX6_changed_51 rfl (lv_at hl 0 rfl) ?_
        refine lv_bipush (v := nI 42) hx hb dX6_changed_52 (by decide +kernel) ?_
        refine zb_ge (tgt := 83) S dX6_changed_54 (by decide) (by omega) (by decide) (fun c_54 => ?_) (fun c_54 => ?_)
        · skip
          have hi42 : i2 = 42 := by omega
          obtain rfl : i2 = 42 := hi42
          refine lv_aload_n hx hb dX6_changed_83 rfl (lv_at hl 1 rfl) ?_
          refine lv_dup hx hb dX6_changed_84 rfl ?_
          refine z_get S K hP hX6_changed_X6 0 rfl rfl 3 (by decide) kX6_changed_1 rfl rfl dX6_changed_85 ?_
          refine lv_iconst (v := nI 1) hx hb dX6_changed_88 (by decide +kernel) ?_
          refine zi_add S dX6_changed_89 ?_
          refine z_put S K hP hD hS (ty0 := tyX6) hX6_changed_X6 tyX6_ok nmX6 0 rfl rfl 3 (by decide) kX6_changed_1 rfl rfl rfl rfl (Nat.le_of_ble_eq_true rfl) dX6_changed_90 (fun H locs hP hD hS => ?_)
          have hP : va_P (gD G) vwCl [(e0, .inr (6, [.ref ea, .ref ek, .ref eh, .int (nI (q + 1)), .ref es, .ref ei, .ref el, .ref ew, .ref et, .ref er, .int lf, .int md, .ref ed, .ref ep, .int pn, .int sp, .ref ex, .ref eu, .int rm, .int la])), (ek, .inl (gI G, 42, .inl (nA ka))), (eh, .inl (gI G, 252, .inl (nA k2)))] H := hP
          have hD : va_D A [(e0, .inr (6, [.ref ea, .ref ek, .ref eh, .int (nI (q + 1)), .ref es, .ref ei, .ref el, .ref ew, .ref et, .ref er, .int lf, .int md, .ref ed, .ref ep, .int pn, .int sp, .ref ex, .ref eu, .int rm, .int la])), (ek, .inl (gI G, 42, .inl (nA ka))), (eh, .inl (gI G, 252, .inl (nA k2)))] := hD
          refine lv_iload_n hx hb dX6_changed_93 rfl (lv_at hl 2 rfl) ?_
          refine z_top (y := (x)) rfl ?_
          exact z_iret S hrt hlk hP hD hS (q + 1, k2) rfl ⟨rfl, (mh_push hk3 hk2 hn hk1)⟩ dX6_changed_94
        · skip
          refine lv_aload_n hx hb dX6_changed_57 rfl (lv_at hl 1 rfl) ?_
          refine z_get S K hP hX6_changed_X6 0 rfl rfl 2 (by decide) kX6_changed_2 rfl rfl dX6_changed_58 ?_
          refine lv_bipush (v := nI 42) hx hb dX6_changed_61 (by decide +kernel) ?_
          refine lv_aload_n hx hb dX6_changed_63 rfl (lv_at hl 1 rfl) ?_
          refine z_get S K hP hX6_changed_X6 0 rfl rfl 3 (by decide) kX6_changed_1 rfl rfl dX6_changed_64 ?_
          refine zi_mul S dX6_changed_67 ?_
          refine lv_iload_n hx hb dX6_changed_68 rfl (lv_at hl 0 rfl) ?_
          refine zi_add S dX6_changed_69 ?_
          refine lv_aload_n hx hb dX6_changed_70 rfl (lv_at hl 1 rfl) ?_
          refine z_get S K hP hX6_changed_X6 0 rfl rfl 1 (by decide) kX6_changed_3 rfl rfl dX6_changed_71 ?_
          refine lv_iload_n hx hb dX6_changed_74 rfl (lv_at hl 0 rfl) ?_
          refine z_iald S K hP 1 rfl (by omega) (by decide) dX6_changed_75 ?_
          refine z_iast S K hP hD hS 2 rfl (by omega) (by decide) dX6_changed_76 (fun H locs hP hD hS => ?_)
          have hP : va_P (gD G) vwCl [(e0, .inr (6, [.ref ea, .ref ek, .ref eh, .int (nI q), .ref es, .ref ei, .ref el, .ref ew, .ref et, .ref er, .int lf, .int md, .ref ed, .ref ep, .int pn, .int sp, .ref ex, .ref eu, .int rm, .int la])), (ek, .inl (gI G, 42, .inl (nA ka))), (eh, .inl (gI G, 252, .inl (nA (pu k2 ((42 * q) + i2) (ka i2)))))] H := hP
          have hD : va_D A [(e0, .inr (6, [.ref ea, .ref ek, .ref eh, .int (nI q), .ref es, .ref ei, .ref el, .ref ew, .ref et, .ref er, .int lf, .int md, .ref ed, .ref ep, .int pn, .int sp, .ref ex, .ref eu, .int rm, .int la])), (ek, .inl (gI G, 42, .inl (nA ka))), (eh, .inl (gI G, 252, .inl (nA (pu k2 ((42 * q) + i2) (ka i2)))))] := hD
          refine lv_iinc (v := (nI (i2 + 1))) (lv' := [(2, .int (nI (i2 + 1))), (0, .ref e0), (1, .int x)]) hx hb dX6_changed_77 hl (k := 0) rfl (z_i1 _) (by decide) rfl (fun ls hl => ?_)
          refine lv_goto (tgt := 51) hx hb dX6_changed_80 (by decide) ?_
          exact ih_51 (i2 + 1) q (pu k2 ((42 * q) + i2) (ka i2)) k3 (by omega) (by omega) hq5 (sh_2 hk2) hk3 _ _ hP hD hS _ (lv_sub hl [0, 1, 2] rfl)
    exact lp_51 _ 0 hq hy hy (Nat.lt_succ_self _) (by omega) (by omega) (fun j => (if_neg (by omega)).symm) (by first | exact Or.inl ⟨rfl, by omega, rfl⟩ | exact Or.inr ⟨c_6, by omega, fun j hj => (hk j).trans (if_pos (by omega))⟩) _ _ hP hD hS _ (lv_sub hl [0, 1, 2] rfl)
  · skip
    refine lv_iconst (v := nI 0) hx hb dX6_changed_9 (by decide +kernel) ?_
    refine lv_istore_n (lv' := [(2, .int (nI 0)), (0, .ref e0), (1, .int x)]) hx hb dX6_changed_10 rfl hl (by decide) rfl (fun ls hl => ?_)
    have lp_11 : ∀ (n_11 : Nat) (i : Nat) (k0 : Nat → Nat), 210 - i < n_11 → (i ≤ 210) → (∀ j, k0 j = if j < i then hy (j + 42) else hy j) → ∀ (H : Heap) (locs : List Loc), va_P (gD G) vwCl [(e0, .inr (6, [.ref ea, .ref ek, .ref eh, .int (nI hq), .ref es, .ref ei, .ref el, .ref ew, .ref et, .ref er, .int lf, .int md, .ref ed, .ref ep, .int pn, .int sp, .ref ex, .ref eu, .int rm, .int la])), (ek, .inl (gI G, 42, .inl (nA ka))), (eh, .inl (gI G, 252, .inl (nA k0)))] H → va_D A [(e0, .inr (6, [.ref ea, .ref ek, .ref eh, .int (nI hq), .ref es, .ref ei, .ref el, .ref ew, .ref et, .ref er, .int lf, .int md, .ref ed, .ref ep, .int pn, .int sp, .ref ex, .ref eu, .int rm, .int la])), (ek, .inl (gI G, 42, .inl (nA ka))), (eh, .inl (gI G, 252, .inl (nA k0)))] → va_S A s.heap H locs → ∀ ls : Array Slot, lv_has ls 3 [(2, .int (nI i)), (0, .ref e0), (1, .int x)] → W p l e ({ frames := 0, cells := 0, slots := 0, locals := 0 } : Room) s m args below meth c H locs 0 0 (MQ below (va_Qi (fun (r : Int32) (u : Nat × (Nat → Nat)) => r = (x) ∧ mH u.1 u.2 = pushH (mH hq hy) (mR ka)) (cB G A (fun (u : Nat × (Nat → Nat)) => [(e0, .inr (6, [.ref ea, .ref ek, .ref eh, .int (nI u.1), .ref es, .ref ei, .ref el, .ref ew, .ref et, .ref er, .int lf, .int md, .ref ed, .ref ep, .int pn, .int sp, .ref ex, .ref eu, .int rm, .int la])), (ek, .inl (gI G, 42, .inl (nA ka))), (eh, .inl (gI G, 252, .inl (nA u.2)))])) A) args s 0 0 A) (F0 m 11 ls []) := by
      intro n_11
      induction n_11 with
      | zero =>
        intro i k0 h0
        exact absurd h0 (Nat.not_lt_zero _)
      | succ n_11 ih_11 =>
        intro i k0 hm_11 hi hk H locs hP hD hS ls hl
        refine lv_iload_n hx hb dX6_changed_11 rfl (lv_at hl 0 rfl) ?_
        refine lv_sipush (v := nI 210) hx hb dX6_changed_12 (by decide +kernel) ?_
        refine zb_ge (tgt := 39) S dX6_changed_15 (by decide) (by omega) (by decide) (fun c_15 => ?_) (fun c_15 => ?_)
        · skip
          have hi210 : i = 210 := by omega
          obtain rfl : i = 210 := hi210
          refine lv_aload_n hx hb dX6_changed_39 rfl (lv_at hl 1 rfl) ?_
          refine lv_dup hx hb dX6_changed_40 rfl ?_
          refine z_get S K hP hX6_changed_X6 0 rfl rfl 3 (by decide) kX6_changed_1 rfl rfl dX6_changed_41 ?_
          refine lv_iconst (v := nI 1) hx hb dX6_changed_44 (by decide +kernel) ?_
          refine zi_sub S dX6_changed_45 (by omega) ?_
          refine z_put S K hP hD hS (ty0 := tyX6) hX6_changed_X6 tyX6_ok nmX6 0 rfl rfl 3 (by decide) kX6_changed_1 rfl rfl rfl rfl (Nat.le_of_ble_eq_true rfl) dX6_changed_46 (fun H locs hP hD hS => ?_)
          have hP : va_P (gD G) vwCl [(e0, .inr (6, [.ref ea, .ref ek, .ref eh, .int (nI (hq - 1)), .ref es, .ref ei, .ref el, .ref ew, .ref et, .ref er, .int lf, .int md, .ref ed, .ref ep, .int pn, .int sp, .ref ex, .ref eu, .int rm, .int la])), (ek, .inl (gI G, 42, .inl (nA ka))), (eh, .inl (gI G, 252, .inl (nA k0)))] H := hP
          have hD : va_D A [(e0, .inr (6, [.ref ea, .ref ek, .ref eh, .int (nI (hq - 1)), .ref es, .ref ei, .ref el, .ref ew, .ref et, .ref er, .int lf, .int md, .ref ed, .ref ep, .int pn, .int sp, .ref ex, .ref eu, .int rm, .int la])), (ek, .inl (gI G, 42, .inl (nA ka))), (eh, .inl (gI G, 252, .inl (nA k0)))] := hD
          refine lv_iconst (v := nI 0) hx hb dX6_changed_49 (by decide +kernel) ?_
          refine lv_istore_n (lv' := [(2, .int (nI 0)), (0, .ref e0), (1, .int x)]) hx hb dX6_changed_50 rfl hl (by decide) rfl (fun ls hl => ?_)
          have lp_51 : ∀ (n_51 : Nat) (i2 : Nat) (q : Nat) (k2 : Nat → Nat) (k3 : Nat → Nat), 42 - i2 < n_51 → (i2 ≤ 42) → (q < 6) → (∀ j, k2 j = if 42 * q ≤ j ∧ j < 42 * q + i2 then ka (j - 42 * q) else k3 j) → (q = hq ∧ hq < 6 ∧ k3 = hy ∨ hq = 6 ∧ q = 5 ∧ ∀ j, j < 210 → k3 j = hy (j + 42)) → ∀ (H : Heap) (locs : List Loc), va_P (gD G) vwCl [(e0, .inr (6, [.ref ea, .ref ek, .ref eh, .int (nI q), .ref es, .ref ei, .ref el, .ref ew, .ref et, .ref er, .int lf, .int md, .ref ed, .ref ep, .int pn, .int sp, .ref ex, .ref eu, .int rm, .int la])), (ek, .inl (gI G, 42, .inl (nA ka))), (eh, .inl (gI G, 252, .inl (nA k2)))] H → va_D A [(e0, .inr (6, [.ref ea, .ref ek, .ref eh, .int (nI q), .ref es, .ref ei, .ref el, .ref ew, .ref et, .ref er, .int lf, .int md, .ref ed, .ref ep, .int pn, .int sp, .ref ex, .ref eu, .int rm, .int la])), (ek, .inl (gI G, 42, .inl (nA ka))), (eh, .inl (gI G, 252, .inl (nA k2)))] → va_S A s.heap H locs → ∀ ls : Array Slot, lv_has ls 3 [(2, .int (nI i2)), (0, .ref e0), (1, .int x)] → W p l e ({ frames := 0, cells := 0, slots := 0, locals := 0 } : Room) s m args below meth c H locs 0 0 (MQ below (va_Qi (fun (r : Int32) (u : Nat × (Nat → Nat)) => r = (x) ∧ mH u.1 u.2 = pushH (mH hq hy) (mR ka)) (cB G A (fun (u : Nat × (Nat → Nat)) => [(e0, .inr (6, [.ref ea, .ref ek, .ref eh, .int (nI u.1), .ref es, .ref ei, .ref el, .ref ew, .ref et, .ref er, .int lf, .int md, .ref ed, .ref ep, .int pn, .int sp, .ref ex, .ref eu, .int rm, .int la])), (ek, .inl (gI G, 42, .inl (nA ka))), (eh, .inl (gI G, 252, .inl (nA u.2)))])) A) args s 0 0 A) (F0 m 51 ls []) := by
            intro n_51
            induction n_51 with
            | zero =>
              intro i2 q k2 k3 h0
              exact absurd h0 (Nat.not_lt_zero _)
            | succ n_51 ih_51 =>
              intro i2 q k2 k3 hm_51 hi2 hq5 hk2 hk3 H locs hP hD hS ls hl
              refine lv_iload_n hx hb dX6_changed_51 rfl (lv_at hl 0 rfl) ?_
              refine lv_bipush (v := nI 42) hx hb dX6_changed_52 (by decide +kernel) ?_
              refine zb_ge (tgt := 83) S dX6_changed_54 (by decide) (by omega) (by decide) (fun c_54 => ?_) (fun c_54 => ?_)
              · skip
                have hi42 : i2 = 42 := by omega
                obtain rfl : i2 = 42 := hi42
                refine lv_aload_n hx hb dX6_changed_83 rfl (lv_at hl 1 rfl) ?_
                refine lv_dup hx hb dX6_changed_84 rfl ?_
                refine z_get S K hP hX6_changed_X6 0 rfl rfl 3 (by decide) kX6_changed_1 rfl rfl dX6_changed_85 ?_
                refine lv_iconst (v := nI 1) hx hb dX6_changed_88 (by decide +kernel) ?_
                refine zi_add S dX6_changed_89 ?_
                refine z_put S K hP hD hS (ty0 := tyX6) hX6_changed_X6 tyX6_ok nmX6 0 rfl rfl 3 (by decide) kX6_changed_1 rfl rfl rfl rfl (Nat.le_of_ble_eq_true rfl) dX6_changed_90 (fun H locs hP hD hS => ?_)
                have hP : va_P (gD G) vwCl [(e0, .inr (6, [.ref ea, .ref ek, .ref eh, .int (nI (q + 1)), .ref es, .ref ei, .ref el, .ref ew, .ref et, .ref er, .int lf, .int md, .ref ed, .ref ep, .int pn, .int sp, .ref ex, .ref eu, .int rm, .int la])), (ek, .inl (gI G, 42, .inl (nA ka))), (eh, .inl (gI G, 252, .inl (nA k2)))] H := hP
                have hD : va_D A [(e0, .inr (6, [.ref ea, .ref ek, .ref eh, .int (nI (q + 1)), .ref es, .ref ei, .ref el, .ref ew, .ref et, .ref er, .int lf, .int md, .ref ed, .ref ep, .int pn, .int sp, .ref ex, .ref eu, .int rm, .int la])), (ek, .inl (gI G, 42, .inl (nA ka))), (eh, .inl (gI G, 252, .inl (nA k2)))] := hD
                refine lv_iload_n hx hb dX6_changed_93 rfl (lv_at hl 2 rfl) ?_
                refine z_top (y := (x)) rfl ?_
                exact z_iret S hrt hlk hP hD hS (q + 1, k2) rfl ⟨rfl, (mh_push hk3 hk2 hn hk1)⟩ dX6_changed_94
              · skip
                refine lv_aload_n hx hb dX6_changed_57 rfl (lv_at hl 1 rfl) ?_
                refine z_get S K hP hX6_changed_X6 0 rfl rfl 2 (by decide) kX6_changed_2 rfl rfl dX6_changed_58 ?_
                refine lv_bipush (v := nI 42) hx hb dX6_changed_61 (by decide +kernel) ?_
                refine lv_aload_n hx hb dX6_changed_63 rfl (lv_at hl 1 rfl) ?_
                refine z_get S K hP hX6_changed_X6 0 rfl rfl 3 (by decide) kX6_changed_1 rfl rfl dX6_changed_64 ?_
                refine zi_mul S dX6_changed_67 ?_
                refine lv_iload_n hx hb dX6_changed_68 rfl (lv_at hl 0 rfl) ?_
                refine zi_add S dX6_changed_69 ?_
                refine lv_aload_n hx hb dX6_changed_70 rfl (lv_at hl 1 rfl) ?_
                refine z_get S K hP hX6_changed_X6 0 rfl rfl 1 (by decide) kX6_changed_3 rfl rfl dX6_changed_71 ?_
                refine lv_iload_n hx hb dX6_changed_74 rfl (lv_at hl 0 rfl) ?_
                refine z_iald S K hP 1 rfl (by omega) (by decide) dX6_changed_75 ?_
                refine z_iast S K hP hD hS 2 rfl (by omega) (by decide) dX6_changed_76 (fun H locs hP hD hS => ?_)
                have hP : va_P (gD G) vwCl [(e0, .inr (6, [.ref ea, .ref ek, .ref eh, .int (nI q), .ref es, .ref ei, .ref el, .ref ew, .ref et, .ref er, .int lf, .int md, .ref ed, .ref ep, .int pn, .int sp, .ref ex, .ref eu, .int rm, .int la])), (ek, .inl (gI G, 42, .inl (nA ka))), (eh, .inl (gI G, 252, .inl (nA (pu k2 ((42 * q) + i2) (ka i2)))))] H := hP
                have hD : va_D A [(e0, .inr (6, [.ref ea, .ref ek, .ref eh, .int (nI q), .ref es, .ref ei, .ref el, .ref ew, .ref et, .ref er, .int lf, .int md, .ref ed, .ref ep, .int pn, .int sp, .ref ex, .ref eu, .int rm, .int la])), (ek, .inl (gI G, 42, .inl (nA ka))), (eh, .inl (gI G, 252, .inl (nA (pu k2 ((42 * q) + i2) (ka i2)))))] := hD
                refine lv_iinc (v := (nI (i2 + 1))) (lv' := [(2, .int (nI (i2 + 1))), (0, .ref e0), (1, .int x)]) hx hb dX6_changed_77 hl (k := 0) rfl (z_i1 _) (by decide) rfl (fun ls hl => ?_)
                refine lv_goto (tgt := 51) hx hb dX6_changed_80 (by decide) ?_
                exact ih_51 (i2 + 1) q (pu k2 ((42 * q) + i2) (ka i2)) k3 (by omega) (by omega) hq5 (sh_2 hk2) hk3 _ _ hP hD hS _ (lv_sub hl [0, 1, 2] rfl)
          exact lp_51 _ 0 (hq - 1) k0 k0 (Nat.lt_succ_self _) (by omega) (by omega) (fun j => (if_neg (by omega)).symm) (by first | exact Or.inl ⟨rfl, by omega, rfl⟩ | exact Or.inr ⟨c_6, by omega, fun j hj => (hk j).trans (if_pos (by omega))⟩) _ _ hP hD hS _ (lv_sub hl [0, 1, 2] rfl)
        · skip
          refine lv_aload_n hx hb dX6_changed_18 rfl (lv_at hl 1 rfl) ?_
          refine z_get S K hP hX6_changed_X6 0 rfl rfl 2 (by decide) kX6_changed_2 rfl rfl dX6_changed_19 ?_
          refine lv_iload_n hx hb dX6_changed_22 rfl (lv_at hl 0 rfl) ?_
          refine lv_aload_n hx hb dX6_changed_23 rfl (lv_at hl 1 rfl) ?_
          refine z_get S K hP hX6_changed_X6 0 rfl rfl 2 (by decide) kX6_changed_2 rfl rfl dX6_changed_24 ?_
          refine lv_iload_n hx hb dX6_changed_27 rfl (lv_at hl 0 rfl) ?_
          refine lv_bipush (v := nI 42) hx hb dX6_changed_28 (by decide +kernel) ?_
          refine zi_add S dX6_changed_30 ?_
          refine z_iald S K hP 2 rfl (by omega) (by decide) dX6_changed_31 ?_
          refine z_iast S K hP hD hS 2 rfl (by omega) (by decide) dX6_changed_32 (fun H locs hP hD hS => ?_)
          have hP : va_P (gD G) vwCl [(e0, .inr (6, [.ref ea, .ref ek, .ref eh, .int (nI hq), .ref es, .ref ei, .ref el, .ref ew, .ref et, .ref er, .int lf, .int md, .ref ed, .ref ep, .int pn, .int sp, .ref ex, .ref eu, .int rm, .int la])), (ek, .inl (gI G, 42, .inl (nA ka))), (eh, .inl (gI G, 252, .inl (nA (pu k0 i (k0 (i + 42))))))] H := hP
          have hD : va_D A [(e0, .inr (6, [.ref ea, .ref ek, .ref eh, .int (nI hq), .ref es, .ref ei, .ref el, .ref ew, .ref et, .ref er, .int lf, .int md, .ref ed, .ref ep, .int pn, .int sp, .ref ex, .ref eu, .int rm, .int la])), (ek, .inl (gI G, 42, .inl (nA ka))), (eh, .inl (gI G, 252, .inl (nA (pu k0 i (k0 (i + 42))))))] := hD
          refine lv_iinc (v := (nI (i + 1))) (lv' := [(2, .int (nI (i + 1))), (0, .ref e0), (1, .int x)]) hx hb dX6_changed_33 hl (k := 0) rfl (z_i1 _) (by decide) rfl (fun ls hl => ?_)
          refine lv_goto (tgt := 11) hx hb dX6_changed_36 (by decide) ?_
          exact ih_11 (i + 1) (pu k0 i (k0 (i + 42))) (by omega) (by omega) (sh_1 hk) _ _ hP hD hS _ (lv_sub hl [0, 1, 2] rfl)
    exact lp_11 _ 0 hy (Nat.lt_succ_self _) (by omega) (fun j => (if_neg (Nat.not_lt_zero j)).symm) _ _ hP hD hS _ (lv_sub hl [0, 1, 2] rfl)
set_option maxHeartbeats 4000000 in
set_option maxRecDepth 100000 in
theorem c_X6_reduces (l : Launch) (G : gT) (e0 ea ek eh es ei el ew et er ed ep ex eu : Nat) (hq : Int32) (lf : Int32) (md : Int32) (pn : Int32) (sp : Int32) (rm : Int32) (la : Int32) (le : Nat → Nat) (wh : Nat → Nat) (x : Nat) (q1 : Nat) (q3 : Nat) (hx0 : x < 4096) (hss : ∀ j, le j < 4096) (hrq : redo ox le z0 wh 12 (x, 0, 0) = (q1, 0, q3)) : CV l yX6_reduces wsX6_reduces ({ frames := 0, cells := 0, slots := 0, locals := 0 } : Room) G [.ref e0, .int (nI x)] [(e0, .inr (6, [.ref ea, .ref ek, .ref eh, .int hq, .ref es, .ref ei, .ref el, .ref ew, .ref et, .ref er, .int lf, .int md, .ref ed, .ref ep, .int pn, .int sp, .ref ex, .ref eu, .int rm, .int la])), (el, .inl (gI G, 12, .inl (nA le))), (ew, .inl (gI G, 12, .inl (nA wh)))] 0 0 (fun (u : Unit) => True) (fun (u : Unit) => [(e0, .inr (6, [.ref ea, .ref ek, .ref eh, .int hq, .ref es, .ref ei, .ref el, .ref ew, .ref et, .ref er, .int (nI q1), .int (nI q3), .ref ed, .ref ep, .int pn, .int sp, .ref ex, .ref eu, .int rm, .int la])), (el, .inl (gI G, 12, .inl (nA le))), (ew, .inl (gI G, 12, .inl (nA wh)))]) := by
  refine CV.of (cc := cX6_reduces) (maxL := 3) (ret := none) (by decide +kernel) rfl (Nat.le_of_ble_eq_true rfl) rfl (fun p e s m args below meth c A S hrt hlk hnm K hA hP hD hS ls hl => ?_)
  have hx := S.1
  have hb := S.2.1
  have hl : lv_has ls 3 [(0, .ref e0), (1, .int (nI x))] := hl
  refine lv_aload_n hx hb dX6_reduces_0 rfl (lv_at hl 0 rfl) ?_
  refine lv_iload_n hx hb dX6_reduces_1 rfl (lv_at hl 1 rfl) ?_
  refine z_put S K hP hD hS (ty0 := tyX6) hX6_reduces_X6 tyX6_ok nmX6 0 rfl rfl 10 (by decide) kX6_reduces_1 rfl rfl rfl rfl (Nat.le_of_ble_eq_true rfl) dX6_reduces_2 (fun H locs hP hD hS => ?_)
  have hP : va_P (gD G) vwCl [(e0, .inr (6, [.ref ea, .ref ek, .ref eh, .int hq, .ref es, .ref ei, .ref el, .ref ew, .ref et, .ref er, .int (nI x), .int md, .ref ed, .ref ep, .int pn, .int sp, .ref ex, .ref eu, .int rm, .int la])), (el, .inl (gI G, 12, .inl (nA le))), (ew, .inl (gI G, 12, .inl (nA wh)))] H := hP
  have hD : va_D A [(e0, .inr (6, [.ref ea, .ref ek, .ref eh, .int hq, .ref es, .ref ei, .ref el, .ref ew, .ref et, .ref er, .int (nI x), .int md, .ref ed, .ref ep, .int pn, .int sp, .ref ex, .ref eu, .int rm, .int la])), (el, .inl (gI G, 12, .inl (nA le))), (ew, .inl (gI G, 12, .inl (nA wh)))] := hD
  refine lv_aload_n hx hb dX6_reduces_5 rfl (lv_at hl 0 rfl) ?_
  refine lv_iconst (v := nI 0) hx hb dX6_reduces_6 (by decide +kernel) ?_
  refine z_put S K hP hD hS (ty0 := tyX6) hX6_reduces_X6 tyX6_ok nmX6 0 rfl rfl 11 (by decide) kX6_reduces_2 rfl rfl rfl rfl (Nat.le_of_ble_eq_true rfl) dX6_reduces_7 (fun H locs hP hD hS => ?_)
  have hP : va_P (gD G) vwCl [(e0, .inr (6, [.ref ea, .ref ek, .ref eh, .int hq, .ref es, .ref ei, .ref el, .ref ew, .ref et, .ref er, .int (nI x), .int (nI 0), .ref ed, .ref ep, .int pn, .int sp, .ref ex, .ref eu, .int rm, .int la])), (el, .inl (gI G, 12, .inl (nA le))), (ew, .inl (gI G, 12, .inl (nA wh)))] H := hP
  have hD : va_D A [(e0, .inr (6, [.ref ea, .ref ek, .ref eh, .int hq, .ref es, .ref ei, .ref el, .ref ew, .ref et, .ref er, .int (nI x), .int (nI 0), .ref ed, .ref ep, .int pn, .int sp, .ref ex, .ref eu, .int rm, .int la])), (el, .inl (gI G, 12, .inl (nA le))), (ew, .inl (gI G, 12, .inl (nA wh)))] := hD
  refine lv_bipush (v := nI 11) hx hb dX6_reduces_10 (by decide +kernel) ?_
  refine lv_istore_n (lv' := [(2, .int (nI 11)), (0, .ref e0), (1, .int (nI x))]) hx hb dX6_reduces_12 rfl hl (by decide) rfl (fun ls hl => ?_)
  have lp_13 : ∀ (n_13 : Nat) (k r1 r3 : Nat), k + 1 < n_13 → (k ≤ 12) → (redo ox le z0 wh (12 - k) (x, 0, 0) = (r1, 0, r3)) → (r1 < 4096) → ∀ (H : Heap) (locs : List Loc), va_P (gD G) vwCl [(e0, .inr (6, [.ref ea, .ref ek, .ref eh, .int hq, .ref es, .ref ei, .ref el, .ref ew, .ref et, .ref er, .int (nI r1), .int (nI r3), .ref ed, .ref ep, .int pn, .int sp, .ref ex, .ref eu, .int rm, .int la])), (el, .inl (gI G, 12, .inl (nA le))), (ew, .inl (gI G, 12, .inl (nA wh)))] H → va_D A [(e0, .inr (6, [.ref ea, .ref ek, .ref eh, .int hq, .ref es, .ref ei, .ref el, .ref ew, .ref et, .ref er, .int (nI r1), .int (nI r3), .ref ed, .ref ep, .int pn, .int sp, .ref ex, .ref eu, .int rm, .int la])), (el, .inl (gI G, 12, .inl (nA le))), (ew, .inl (gI G, 12, .inl (nA wh)))] → va_S A s.heap H locs → ∀ ls : Array Slot, lv_has ls 3 [(2, .int (dn k)), (0, .ref e0), (1, .int (nI x))] → W p l e ({ frames := 0, cells := 0, slots := 0, locals := 0 } : Room) s m args below meth c H locs 0 0 (MQ below (va_Qv (fun (u : Unit) => True) (cB G A (fun (u : Unit) => [(e0, .inr (6, [.ref ea, .ref ek, .ref eh, .int hq, .ref es, .ref ei, .ref el, .ref ew, .ref et, .ref er, .int (nI q1), .int (nI q3), .ref ed, .ref ep, .int pn, .int sp, .ref ex, .ref eu, .int rm, .int la])), (el, .inl (gI G, 12, .inl (nA le))), (ew, .inl (gI G, 12, .inl (nA wh)))])) A) args s 0 0 A) (F0 m 13 ls []) := by
    intro n_13
    induction n_13 with
    | zero =>
      intro k r1 r3 h0
      exact absurd h0 (Nat.not_lt_zero _)
    | succ n_13 ih_13 =>
      intro k r1 r3 hm_13 hk hr hb1 H locs hP hD hS ls hl
      rcases k with _ | k
      · skip
        have hl : lv_has ls 3 [(2, .int (-1)), (0, .ref e0), (1, .int (nI x))] := hl
        have hP : va_P (gD G) vwCl [(e0, .inr (6, [.ref ea, .ref ek, .ref eh, .int hq, .ref es, .ref ei, .ref el, .ref ew, .ref et, .ref er, .int (nI r1), .int (nI r3), .ref ed, .ref ep, .int pn, .int sp, .ref ex, .ref eu, .int rm, .int la])), (el, .inl (gI G, 12, .inl (nA le))), (ew, .inl (gI G, 12, .inl (nA wh)))] H := hP
        have hD : va_D A [(e0, .inr (6, [.ref ea, .ref ek, .ref eh, .int hq, .ref es, .ref ei, .ref el, .ref ew, .ref et, .ref er, .int (nI r1), .int (nI r3), .ref ed, .ref ep, .int pn, .int sp, .ref ex, .ref eu, .int rm, .int la])), (el, .inl (gI G, 12, .inl (nA le))), (ew, .inl (gI G, 12, .inl (nA wh)))] := hD
        refine lv_iload_n hx hb dX6_reduces_13 rfl (lv_at hl 0 rfl) ?_
        refine zq_lt (tgt := 74) S dX6_reduces_14 (by decide) (by decide : (-1 : Int32).toInt = -1) (fun c_14 => ?_) (fun c_14 => ?_)
        · skip
          have hz := hr.symm.trans hrq
          obtain rfl : q1 = r1 := Eq.symm (congrArg (·.1) hz)
          obtain rfl : q3 = r3 := Eq.symm (congrArg (·.2.2) hz)
          exact z_vret S hrt hlk hP hD hS () rfl trivial dX6_reduces_74
        · skip
          exact absurd c_14 (by omega)
      · skip
        have hl : lv_has ls 3 [(2, .int (nI k)), (0, .ref e0), (1, .int (nI x))] := hl
        have hP : va_P (gD G) vwCl [(e0, .inr (6, [.ref ea, .ref ek, .ref eh, .int hq, .ref es, .ref ei, .ref el, .ref ew, .ref et, .ref er, .int (nI r1), .int (nI r3), .ref ed, .ref ep, .int pn, .int sp, .ref ex, .ref eu, .int rm, .int la])), (el, .inl (gI G, 12, .inl (nA le))), (ew, .inl (gI G, 12, .inl (nA wh)))] H := hP
        have hD : va_D A [(e0, .inr (6, [.ref ea, .ref ek, .ref eh, .int hq, .ref es, .ref ei, .ref el, .ref ew, .ref et, .ref er, .int (nI r1), .int (nI r3), .ref ed, .ref ep, .int pn, .int sp, .ref ex, .ref eu, .int rm, .int la])), (el, .inl (gI G, 12, .inl (nA le))), (ew, .inl (gI G, 12, .inl (nA wh)))] := hD
        refine lv_iload_n hx hb dX6_reduces_13 rfl (lv_at hl 0 rfl) ?_
        refine zq_lt (tgt := 74) S dX6_reduces_14 (by decide) (z_toInt (by omega)) (fun c_14 => ?_) (fun c_14 => ?_)
        · skip
          exact absurd c_14 (by omega)
        · skip
          refine lv_aload_n hx hb dX6_reduces_17 rfl (lv_at hl 1 rfl) ?_
          refine z_get S K hP hX6_reduces_X6 0 rfl rfl 10 (by decide) kX6_reduces_1 rfl rfl dX6_reduces_18 ?_
          refine lv_iload_n hx hb dX6_reduces_21 rfl (lv_at hl 0 rfl) ?_
          refine zi_shr S dX6_reduces_22 (by omega) (by omega) ?_
          refine lv_iconst (v := nI 1) hx hb dX6_reduces_23 (by decide +kernel) ?_
          refine zi_and S dX6_reduces_24 ?_
          refine lv_iconst (v := nI 1) hx hb dX6_reduces_25 (by decide +kernel) ?_
          refine zb_ne (tgt := 68) S dX6_reduces_26 (by decide) and1_31 (by decide) (fun c_26 => ?_) (fun c_26 => ?_)
          · skip
            refine lv_iinc (v := (dn k)) (lv' := [(2, .int (dn k)), (0, .ref e0), (1, .int (nI x))]) hx hb dX6_reduces_68 hl (k := 0) rfl (z_imd _) (by decide) rfl (fun ls hl => ?_)
            refine lv_goto (tgt := 13) hx hb dX6_reduces_71 (by decide) ?_
            exact ih_13 k r1 r3 (by omega) (by omega) (by first | exact mred_hit hr hk c_26 c_35 | exact mred_sk hr hk (Or.inl c_26) | exact mred_sk hr hk (Or.inr c_35)) (by first | assumption | exact xor12 hb1 (hss _)) _ _ hP hD hS _ (lv_sub hl [0, 1, 2] rfl)
          · skip
            refine lv_aload_n hx hb dX6_reduces_29 rfl (lv_at hl 1 rfl) ?_
            refine z_get S K hP hX6_reduces_X6 0 rfl rfl 6 (by decide) kX6_reduces_3 rfl rfl dX6_reduces_30 ?_
            refine lv_iload_n hx hb dX6_reduces_33 rfl (lv_at hl 0 rfl) ?_
            refine z_iald S K hP 1 rfl (by omega) (by decide) dX6_reduces_34 ?_
            have q_34 := hss k
            refine zf_eq (tgt := 68) S dX6_reduces_35 (by decide) (by omega) (fun c_35 => ?_) (fun c_35 => ?_)
            · skip
              refine lv_iinc (v := (dn k)) (lv' := [(2, .int (dn k)), (0, .ref e0), (1, .int (nI x))]) hx hb dX6_reduces_68 hl (k := 0) rfl (z_imd _) (by decide) rfl (fun ls hl => ?_)
              refine lv_goto (tgt := 13) hx hb dX6_reduces_71 (by decide) ?_
              exact ih_13 k r1 r3 (by omega) (by omega) (by first | exact mred_hit hr hk c_26 c_35 | exact mred_sk hr hk (Or.inl c_26) | exact mred_sk hr hk (Or.inr c_35)) (by first | assumption | exact xor12 hb1 (hss _)) _ _ hP hD hS _ (lv_sub hl [0, 1, 2] rfl)
            · skip
              refine lv_aload_n hx hb dX6_reduces_38 rfl (lv_at hl 1 rfl) ?_
              refine lv_dup hx hb dX6_reduces_39 rfl ?_
              refine z_get S K hP hX6_reduces_X6 0 rfl rfl 10 (by decide) kX6_reduces_1 rfl rfl dX6_reduces_40 ?_
              refine lv_aload_n hx hb dX6_reduces_43 rfl (lv_at hl 1 rfl) ?_
              refine z_get S K hP hX6_reduces_X6 0 rfl rfl 6 (by decide) kX6_reduces_3 rfl rfl dX6_reduces_44 ?_
              refine lv_iload_n hx hb dX6_reduces_47 rfl (lv_at hl 0 rfl) ?_
              refine z_iald S K hP 1 rfl (by omega) (by decide) dX6_reduces_48 ?_
              have q_48 := hss k
              refine zi_xor S dX6_reduces_49 ?_
              refine z_put S K hP hD hS (ty0 := tyX6) hX6_reduces_X6 tyX6_ok nmX6 0 rfl rfl 10 (by decide) kX6_reduces_1 rfl rfl rfl rfl (Nat.le_of_ble_eq_true rfl) dX6_reduces_50 (fun H locs hP hD hS => ?_)
              have hP : va_P (gD G) vwCl [(e0, .inr (6, [.ref ea, .ref ek, .ref eh, .int hq, .ref es, .ref ei, .ref el, .ref ew, .ref et, .ref er, .int (nI (r1 ^^^ (le k))), .int (nI r3), .ref ed, .ref ep, .int pn, .int sp, .ref ex, .ref eu, .int rm, .int la])), (el, .inl (gI G, 12, .inl (nA le))), (ew, .inl (gI G, 12, .inl (nA wh)))] H := hP
              have hD : va_D A [(e0, .inr (6, [.ref ea, .ref ek, .ref eh, .int hq, .ref es, .ref ei, .ref el, .ref ew, .ref et, .ref er, .int (nI (r1 ^^^ (le k))), .int (nI r3), .ref ed, .ref ep, .int pn, .int sp, .ref ex, .ref eu, .int rm, .int la])), (el, .inl (gI G, 12, .inl (nA le))), (ew, .inl (gI G, 12, .inl (nA wh)))] := hD
              refine lv_aload_n hx hb dX6_reduces_53 rfl (lv_at hl 1 rfl) ?_
              refine lv_dup hx hb dX6_reduces_54 rfl ?_
              refine z_get S K hP hX6_reduces_X6 0 rfl rfl 11 (by decide) kX6_reduces_2 rfl rfl dX6_reduces_55 ?_
              refine lv_aload_n hx hb dX6_reduces_58 rfl (lv_at hl 1 rfl) ?_
              refine z_get S K hP hX6_reduces_X6 0 rfl rfl 7 (by decide) kX6_reduces_4 rfl rfl dX6_reduces_59 ?_
              refine lv_iload_n hx hb dX6_reduces_62 rfl (lv_at hl 0 rfl) ?_
              refine z_iald S K hP 2 rfl (by omega) (by decide) dX6_reduces_63 ?_
              refine zi_xor S dX6_reduces_64 ?_
              refine z_put S K hP hD hS (ty0 := tyX6) hX6_reduces_X6 tyX6_ok nmX6 0 rfl rfl 11 (by decide) kX6_reduces_2 rfl rfl rfl rfl (Nat.le_of_ble_eq_true rfl) dX6_reduces_65 (fun H locs hP hD hS => ?_)
              have hP : va_P (gD G) vwCl [(e0, .inr (6, [.ref ea, .ref ek, .ref eh, .int hq, .ref es, .ref ei, .ref el, .ref ew, .ref et, .ref er, .int (nI (r1 ^^^ (le k))), .int (nI (r3 ^^^ (wh k))), .ref ed, .ref ep, .int pn, .int sp, .ref ex, .ref eu, .int rm, .int la])), (el, .inl (gI G, 12, .inl (nA le))), (ew, .inl (gI G, 12, .inl (nA wh)))] H := hP
              have hD : va_D A [(e0, .inr (6, [.ref ea, .ref ek, .ref eh, .int hq, .ref es, .ref ei, .ref el, .ref ew, .ref et, .ref er, .int (nI (r1 ^^^ (le k))), .int (nI (r3 ^^^ (wh k))), .ref ed, .ref ep, .int pn, .int sp, .ref ex, .ref eu, .int rm, .int la])), (el, .inl (gI G, 12, .inl (nA le))), (ew, .inl (gI G, 12, .inl (nA wh)))] := hD
              refine lv_iinc (v := (dn k)) (lv' := [(2, .int (dn k)), (0, .ref e0), (1, .int (nI x))]) hx hb dX6_reduces_68 hl (k := 0) rfl (z_imd _) (by decide) rfl (fun ls hl => ?_)
              refine lv_goto (tgt := 13) hx hb dX6_reduces_71 (by decide) ?_
              exact ih_13 k (r1 ^^^ (le k)) (r3 ^^^ (wh k)) (by omega) (by omega) (by first | exact mred_hit hr hk c_26 c_35 | exact mred_sk hr hk (Or.inl c_26) | exact mred_sk hr hk (Or.inr c_35)) (by first | assumption | exact xor12 hb1 (hss _)) _ _ hP hD hS _ (lv_sub hl [0, 1, 2] rfl)
  exact lp_13 _ 12 x 0 (Nat.lt_succ_self _) (by omega) rfl hx0 _ _ hP hD hS _ (lv_sub hl [0, 1, 2] rfl)
set_option maxHeartbeats 4000000 in
set_option maxRecDepth 100000 in
theorem c_X6_sumOf (l : Launch) (G : gT) (e0 ea ek eh es ei el ew et er ed ep ex eu : Nat) (hq : Int32) (lf : Int32) (md : Int32) (pn : Int32) (sp : Int32) (rm : Int32) (la : Int32) (al : Nat → Nat) (w : Nat) (hn3 : al 1 ≤ 20) (hw : w < 2147483648) : CI l yX6_sumOf wsX6_sumOf ({ frames := 0, cells := 0, slots := 0, locals := 0 } : Room) G [.ref e0, .int (nI w)] [(e0, .inr (6, [.ref ea, .ref ek, .ref eh, .int hq, .ref es, .ref ei, .ref el, .ref ew, .ref et, .ref er, .int lf, .int md, .ref ed, .ref ep, .int pn, .int sp, .ref ex, .ref eu, .int rm, .int la])), (ea, .inl (gI G, 42, .inl (nA al)))] 0 0 (fun (r : Int32) (u : Unit) => r = nI (cmb (fun j => al (22 + j)) (al 1) w)) (fun (u : Unit) => [(e0, .inr (6, [.ref ea, .ref ek, .ref eh, .int hq, .ref es, .ref ei, .ref el, .ref ew, .ref et, .ref er, .int lf, .int md, .ref ed, .ref ep, .int pn, .int sp, .ref ex, .ref eu, .int rm, .int la])), (ea, .inl (gI G, 42, .inl (nA al)))]) := by
  refine CI.of (cc := cX6_sumOf) (maxL := 4) (ret := (some .int)) (by decide +kernel) rfl (Nat.le_of_ble_eq_true rfl) rfl (fun p e s m args below meth c A S hrt hlk hnm K hA hP hD hS ls hl => ?_)
  have hx := S.1
  have hb := S.2.1
  have hl : lv_has ls 4 [(0, .ref e0), (1, .int (nI w))] := hl
  refine lv_iconst (v := nI 0) hx hb dX6_sumOf_0 (by decide +kernel) ?_
  refine lv_istore_n (lv' := [(2, .int (nI 0)), (0, .ref e0), (1, .int (nI w))]) hx hb dX6_sumOf_1 rfl hl (by decide) rfl (fun ls hl => ?_)
  refine lv_iconst (v := nI 0) hx hb dX6_sumOf_2 (by decide +kernel) ?_
  refine lv_istore_n (lv' := [(3, .int (nI 0)), (2, .int (nI 0)), (0, .ref e0), (1, .int (nI w))]) hx hb dX6_sumOf_3 rfl hl (by decide) rfl (fun ls hl => ?_)
  have lp_4 : ∀ (n_4 : Nat) (i y : Nat), al 1 - i < n_4 → (i ≤ al 1) → (y = cmb (fun j => al (22 + j)) i w) → ∀ (H : Heap) (locs : List Loc), va_P (gD G) vwCl [(e0, .inr (6, [.ref ea, .ref ek, .ref eh, .int hq, .ref es, .ref ei, .ref el, .ref ew, .ref et, .ref er, .int lf, .int md, .ref ed, .ref ep, .int pn, .int sp, .ref ex, .ref eu, .int rm, .int la])), (ea, .inl (gI G, 42, .inl (nA al)))] H → va_D A [(e0, .inr (6, [.ref ea, .ref ek, .ref eh, .int hq, .ref es, .ref ei, .ref el, .ref ew, .ref et, .ref er, .int lf, .int md, .ref ed, .ref ep, .int pn, .int sp, .ref ex, .ref eu, .int rm, .int la])), (ea, .inl (gI G, 42, .inl (nA al)))] → va_S A s.heap H locs → ∀ ls : Array Slot, lv_has ls 4 [(3, .int (nI i)), (2, .int (nI y)), (0, .ref e0), (1, .int (nI w))] → W p l e ({ frames := 0, cells := 0, slots := 0, locals := 0 } : Room) s m args below meth c H locs 0 0 (MQ below (va_Qi (fun (r : Int32) (u : Unit) => r = nI (cmb (fun j => al (22 + j)) (al 1) w)) (cB G A (fun (u : Unit) => [(e0, .inr (6, [.ref ea, .ref ek, .ref eh, .int hq, .ref es, .ref ei, .ref el, .ref ew, .ref et, .ref er, .int lf, .int md, .ref ed, .ref ep, .int pn, .int sp, .ref ex, .ref eu, .int rm, .int la])), (ea, .inl (gI G, 42, .inl (nA al)))])) A) args s 0 0 A) (F0 m 4 ls []) := by
    intro n_4
    induction n_4 with
    | zero =>
      intro i y h0
      exact absurd h0 (Nat.not_lt_zero _)
    | succ n_4 ih_4 =>
      intro i y hm_4 hi hy0 H locs hP hD hS ls hl
      refine lv_iload_n hx hb dX6_sumOf_4 rfl (lv_at hl 0 rfl) ?_
      refine lv_aload_n hx hb dX6_sumOf_5 rfl (lv_at hl 2 rfl) ?_
      refine z_get S K hP hX6_sumOf_X6 0 rfl rfl 0 (by decide) kX6_sumOf_1 rfl rfl dX6_sumOf_6 ?_
      refine lv_iconst (v := nI 1) hx hb dX6_sumOf_9 (by decide +kernel) ?_
      refine z_iald S K hP 1 rfl (by omega) (by decide) dX6_sumOf_10 ?_
      refine zb_ge (tgt := 45) S dX6_sumOf_11 (by decide) (by omega) (by omega) (fun c_11 => ?_) (fun c_11 => ?_)
      · skip
        have hia : i = al 1 := by omega
        refine lv_iload_n hx hb dX6_sumOf_45 rfl (lv_at hl 1 rfl) ?_
        refine z_top (y := nI (cmb (fun j => al (22 + j)) (al 1) w)) (congrArg nI (by rw [hy0, hia])) ?_
        exact z_iret S hrt hlk hP hD hS () rfl rfl dX6_sumOf_46
      · skip
        refine lv_iload_n hx hb dX6_sumOf_14 rfl (lv_at hl 1 rfl) ?_
        refine lv_iload_n hx hb dX6_sumOf_15 rfl (lv_at hl 3 rfl) ?_
        refine lv_iload_n hx hb dX6_sumOf_16 rfl (lv_at hl 0 rfl) ?_
        refine zi_shr S dX6_sumOf_17 (by omega) (by omega) ?_
        refine lv_iconst (v := nI 1) hx hb dX6_sumOf_18 (by decide +kernel) ?_
        refine zi_and S dX6_sumOf_19 ?_
        refine lv_iconst (v := nI 1) hx hb dX6_sumOf_20 (by decide +kernel) ?_
        refine zb_ne (tgt := 36) S dX6_sumOf_21 (by decide) and1_31 (by decide) (fun c_21 => ?_) (fun c_21 => ?_)
        · skip
          refine lv_iconst (v := nI 0) hx hb dX6_sumOf_36 (by decide +kernel) ?_
          refine zi_xor S dX6_sumOf_37 ?_
          refine lv_istore_n (lv' := [(2, .int (nI (y ^^^ 0))), (3, .int (nI i)), (0, .ref e0), (1, .int (nI w))]) hx hb dX6_sumOf_38 rfl hl (by decide) rfl (fun ls hl => ?_)
          refine lv_iinc (v := (nI (i + 1))) (lv' := [(3, .int (nI (i + 1))), (2, .int (nI (y ^^^ 0))), (0, .ref e0), (1, .int (nI w))]) hx hb dX6_sumOf_39 hl (k := 1) rfl (z_i1 _) (by decide) rfl (fun ls hl => ?_)
          refine lv_goto (tgt := 4) hx hb dX6_sumOf_42 (by decide) ?_
          exact ih_4 (i + 1) (y ^^^ 0) (by omega) (by omega) (by first | exact mcmb_1 (f := fun j => al (22 + j)) hy0 c_21 | exact mcmb_0 (f := fun j => al (22 + j)) hy0 c_21) _ _ hP hD hS _ (lv_sub hl [0, 1, 2, 3] rfl)
        · skip
          refine lv_aload_n hx hb dX6_sumOf_24 rfl (lv_at hl 2 rfl) ?_
          refine z_get S K hP hX6_sumOf_X6 0 rfl rfl 0 (by decide) kX6_sumOf_1 rfl rfl dX6_sumOf_25 ?_
          refine lv_bipush (v := nI 22) hx hb dX6_sumOf_28 (by decide +kernel) ?_
          refine lv_iload_n hx hb dX6_sumOf_30 rfl (lv_at hl 0 rfl) ?_
          refine zi_add S dX6_sumOf_31 ?_
          refine z_iald S K hP 1 rfl (by omega) (by decide) dX6_sumOf_32 ?_
          refine lv_goto (tgt := 37) hx hb dX6_sumOf_33 (by decide) ?_
          refine zi_xor S dX6_sumOf_37 ?_
          refine lv_istore_n (lv' := [(2, .int (nI (y ^^^ (al (22 + i))))), (3, .int (nI i)), (0, .ref e0), (1, .int (nI w))]) hx hb dX6_sumOf_38 rfl hl (by decide) rfl (fun ls hl => ?_)
          refine lv_iinc (v := (nI (i + 1))) (lv' := [(3, .int (nI (i + 1))), (2, .int (nI (y ^^^ (al (22 + i))))), (0, .ref e0), (1, .int (nI w))]) hx hb dX6_sumOf_39 hl (k := 1) rfl (z_i1 _) (by decide) rfl (fun ls hl => ?_)
          refine lv_goto (tgt := 4) hx hb dX6_sumOf_42 (by decide) ?_
          exact ih_4 (i + 1) (y ^^^ (al (22 + i))) (by omega) (by omega) (by first | exact mcmb_1 (f := fun j => al (22 + j)) hy0 c_21 | exact mcmb_0 (f := fun j => al (22 + j)) hy0 c_21) _ _ hP hD hS _ (lv_sub hl [0, 1, 2, 3] rfl)
  exact lp_4 _ 0 0 (Nat.lt_succ_self _) (by omega) rfl _ _ hP hD hS _ (lv_sub hl [0, 1, 2, 3] rfl)
