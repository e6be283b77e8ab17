set_option maxHeartbeats 4000000 in
set_option maxRecDepth 100000 in
theorem c_X5_charactersIn (l : Launch) (G : gT) (w : Nat) (hu : w < 2 ^ 64) : CI l yX5_charactersIn wsX5_charactersIn ({ frames := 0, cells := 0, slots := 0, locals := 0 } : Room) G [.long (lN w)] [] 0 0 (fun (r : Int32) (u : Unit) => r = nI (cin w)) (fun (u : Unit) => []) := by
  refine CI.of (cc := cX5_charactersIn) (maxL := 7) (ret := (some .int)) (by decide +kernel) rfl (Nat.le_of_ble_eq_true rfl) rfl (fun p e s m args below meth c A S hrt hlk hnm K hA hP hD hS ls hl => ?_)
  have hx := S.1
  have hb := S.2.1
  have hl : lv_has ls 7 [(0, .long (lN w))] := hl
  have hu0 : w >>> (8 * 0) = w := rfl
  refine lv_lload_n hx hb dX5_charactersIn_0 rfl (lv_at hl 0 rfl) ?_
  refine lv_lstore_n (lv' := [(2, .long (lN w)), (0, .long (lN w))]) hx hb dX5_charactersIn_1 rfl hl (by decide) rfl (fun ls hl => ?_)
  refine lv_iconst (v := nI 0) hx hb dX5_charactersIn_2 (by decide +kernel) ?_
  refine lv_istore (lv' := [(4, .int (nI 0)), (2, .long (lN w)), (0, .long (lN w))]) hx hb dX5_charactersIn_3 hl (by decide) rfl (fun ls hl => ?_)
  have lp_5 : ∀ (n_5 : Nat) (y : Nat), 9 - y < n_5 → (y ≤ 8) → (∀ k, k < y → 33 ≤ byt w k ∧ byt w k ≤ 126) → ∀ (H : Heap) (locs : List Loc), va_P (gD G) vwCl [] H → va_D A [] → va_S A s.heap H locs → ∀ ls : Array Slot, lv_has ls 7 [(4, .int (nI y)), (2, .long (lN (w >>> (8 * y)))), (0, .long (lN w))] → W p l e ({ frames := 0, cells := 0, slots := 0, locals := 0 } : Room) s m args below meth c H locs 0 0 (MQ below (va_Qi (fun (r : Int32) (u : Unit) => r = nI (cin w)) (cB G A (fun (u : Unit) => [])) A) args s 0 0 A) (F0 m 5 ls []) := by
    intro n_5
    induction n_5 with
    | zero =>
      intro y h0
      exact absurd h0 (Nat.not_lt_zero _)
    | succ n_5 ih_5 =>
      intro y hm_5 hm hby H locs hP hD hS ls hl
      refine lv_iload hx hb dX5_charactersIn_5 (lv_at hl 0 rfl) ?_
      refine lv_bipush (v := nI 8) hx hb dX5_charactersIn_7 (by decide +kernel) ?_
      refine zb_ge (tgt := 60) S dX5_charactersIn_9 (by decide) (by omega) (by decide) (fun c_9 => ?_) (fun c_9 => ?_)
      · skip
        have hrs : w >>> (8 * y) ≤ w := Nat.shiftRight_le _ _
        have hend : y = 8 ∨ byt w y = 0 := by first | exact Or.inl (by omega) | exact Or.inr (by omega)
        refine lv_lload_n hx hb dX5_charactersIn_60 rfl (lv_at hl 1 rfl) ?_
        refine lv_lconst (v := lN 0) hx hb dX5_charactersIn_61 (by decide +kernel) ?_
        refine zl_ne (tgt := 71) S dX5_charactersIn_62 dX5_charactersIn_63 (by decide) rfl (lN_toInt (by decide)) (fun c_63 => ?_) (fun c_63 => ?_)
        · skip
          refine lv_iconst (v := nI 0) hx hb dX5_charactersIn_71 (by decide +kernel) ?_
          refine z_top (y := nI (cin w)) (congrArg nI (cin_left hend (fun q => c_63 ((lN_0 (by omega)).mpr q))).symm) ?_
          exact z_iret S hrt hlk hP hD hS () rfl rfl dX5_charactersIn_72
        · skip
          refine lv_iload hx hb dX5_charactersIn_66 (lv_at hl 0 rfl) ?_
          refine lv_goto (tgt := 72) hx hb dX5_charactersIn_68 (by decide) ?_
          refine z_top (y := nI (cin w)) (congrArg nI (cin_eq ⟨hm, hby, (lN_0 (by omega)).mp c_63⟩).symm) ?_
          exact z_iret S hrt hlk hP hD hS () rfl rfl dX5_charactersIn_72
      · skip
        have hrs : w >>> (8 * y) ≤ w := Nat.shiftRight_le _ _
        have hbl := byt_le w y
        refine lv_lload_n hx hb dX5_charactersIn_12 rfl (lv_at hl 1 rfl) ?_
        refine lv_ldc2 (v := lN 255) hx hb S.2.2.2.1 (S.2.2.2.2 _ kX5_charactersIn_1) dX5_charactersIn_13 ?_
        refine lv_land hx hb dX5_charactersIn_16 ?_
        refine z_topl (lN_and (by omega) (by decide)) ?_
        refine z_topl (y := lN (byt w y)) rfl ?_
        refine lv_lconst (v := lN 0) hx hb dX5_charactersIn_17 (by decide +kernel) ?_
        refine zl_eq (tgt := 60) S dX5_charactersIn_18 dX5_charactersIn_19 (by decide) (lN_toInt (by omega)) (lN_toInt (by decide)) (fun c_19 => ?_) (fun c_19 => ?_)
        · skip
          have hrs : w >>> (8 * y) ≤ w := Nat.shiftRight_le _ _
          have hend : y = 8 ∨ byt w y = 0 := by first | exact Or.inl (by omega) | exact Or.inr (by omega)
          refine lv_lload_n hx hb dX5_charactersIn_60 rfl (lv_at hl 1 rfl) ?_
          refine lv_lconst (v := lN 0) hx hb dX5_charactersIn_61 (by decide +kernel) ?_
          refine zl_ne (tgt := 71) S dX5_charactersIn_62 dX5_charactersIn_63 (by decide) rfl (lN_toInt (by decide)) (fun c_63 => ?_) (fun c_63 => ?_)
          · skip
            refine lv_iconst (v := nI 0) hx hb dX5_charactersIn_71 (by decide +kernel) ?_
            refine z_top (y := nI (cin w)) (congrArg nI (cin_left hend (fun q => c_63 ((lN_0 (by omega)).mpr q))).symm) ?_
            exact z_iret S hrt hlk hP hD hS () rfl rfl dX5_charactersIn_72
          · skip
            refine lv_iload hx hb dX5_charactersIn_66 (lv_at hl 0 rfl) ?_
            refine lv_goto (tgt := 72) hx hb dX5_charactersIn_68 (by decide) ?_
            refine z_top (y := nI (cin w)) (congrArg nI (cin_eq ⟨hm, hby, (lN_0 (by omega)).mp c_63⟩).symm) ?_
            exact z_iret S hrt hlk hP hD hS () rfl rfl dX5_charactersIn_72
        · skip
          refine lv_lload_n hx hb dX5_charactersIn_22 rfl (lv_at hl 1 rfl) ?_
          refine lv_ldc2 (v := lN 255) hx hb S.2.2.2.1 (S.2.2.2.2 _ kX5_charactersIn_1) dX5_charactersIn_23 ?_
          refine lv_land hx hb dX5_charactersIn_26 ?_
          refine z_topl (lN_and (by omega) (by decide)) ?_
          refine z_topl (y := lN (byt w y)) rfl ?_
          refine lv_lstore (lv' := [(5, .long (lN (byt w y))), (4, .int (nI y)), (2, .long (lN (w >>> (8 * y)))), (0, .long (lN w))]) hx hb dX5_charactersIn_27 hl (by decide) rfl (fun ls hl => ?_)
          refine lv_lload hx hb dX5_charactersIn_29 (lv_at hl 0 rfl) ?_
          refine lv_ldc2 (v := lN 33) hx hb S.2.2.2.1 (S.2.2.2.2 _ kX5_charactersIn_2) dX5_charactersIn_31 ?_
          refine zl_lt (tgt := 47) S dX5_charactersIn_34 dX5_charactersIn_35 (by decide) (lN_toInt (by omega)) (lN_toInt (by decide)) (fun c_35 => ?_) (fun c_35 => ?_)
          · skip
            refine lv_iconst (v := nI 0) hx hb dX5_charactersIn_47 (by decide +kernel) ?_
            refine z_top (y := nI (cin w)) (congrArg nI (cin_bad (u := w) (m := y) (by omega) (by omega)).symm) ?_
            exact z_iret S hrt hlk hP hD hS () rfl rfl dX5_charactersIn_48
          · skip
            refine lv_lload hx hb dX5_charactersIn_38 (lv_at hl 0 rfl) ?_
            refine lv_ldc2 (v := lN 126) hx hb S.2.2.2.1 (S.2.2.2.2 _ kX5_charactersIn_3) dX5_charactersIn_40 ?_
            refine zl_le (tgt := 49) S dX5_charactersIn_43 dX5_charactersIn_44 (by decide) (lN_toInt (by omega)) (lN_toInt (by decide)) (fun c_44 => ?_) (fun c_44 => ?_)
            · skip
              refine lv_lload_n hx hb dX5_charactersIn_49 rfl (lv_at hl 2 rfl) ?_
              refine lv_bipush (v := nI 8) hx hb dX5_charactersIn_50 (by decide +kernel) ?_
              refine lv_lushr (v := lN ((w >>> (8 * y)) >>> 8)) hx hb dX5_charactersIn_52 (lN_shr (by omega) (by omega)) ?_
              refine z_topl (y := lN (w >>> (8 * (y + 1)))) (by rw [← Nat.shiftRight_add]; rfl) ?_
              refine lv_lstore_n (lv' := [(2, .long (lN (w >>> (8 * (y + 1))))), (5, .long (lN (byt w y))), (4, .int (nI y)), (0, .long (lN w))]) hx hb dX5_charactersIn_53 rfl hl (by decide) rfl (fun ls hl => ?_)
              refine lv_iinc (v := (nI (y + 1))) (lv' := [(4, .int (nI (y + 1))), (2, .long (lN (w >>> (8 * (y + 1))))), (5, .long (lN (byt w y))), (0, .long (lN w))]) hx hb dX5_charactersIn_54 hl (k := 2) rfl (z_i1 _) (by decide) rfl (fun ls hl => ?_)
              refine lv_goto (tgt := 5) hx hb dX5_charactersIn_57 (by decide) ?_
              exact ih_5 (y + 1) (by omega) (by omega) (fun k hk => by by_cases e : k = y; subst e; omega; exact hby k (by omega)) _ _ hP hD hS _ (lv_sub hl [0, 1, 3] rfl)
            · skip
              refine lv_iconst (v := nI 0) hx hb dX5_charactersIn_47 (by decide +kernel) ?_
              refine z_top (y := nI (cin w)) (congrArg nI (cin_bad (u := w) (m := y) (by omega) (by omega)).symm) ?_
              exact z_iret S hrt hlk hP hD hS () rfl rfl dX5_charactersIn_48
  have hl : lv_has ls 7 [(4, .int (nI 0)), (2, .long (lN (w >>> (8 * 0)))), (0, .long (lN w))] := hl
  exact lp_5 _ 0 (Nat.lt_succ_self _) (by omega) (fun k hk => absurd hk (Nat.not_lt_zero _)) _ _ hP hD hS _ (lv_sub hl [0, 1, 2] rfl)
