set_option maxHeartbeats 4000000 in
set_option maxRecDepth 100000 in
theorem c_X6_restore (l : Launch) (G : gT) (e0 ea ek eh es ei el ew et er ed ep ex eu : Nat) (lf : Int32) (md : Int32) (pn : Int32) (sp : Int32) (rm : Int32) (la : Int32) (al : Nat → Nat) (ka : Nat → Nat) (hy : Nat → Nat) (so : Nat → Nat) (iv : Nat → Nat) (hq : Nat) (x : Int32) (hR : RowOK (mR al)) (hq6 : hq ≤ 6) (hn : ∀ k, k < hq → hy (42 * k + 1) ≤ 20) (hiv : ∀ k, k < 2 → iv k ≤ 1) (hSv : ∀ k, k < 2 → ¬ iv k = 0 → RowOK (mR (fun j => so (42 * k + j)))) : CI l yX6_restore wsX6_restore ({ frames := 1, cells := 0, slots := 0, locals := 25 } : Room) G [.ref e0, .int x] [(e0, .inr (6, [.ref ea, .ref ek, .ref eh, .int (nI hq), .ref es, .ref ei, .ref el, .ref ew, .ref et, .ref er, .int lf, .int md, .ref ed, .ref ep, .int pn, .int sp, .ref ex, .ref eu, .int rm, .int la])), (ea, .inl (gI G, 42, .inl (nA al))), (ek, .inl (gI G, 42, .inl (nA ka))), (eh, .inl (gI G, 252, .inl (nA hy))), (es, .inl (gI G, 84, .inl (nA so))), (ei, .inl (gI G, 2, .inl (nA iv)))] 0 0 (fun (r : Int32) (u : Nat × (Nat → Nat) × (Nat → Nat) × (Nat → Nat)) => r = (r_restore (mS iv so) x) ∧ (mR u.2.1, mH u.1 u.2.2.2) = n_restore (mR al) (mH hq hy) (mS iv so) x) (fun (u : Nat × (Nat → Nat) × (Nat → Nat) × (Nat → Nat)) => [(e0, .inr (6, [.ref ea, .ref ek, .ref eh, .int (nI u.1), .ref es, .ref ei, .ref el, .ref ew, .ref et, .ref er, .int lf, .int md, .ref ed, .ref ep, .int pn, .int sp, .ref ex, .ref eu, .int rm, .int la])), (ea, .inl (gI G, 42, .inl (nA u.2.1))), (ek, .inl (gI G, 42, .inl (nA u.2.2.1))), (eh, .inl (gI G, 252, .inl (nA u.2.2.2))), (es, .inl (gI G, 84, .inl (nA so))), (ei, .inl (gI G, 2, .inl (nA iv)))]) := by
  refine CI.of (cc := cX6_restore) (maxL := 3) (ret := (some .int)) (by decide +kernel) rfl (Nat.le_of_ble_eq_true rfl) rfl (fun p e s m args below meth c A S hrt hlk hnm K hA hP hD hS ls hl => ?_)
  have hx := S.1
  have hb := S.2.1
  have hl : lv_has ls 3 [(0, .ref e0), (1, .int x)] := hl
  obtain ⟨hc1, hc2, hn3, hf4, hf5, hg6⟩ := mrow hR
  have hp2 := p12 hc2
  have h1s : 1 <<< al 0 = 2 ^ al 0 := Nat.one_shiftLeft _
  have hL0 := lN_toInt (n := 0) (by decide)
  have hL1 := lN_toInt (n := 1) (by decide)
  have hL12 := lN_toInt (n := 12) (by decide)
  have hLx := Int32.toInt_toInt64 x
  refine lv_iload_n hx hb dX6_restore_0 rfl (lv_at hl 1 rfl) ?_
  refine lv_i2l (v := Int32.toInt64 x) hx hb dX6_restore_1 rfl ?_
  refine lv_lconst (v := lN 0) hx hb dX6_restore_2 (by decide +kernel) ?_
  refine lv_lconst (v := lN 1) hx hb dX6_restore_3 (by decide +kernel) ?_
  refine zcSi (rest := []) S K hP hD hS hA hl.1 (c_X6_in l G (Int32.toInt64 x) (lN 0) (lN 1) ) rfl rfl gX6_restore_X6_in rfl eX6_in.2 [] (by decide +kernel) rfl (fun _ => rfl) rfl rfl (Nat.le_of_ble_eq_true rfl) (Nat.le_of_ble_eq_true rfl) (Nat.le_of_ble_eq_true rfl) ⟨Nat.zero_le _, Nat.zero_le _⟩ dX6_restore_4 (fun r_4 u_4 H locs hw_4 hP hD hS => ?_)
  replace hw_4 : r_4 = nI (bN (decide ((lN 0).toInt ≤ (Int32.toInt64 x).toInt ∧ (Int32.toInt64 x).toInt ≤ (lN 1).toInt))) := hw_4
  obtain rfl := hw_4
  have hP : va_P (gD G) vwCl [(e0, .inr (6, [.ref ea, .ref ek, .ref eh, .int (nI hq), .ref es, .ref ei, .ref el, .ref ew, .ref et, .ref er, .int lf, .int md, .ref ed, .ref ep, .int pn, .int sp, .ref ex, .ref eu, .int rm, .int la])), (ea, .inl (gI G, 42, .inl (nA al))), (ek, .inl (gI G, 42, .inl (nA ka))), (eh, .inl (gI G, 252, .inl (nA hy))), (es, .inl (gI G, 84, .inl (nA so))), (ei, .inl (gI G, 2, .inl (nA iv)))] H := hP
  have hD : va_D A [(e0, .inr (6, [.ref ea, .ref ek, .ref eh, .int (nI hq), .ref es, .ref ei, .ref el, .ref ew, .ref et, .ref er, .int lf, .int md, .ref ed, .ref ep, .int pn, .int sp, .ref ex, .ref eu, .int rm, .int la])), (ea, .inl (gI G, 42, .inl (nA al))), (ek, .inl (gI G, 42, .inl (nA ka))), (eh, .inl (gI G, 252, .inl (nA hy))), (es, .inl (gI G, 84, .inl (nA so))), (ei, .inl (gI G, 2, .inl (nA iv)))] := hD
  refine zf_ne (tgt := 13) S dX6_restore_7 (by decide) (bN_31 _) (fun c_7 => ?_) (fun c_7 => ?_)
  · skip
    have c_7 := of_decide_eq_true (bN_ne0 c_7)
    obtain ⟨a, ha1, ha2, ha3⟩ := z_of (x := x) (by omega)
    have hl : lv_has ls 3 [(0, .ref e0), (1, .int (nI a))] := by rw [ha2] at hl; exact hl
    have hia := hiv a (by omega)
    refine lv_aload_n hx hb dX6_restore_13 rfl (lv_at hl 0 rfl) ?_
    refine z_get S K hP hX6_restore_X6 0 rfl rfl 5 (by decide) kX6_restore_1 rfl rfl dX6_restore_14 ?_
    refine lv_iload_n hx hb dX6_restore_17 rfl (lv_at hl 1 rfl) ?_
    refine z_iald S K hP 5 rfl (by omega) (by decide) dX6_restore_18 ?_
    refine zf_ne (tgt := 25) S dX6_restore_19 (by decide) (by omega) (fun c_19 => ?_) (fun c_19 => ?_)
    · skip
      refine lv_aload_n hx hb dX6_restore_25 rfl (lv_at hl 0 rfl) ?_
      refine zcVv (rest := []) S K hP hD hS hA hl.1 (c_X6_keep l G e0 ea ek eh es ei el ew et er ed ep ex eu (nI hq) lf md pn sp rm la al ka ) rfl rfl gX6_restore_X6_keep rfl eX6_keep [0, 1, 2] (by decide +kernel) rfl (fun _ => rfl) 6 0 rfl rfl rfl rfl rfl (Nat.le_of_ble_eq_true rfl) (Nat.le_of_ble_eq_true rfl) (Nat.le_of_ble_eq_true rfl) ⟨Nat.zero_le _, Nat.zero_le _⟩ dX6_restore_26 (fun u_26 H locs hw_26 hP hD hS => ?_)
      obtain ⟨hP, hD⟩ := mx_ok [some 0, some 1, some 2, none, none, none] (by decide +kernel) rfl rfl hP hD
      obtain ⟨ka2_26, rfl⟩ : ∃ z, z = u_26 := ⟨_, rfl⟩
      replace hw_26 : ∀ j, j < 42 → ka2_26 j = al j := hw_26
      have hP : va_P (gD G) vwCl [(e0, .inr (6, [.ref ea, .ref ek, .ref eh, .int (nI hq), .ref es, .ref ei, .ref el, .ref ew, .ref et, .ref er, .int lf, .int md, .ref ed, .ref ep, .int pn, .int sp, .ref ex, .ref eu, .int rm, .int la])), (ea, .inl (gI G, 42, .inl (nA al))), (ek, .inl (gI G, 42, .inl (nA ka2_26))), (eh, .inl (gI G, 252, .inl (nA hy))), (es, .inl (gI G, 84, .inl (nA so))), (ei, .inl (gI G, 2, .inl (nA iv)))] H := hP
      have hD : va_D A [(e0, .inr (6, [.ref ea, .ref ek, .ref eh, .int (nI hq), .ref es, .ref ei, .ref el, .ref ew, .ref et, .ref er, .int lf, .int md, .ref ed, .ref ep, .int pn, .int sp, .ref ex, .ref eu, .int rm, .int la])), (ea, .inl (gI G, 42, .inl (nA al))), (ek, .inl (gI G, 42, .inl (nA ka2_26))), (eh, .inl (gI G, 252, .inl (nA hy))), (es, .inl (gI G, 84, .inl (nA so))), (ei, .inl (gI G, 2, .inl (nA iv)))] := hD
      obtain ⟨hkR, hk1⟩ := keep_R hw_26 hn3
      refine lv_iconst (v := nI 0) hx hb dX6_restore_29 (by decide +kernel) ?_
      refine lv_istore_n (lv' := [(2, .int (nI 0)), (0, .ref e0), (1, .int (nI a))]) hx hb dX6_restore_30 rfl hl (by decide) rfl (fun ls hl => ?_)
      have lp_31 : ∀ (n_31 : Nat) (i : Nat) (k1 : Nat → Nat), 42 - i < n_31 → (i ≤ 42) → (∀ j, j < i → k1 j = so (42 * a + j)) → ∀ (H : Heap) (locs : List Loc), va_P (gD G) vwCl [(e0, .inr (6, [.ref ea, .ref ek, .ref eh, .int (nI hq), .ref es, .ref ei, .ref el, .ref ew, .ref et, .ref er, .int lf, .int md, .ref ed, .ref ep, .int pn, .int sp, .ref ex, .ref eu, .int rm, .int la])), (ea, .inl (gI G, 42, .inl (nA k1))), (ek, .inl (gI G, 42, .inl (nA ka2_26))), (eh, .inl (gI G, 252, .inl (nA hy))), (es, .inl (gI G, 84, .inl (nA so))), (ei, .inl (gI G, 2, .inl (nA iv)))] H → va_D A [(e0, .inr (6, [.ref ea, .ref ek, .ref eh, .int (nI hq), .ref es, .ref ei, .ref el, .ref ew, .ref et, .ref er, .int lf, .int md, .ref ed, .ref ep, .int pn, .int sp, .ref ex, .ref eu, .int rm, .int la])), (ea, .inl (gI G, 42, .inl (nA k1))), (ek, .inl (gI G, 42, .inl (nA ka2_26))), (eh, .inl (gI G, 252, .inl (nA hy))), (es, .inl (gI G, 84, .inl (nA so))), (ei, .inl (gI G, 2, .inl (nA iv)))] → va_S A s.heap H locs → ∀ ls : Array Slot, lv_has ls 3 [(2, .int (nI i)), (0, .ref e0), (1, .int (nI a))] → W p l e ({ frames := 1, cells := 0, slots := 0, locals := 25 } : Room) s m args below meth c H locs 0 0 (MQ below (va_Qi (fun (r : Int32) (u : Nat × (Nat → Nat) × (Nat → Nat) × (Nat → Nat)) => r = (r_restore (mS iv so) x) ∧ (mR u.2.1, mH u.1 u.2.2.2) = n_restore (mR al) (mH hq hy) (mS iv so) x) (cB G A (fun (u : Nat × (Nat → Nat) × (Nat → Nat) × (Nat → Nat)) => [(e0, .inr (6, [.ref ea, .ref ek, .ref eh, .int (nI u.1), .ref es, .ref ei, .ref el, .ref ew, .ref et, .ref er, .int lf, .int md, .ref ed, .ref ep, .int pn, .int sp, .ref ex, .ref eu, .int rm, .int la])), (ea, .inl (gI G, 42, .inl (nA u.2.1))), (ek, .inl (gI G, 42, .inl (nA u.2.2.1))), (eh, .inl (gI G, 252, .inl (nA u.2.2.2))), (es, .inl (gI G, 84, .inl (nA so))), (ei, .inl (gI G, 2, .inl (nA iv)))])) A) args s 0 0 A) (F0 m 31 ls []) := by
        intro n_31
        induction n_31 with
        | zero =>
          intro i k1 h0
          exact absurd h0 (Nat.not_lt_zero _)
        | succ n_31 ih_31 =>
          intro i k1 hm_31 hi hk H locs hP hD hS ls hl
          refine lv_iload_n hx hb dX6_restore_31 rfl (lv_at hl 0 rfl) ?_
          refine lv_bipush (v := nI 42) hx hb dX6_restore_32 (by decide +kernel) ?_
          refine zb_ge (tgt := 60) S dX6_restore_34 (by decide) (by omega) (by decide) (fun c_34 => ?_) (fun c_34 => ?_)
          · skip
            have hal2 : ∀ j, j < 42 → k1 j = so (42 * a + j) := fun j hj => hk j (by omega)
            refine lv_aload_n hx hb dX6_restore_60 rfl (lv_at hl 1 rfl) ?_
            refine lv_aload_n hx hb dX6_restore_61 rfl (lv_at hl 1 rfl) ?_
            refine z_get S K hP hX6_restore_X6 0 rfl rfl 0 (by decide) kX6_restore_2 rfl rfl dX6_restore_62 ?_
            refine lv_iconst (v := nI 1) hx hb dX6_restore_65 (by decide +kernel) ?_
            refine z_iald S K hP 1 rfl (by omega) (by decide) dX6_restore_66 ?_
            refine zcVi (rest := []) S K hP hD hS hA hl.1 (c_X6_changed l G e0 ea ek eh es ei el ew et er ed ep ex eu lf md pn sp rm la ka2_26 hy hq (nI (k1 1)) hq6 hn hk1) rfl rfl gX6_restore_X6_changed rfl eX6_changed [0, 2, 3] (by decide +kernel) rfl (fun _ => rfl) 6 0 rfl rfl rfl rfl rfl (Nat.le_of_ble_eq_true rfl) (Nat.le_of_ble_eq_true rfl) (Nat.le_of_ble_eq_true rfl) ⟨Nat.zero_le _, Nat.zero_le _⟩ dX6_restore_67 (fun r_67 u_67 H locs hw_67 hP hD hS => ?_)
            obtain ⟨hP, hD⟩ := mx_ok [some 0, none, some 1, some 2, none, none] (by decide +kernel) rfl rfl hP hD
            obtain ⟨hq2_67, hy2_67⟩ := u_67
            replace hw_67 : r_67 = ((nI (k1 1))) ∧ mH hq2_67 hy2_67 = pushH (mH hq hy) (mR ka2_26) := hw_67
            obtain ⟨rfl, hw_67⟩ := hw_67
            have hP : va_P (gD G) vwCl [(e0, .inr (6, [.ref ea, .ref ek, .ref eh, .int (nI hq2_67), .ref es, .ref ei, .ref el, .ref ew, .ref et, .ref er, .int lf, .int md, .ref ed, .ref ep, .int pn, .int sp, .ref ex, .ref eu, .int rm, .int la])), (ea, .inl (gI G, 42, .inl (nA k1))), (ek, .inl (gI G, 42, .inl (nA ka2_26))), (eh, .inl (gI G, 252, .inl (nA hy2_67))), (es, .inl (gI G, 84, .inl (nA so))), (ei, .inl (gI G, 2, .inl (nA iv)))] H := hP
            have hD : va_D A [(e0, .inr (6, [.ref ea, .ref ek, .ref eh, .int (nI hq2_67), .ref es, .ref ei, .ref el, .ref ew, .ref et, .ref er, .int lf, .int md, .ref ed, .ref ep, .int pn, .int sp, .ref ex, .ref eu, .int rm, .int la])), (ea, .inl (gI G, 42, .inl (nA k1))), (ek, .inl (gI G, 42, .inl (nA ka2_26))), (eh, .inl (gI G, 252, .inl (nA hy2_67))), (es, .inl (gI G, 84, .inl (nA so))), (ei, .inl (gI G, 2, .inl (nA iv)))] := hD
            refine z_top (y := (r_restore (mS iv so) x)) (mrs_2 (R := R0) (h := (0, fun _ => R0)) ha2 (by omega) c_19 (hSv a (by omega) c_19) hal2).1 ?_
            exact z_iret S hrt hlk hP hD hS (hq2_67, k1, ka2_26, hy2_67) rfl ⟨rfl, (by rw [hw_67, hkR]; exact (mrs_2 ha2 (by omega) c_19 (hSv a (by omega) c_19) hal2).2)⟩ dX6_restore_70
          · skip
            refine lv_aload_n hx hb dX6_restore_37 rfl (lv_at hl 1 rfl) ?_
            refine z_get S K hP hX6_restore_X6 0 rfl rfl 0 (by decide) kX6_restore_2 rfl rfl dX6_restore_38 ?_
            refine lv_iload_n hx hb dX6_restore_41 rfl (lv_at hl 0 rfl) ?_
            refine lv_aload_n hx hb dX6_restore_42 rfl (lv_at hl 1 rfl) ?_
            refine z_get S K hP hX6_restore_X6 0 rfl rfl 4 (by decide) kX6_restore_3 rfl rfl dX6_restore_43 ?_
            refine lv_bipush (v := nI 42) hx hb dX6_restore_46 (by decide +kernel) ?_
            refine lv_iload_n hx hb dX6_restore_48 rfl (lv_at hl 2 rfl) ?_
            refine zi_mul S dX6_restore_49 ?_
            refine lv_iload_n hx hb dX6_restore_50 rfl (lv_at hl 0 rfl) ?_
            refine zi_add S dX6_restore_51 ?_
            refine z_iald S K hP 4 rfl (by omega) (by decide) dX6_restore_52 ?_
            refine z_iast S K hP hD hS 1 rfl (by omega) (by decide) dX6_restore_53 (fun H locs hP hD hS => ?_)
            have hP : va_P (gD G) vwCl [(e0, .inr (6, [.ref ea, .ref ek, .ref eh, .int (nI hq), .ref es, .ref ei, .ref el, .ref ew, .ref et, .ref er, .int lf, .int md, .ref ed, .ref ep, .int pn, .int sp, .ref ex, .ref eu, .int rm, .int la])), (ea, .inl (gI G, 42, .inl (nA (pu k1 i (so ((42 * a) + i)))))), (ek, .inl (gI G, 42, .inl (nA ka2_26))), (eh, .inl (gI G, 252, .inl (nA hy))), (es, .inl (gI G, 84, .inl (nA so))), (ei, .inl (gI G, 2, .inl (nA iv)))] H := hP
            have hD : va_D A [(e0, .inr (6, [.ref ea, .ref ek, .ref eh, .int (nI hq), .ref es, .ref ei, .ref el, .ref ew, .ref et, .ref er, .int lf, .int md, .ref ed, .ref ep, .int pn, .int sp, .ref ex, .ref eu, .int rm, .int la])), (ea, .inl (gI G, 42, .inl (nA (pu k1 i (so ((42 * a) + i)))))), (ek, .inl (gI G, 42, .inl (nA ka2_26))), (eh, .inl (gI G, 252, .inl (nA hy))), (es, .inl (gI G, 84, .inl (nA so))), (ei, .inl (gI G, 2, .inl (nA iv)))] := hD
            refine lv_iinc (v := (nI (i + 1))) (lv' := [(2, .int (nI (i + 1))), (0, .ref e0), (1, .int (nI a))]) hx hb dX6_restore_54 hl (k := 0) rfl (z_i1 _) (by decide) rfl (fun ls hl => ?_)
            refine lv_goto (tgt := 31) hx hb dX6_restore_57 (by decide) ?_
            exact ih_31 (i + 1) (pu k1 i (so ((42 * a) + i))) (by omega) (by omega) (cp_1 (f := fun j => so (42 * a + j)) hk) _ _ hP hD hS _ (lv_sub hl [0, 1, 2] rfl)
      exact lp_31 _ 0 al (Nat.lt_succ_self _) (by omega) (fun j hj => absurd hj (Nat.not_lt_zero _)) _ _ hP hD hS _ (lv_sub hl [0, 1, 2] rfl)
    · skip
      refine lv_bipush (v := -5) hx hb dX6_restore_22 (by decide +kernel) ?_
      refine z_top (y := (r_restore (mS iv so) x)) (mrs_1 (R := R0) (h := (0, fun _ => R0)) ha2 (by omega) c_19).1 ?_
      exact z_iret S hrt hlk hP hD hS (hq, al, ka, hy) rfl ⟨rfl, (mrs_1 ha2 (by omega) c_19).2⟩ dX6_restore_24
  · skip
    have c_7 := of_decide_eq_false (bN_eq0 c_7)
    refine lv_bipush (v := -2) hx hb dX6_restore_10 (by decide +kernel) ?_
    refine z_top (y := (r_restore (mS iv so) x)) (re_0 (R := R0) (h := (0, fun _ => R0)) (by omega)).1 ?_
    exact z_iret S hrt hlk hP hD hS (hq, al, ka, hy) rfl ⟨rfl, (re_0 (by omega)).2⟩ dX6_restore_12
