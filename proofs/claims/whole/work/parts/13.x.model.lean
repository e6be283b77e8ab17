set_option maxHeartbeats 4000000 in
set_option maxRecDepth 100000 in
theorem c_X6_tiedTo (l : Launch) (G : gT) (e0 ea ek eh es ei el ew et er ed ep ex eu : Nat) (hq : Int32) (lf : Int32) (md : Int32) (pn : Int32) (sp : Int32) (rm : Int32) (la : Int32) (al : Nat → Nat) (le : Nat → Nat) (wh : Nat → Nat) (w : Nat) (hR : RowOK (mR al)) (hB : MB (fun j => al (2 + j)) (fun j => al (22 + j)) (al 1) le wh) (hwc : w < al 0) : CI l yX6_tiedTo wsX6_tiedTo ({ frames := 2, cells := 0, slots := 0, locals := 44 } : Room) G [.ref e0, .int (nI w)] [(e0, .inr (6, [.ref ea, .ref ek, .ref eh, .int hq, .ref es, .ref ei, .ref el, .ref ew, .ref et, .ref er, .int lf, .int md, .ref ed, .ref ep, .int pn, .int sp, .ref ex, .ref eu, .int rm, .int la])), (ea, .inl (gI G, 42, .inl (nA al))), (el, .inl (gI G, 12, .inl (nA le))), (ew, .inl (gI G, 12, .inl (nA wh)))] 0 0 (fun (r : Int32) (u : Int32 × Int32) => r = nI (boS (mR al) w)) (fun (u : Int32 × Int32) => [(e0, .inr (6, [.ref ea, .ref ek, .ref eh, .int hq, .ref es, .ref ei, .ref el, .ref ew, .ref et, .ref er, .int u.1, .int u.2, .ref ed, .ref ep, .int pn, .int sp, .ref ex, .ref eu, .int rm, .int la])), (ea, .inl (gI G, 42, .inl (nA al))), (el, .inl (gI G, 12, .inl (nA le))), (ew, .inl (gI G, 12, .inl (nA wh)))]) := by
  refine CI.of (cc := cX6_tiedTo) (maxL := 5) (ret := (some .int)) (by decide +kernel) rfl (Nat.le_of_ble_eq_true rfl) rfl (fun p e s m args below meth c A S hrt hlk hnm K hA hP hD hS ls hl => ?_)
  have hx := S.1
  have hb := S.2.1
  have hl : lv_has ls 5 [(0, .ref e0), (1, .int (nI w))] := hl
  obtain ⟨hc1, hc2, hn3, hf4, hf5, hg6⟩ := mrow hR
  have hp2 := p12 hc2
  have h1s : 1 <<< al 0 = 2 ^ al 0 := Nat.one_shiftLeft _
  refine lv_iconst (v := nI 0) hx hb dX6_tiedTo_0 (by decide +kernel) ?_
  refine lv_istore_n (lv' := [(2, .int (nI 0)), (0, .ref e0), (1, .int (nI w))]) hx hb dX6_tiedTo_1 rfl hl (by decide) rfl (fun ls hl => ?_)
  refine lv_iconst (v := nI 0) hx hb dX6_tiedTo_2 (by decide +kernel) ?_
  refine lv_istore_n (lv' := [(3, .int (nI 0)), (2, .int (nI 0)), (0, .ref e0), (1, .int (nI w))]) hx hb dX6_tiedTo_3 rfl hl (by decide) rfl (fun ls hl => ?_)
  have lp_4 : ∀ (n_4 : Nat) (i : Nat) (y : Nat) (lf3 : Int32) (md3 : Int32), al 0 - i < n_4 → (i ≤ al 0) → (y = seF (tiB (mR al) w) i) → ∀ (H : Heap) (locs : List Loc), va_P (gD G) vwCl [(e0, .inr (6, [.ref ea, .ref ek, .ref eh, .int hq, .ref es, .ref ei, .ref el, .ref ew, .ref et, .ref er, .int lf3, .int md3, .ref ed, .ref ep, .int pn, .int sp, .ref ex, .ref eu, .int rm, .int la])), (ea, .inl (gI G, 42, .inl (nA al))), (el, .inl (gI G, 12, .inl (nA le))), (ew, .inl (gI G, 12, .inl (nA wh)))] H → va_D A [(e0, .inr (6, [.ref ea, .ref ek, .ref eh, .int hq, .ref es, .ref ei, .ref el, .ref ew, .ref et, .ref er, .int lf3, .int md3, .ref ed, .ref ep, .int pn, .int sp, .ref ex, .ref eu, .int rm, .int la])), (ea, .inl (gI G, 42, .inl (nA al))), (el, .inl (gI G, 12, .inl (nA le))), (ew, .inl (gI G, 12, .inl (nA wh)))] → va_S A s.heap H locs → ∀ ls : Array Slot, lv_has ls 5 [(3, .int (nI i)), (2, .int (nI y)), (0, .ref e0), (1, .int (nI w))] → W p l e ({ frames := 2, cells := 0, slots := 0, locals := 44 } : Room) s m args below meth c H locs 0 0 (MQ below (va_Qi (fun (r : Int32) (u : Int32 × Int32) => r = nI (boS (mR al) w)) (cB G A (fun (u : Int32 × Int32) => [(e0, .inr (6, [.ref ea, .ref ek, .ref eh, .int hq, .ref es, .ref ei, .ref el, .ref ew, .ref et, .ref er, .int u.1, .int u.2, .ref ed, .ref ep, .int pn, .int sp, .ref ex, .ref eu, .int rm, .int la])), (ea, .inl (gI G, 42, .inl (nA al))), (el, .inl (gI G, 12, .inl (nA le))), (ew, .inl (gI G, 12, .inl (nA wh)))])) A) args s 0 0 A) (F0 m 4 ls []) := by
    intro n_4
    induction n_4 with
    | zero =>
      intro i y lf3 md3 h0
      exact absurd h0 (Nat.not_lt_zero _)
    | succ n_4 ih_4 =>
      intro i y lf3 md3 hm_4 hi hy H locs hP hD hS ls hl
      refine lv_iload_n hx hb dX6_tiedTo_4 rfl (lv_at hl 0 rfl) ?_
      refine lv_aload_n hx hb dX6_tiedTo_5 rfl (lv_at hl 2 rfl) ?_
      refine z_get S K hP hX6_tiedTo_X6 0 rfl rfl 0 (by decide) kX6_tiedTo_1 rfl rfl dX6_tiedTo_6 ?_
      refine lv_iconst (v := nI 0) hx hb dX6_tiedTo_9 (by decide +kernel) ?_
      refine z_iald S K hP 1 rfl (by omega) (by decide) dX6_tiedTo_10 ?_
      refine zb_ge (tgt := 87) S dX6_tiedTo_11 (by decide) (by omega) (by omega) (fun c_11 => ?_) (fun c_11 => ?_)
      · skip
        have hia : i = al 0 := by omega
        refine lv_iload_n hx hb dX6_tiedTo_87 rfl (lv_at hl 1 rfl) ?_
        refine z_top (y := nI (boS (mR al) w)) (congrArg nI (by rw [hy, hia]; exact ti_bo.symm)) ?_
        exact z_iret S hrt hlk hP hD hS (lf3, md3) rfl rfl dX6_tiedTo_88
      · skip
        refine lv_iload_n hx hb dX6_tiedTo_14 rfl (lv_at hl 0 rfl) ?_
        refine lv_iload_n hx hb dX6_tiedTo_15 rfl (lv_at hl 3 rfl) ?_
        refine zb_eq (tgt := 63) S dX6_tiedTo_16 (by decide) (by omega) (by omega) (fun c_16 => ?_) (fun c_16 => ?_)
        · skip
          refine lv_iconst (v := nI 0) hx hb dX6_tiedTo_63 (by decide +kernel) ?_
          refine lv_istore (lv' := [(4, .int (nI 0)), (3, .int (nI i)), (2, .int (nI y)), (0, .ref e0), (1, .int (nI w))]) hx hb dX6_tiedTo_64 hl (by decide) rfl (fun ls hl => ?_)
          refine lv_iload_n hx hb dX6_tiedTo_66 rfl (lv_at hl 2 rfl) ?_
          refine lv_iload hx hb dX6_tiedTo_67 (lv_at hl 0 rfl) ?_
          refine zf_eq (tgt := 78) S dX6_tiedTo_69 (by decide) (by decide) (fun c_69 => ?_) (fun c_69 => ?_)
          · skip
            refine lv_iconst (v := nI 0) hx hb dX6_tiedTo_78 (by decide +kernel) ?_
            refine zi_or S dX6_tiedTo_79 ?_
            refine lv_istore_n (lv' := [(2, .int (nI (y ||| 0))), (4, .int (nI 0)), (3, .int (nI i)), (0, .ref e0), (1, .int (nI w))]) hx hb dX6_tiedTo_80 rfl hl (by decide) rfl (fun ls hl => ?_)
            refine lv_iinc (v := (nI (i + 1))) (lv' := [(3, .int (nI (i + 1))), (2, .int (nI (y ||| 0))), (4, .int (nI 0)), (0, .ref e0), (1, .int (nI w))]) hx hb dX6_tiedTo_81 hl (k := 2) rfl (z_i1 _) (by decide) rfl (fun ls hl => ?_)
            refine lv_goto (tgt := 4) hx hb dX6_tiedTo_84 (by decide) ?_
            exact ih_4 (i + 1) (y ||| 0) lf3 md3 (by omega) (by omega) (by first | exact se_t hy (ti_t hR c_16 c_32 c_44 c_56) | exact (Nat.or_zero _).trans (se_f hy (by first | exact ti_f1 c_16 | exact ti_f2 hR c_32 | exact ti_f3 hR c_44 | exact ti_f4 hR c_56))) _ _ hP hD hS _ (lv_sub hl [0, 1, 3, 4] rfl)
          · skip
            exact (by exfalso; omega)
        · skip
          refine lv_aload_n hx hb dX6_tiedTo_19 rfl (lv_at hl 2 rfl) ?_
          refine lv_iconst (v := nI 1) hx hb dX6_tiedTo_20 (by decide +kernel) ?_
          refine lv_iload_n hx hb dX6_tiedTo_21 rfl (lv_at hl 0 rfl) ?_
          refine zi_shl S dX6_tiedTo_22 (by omega) ?_
          refine lv_iconst (v := nI 1) hx hb dX6_tiedTo_23 (by decide +kernel) ?_
          refine lv_iload_n hx hb dX6_tiedTo_24 rfl (lv_at hl 3 rfl) ?_
          refine zi_shl S dX6_tiedTo_25 (by omega) ?_
          refine zi_or S dX6_tiedTo_26 ?_
          refine zcVi (rest := []) S K hP hD hS hA hl.1 (c_X6_knownOf l G e0 ea ek eh es ei el ew et er ed ep ex eu hq lf3 md3 pn sp rm la al le wh ((1 <<< i) ||| (1 <<< w)) (by first | assumption | omega) hB (by first | exact shl12 (by omega) | exact or12 (shl12 (by omega)) (shl12 (by omega)))) rfl rfl gX6_tiedTo_X6_knownOf rfl eX6_knownOf [0, 1, 2, 3] (by decide +kernel) rfl (fun _ => rfl) 6 0 rfl rfl rfl rfl rfl (Nat.le_of_ble_eq_true rfl) (Nat.le_of_ble_eq_true rfl) (Nat.le_of_ble_eq_true rfl) ⟨Nat.zero_le _, Nat.zero_le _⟩ dX6_tiedTo_27 (fun r_27 u_27 H locs hw_27 hP hD hS => ?_)
          obtain ⟨hP, hD⟩ := mx_ok [some 0, some 1, some 2, some 3] (by decide +kernel) rfl rfl hP hD
          obtain ⟨lf2_27, md2_27⟩ := u_27
          replace hw_27 : r_27 = (knS (mR al) ((1 <<< i) ||| (1 <<< w))) := hw_27
          obtain rfl := hw_27
          have hP : va_P (gD G) vwCl [(e0, .inr (6, [.ref ea, .ref ek, .ref eh, .int hq, .ref es, .ref ei, .ref el, .ref ew, .ref et, .ref er, .int lf2_27, .int md2_27, .ref ed, .ref ep, .int pn, .int sp, .ref ex, .ref eu, .int rm, .int la])), (ea, .inl (gI G, 42, .inl (nA al))), (el, .inl (gI G, 12, .inl (nA le))), (ew, .inl (gI G, 12, .inl (nA wh)))] H := hP
          have hD : va_D A [(e0, .inr (6, [.ref ea, .ref ek, .ref eh, .int hq, .ref es, .ref ei, .ref el, .ref ew, .ref et, .ref er, .int lf2_27, .int md2_27, .ref ed, .ref ep, .int pn, .int sp, .ref ex, .ref eu, .int rm, .int la])), (ea, .inl (gI G, 42, .inl (nA al))), (el, .inl (gI G, 12, .inl (nA le))), (ew, .inl (gI G, 12, .inl (nA wh)))] := hD
          refine lv_bipush (v := -6) hx hb dX6_tiedTo_30 (by decide +kernel) ?_
          refine zr_eq (tgt := 63) S dX6_tiedTo_32 (by decide) rfl (by decide : (-6 : Int32).toInt = -6) (fun c_32 => ?_) (fun c_32 => ?_)
          · skip
            refine lv_iconst (v := nI 0) hx hb dX6_tiedTo_63 (by decide +kernel) ?_
            refine lv_istore (lv' := [(4, .int (nI 0)), (3, .int (nI i)), (2, .int (nI y)), (0, .ref e0), (1, .int (nI w))]) hx hb dX6_tiedTo_64 hl (by decide) rfl (fun ls hl => ?_)
            refine lv_iload_n hx hb dX6_tiedTo_66 rfl (lv_at hl 2 rfl) ?_
            refine lv_iload hx hb dX6_tiedTo_67 (lv_at hl 0 rfl) ?_
            refine zf_eq (tgt := 78) S dX6_tiedTo_69 (by decide) (by decide) (fun c_69 => ?_) (fun c_69 => ?_)
            · skip
              refine lv_iconst (v := nI 0) hx hb dX6_tiedTo_78 (by decide +kernel) ?_
              refine zi_or S dX6_tiedTo_79 ?_
              refine lv_istore_n (lv' := [(2, .int (nI (y ||| 0))), (4, .int (nI 0)), (3, .int (nI i)), (0, .ref e0), (1, .int (nI w))]) hx hb dX6_tiedTo_80 rfl hl (by decide) rfl (fun ls hl => ?_)
              refine lv_iinc (v := (nI (i + 1))) (lv' := [(3, .int (nI (i + 1))), (2, .int (nI (y ||| 0))), (4, .int (nI 0)), (0, .ref e0), (1, .int (nI w))]) hx hb dX6_tiedTo_81 hl (k := 2) rfl (z_i1 _) (by decide) rfl (fun ls hl => ?_)
              refine lv_goto (tgt := 4) hx hb dX6_tiedTo_84 (by decide) ?_
              exact ih_4 (i + 1) (y ||| 0) lf2_27 md2_27 (by omega) (by omega) (by first | exact se_t hy (ti_t hR c_16 c_32 c_44 c_56) | exact (Nat.or_zero _).trans (se_f hy (by first | exact ti_f1 c_16 | exact ti_f2 hR c_32 | exact ti_f3 hR c_44 | exact ti_f4 hR c_56))) _ _ hP hD hS _ (lv_sub hl [0, 1, 3, 4] rfl)
            · skip
              exact (by exfalso; omega)
          · skip
            refine lv_aload_n hx hb dX6_tiedTo_35 rfl (lv_at hl 2 rfl) ?_
            refine lv_iconst (v := nI 1) hx hb dX6_tiedTo_36 (by decide +kernel) ?_
            refine lv_iload_n hx hb dX6_tiedTo_37 rfl (lv_at hl 0 rfl) ?_
            refine zi_shl S dX6_tiedTo_38 (by omega) ?_
            refine zcVi (rest := []) S K hP hD hS hA hl.1 (c_X6_knownOf l G e0 ea ek eh es ei el ew et er ed ep ex eu hq lf2_27 md2_27 pn sp rm la al le wh (1 <<< i) (by first | assumption | omega) hB (by first | exact shl12 (by omega) | exact or12 (shl12 (by omega)) (shl12 (by omega)))) rfl rfl gX6_tiedTo_X6_knownOf rfl eX6_knownOf [0, 1, 2, 3] (by decide +kernel) rfl (fun _ => rfl) 6 0 rfl rfl rfl rfl rfl (Nat.le_of_ble_eq_true rfl) (Nat.le_of_ble_eq_true rfl) (Nat.le_of_ble_eq_true rfl) ⟨Nat.zero_le _, Nat.zero_le _⟩ dX6_tiedTo_39 (fun r_39 u_39 H locs hw_39 hP hD hS => ?_)
            obtain ⟨hP, hD⟩ := mx_ok [some 0, some 1, some 2, some 3] (by decide +kernel) rfl rfl hP hD
            obtain ⟨lf2_39, md2_39⟩ := u_39
            replace hw_39 : r_39 = (knS (mR al) (1 <<< i)) := hw_39
            obtain rfl := hw_39
            have hP : va_P (gD G) vwCl [(e0, .inr (6, [.ref ea, .ref ek, .ref eh, .int hq, .ref es, .ref ei, .ref el, .ref ew, .ref et, .ref er, .int lf2_39, .int md2_39, .ref ed, .ref ep, .int pn, .int sp, .ref ex, .ref eu, .int rm, .int la])), (ea, .inl (gI G, 42, .inl (nA al))), (el, .inl (gI G, 12, .inl (nA le))), (ew, .inl (gI G, 12, .inl (nA wh)))] H := hP
            have hD : va_D A [(e0, .inr (6, [.ref ea, .ref ek, .ref eh, .int hq, .ref es, .ref ei, .ref el, .ref ew, .ref et, .ref er, .int lf2_39, .int md2_39, .ref ed, .ref ep, .int pn, .int sp, .ref ex, .ref eu, .int rm, .int la])), (ea, .inl (gI G, 42, .inl (nA al))), (el, .inl (gI G, 12, .inl (nA le))), (ew, .inl (gI G, 12, .inl (nA wh)))] := hD
            refine lv_bipush (v := -6) hx hb dX6_tiedTo_42 (by decide +kernel) ?_
            refine zr_ne (tgt := 63) S dX6_tiedTo_44 (by decide) rfl (by decide : (-6 : Int32).toInt = -6) (fun c_44 => ?_) (fun c_44 => ?_)
            · skip
              refine lv_iconst (v := nI 0) hx hb dX6_tiedTo_63 (by decide +kernel) ?_
              refine lv_istore (lv' := [(4, .int (nI 0)), (3, .int (nI i)), (2, .int (nI y)), (0, .ref e0), (1, .int (nI w))]) hx hb dX6_tiedTo_64 hl (by decide) rfl (fun ls hl => ?_)
              refine lv_iload_n hx hb dX6_tiedTo_66 rfl (lv_at hl 2 rfl) ?_
              refine lv_iload hx hb dX6_tiedTo_67 (lv_at hl 0 rfl) ?_
              refine zf_eq (tgt := 78) S dX6_tiedTo_69 (by decide) (by decide) (fun c_69 => ?_) (fun c_69 => ?_)
              · skip
                refine lv_iconst (v := nI 0) hx hb dX6_tiedTo_78 (by decide +kernel) ?_
                refine zi_or S dX6_tiedTo_79 ?_
                refine lv_istore_n (lv' := [(2, .int (nI (y ||| 0))), (4, .int (nI 0)), (3, .int (nI i)), (0, .ref e0), (1, .int (nI w))]) hx hb dX6_tiedTo_80 rfl hl (by decide) rfl (fun ls hl => ?_)
                refine lv_iinc (v := (nI (i + 1))) (lv' := [(3, .int (nI (i + 1))), (2, .int (nI (y ||| 0))), (4, .int (nI 0)), (0, .ref e0), (1, .int (nI w))]) hx hb dX6_tiedTo_81 hl (k := 2) rfl (z_i1 _) (by decide) rfl (fun ls hl => ?_)
                refine lv_goto (tgt := 4) hx hb dX6_tiedTo_84 (by decide) ?_
                exact ih_4 (i + 1) (y ||| 0) lf2_39 md2_39 (by omega) (by omega) (by first | exact se_t hy (ti_t hR c_16 c_32 c_44 c_56) | exact (Nat.or_zero _).trans (se_f hy (by first | exact ti_f1 c_16 | exact ti_f2 hR c_32 | exact ti_f3 hR c_44 | exact ti_f4 hR c_56))) _ _ hP hD hS _ (lv_sub hl [0, 1, 3, 4] rfl)
              · skip
                exact (by exfalso; omega)
            · skip
              refine lv_aload_n hx hb dX6_tiedTo_47 rfl (lv_at hl 2 rfl) ?_
              refine lv_iconst (v := nI 1) hx hb dX6_tiedTo_48 (by decide +kernel) ?_
              refine lv_iload_n hx hb dX6_tiedTo_49 rfl (lv_at hl 3 rfl) ?_
              refine zi_shl S dX6_tiedTo_50 (by omega) ?_
              refine zcVi (rest := []) S K hP hD hS hA hl.1 (c_X6_knownOf l G e0 ea ek eh es ei el ew et er ed ep ex eu hq lf2_39 md2_39 pn sp rm la al le wh (1 <<< w) (by first | assumption | omega) hB (by first | exact shl12 (by omega) | exact or12 (shl12 (by omega)) (shl12 (by omega)))) rfl rfl gX6_tiedTo_X6_knownOf rfl eX6_knownOf [0, 1, 2, 3] (by decide +kernel) rfl (fun _ => rfl) 6 0 rfl rfl rfl rfl rfl (Nat.le_of_ble_eq_true rfl) (Nat.le_of_ble_eq_true rfl) (Nat.le_of_ble_eq_true rfl) ⟨Nat.zero_le _, Nat.zero_le _⟩ dX6_tiedTo_51 (fun r_51 u_51 H locs hw_51 hP hD hS => ?_)
              obtain ⟨hP, hD⟩ := mx_ok [some 0, some 1, some 2, some 3] (by decide +kernel) rfl rfl hP hD
              obtain ⟨lf2_51, md2_51⟩ := u_51
              replace hw_51 : r_51 = (knS (mR al) (1 <<< w)) := hw_51
              obtain rfl := hw_51
              have hP : va_P (gD G) vwCl [(e0, .inr (6, [.ref ea, .ref ek, .ref eh, .int hq, .ref es, .ref ei, .ref el, .ref ew, .ref et, .ref er, .int lf2_51, .int md2_51, .ref ed, .ref ep, .int pn, .int sp, .ref ex, .ref eu, .int rm, .int la])), (ea, .inl (gI G, 42, .inl (nA al))), (el, .inl (gI G, 12, .inl (nA le))), (ew, .inl (gI G, 12, .inl (nA wh)))] H := hP
              have hD : va_D A [(e0, .inr (6, [.ref ea, .ref ek, .ref eh, .int hq, .ref es, .ref ei, .ref el, .ref ew, .ref et, .ref er, .int lf2_51, .int md2_51, .ref ed, .ref ep, .int pn, .int sp, .ref ex, .ref eu, .int rm, .int la])), (ea, .inl (gI G, 42, .inl (nA al))), (el, .inl (gI G, 12, .inl (nA le))), (ew, .inl (gI G, 12, .inl (nA wh)))] := hD
              refine lv_bipush (v := -6) hx hb dX6_tiedTo_54 (by decide +kernel) ?_
              refine zr_ne (tgt := 63) S dX6_tiedTo_56 (by decide) rfl (by decide : (-6 : Int32).toInt = -6) (fun c_56 => ?_) (fun c_56 => ?_)
              · skip
                refine lv_iconst (v := nI 0) hx hb dX6_tiedTo_63 (by decide +kernel) ?_
                refine lv_istore (lv' := [(4, .int (nI 0)), (3, .int (nI i)), (2, .int (nI y)), (0, .ref e0), (1, .int (nI w))]) hx hb dX6_tiedTo_64 hl (by decide) rfl (fun ls hl => ?_)
                refine lv_iload_n hx hb dX6_tiedTo_66 rfl (lv_at hl 2 rfl) ?_
                refine lv_iload hx hb dX6_tiedTo_67 (lv_at hl 0 rfl) ?_
                refine zf_eq (tgt := 78) S dX6_tiedTo_69 (by decide) (by decide) (fun c_69 => ?_) (fun c_69 => ?_)
                · skip
                  refine lv_iconst (v := nI 0) hx hb dX6_tiedTo_78 (by decide +kernel) ?_
                  refine zi_or S dX6_tiedTo_79 ?_
                  refine lv_istore_n (lv' := [(2, .int (nI (y ||| 0))), (4, .int (nI 0)), (3, .int (nI i)), (0, .ref e0), (1, .int (nI w))]) hx hb dX6_tiedTo_80 rfl hl (by decide) rfl (fun ls hl => ?_)
                  refine lv_iinc (v := (nI (i + 1))) (lv' := [(3, .int (nI (i + 1))), (2, .int (nI (y ||| 0))), (4, .int (nI 0)), (0, .ref e0), (1, .int (nI w))]) hx hb dX6_tiedTo_81 hl (k := 2) rfl (z_i1 _) (by decide) rfl (fun ls hl => ?_)
                  refine lv_goto (tgt := 4) hx hb dX6_tiedTo_84 (by decide) ?_
                  exact ih_4 (i + 1) (y ||| 0) lf2_51 md2_51 (by omega) (by omega) (by first | exact se_t hy (ti_t hR c_16 c_32 c_44 c_56) | exact (Nat.or_zero _).trans (se_f hy (by first | exact ti_f1 c_16 | exact ti_f2 hR c_32 | exact ti_f3 hR c_44 | exact ti_f4 hR c_56))) _ _ hP hD hS _ (lv_sub hl [0, 1, 3, 4] rfl)
                · skip
                  exact (by exfalso; omega)
              · skip
                refine lv_iconst (v := nI 1) hx hb dX6_tiedTo_59 (by decide +kernel) ?_
                refine lv_goto (tgt := 64) hx hb dX6_tiedTo_60 (by decide) ?_
                refine lv_istore (lv' := [(4, .int (nI 1)), (3, .int (nI i)), (2, .int (nI y)), (0, .ref e0), (1, .int (nI w))]) hx hb dX6_tiedTo_64 hl (by decide) rfl (fun ls hl => ?_)
                refine lv_iload_n hx hb dX6_tiedTo_66 rfl (lv_at hl 2 rfl) ?_
                refine lv_iload hx hb dX6_tiedTo_67 (lv_at hl 0 rfl) ?_
                refine zf_eq (tgt := 78) S dX6_tiedTo_69 (by decide) (by decide) (fun c_69 => ?_) (fun c_69 => ?_)
                · skip
                  exact (by exfalso; omega)
                · skip
                  refine lv_iconst (v := nI 1) hx hb dX6_tiedTo_72 (by decide +kernel) ?_
                  refine lv_iload_n hx hb dX6_tiedTo_73 rfl (lv_at hl 1 rfl) ?_
                  refine zi_shl S dX6_tiedTo_74 (by omega) ?_
                  refine lv_goto (tgt := 79) hx hb dX6_tiedTo_75 (by decide) ?_
                  refine zi_or S dX6_tiedTo_79 ?_
                  refine lv_istore_n (lv' := [(2, .int (nI (y ||| (1 <<< i)))), (4, .int (nI 1)), (3, .int (nI i)), (0, .ref e0), (1, .int (nI w))]) hx hb dX6_tiedTo_80 rfl hl (by decide) rfl (fun ls hl => ?_)
                  refine lv_iinc (v := (nI (i + 1))) (lv' := [(3, .int (nI (i + 1))), (2, .int (nI (y ||| (1 <<< i)))), (4, .int (nI 1)), (0, .ref e0), (1, .int (nI w))]) hx hb dX6_tiedTo_81 hl (k := 2) rfl (z_i1 _) (by decide) rfl (fun ls hl => ?_)
                  refine lv_goto (tgt := 4) hx hb dX6_tiedTo_84 (by decide) ?_
                  exact ih_4 (i + 1) (y ||| (1 <<< i)) lf2_51 md2_51 (by omega) (by omega) (by first | exact se_t hy (ti_t hR c_16 c_32 c_44 c_56) | exact (Nat.or_zero _).trans (se_f hy (by first | exact ti_f1 c_16 | exact ti_f2 hR c_32 | exact ti_f3 hR c_44 | exact ti_f4 hR c_56))) _ _ hP hD hS _ (lv_sub hl [0, 1, 3, 4] rfl)
  exact lp_4 _ 0 0 lf md (Nat.lt_succ_self _) (by omega) rfl _ _ hP hD hS _ (lv_sub hl [0, 1, 2, 3] rfl)
