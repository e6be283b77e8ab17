set_option maxHeartbeats 4000000 in
set_option maxRecDepth 100000 in
theorem c_X6_choice (l : Launch) (G : gT) (e0 ea ek eh es ei el ew et er ed ep ex eu : Nat) (hq : Int32) (lf : Int32) (md : Int32) (pn : Int32) (sp : Int32) (rm : Int32) (la : Int32) (al : Nat → Nat) (le : Nat → Nat) (wh : Nat → Nat) (ms : Nat → Nat) (mr : Nat → Nat) (x : Int32) (y : Int32) (hR : RowOK (mR al)) : CI l yX6_choice wsX6_choice ({ frames := 3, cells := 0, slots := 0, locals := 68 } : Room) G [.ref e0, .int x, .int y] [(e0, .inr (6, [.ref ea, .ref ek, .ref eh, .int hq, .ref es, .ref ei, .ref el, .ref ew, .ref et, .ref er, .int lf, .int md, .ref ed, .ref ep, .int pn, .int sp, .ref ex, .ref eu, .int rm, .int la])), (ea, .inl (gI G, 42, .inl (nA al))), (el, .inl (gI G, 12, .inl (nA le))), (ew, .inl (gI G, 12, .inl (nA wh))), (et, .inl (gI G, 20, .inl (nA ms))), (er, .inl (gI G, 20, .inl (nA mr)))] 0 0 (fun (r : Int32) (u : Int32 × Int32 × (Nat → Nat) × (Nat → Nat) × (Nat → Nat) × (Nat → Nat)) => r = (r_choice (mR al) x y)) (fun (u : Int32 × Int32 × (Nat → Nat) × (Nat → Nat) × (Nat → Nat) × (Nat → Nat)) => [(e0, .inr (6, [.ref ea, .ref ek, .ref eh, .int hq, .ref es, .ref ei, .ref el, .ref ew, .ref et, .ref er, .int u.1, .int u.2.1, .ref ed, .ref ep, .int pn, .int sp, .ref ex, .ref eu, .int rm, .int la])), (ea, .inl (gI G, 42, .inl (nA al))), (el, .inl (gI G, 12, .inl (nA u.2.2.1))), (ew, .inl (gI G, 12, .inl (nA u.2.2.2.1))), (et, .inl (gI G, 20, .inl (nA u.2.2.2.2.1))), (er, .inl (gI G, 20, .inl (nA u.2.2.2.2.2)))]) := by
  refine CI.of (cc := cX6_choice) (maxL := 3) (ret := (some .int)) (by decide +kernel) rfl (Nat.le_of_ble_eq_true rfl) rfl (fun p e s m args below meth c A S hrt hlk hnm K hA hP hD hS ls hl => ?_)
  have hx := S.1
  have hb := S.2.1
  have hl : lv_has ls 3 [(0, .ref e0), (1, .int x), (2, .int y)] := hl
  obtain ⟨hc1, hc2, hn3, hf4, hf5, hg6⟩ := mrow hR
  have hp2 := p12 hc2
  have h1s : 1 <<< al 0 = 2 ^ al 0 := Nat.one_shiftLeft _
  have hL0 := lN_toInt (n := 0) (by decide)
  have hL1 := lN_toInt (n := 1) (by decide)
  have hL12 := lN_toInt (n := 12) (by decide)
  have hLx := Int32.toInt_toInt64 x
  have hls := lsub1 (n := al 0) (by omega)
  refine lv_iload_n hx hb dX6_choice_0 rfl (lv_at hl 1 rfl) ?_
  refine lv_i2l (v := Int32.toInt64 x) hx hb dX6_choice_1 rfl ?_
  refine lv_lconst (v := lN 0) hx hb dX6_choice_2 (by decide +kernel) ?_
  refine lv_aload_n hx hb dX6_choice_3 rfl (lv_at hl 0 rfl) ?_
  refine z_get S K hP hX6_choice_X6 0 rfl rfl 0 (by decide) kX6_choice_1 rfl rfl dX6_choice_4 ?_
  refine lv_iconst (v := nI 0) hx hb dX6_choice_7 (by decide +kernel) ?_
  refine z_iald S K hP 1 rfl (by omega) (by decide) dX6_choice_8 ?_
  refine lv_i2l (v := lN (al 0)) hx hb dX6_choice_9 (nI_l (by omega)) ?_
  refine lv_lconst (v := lN 1) hx hb dX6_choice_10 (by decide +kernel) ?_
  refine lv_lsub hx hb dX6_choice_11 ?_
  refine zcSi (rest := []) S K hP hD hS hA hl.1 (c_X6_in l G (Int32.toInt64 x) (lN 0) ((lN (al 0)) - (lN 1)) ) rfl rfl gX6_choice_X6_in rfl eX6_in.2 [] (by decide +kernel) rfl (fun _ => rfl) rfl rfl (Nat.le_of_ble_eq_true rfl) (Nat.le_of_ble_eq_true rfl) (Nat.le_of_ble_eq_true rfl) ⟨Nat.zero_le _, Nat.zero_le _⟩ dX6_choice_12 (fun r_12 u_12 H locs hw_12 hP hD hS => ?_)
  replace hw_12 : r_12 = nI (bN (decide ((lN 0).toInt ≤ (Int32.toInt64 x).toInt ∧ (Int32.toInt64 x).toInt ≤ ((lN (al 0)) - (lN 1)).toInt))) := hw_12
  obtain rfl := hw_12
  have hP : va_P (gD G) vwCl [(e0, .inr (6, [.ref ea, .ref ek, .ref eh, .int hq, .ref es, .ref ei, .ref el, .ref ew, .ref et, .ref er, .int lf, .int md, .ref ed, .ref ep, .int pn, .int sp, .ref ex, .ref eu, .int rm, .int la])), (ea, .inl (gI G, 42, .inl (nA al))), (el, .inl (gI G, 12, .inl (nA le))), (ew, .inl (gI G, 12, .inl (nA wh))), (et, .inl (gI G, 20, .inl (nA ms))), (er, .inl (gI G, 20, .inl (nA mr)))] H := hP
  have hD : va_D A [(e0, .inr (6, [.ref ea, .ref ek, .ref eh, .int hq, .ref es, .ref ei, .ref el, .ref ew, .ref et, .ref er, .int lf, .int md, .ref ed, .ref ep, .int pn, .int sp, .ref ex, .ref eu, .int rm, .int la])), (ea, .inl (gI G, 42, .inl (nA al))), (el, .inl (gI G, 12, .inl (nA le))), (ew, .inl (gI G, 12, .inl (nA wh))), (et, .inl (gI G, 20, .inl (nA ms))), (er, .inl (gI G, 20, .inl (nA mr)))] := hD
  refine zf_ne (tgt := 20) S dX6_choice_15 (by decide) (bN_31 _) (fun c_15 => ?_) (fun c_15 => ?_)
  · skip
    have c_15 := of_decide_eq_true (bN_ne0 c_15)
    obtain ⟨a, ha1, ha2, ha3⟩ := z_of (x := x) (by omega)
    have hl : lv_has ls 3 [(0, .ref e0), (1, .int (nI a)), (2, .int y)] := by rw [ha2] at hl; exact hl
    refine lv_aload_n hx hb dX6_choice_20 rfl (lv_at hl 0 rfl) ?_
    refine zcVv (rest := []) S K hP hD hS hA hl.1 (c_X6_judges l G e0 ea ek eh es ei el ew et er ed ep ex eu hq lf md pn sp rm la al le wh ms mr (by first | assumption | omega)) rfl rfl gX6_choice_X6_judges rfl eX6_judges [0, 1, 2, 3, 4, 5] (by decide +kernel) rfl (fun _ => rfl) 6 0 rfl rfl rfl rfl rfl (Nat.le_of_ble_eq_true rfl) (Nat.le_of_ble_eq_true rfl) (Nat.le_of_ble_eq_true rfl) ⟨Nat.zero_le _, Nat.zero_le _⟩ dX6_choice_21 (fun u_21 H locs hw_21 hP hD hS => ?_)
    obtain ⟨hP, hD⟩ := mx_ok [some 0, some 1, some 2, some 3, some 4, some 5] (by decide +kernel) rfl rfl hP hD
    obtain ⟨lf2_21, md2_21, le2_21, wh2_21, ms2_21, mr2_21⟩ := u_21
    replace hw_21 : MV (fun j => al (2 + j)) (fun j => al (22 + j)) (al 1) ms2_21 mr2_21 le2_21 wh2_21 := hw_21
    have hP : va_P (gD G) vwCl [(e0, .inr (6, [.ref ea, .ref ek, .ref eh, .int hq, .ref es, .ref ei, .ref el, .ref ew, .ref et, .ref er, .int lf2_21, .int md2_21, .ref ed, .ref ep, .int pn, .int sp, .ref ex, .ref eu, .int rm, .int la])), (ea, .inl (gI G, 42, .inl (nA al))), (el, .inl (gI G, 12, .inl (nA le2_21))), (ew, .inl (gI G, 12, .inl (nA wh2_21))), (et, .inl (gI G, 20, .inl (nA ms2_21))), (er, .inl (gI G, 20, .inl (nA mr2_21)))] H := hP
    have hD : va_D A [(e0, .inr (6, [.ref ea, .ref ek, .ref eh, .int hq, .ref es, .ref ei, .ref el, .ref ew, .ref et, .ref er, .int lf2_21, .int md2_21, .ref ed, .ref ep, .int pn, .int sp, .ref ex, .ref eu, .int rm, .int la])), (ea, .inl (gI G, 42, .inl (nA al))), (el, .inl (gI G, 12, .inl (nA le2_21))), (ew, .inl (gI G, 12, .inl (nA wh2_21))), (et, .inl (gI G, 20, .inl (nA ms2_21))), (er, .inl (gI G, 20, .inl (nA mr2_21)))] := hD
    refine lv_iload_n hx hb dX6_choice_24 rfl (lv_at hl 2 rfl) ?_
    refine zq_ne (tgt := 38) S dX6_choice_25 (by decide) rfl (fun c_25 => ?_) (fun c_25 => ?_)
    · skip
      refine lv_iload_n hx hb dX6_choice_38 rfl (lv_at hl 2 rfl) ?_
      refine lv_iconst (v := nI 1) hx hb dX6_choice_39 (by decide +kernel) ?_
      refine zr_ne (tgt := 51) S dX6_choice_40 (by decide) rfl (z_toInt (by decide)) (fun c_40 => ?_) (fun c_40 => ?_)
      · skip
        refine lv_iload_n hx hb dX6_choice_51 rfl (lv_at hl 2 rfl) ?_
        refine lv_iconst (v := nI 2) hx hb dX6_choice_52 (by decide +kernel) ?_
        refine zr_ne (tgt := 64) S dX6_choice_53 (by decide) rfl (z_toInt (by decide)) (fun c_53 => ?_) (fun c_53 => ?_)
        · skip
          refine lv_bipush (v := -2) hx hb dX6_choice_64 (by decide +kernel) ?_
          refine z_top (y := (r_choice (mR al) x y)) (cf_y (c := al 0) (n := al 1) (f := fun j => al (2 + j)) (g := fun j => al (22 + j)) ha2 (show a < al 0 by omega) hc2 (chF_o (by omega))) ?_
          exact z_iret S hrt hlk hP hD hS (lf2_21, md2_21, le2_21, wh2_21, ms2_21, mr2_21) rfl rfl dX6_choice_66
        · skip
          refine lv_aload_n hx hb dX6_choice_56 rfl (lv_at hl 0 rfl) ?_
          refine lv_iload_n hx hb dX6_choice_57 rfl (lv_at hl 1 rfl) ?_
          refine zcVi (rest := []) S K hP hD hS hA hl.1 (c_X6_tiedTo l G e0 ea ek eh es ei el ew et er ed ep ex eu hq lf2_21 md2_21 pn sp rm la al le2_21 wh2_21 a (by first | assumption | omega) hw_21.2.2 (by omega)) rfl rfl gX6_choice_X6_tiedTo rfl eX6_tiedTo [0, 1, 2, 3] (by decide +kernel) rfl (fun _ => rfl) 6 0 rfl rfl rfl rfl rfl (Nat.le_of_ble_eq_true rfl) (Nat.le_of_ble_eq_true rfl) (Nat.le_of_ble_eq_true rfl) ⟨Nat.zero_le _, Nat.zero_le _⟩ dX6_choice_58 (fun r_58 u_58 H locs hw_58 hP hD hS => ?_)
          obtain ⟨hP, hD⟩ := mx_ok [some 0, some 1, some 2, some 3, none, none] (by decide +kernel) rfl rfl hP hD
          obtain ⟨lf2_58, md2_58⟩ := u_58
          replace hw_58 : r_58 = nI (boS (mR al) a) := hw_58
          obtain rfl := hw_58
          have hP : va_P (gD G) vwCl [(e0, .inr (6, [.ref ea, .ref ek, .ref eh, .int hq, .ref es, .ref ei, .ref el, .ref ew, .ref et, .ref er, .int lf2_58, .int md2_58, .ref ed, .ref ep, .int pn, .int sp, .ref ex, .ref eu, .int rm, .int la])), (ea, .inl (gI G, 42, .inl (nA al))), (el, .inl (gI G, 12, .inl (nA le2_21))), (ew, .inl (gI G, 12, .inl (nA wh2_21))), (et, .inl (gI G, 20, .inl (nA ms2_21))), (er, .inl (gI G, 20, .inl (nA mr2_21)))] H := hP
          have hD : va_D A [(e0, .inr (6, [.ref ea, .ref ek, .ref eh, .int hq, .ref es, .ref ei, .ref el, .ref ew, .ref et, .ref er, .int lf2_58, .int md2_58, .ref ed, .ref ep, .int pn, .int sp, .ref ex, .ref eu, .int rm, .int la])), (ea, .inl (gI G, 42, .inl (nA al))), (el, .inl (gI G, 12, .inl (nA le2_21))), (ew, .inl (gI G, 12, .inl (nA wh2_21))), (et, .inl (gI G, 20, .inl (nA ms2_21))), (er, .inl (gI G, 20, .inl (nA mr2_21)))] := hD
          refine lv_goto (tgt := 66) hx hb dX6_choice_61 (by decide) ?_
          refine z_top (y := (r_choice (mR al) x y)) (cf_y (c := al 0) (n := al 1) (f := fun j => al (2 + j)) (g := fun j => al (22 + j)) ha2 (show a < al 0 by omega) hc2 (by rw [y_2 c_53]; exact chF_2)) ?_
          exact z_iret S hrt hlk hP hD hS (lf2_58, md2_58, le2_21, wh2_21, ms2_21, mr2_21) rfl rfl dX6_choice_66
      · skip
        refine lv_aload_n hx hb dX6_choice_43 rfl (lv_at hl 0 rfl) ?_
        refine lv_iload_n hx hb dX6_choice_44 rfl (lv_at hl 1 rfl) ?_
        refine zcVi (rest := []) S K hP hD hS hA hl.1 (c_X6_rulesWith l G e0 ea ek eh es ei el ew et er ed ep ex eu hq lf2_21 md2_21 pn sp rm la al a (by first | assumption | omega) (by omega)) rfl rfl gX6_choice_X6_rulesWith rfl eX6_rulesWith [0, 1] (by decide +kernel) rfl (fun _ => rfl) 6 0 rfl rfl rfl rfl rfl (Nat.le_of_ble_eq_true rfl) (Nat.le_of_ble_eq_true rfl) (Nat.le_of_ble_eq_true rfl) ⟨Nat.zero_le _, Nat.zero_le _⟩ dX6_choice_45 (fun r_45 u_45 H locs hw_45 hP hD hS => ?_)
        obtain ⟨hP, hD⟩ := mx_ok [some 0, some 1, none, none, none, none] (by decide +kernel) rfl rfl hP hD
        replace hw_45 : r_45 = nI (smF (fun j => al (2 + j) >>> a &&& 1) (al 1)) := hw_45
        obtain rfl := hw_45
        have hP : va_P (gD G) vwCl [(e0, .inr (6, [.ref ea, .ref ek, .ref eh, .int hq, .ref es, .ref ei, .ref el, .ref ew, .ref et, .ref er, .int lf2_21, .int md2_21, .ref ed, .ref ep, .int pn, .int sp, .ref ex, .ref eu, .int rm, .int la])), (ea, .inl (gI G, 42, .inl (nA al))), (el, .inl (gI G, 12, .inl (nA le2_21))), (ew, .inl (gI G, 12, .inl (nA wh2_21))), (et, .inl (gI G, 20, .inl (nA ms2_21))), (er, .inl (gI G, 20, .inl (nA mr2_21)))] H := hP
        have hD : va_D A [(e0, .inr (6, [.ref ea, .ref ek, .ref eh, .int hq, .ref es, .ref ei, .ref el, .ref ew, .ref et, .ref er, .int lf2_21, .int md2_21, .ref ed, .ref ep, .int pn, .int sp, .ref ex, .ref eu, .int rm, .int la])), (ea, .inl (gI G, 42, .inl (nA al))), (el, .inl (gI G, 12, .inl (nA le2_21))), (ew, .inl (gI G, 12, .inl (nA wh2_21))), (et, .inl (gI G, 20, .inl (nA ms2_21))), (er, .inl (gI G, 20, .inl (nA mr2_21)))] := hD
        refine lv_goto (tgt := 66) hx hb dX6_choice_48 (by decide) ?_
        refine z_top (y := (r_choice (mR al) x y)) (cf_y (c := al 0) (n := al 1) (f := fun j => al (2 + j)) (g := fun j => al (22 + j)) ha2 (show a < al 0 by omega) hc2 (by rw [y_1 c_40]; exact chF_1 (c := al 0) (n := al 1) (f := fun j => al (2 + j)) (g := fun j => al (22 + j)))) ?_
        exact z_iret S hrt hlk hP hD hS (lf2_21, md2_21, le2_21, wh2_21, ms2_21, mr2_21) rfl rfl dX6_choice_66
    · skip
      refine lv_aload_n hx hb dX6_choice_28 rfl (lv_at hl 0 rfl) ?_
      refine lv_iconst (v := nI 1) hx hb dX6_choice_29 (by decide +kernel) ?_
      refine lv_iload_n hx hb dX6_choice_30 rfl (lv_at hl 1 rfl) ?_
      refine zi_shl S dX6_choice_31 (by omega) ?_
      refine zcVi (rest := []) S K hP hD hS hA hl.1 (c_X6_knownOf l G e0 ea ek eh es ei el ew et er ed ep ex eu hq lf2_21 md2_21 pn sp rm la al le2_21 wh2_21 (1 <<< a) (by first | assumption | omega) hw_21.2.2 (shl12 (by omega))) rfl rfl gX6_choice_X6_knownOf rfl eX6_knownOf [0, 1, 2, 3] (by decide +kernel) rfl (fun _ => rfl) 6 0 rfl rfl rfl rfl rfl (Nat.le_of_ble_eq_true rfl) (Nat.le_of_ble_eq_true rfl) (Nat.le_of_ble_eq_true rfl) ⟨Nat.zero_le _, Nat.zero_le _⟩ dX6_choice_32 (fun r_32 u_32 H locs hw_32 hP hD hS => ?_)
      obtain ⟨hP, hD⟩ := mx_ok [some 0, some 1, some 2, some 3, none, none] (by decide +kernel) rfl rfl hP hD
      obtain ⟨lf2_32, md2_32⟩ := u_32
      replace hw_32 : r_32 = (knS (mR al) (1 <<< a)) := hw_32
      obtain rfl := hw_32
      have hP : va_P (gD G) vwCl [(e0, .inr (6, [.ref ea, .ref ek, .ref eh, .int hq, .ref es, .ref ei, .ref el, .ref ew, .ref et, .ref er, .int lf2_32, .int md2_32, .ref ed, .ref ep, .int pn, .int sp, .ref ex, .ref eu, .int rm, .int la])), (ea, .inl (gI G, 42, .inl (nA al))), (el, .inl (gI G, 12, .inl (nA le2_21))), (ew, .inl (gI G, 12, .inl (nA wh2_21))), (et, .inl (gI G, 20, .inl (nA ms2_21))), (er, .inl (gI G, 20, .inl (nA mr2_21)))] H := hP
      have hD : va_D A [(e0, .inr (6, [.ref ea, .ref ek, .ref eh, .int hq, .ref es, .ref ei, .ref el, .ref ew, .ref et, .ref er, .int lf2_32, .int md2_32, .ref ed, .ref ep, .int pn, .int sp, .ref ex, .ref eu, .int rm, .int la])), (ea, .inl (gI G, 42, .inl (nA al))), (el, .inl (gI G, 12, .inl (nA le2_21))), (ew, .inl (gI G, 12, .inl (nA wh2_21))), (et, .inl (gI G, 20, .inl (nA ms2_21))), (er, .inl (gI G, 20, .inl (nA mr2_21)))] := hD
      refine lv_goto (tgt := 66) hx hb dX6_choice_35 (by decide) ?_
      refine z_top (y := (r_choice (mR al) x y)) (cf_y (c := al 0) (n := al 1) (f := fun j => al (2 + j)) (g := fun j => al (22 + j)) ha2 (show a < al 0 by omega) hc2 (by rw [y_0 c_25]; exact chF_0)) ?_
      exact z_iret S hrt hlk hP hD hS (lf2_32, md2_32, le2_21, wh2_21, ms2_21, mr2_21) rfl rfl dX6_choice_66
  · skip
    have c_15 := of_decide_eq_false (bN_eq0 c_15)
    refine lv_iconst (v := -1) hx hb dX6_choice_18 (by decide +kernel) ?_
    refine z_top (y := (r_choice (mR al) x y)) (cf_n (R := mR al) (by show ¬ (0 ≤ x.toInt ∧ x.toInt < (al 0 : Int)); omega)) ?_
    exact z_iret S hrt hlk hP hD hS (lf, md, le, wh, ms, mr) rfl rfl dX6_choice_19
