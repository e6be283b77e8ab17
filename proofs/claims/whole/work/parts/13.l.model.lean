set_option maxHeartbeats 4000000 in
set_option maxRecDepth 100000 in
theorem c_X6_tell (l : Launch) (G : gT) (e0 ea ek eh es ei el ew et er ed ep ex eu : Nat) (lf : Int32) (md : Int32) (pn : Int32) (sp : Int32) (rm : Int32) (la : Int32) (al : Nat → Nat) (ka : Nat → Nat) (hy : Nat → Nat) (le : Nat → Nat) (wh : Nat → Nat) (ms : Nat → Nat) (mr : Nat → Nat) (hq : Nat) (x : Int32) (y : Int32) (hR : RowOK (mR al)) (hq6 : hq ≤ 6) (hn : ∀ k, k < hq → hy (42 * k + 1) ≤ 20) : CI l yX6_tell wsX6_tell ({ frames := 3, cells := 0, slots := 0, locals := 67 } : Room) G [.ref e0, .int x, .int y] [(e0, .inr (6, [.ref ea, .ref ek, .ref eh, .int (nI hq), .ref es, .ref ei, .ref el, .ref ew, .ref et, .ref er, .int lf, .int md, .ref ed, .ref ep, .int pn, .int sp, .ref ex, .ref eu, .int rm, .int la])), (ea, .inl (gI G, 42, .inl (nA al))), (ek, .inl (gI G, 42, .inl (nA ka))), (eh, .inl (gI G, 252, .inl (nA hy))), (el, .inl (gI G, 12, .inl (nA le))), (ew, .inl (gI G, 12, .inl (nA wh))), (et, .inl (gI G, 20, .inl (nA ms))), (er, .inl (gI G, 20, .inl (nA mr)))] 0 0 (fun (r : Int32) (u : Nat × Int32 × Int32 × (Nat → Nat) × (Nat → Nat) × (Nat → Nat) × (Nat → Nat) × (Nat → Nat) × (Nat → Nat) × (Nat → Nat)) => r = (r_tell (mR al) x y) ∧ (mR u.2.2.2.1, mH u.1 u.2.2.2.2.2.1) = n_tell (mR al) (mH hq hy) x y) (fun (u : Nat × Int32 × Int32 × (Nat → Nat) × (Nat → Nat) × (Nat → Nat) × (Nat → Nat) × (Nat → Nat) × (Nat → Nat) × (Nat → Nat)) => [(e0, .inr (6, [.ref ea, .ref ek, .ref eh, .int (nI u.1), .ref es, .ref ei, .ref el, .ref ew, .ref et, .ref er, .int u.2.1, .int u.2.2.1, .ref ed, .ref ep, .int pn, .int sp, .ref ex, .ref eu, .int rm, .int la])), (ea, .inl (gI G, 42, .inl (nA u.2.2.2.1))), (ek, .inl (gI G, 42, .inl (nA u.2.2.2.2.1))), (eh, .inl (gI G, 252, .inl (nA u.2.2.2.2.2.1))), (el, .inl (gI G, 12, .inl (nA u.2.2.2.2.2.2.1))), (ew, .inl (gI G, 12, .inl (nA u.2.2.2.2.2.2.2.1))), (et, .inl (gI G, 20, .inl (nA u.2.2.2.2.2.2.2.2.1))), (er, .inl (gI G, 20, .inl (nA u.2.2.2.2.2.2.2.2.2)))]) := by
  refine CI.of (cc := cX6_tell) (maxL := 3) (ret := (some .int)) (by decide +kernel) rfl (Nat.le_of_ble_eq_true rfl) rfl (fun p e s m args below meth c A S hrt hlk hnm K hA hP hD hS ls hl => ?_)
  have hx := S.1
  have hb := S.2.1
  have hl : lv_has ls 3 [(0, .ref e0), (1, .int x), (2, .int y)] := hl
  obtain ⟨hc1, hc2, hn3, hf4, hf5, hg6⟩ := mrow hR
  have hp2 := p12 hc2
  have h1s : 1 <<< al 0 = 2 ^ al 0 := Nat.one_shiftLeft _
  have hL0 := lN_toInt (n := 0) (by decide)
  have hL1 := lN_toInt (n := 1) (by decide)
  have hL12 := lN_toInt (n := 12) (by decide)
  have hLx := Int32.toInt_toInt64 x
  have hLx := Int32.toInt_toInt64 y
  refine lv_aload_n hx hb dX6_tell_0 rfl (lv_at hl 0 rfl) ?_
  refine lv_iload_n hx hb dX6_tell_1 rfl (lv_at hl 1 rfl) ?_
  refine zcVi (rest := []) S K hP hD hS hA hl.1 (c_X6_isSet l G e0 ea ek eh es ei el ew et er ed ep ex eu (nI hq) lf md pn sp rm la al x hc2) rfl rfl gX6_tell_X6_isSet rfl eX6_isSet [0, 1] (by decide +kernel) rfl (fun _ => rfl) 6 0 rfl rfl rfl rfl rfl (Nat.le_of_ble_eq_true rfl) (Nat.le_of_ble_eq_true rfl) (Nat.le_of_ble_eq_true rfl) ⟨Nat.zero_le _, Nat.zero_le _⟩ dX6_tell_2 (fun r_2 u_2 H locs hw_2 hP hD hS => ?_)
  obtain ⟨hP, hD⟩ := mx_ok [some 0, some 1, none, none, none, none, none, none] (by decide +kernel) rfl rfl hP hD
  replace hw_2 : r_2 = nI (bN (decide (1 ≤ x.toInt ∧ x.toInt < ((2 ^ al 0 : Nat) : Int)))) := hw_2
  obtain rfl := hw_2
  have hP : va_P (gD G) vwCl [(e0, .inr (6, [.ref ea, .ref ek, .ref eh, .int (nI hq), .ref es, .ref ei, .ref el, .ref ew, .ref et, .ref er, .int lf, .int md, .ref ed, .ref ep, .int pn, .int sp, .ref ex, .ref eu, .int rm, .int la])), (ea, .inl (gI G, 42, .inl (nA al))), (ek, .inl (gI G, 42, .inl (nA ka))), (eh, .inl (gI G, 252, .inl (nA hy))), (el, .inl (gI G, 12, .inl (nA le))), (ew, .inl (gI G, 12, .inl (nA wh))), (et, .inl (gI G, 20, .inl (nA ms))), (er, .inl (gI G, 20, .inl (nA mr)))] H := hP
  have hD : va_D A [(e0, .inr (6, [.ref ea, .ref ek, .ref eh, .int (nI hq), .ref es, .ref ei, .ref el, .ref ew, .ref et, .ref er, .int lf, .int md, .ref ed, .ref ep, .int pn, .int sp, .ref ex, .ref eu, .int rm, .int la])), (ea, .inl (gI G, 42, .inl (nA al))), (ek, .inl (gI G, 42, .inl (nA ka))), (eh, .inl (gI G, 252, .inl (nA hy))), (el, .inl (gI G, 12, .inl (nA le))), (ew, .inl (gI G, 12, .inl (nA wh))), (et, .inl (gI G, 20, .inl (nA ms))), (er, .inl (gI G, 20, .inl (nA mr)))] := hD
  refine zf_eq (tgt := 18) S dX6_tell_5 (by decide) (bN_31 _) (fun c_5 => ?_) (fun c_5 => ?_)
  · skip
    have c_5 := of_decide_eq_false (bN_eq0 c_5)
    refine lv_bipush (v := -2) hx hb dX6_tell_18 (by decide +kernel) ?_
    refine z_top (y := (r_tell (mR al) x y)) (te_0 (R := mR al) (h := (0, fun _ => R0)) (mrf (by first | exact Or.inl c_5 | exact Or.inr (by omega)))).1 ?_
    exact z_iret S hrt hlk hP hD hS (hq, lf, md, al, ka, hy, le, wh, ms, mr) rfl ⟨rfl, (te_0 (R := mR al) (mrf (by first | exact Or.inl c_5 | exact Or.inr (by omega)))).2⟩ dX6_tell_20
  · skip
    have c_5 := of_decide_eq_true (bN_ne0 c_5)
    refine lv_iload_n hx hb dX6_tell_8 rfl (lv_at hl 2 rfl) ?_
    refine lv_i2l (v := Int32.toInt64 y) hx hb dX6_tell_9 rfl ?_
    refine lv_lconst (v := lN 0) hx hb dX6_tell_10 (by decide +kernel) ?_
    refine lv_lconst (v := lN 1) hx hb dX6_tell_11 (by decide +kernel) ?_
    refine zcSi (rest := []) S K hP hD hS hA hl.1 (c_X6_in l G (Int32.toInt64 y) (lN 0) (lN 1) ) rfl rfl gX6_tell_X6_in rfl eX6_in.2 [] (by decide +kernel) rfl (fun _ => rfl) rfl rfl (Nat.le_of_ble_eq_true rfl) (Nat.le_of_ble_eq_true rfl) (Nat.le_of_ble_eq_true rfl) ⟨Nat.zero_le _, Nat.zero_le _⟩ dX6_tell_12 (fun r_12 u_12 H locs hw_12 hP hD hS => ?_)
    replace hw_12 : r_12 = nI (bN (decide ((lN 0).toInt ≤ (Int32.toInt64 y).toInt ∧ (Int32.toInt64 y).toInt ≤ (lN 1).toInt))) := hw_12
    obtain rfl := hw_12
    have hP : va_P (gD G) vwCl [(e0, .inr (6, [.ref ea, .ref ek, .ref eh, .int (nI hq), .ref es, .ref ei, .ref el, .ref ew, .ref et, .ref er, .int lf, .int md, .ref ed, .ref ep, .int pn, .int sp, .ref ex, .ref eu, .int rm, .int la])), (ea, .inl (gI G, 42, .inl (nA al))), (ek, .inl (gI G, 42, .inl (nA ka))), (eh, .inl (gI G, 252, .inl (nA hy))), (el, .inl (gI G, 12, .inl (nA le))), (ew, .inl (gI G, 12, .inl (nA wh))), (et, .inl (gI G, 20, .inl (nA ms))), (er, .inl (gI G, 20, .inl (nA mr)))] H := hP
    have hD : va_D A [(e0, .inr (6, [.ref ea, .ref ek, .ref eh, .int (nI hq), .ref es, .ref ei, .ref el, .ref ew, .ref et, .ref er, .int lf, .int md, .ref ed, .ref ep, .int pn, .int sp, .ref ex, .ref eu, .int rm, .int la])), (ea, .inl (gI G, 42, .inl (nA al))), (ek, .inl (gI G, 42, .inl (nA ka))), (eh, .inl (gI G, 252, .inl (nA hy))), (el, .inl (gI G, 12, .inl (nA le))), (ew, .inl (gI G, 12, .inl (nA wh))), (et, .inl (gI G, 20, .inl (nA ms))), (er, .inl (gI G, 20, .inl (nA mr)))] := hD
    refine zf_ne (tgt := 21) S dX6_tell_15 (by decide) (bN_31 _) (fun c_15 => ?_) (fun c_15 => ?_)
    · skip
      have c_15 := of_decide_eq_true (bN_ne0 c_15)
      have hru := mru c_5 (show 0 ≤ y.toInt ∧ y.toInt ≤ 1 by omega)
      obtain ⟨a, b, ha1, ha2, hb1, hax, hby⟩ := isRu_t hru hc2
      have hl : lv_has ls 3 [(0, .ref e0), (1, .int (nI a)), (2, .int (nI b))] := by rw [hax, hby] at hl; exact hl
      refine lv_aload_n hx hb dX6_tell_21 rfl (lv_at hl 0 rfl) ?_
      refine z_get S K hP hX6_tell_X6 0 rfl rfl 0 (by decide) kX6_tell_1 rfl rfl dX6_tell_22 ?_
      refine lv_iconst (v := nI 1) hx hb dX6_tell_25 (by decide +kernel) ?_
      refine z_iald S K hP 1 rfl (by omega) (by decide) dX6_tell_26 ?_
      refine lv_bipush (v := nI 20) hx hb dX6_tell_27 (by decide +kernel) ?_
      refine zb_ne (tgt := 35) S dX6_tell_29 (by decide) (by omega) (by decide) (fun c_29 => ?_) (fun c_29 => ?_)
      · skip
        refine lv_aload_n hx hb dX6_tell_35 rfl (lv_at hl 0 rfl) ?_
        refine zcVv (rest := []) S K hP hD hS hA hl.1 (c_X6_keep l G e0 ea ek eh es ei el ew et er ed ep ex eu (nI hq) lf md pn sp rm la al ka ) rfl rfl gX6_tell_X6_keep rfl eX6_keep [0, 1, 2] (by decide +kernel) rfl (fun _ => rfl) 6 0 rfl rfl rfl rfl rfl (Nat.le_of_ble_eq_true rfl) (Nat.le_of_ble_eq_true rfl) (Nat.le_of_ble_eq_true rfl) ⟨Nat.zero_le _, Nat.zero_le _⟩ dX6_tell_36 (fun u_36 H locs hw_36 hP hD hS => ?_)
        obtain ⟨hP, hD⟩ := mx_ok [some 0, some 1, some 2, none, none, none, none, none] (by decide +kernel) rfl rfl hP hD
        obtain ⟨ka2_36, rfl⟩ : ∃ z, z = u_36 := ⟨_, rfl⟩
        replace hw_36 : ∀ j, j < 42 → ka2_36 j = al j := hw_36
        have hP : va_P (gD G) vwCl [(e0, .inr (6, [.ref ea, .ref ek, .ref eh, .int (nI hq), .ref es, .ref ei, .ref el, .ref ew, .ref et, .ref er, .int lf, .int md, .ref ed, .ref ep, .int pn, .int sp, .ref ex, .ref eu, .int rm, .int la])), (ea, .inl (gI G, 42, .inl (nA al))), (ek, .inl (gI G, 42, .inl (nA ka2_36))), (eh, .inl (gI G, 252, .inl (nA hy))), (el, .inl (gI G, 12, .inl (nA le))), (ew, .inl (gI G, 12, .inl (nA wh))), (et, .inl (gI G, 20, .inl (nA ms))), (er, .inl (gI G, 20, .inl (nA mr)))] H := hP
        have hD : va_D A [(e0, .inr (6, [.ref ea, .ref ek, .ref eh, .int (nI hq), .ref es, .ref ei, .ref el, .ref ew, .ref et, .ref er, .int lf, .int md, .ref ed, .ref ep, .int pn, .int sp, .ref ex, .ref eu, .int rm, .int la])), (ea, .inl (gI G, 42, .inl (nA al))), (ek, .inl (gI G, 42, .inl (nA ka2_36))), (eh, .inl (gI G, 252, .inl (nA hy))), (el, .inl (gI G, 12, .inl (nA le))), (ew, .inl (gI G, 12, .inl (nA wh))), (et, .inl (gI G, 20, .inl (nA ms))), (er, .inl (gI G, 20, .inl (nA mr)))] := hD
        obtain ⟨hkR, hk1⟩ := keep_R hw_36 hn3
        refine lv_aload_n hx hb dX6_tell_39 rfl (lv_at hl 0 rfl) ?_
        refine lv_iload_n hx hb dX6_tell_40 rfl (lv_at hl 1 rfl) ?_
        refine lv_iload_n hx hb dX6_tell_41 rfl (lv_at hl 2 rfl) ?_
        refine zcVv (rest := []) S K hP hD hS hA hl.1 (c_X6_adds l G e0 ea ek eh es ei el ew et er ed ep ex eu (nI hq) lf md pn sp rm la al a b (by omega)) rfl rfl gX6_tell_X6_adds rfl eX6_adds [0, 1] (by decide +kernel) rfl (fun _ => rfl) 6 0 rfl rfl rfl rfl rfl (Nat.le_of_ble_eq_true rfl) (Nat.le_of_ble_eq_true rfl) (Nat.le_of_ble_eq_true rfl) ⟨Nat.zero_le _, Nat.zero_le _⟩ dX6_tell_42 (fun u_42 H locs hw_42 hP hD hS => ?_)
        obtain ⟨hP, hD⟩ := mx_ok [some 0, some 1, none, none, none, none, none, none] (by decide +kernel) rfl rfl hP hD
        have hP : va_P (gD G) vwCl [(e0, .inr (6, [.ref ea, .ref ek, .ref eh, .int (nI hq), .ref es, .ref ei, .ref el, .ref ew, .ref et, .ref er, .int lf, .int md, .ref ed, .ref ep, .int pn, .int sp, .ref ex, .ref eu, .int rm, .int la])), (ea, .inl (gI G, 42, .inl (nA (pu (pu (pu al (2 + al 1) a) (22 + al 1) b) 1 (al 1 + 1))))), (ek, .inl (gI G, 42, .inl (nA ka2_36))), (eh, .inl (gI G, 252, .inl (nA hy))), (el, .inl (gI G, 12, .inl (nA le))), (ew, .inl (gI G, 12, .inl (nA wh))), (et, .inl (gI G, 20, .inl (nA ms))), (er, .inl (gI G, 20, .inl (nA mr)))] H := hP
        have hD : va_D A [(e0, .inr (6, [.ref ea, .ref ek, .ref eh, .int (nI hq), .ref es, .ref ei, .ref el, .ref ew, .ref et, .ref er, .int lf, .int md, .ref ed, .ref ep, .int pn, .int sp, .ref ex, .ref eu, .int rm, .int la])), (ea, .inl (gI G, 42, .inl (nA (pu (pu (pu al (2 + al 1) a) (22 + al 1) b) 1 (al 1 + 1))))), (ek, .inl (gI G, 42, .inl (nA ka2_36))), (eh, .inl (gI G, 252, .inl (nA hy))), (el, .inl (gI G, 12, .inl (nA le))), (ew, .inl (gI G, 12, .inl (nA wh))), (et, .inl (gI G, 20, .inl (nA ms))), (er, .inl (gI G, 20, .inl (nA mr)))] := hD
        have hR2 : RowOK (mR (pu (pu (pu al (2 + al 1) a) (22 + al 1) b) 1 (al 1 + 1))) := by rw [mR_a (by omega), ← app_mk]; exact app_ok hR (show al 1 < 20 by omega) ⟨ha1, ha2⟩ hb1
        refine lv_aload_n hx hb dX6_tell_45 rfl (lv_at hl 0 rfl) ?_
        refine zcVv (rest := []) S K hP hD hS hA hl.1 (c_X6_judges l G e0 ea ek eh es ei el ew et er ed ep ex eu (nI hq) lf md pn sp rm la (pu (pu (pu al (2 + al 1) a) (22 + al 1) b) 1 (al 1 + 1)) le wh ms mr hR2) rfl rfl gX6_tell_X6_judges rfl eX6_judges [0, 1, 4, 5, 6, 7] (by decide +kernel) rfl (fun _ => rfl) 6 0 rfl rfl rfl rfl rfl (Nat.le_of_ble_eq_true rfl) (Nat.le_of_ble_eq_true rfl) (Nat.le_of_ble_eq_true rfl) ⟨Nat.zero_le _, Nat.zero_le _⟩ dX6_tell_46 (fun u_46 H locs hw_46 hP hD hS => ?_)
        obtain ⟨hP, hD⟩ := mx_ok [some 0, some 1, none, none, some 2, some 3, some 4, some 5] (by decide +kernel) rfl rfl hP hD
        obtain ⟨lf2_46, md2_46, le2_46, wh2_46, ms2_46, mr2_46⟩ := u_46
        replace hw_46 : MV (fun j => (pu (pu (pu al (2 + al 1) a) (22 + al 1) b) 1 (al 1 + 1)) (2 + j)) (fun j => (pu (pu (pu al (2 + al 1) a) (22 + al 1) b) 1 (al 1 + 1)) (22 + j)) ((pu (pu (pu al (2 + al 1) a) (22 + al 1) b) 1 (al 1 + 1)) 1) ms2_46 mr2_46 le2_46 wh2_46 := hw_46
        have hP : va_P (gD G) vwCl [(e0, .inr (6, [.ref ea, .ref ek, .ref eh, .int (nI hq), .ref es, .ref ei, .ref el, .ref ew, .ref et, .ref er, .int lf2_46, .int md2_46, .ref ed, .ref ep, .int pn, .int sp, .ref ex, .ref eu, .int rm, .int la])), (ea, .inl (gI G, 42, .inl (nA (pu (pu (pu al (2 + al 1) a) (22 + al 1) b) 1 (al 1 + 1))))), (ek, .inl (gI G, 42, .inl (nA ka2_36))), (eh, .inl (gI G, 252, .inl (nA hy))), (el, .inl (gI G, 12, .inl (nA le2_46))), (ew, .inl (gI G, 12, .inl (nA wh2_46))), (et, .inl (gI G, 20, .inl (nA ms2_46))), (er, .inl (gI G, 20, .inl (nA mr2_46)))] H := hP
        have hD : va_D A [(e0, .inr (6, [.ref ea, .ref ek, .ref eh, .int (nI hq), .ref es, .ref ei, .ref el, .ref ew, .ref et, .ref er, .int lf2_46, .int md2_46, .ref ed, .ref ep, .int pn, .int sp, .ref ex, .ref eu, .int rm, .int la])), (ea, .inl (gI G, 42, .inl (nA (pu (pu (pu al (2 + al 1) a) (22 + al 1) b) 1 (al 1 + 1))))), (ek, .inl (gI G, 42, .inl (nA ka2_36))), (eh, .inl (gI G, 252, .inl (nA hy))), (el, .inl (gI G, 12, .inl (nA le2_46))), (ew, .inl (gI G, 12, .inl (nA wh2_46))), (et, .inl (gI G, 20, .inl (nA ms2_46))), (er, .inl (gI G, 20, .inl (nA mr2_46)))] := hD
        refine lv_aload_n hx hb dX6_tell_49 rfl (lv_at hl 0 rfl) ?_
        refine lv_aload_n hx hb dX6_tell_50 rfl (lv_at hl 0 rfl) ?_
        refine z_get S K hP hX6_tell_X6 0 rfl rfl 8 (by decide) kX6_tell_2 rfl rfl dX6_tell_51 ?_
        refine lv_aload_n hx hb dX6_tell_54 rfl (lv_at hl 0 rfl) ?_
        refine z_get S K hP hX6_tell_X6 0 rfl rfl 0 (by decide) kX6_tell_1 rfl rfl dX6_tell_55 ?_
        refine lv_iconst (v := nI 1) hx hb dX6_tell_58 (by decide +kernel) ?_
        refine z_iald S K hP 1 rfl (by omega) (by decide) dX6_tell_59 ?_
        refine z_top (y := nI (al 1 + 1)) (congrArg nI pu_s) ?_
        refine lv_iconst (v := nI 1) hx hb dX6_tell_60 (by decide +kernel) ?_
        refine zi_sub S dX6_tell_61 (by omega) ?_
        refine z_iald S K hP 6 rfl (by omega) (by decide) dX6_tell_62 ?_
        refine zcVi (rest := []) S K hP hD hS hA hl.1 (c_X6_changed l G e0 ea ek eh es ei el ew et er ed ep ex eu lf2_46 md2_46 pn sp rm la ka2_36 hy hq (nI (ms2_46 ((al 1 + 1) - 1))) hq6 hn hk1) rfl rfl gX6_tell_X6_changed rfl eX6_changed [0, 2, 3] (by decide +kernel) rfl (fun _ => rfl) 6 0 rfl rfl rfl rfl rfl (Nat.le_of_ble_eq_true rfl) (Nat.le_of_ble_eq_true rfl) (Nat.le_of_ble_eq_true rfl) ⟨Nat.zero_le _, Nat.zero_le _⟩ dX6_tell_63 (fun r_63 u_63 H locs hw_63 hP hD hS => ?_)
        obtain ⟨hP, hD⟩ := mx_ok [some 0, none, some 1, some 2, none, none, none, none] (by decide +kernel) rfl rfl hP hD
        obtain ⟨hq2_63, hy2_63⟩ := u_63
        replace hw_63 : r_63 = ((nI (ms2_46 ((al 1 + 1) - 1)))) ∧ mH hq2_63 hy2_63 = pushH (mH hq hy) (mR ka2_36) := hw_63
        obtain ⟨rfl, hw_63⟩ := hw_63
        have hP : va_P (gD G) vwCl [(e0, .inr (6, [.ref ea, .ref ek, .ref eh, .int (nI hq2_63), .ref es, .ref ei, .ref el, .ref ew, .ref et, .ref er, .int lf2_46, .int md2_46, .ref ed, .ref ep, .int pn, .int sp, .ref ex, .ref eu, .int rm, .int la])), (ea, .inl (gI G, 42, .inl (nA (pu (pu (pu al (2 + al 1) a) (22 + al 1) b) 1 (al 1 + 1))))), (ek, .inl (gI G, 42, .inl (nA ka2_36))), (eh, .inl (gI G, 252, .inl (nA hy2_63))), (el, .inl (gI G, 12, .inl (nA le2_46))), (ew, .inl (gI G, 12, .inl (nA wh2_46))), (et, .inl (gI G, 20, .inl (nA ms2_46))), (er, .inl (gI G, 20, .inl (nA mr2_46)))] H := hP
        have hD : va_D A [(e0, .inr (6, [.ref ea, .ref ek, .ref eh, .int (nI hq2_63), .ref es, .ref ei, .ref el, .ref ew, .ref et, .ref er, .int lf2_46, .int md2_46, .ref ed, .ref ep, .int pn, .int sp, .ref ex, .ref eu, .int rm, .int la])), (ea, .inl (gI G, 42, .inl (nA (pu (pu (pu al (2 + al 1) a) (22 + al 1) b) 1 (al 1 + 1))))), (ek, .inl (gI G, 42, .inl (nA ka2_36))), (eh, .inl (gI G, 252, .inl (nA hy2_63))), (el, .inl (gI G, 12, .inl (nA le2_46))), (ew, .inl (gI G, 12, .inl (nA wh2_46))), (et, .inl (gI G, 20, .inl (nA ms2_46))), (er, .inl (gI G, 20, .inl (nA mr2_46)))] := hD
        refine z_top (y := (r_tell (mR al) x y)) ((congrArg nI (te_m (by omega) hw_46)).trans (te_2 (c := al 0) (n := al 1) (f := fun j => al (2 + j)) (g := fun j => al (22 + j)) (h := (0, fun _ => R0)) hru (by omega) hax hby (by omega) hb1).1) ?_
        exact z_iret S hrt hlk hP hD hS (hq2_63, lf2_46, md2_46, pu (pu (pu al (2 + al 1) a) (22 + al 1) b) 1 (al 1 + 1), ka2_36, hy2_63, le2_46, wh2_46, ms2_46, mr2_46) rfl ⟨rfl, (by rw [hw_63, hkR, mR_a (by omega)]; exact (te_2 (c := al 0) (n := al 1) (f := fun j => al (2 + j)) (g := fun j => al (22 + j)) hru (by omega) hax hby (by omega) hb1).2)⟩ dX6_tell_66
      · skip
        refine lv_bipush (v := -4) hx hb dX6_tell_32 (by decide +kernel) ?_
        refine z_top (y := (r_tell (mR al) x y)) (te_1 (c := al 0) (n := al 1) (f := fun j => al (2 + j)) (g := fun j => al (22 + j)) (h := (0, fun _ => R0)) hru (by omega)).1 ?_
        exact z_iret S hrt hlk hP hD hS (hq, lf, md, al, ka, hy, le, wh, ms, mr) rfl ⟨rfl, (te_1 (c := al 0) (n := al 1) (f := fun j => al (2 + j)) (g := fun j => al (22 + j)) hru (by omega)).2⟩ dX6_tell_34
    · skip
      have c_15 := of_decide_eq_false (bN_eq0 c_15)
      refine lv_bipush (v := -2) hx hb dX6_tell_18 (by decide +kernel) ?_
      refine z_top (y := (r_tell (mR al) x y)) (te_0 (R := mR al) (h := (0, fun _ => R0)) (mrf (by first | exact Or.inl c_5 | exact Or.inr (by omega)))).1 ?_
      exact z_iret S hrt hlk hP hD hS (hq, lf, md, al, ka, hy, le, wh, ms, mr) rfl ⟨rfl, (te_0 (R := mR al) (mrf (by first | exact Or.inl c_5 | exact Or.inr (by omega)))).2⟩ dX6_tell_20
set_option maxHeartbeats 4000000 in
set_option maxRecDepth 100000 in
theorem c_X6_turn (l : Launch) (G : gT) (e0 ea ek eh es ei el ew et er ed ep ex eu : Nat) (lf : Int32) (md : Int32) (pn : Int32) (sp : Int32) (rm : Int32) (la : Int32) (al : Nat → Nat) (ka : Nat → Nat) (hy : Nat → Nat) (le : Nat → Nat) (wh : Nat → Nat) (ms : Nat → Nat) (mr : Nat → Nat) (hq : Nat) (x : Int32) (hR : RowOK (mR al)) (hq6 : hq ≤ 6) (hn : ∀ k, k < hq → hy (42 * k + 1) ≤ 20) : CI l yX6_turn wsX6_turn ({ frames := 3, cells := 0, slots := 0, locals := 67 } : Room) G [.ref e0, .int x] [(e0, .inr (6, [.ref ea, .ref ek, .ref eh, .int (nI hq), .ref es, .ref ei, .ref el, .ref ew, .ref et, .ref er, .int lf, .int md, .ref ed, .ref ep, .int pn, .int sp, .ref ex, .ref eu, .int rm, .int la])), (ea, .inl (gI G, 42, .inl (nA al))), (ek, .inl (gI G, 42, .inl (nA ka))), (eh, .inl (gI G, 252, .inl (nA hy))), (el, .inl (gI G, 12, .inl (nA le))), (ew, .inl (gI G, 12, .inl (nA wh))), (et, .inl (gI G, 20, .inl (nA ms))), (er, .inl (gI G, 20, .inl (nA mr)))] 0 0 (fun (r : Int32) (u : Nat × Int32 × Int32 × (Nat → Nat) × (Nat → Nat) × (Nat → Nat) × (Nat → Nat) × (Nat → Nat) × (Nat → Nat) × (Nat → Nat)) => r = (r_turn (mR al) x) ∧ (mR u.2.2.2.1, mH u.1 u.2.2.2.2.2.1) = n_turn (mR al) (mH hq hy) x) (fun (u : Nat × Int32 × Int32 × (Nat → Nat) × (Nat → Nat) × (Nat → Nat) × (Nat → Nat) × (Nat → Nat) × (Nat → Nat) × (Nat → Nat)) => [(e0, .inr (6, [.ref ea, .ref ek, .ref eh, .int (nI u.1), .ref es, .ref ei, .ref el, .ref ew, .ref et, .ref er, .int u.2.1, .int u.2.2.1, .ref ed, .ref ep, .int pn, .int sp, .ref ex, .ref eu, .int rm, .int la])), (ea, .inl (gI G, 42, .inl (nA u.2.2.2.1))), (ek, .inl (gI G, 42, .inl (nA u.2.2.2.2.1))), (eh, .inl (gI G, 252, .inl (nA u.2.2.2.2.2.1))), (el, .inl (gI G, 12, .inl (nA u.2.2.2.2.2.2.1))), (ew, .inl (gI G, 12, .inl (nA u.2.2.2.2.2.2.2.1))), (et, .inl (gI G, 20, .inl (nA u.2.2.2.2.2.2.2.2.1))), (er, .inl (gI G, 20, .inl (nA u.2.2.2.2.2.2.2.2.2)))]) := by
  refine CI.of (cc := cX6_turn) (maxL := 2) (ret := (some .int)) (by decide +kernel) rfl (Nat.le_of_ble_eq_true rfl) rfl (fun p e s m args below meth c A S hrt hlk hnm K hA hP hD hS ls hl => ?_)
  have hx := S.1
  have hb := S.2.1
  have hl : lv_has ls 2 [(0, .ref e0), (1, .int x)] := hl
  obtain ⟨hc1, hc2, hn3, hf4, hf5, hg6⟩ := mrow hR
  have hp2 := p12 hc2
  have h1s : 1 <<< al 0 = 2 ^ al 0 := Nat.one_shiftLeft _
  have hL0 := lN_toInt (n := 0) (by decide)
  have hL1 := lN_toInt (n := 1) (by decide)
  have hL12 := lN_toInt (n := 12) (by decide)
  have hLx := Int32.toInt_toInt64 x
  refine lv_aload_n hx hb dX6_turn_0 rfl (lv_at hl 0 rfl) ?_
  refine lv_iload_n hx hb dX6_turn_1 rfl (lv_at hl 1 rfl) ?_
  refine zcVi (rest := []) S K hP hD hS hA hl.1 (c_X6_isRule l G e0 ea ek eh es ei el ew et er ed ep ex eu (nI hq) lf md pn sp rm la al x (by first | assumption | omega)) rfl rfl gX6_turn_X6_isRule rfl eX6_isRule [0, 1] (by decide +kernel) rfl (fun _ => rfl) 6 0 rfl rfl rfl rfl rfl (Nat.le_of_ble_eq_true rfl) (Nat.le_of_ble_eq_true rfl) (Nat.le_of_ble_eq_true rfl) ⟨Nat.zero_le _, Nat.zero_le _⟩ dX6_turn_2 (fun r_2 u_2 H locs hw_2 hP hD hS => ?_)
  obtain ⟨hP, hD⟩ := mx_ok [some 0, some 1, none, none, none, none, none, none] (by decide +kernel) rfl rfl hP hD
  replace hw_2 : r_2 = nI (bN (decide (0 ≤ x.toInt ∧ x.toInt < (al 1 : Int)))) := hw_2
  obtain rfl := hw_2
  have hP : va_P (gD G) vwCl [(e0, .inr (6, [.ref ea, .ref ek, .ref eh, .int (nI hq), .ref es, .ref ei, .ref el, .ref ew, .ref et, .ref er, .int lf, .int md, .ref ed, .ref ep, .int pn, .int sp, .ref ex, .ref eu, .int rm, .int la])), (ea, .inl (gI G, 42, .inl (nA al))), (ek, .inl (gI G, 42, .inl (nA ka))), (eh, .inl (gI G, 252, .inl (nA hy))), (el, .inl (gI G, 12, .inl (nA le))), (ew, .inl (gI G, 12, .inl (nA wh))), (et, .inl (gI G, 20, .inl (nA ms))), (er, .inl (gI G, 20, .inl (nA mr)))] H := hP
  have hD : va_D A [(e0, .inr (6, [.ref ea, .ref ek, .ref eh, .int (nI hq), .ref es, .ref ei, .ref el, .ref ew, .ref et, .ref er, .int lf, .int md, .ref ed, .ref ep, .int pn, .int sp, .ref ex, .ref eu, .int rm, .int la])), (ea, .inl (gI G, 42, .inl (nA al))), (ek, .inl (gI G, 42, .inl (nA ka))), (eh, .inl (gI G, 252, .inl (nA hy))), (el, .inl (gI G, 12, .inl (nA le))), (ew, .inl (gI G, 12, .inl (nA wh))), (et, .inl (gI G, 20, .inl (nA ms))), (er, .inl (gI G, 20, .inl (nA mr)))] := hD
  refine zf_ne (tgt := 10) S dX6_turn_5 (by decide) (bN_31 _) (fun c_5 => ?_) (fun c_5 => ?_)
  · skip
    have c_5 := of_decide_eq_true (bN_ne0 c_5)
    obtain ⟨i, hi1, hi2, hi3⟩ := z_of (x := x) (by omega)
    have hl : lv_has ls 2 [(0, .ref e0), (1, .int (nI i))] := by rw [hi2] at hl; exact hl
    have hgi := hg6 i (by omega)
    refine lv_aload_n hx hb dX6_turn_10 rfl (lv_at hl 0 rfl) ?_
    refine zcVv (rest := []) S K hP hD hS hA hl.1 (c_X6_keep l G e0 ea ek eh es ei el ew et er ed ep ex eu (nI hq) lf md pn sp rm la al ka ) rfl rfl gX6_turn_X6_keep rfl eX6_keep [0, 1, 2] (by decide +kernel) rfl (fun _ => rfl) 6 0 rfl rfl rfl rfl rfl (Nat.le_of_ble_eq_true rfl) (Nat.le_of_ble_eq_true rfl) (Nat.le_of_ble_eq_true rfl) ⟨Nat.zero_le _, Nat.zero_le _⟩ dX6_turn_11 (fun u_11 H locs hw_11 hP hD hS => ?_)
    obtain ⟨hP, hD⟩ := mx_ok [some 0, some 1, some 2, none, none, none, none, none] (by decide +kernel) rfl rfl hP hD
    obtain ⟨ka2_11, rfl⟩ : ∃ z, z = u_11 := ⟨_, rfl⟩
    replace hw_11 : ∀ j, j < 42 → ka2_11 j = al j := hw_11
    have hP : va_P (gD G) vwCl [(e0, .inr (6, [.ref ea, .ref ek, .ref eh, .int (nI hq), .ref es, .ref ei, .ref el, .ref ew, .ref et, .ref er, .int lf, .int md, .ref ed, .ref ep, .int pn, .int sp, .ref ex, .ref eu, .int rm, .int la])), (ea, .inl (gI G, 42, .inl (nA al))), (ek, .inl (gI G, 42, .inl (nA ka2_11))), (eh, .inl (gI G, 252, .inl (nA hy))), (el, .inl (gI G, 12, .inl (nA le))), (ew, .inl (gI G, 12, .inl (nA wh))), (et, .inl (gI G, 20, .inl (nA ms))), (er, .inl (gI G, 20, .inl (nA mr)))] H := hP
    have hD : va_D A [(e0, .inr (6, [.ref ea, .ref ek, .ref eh, .int (nI hq), .ref es, .ref ei, .ref el, .ref ew, .ref et, .ref er, .int lf, .int md, .ref ed, .ref ep, .int pn, .int sp, .ref ex, .ref eu, .int rm, .int la])), (ea, .inl (gI G, 42, .inl (nA al))), (ek, .inl (gI G, 42, .inl (nA ka2_11))), (eh, .inl (gI G, 252, .inl (nA hy))), (el, .inl (gI G, 12, .inl (nA le))), (ew, .inl (gI G, 12, .inl (nA wh))), (et, .inl (gI G, 20, .inl (nA ms))), (er, .inl (gI G, 20, .inl (nA mr)))] := hD
    obtain ⟨hkR, hk1⟩ := keep_R hw_11 hn3
    refine lv_aload_n hx hb dX6_turn_14 rfl (lv_at hl 0 rfl) ?_
    refine z_get S K hP hX6_turn_X6 0 rfl rfl 0 (by decide) kX6_turn_1 rfl rfl dX6_turn_15 ?_
    refine lv_bipush (v := nI 22) hx hb dX6_turn_18 (by decide +kernel) ?_
    refine lv_iload_n hx hb dX6_turn_20 rfl (lv_at hl 1 rfl) ?_
    refine zi_add S dX6_turn_21 ?_
    refine lv_iconst (v := nI 1) hx hb dX6_turn_22 (by decide +kernel) ?_
    refine lv_aload_n hx hb dX6_turn_23 rfl (lv_at hl 0 rfl) ?_
    refine z_get S K hP hX6_turn_X6 0 rfl rfl 0 (by decide) kX6_turn_1 rfl rfl dX6_turn_24 ?_
    refine lv_bipush (v := nI 22) hx hb dX6_turn_27 (by decide +kernel) ?_
    refine lv_iload_n hx hb dX6_turn_29 rfl (lv_at hl 1 rfl) ?_
    refine zi_add S dX6_turn_30 ?_
    refine z_iald S K hP 1 rfl (by omega) (by decide) dX6_turn_31 ?_
    refine zi_sub S dX6_turn_32 (by omega) ?_
    refine z_iast S K hP hD hS 1 rfl (by omega) (by decide) dX6_turn_33 (fun H locs hP hD hS => ?_)
    have hP : va_P (gD G) vwCl [(e0, .inr (6, [.ref ea, .ref ek, .ref eh, .int (nI hq), .ref es, .ref ei, .ref el, .ref ew, .ref et, .ref er, .int lf, .int md, .ref ed, .ref ep, .int pn, .int sp, .ref ex, .ref eu, .int rm, .int la])), (ea, .inl (gI G, 42, .inl (nA (pu al (22 + i) (1 - (al (22 + i))))))), (ek, .inl (gI G, 42, .inl (nA ka2_11))), (eh, .inl (gI G, 252, .inl (nA hy))), (el, .inl (gI G, 12, .inl (nA le))), (ew, .inl (gI G, 12, .inl (nA wh))), (et, .inl (gI G, 20, .inl (nA ms))), (er, .inl (gI G, 20, .inl (nA mr)))] H := hP
    have hD : va_D A [(e0, .inr (6, [.ref ea, .ref ek, .ref eh, .int (nI hq), .ref es, .ref ei, .ref el, .ref ew, .ref et, .ref er, .int lf, .int md, .ref ed, .ref ep, .int pn, .int sp, .ref ex, .ref eu, .int rm, .int la])), (ea, .inl (gI G, 42, .inl (nA (pu al (22 + i) (1 - (al (22 + i))))))), (ek, .inl (gI G, 42, .inl (nA ka2_11))), (eh, .inl (gI G, 252, .inl (nA hy))), (el, .inl (gI G, 12, .inl (nA le))), (ew, .inl (gI G, 12, .inl (nA wh))), (et, .inl (gI G, 20, .inl (nA ms))), (er, .inl (gI G, 20, .inl (nA mr)))] := hD
    have hR2 : RowOK (mR (pu al (22 + i) (1 - al (22 + i)))) := by rw [mR_t (by omega) hn3, ← tu_mk (c := al 0) (n := al 1) (f := fun j => al (2 + j)) (g := fun j => al (22 + j)) (show i < al 1 by omega)]; exact tu_ok hR
    refine lv_aload_n hx hb dX6_turn_34 rfl (lv_at hl 0 rfl) ?_
    refine zcVv (rest := []) S K hP hD hS hA hl.1 (c_X6_judges l G e0 ea ek eh es ei el ew et er ed ep ex eu (nI hq) lf md pn sp rm la (pu al (22 + i) (1 - (al (22 + i)))) le wh ms mr hR2) rfl rfl gX6_turn_X6_judges rfl eX6_judges [0, 1, 4, 5, 6, 7] (by decide +kernel) rfl (fun _ => rfl) 6 0 rfl rfl rfl rfl rfl (Nat.le_of_ble_eq_true rfl) (Nat.le_of_ble_eq_true rfl) (Nat.le_of_ble_eq_true rfl) ⟨Nat.zero_le _, Nat.zero_le _⟩ dX6_turn_35 (fun u_35 H locs hw_35 hP hD hS => ?_)
    obtain ⟨hP, hD⟩ := mx_ok [some 0, some 1, none, none, some 2, some 3, some 4, some 5] (by decide +kernel) rfl rfl hP hD
    obtain ⟨lf2_35, md2_35, le2_35, wh2_35, ms2_35, mr2_35⟩ := u_35
    replace hw_35 : MV (fun j => (pu al (22 + i) (1 - (al (22 + i)))) (2 + j)) (fun j => (pu al (22 + i) (1 - (al (22 + i)))) (22 + j)) ((pu al (22 + i) (1 - (al (22 + i)))) 1) ms2_35 mr2_35 le2_35 wh2_35 := hw_35
    have hP : va_P (gD G) vwCl [(e0, .inr (6, [.ref ea, .ref ek, .ref eh, .int (nI hq), .ref es, .ref ei, .ref el, .ref ew, .ref et, .ref er, .int lf2_35, .int md2_35, .ref ed, .ref ep, .int pn, .int sp, .ref ex, .ref eu, .int rm, .int la])), (ea, .inl (gI G, 42, .inl (nA (pu al (22 + i) (1 - (al (22 + i))))))), (ek, .inl (gI G, 42, .inl (nA ka2_11))), (eh, .inl (gI G, 252, .inl (nA hy))), (el, .inl (gI G, 12, .inl (nA le2_35))), (ew, .inl (gI G, 12, .inl (nA wh2_35))), (et, .inl (gI G, 20, .inl (nA ms2_35))), (er, .inl (gI G, 20, .inl (nA mr2_35)))] H := hP
    have hD : va_D A [(e0, .inr (6, [.ref ea, .ref ek, .ref eh, .int (nI hq), .ref es, .ref ei, .ref el, .ref ew, .ref et, .ref er, .int lf2_35, .int md2_35, .ref ed, .ref ep, .int pn, .int sp, .ref ex, .ref eu, .int rm, .int la])), (ea, .inl (gI G, 42, .inl (nA (pu al (22 + i) (1 - (al (22 + i))))))), (ek, .inl (gI G, 42, .inl (nA ka2_11))), (eh, .inl (gI G, 252, .inl (nA hy))), (el, .inl (gI G, 12, .inl (nA le2_35))), (ew, .inl (gI G, 12, .inl (nA wh2_35))), (et, .inl (gI G, 20, .inl (nA ms2_35))), (er, .inl (gI G, 20, .inl (nA mr2_35)))] := hD
    refine lv_aload_n hx hb dX6_turn_38 rfl (lv_at hl 0 rfl) ?_
    refine lv_aload_n hx hb dX6_turn_39 rfl (lv_at hl 0 rfl) ?_
    refine z_get S K hP hX6_turn_X6 0 rfl rfl 8 (by decide) kX6_turn_2 rfl rfl dX6_turn_40 ?_
    refine lv_iload_n hx hb dX6_turn_43 rfl (lv_at hl 1 rfl) ?_
    refine z_iald S K hP 6 rfl (by omega) (by decide) dX6_turn_44 ?_
    refine zcVi (rest := []) S K hP hD hS hA hl.1 (c_X6_changed l G e0 ea ek eh es ei el ew et er ed ep ex eu lf2_35 md2_35 pn sp rm la ka2_11 hy hq (nI (ms2_35 i)) hq6 hn hk1) rfl rfl gX6_turn_X6_changed rfl eX6_changed [0, 2, 3] (by decide +kernel) rfl (fun _ => rfl) 6 0 rfl rfl rfl rfl rfl (Nat.le_of_ble_eq_true rfl) (Nat.le_of_ble_eq_true rfl) (Nat.le_of_ble_eq_true rfl) ⟨Nat.zero_le _, Nat.zero_le _⟩ dX6_turn_45 (fun r_45 u_45 H locs hw_45 hP hD hS => ?_)
    obtain ⟨hP, hD⟩ := mx_ok [some 0, none, some 1, some 2, none, none, none, none] (by decide +kernel) rfl rfl hP hD
    obtain ⟨hq2_45, hy2_45⟩ := u_45
    replace hw_45 : r_45 = ((nI (ms2_35 i))) ∧ mH hq2_45 hy2_45 = pushH (mH hq hy) (mR ka2_11) := hw_45
    obtain ⟨rfl, hw_45⟩ := hw_45
    have hP : va_P (gD G) vwCl [(e0, .inr (6, [.ref ea, .ref ek, .ref eh, .int (nI hq2_45), .ref es, .ref ei, .ref el, .ref ew, .ref et, .ref er, .int lf2_35, .int md2_35, .ref ed, .ref ep, .int pn, .int sp, .ref ex, .ref eu, .int rm, .int la])), (ea, .inl (gI G, 42, .inl (nA (pu al (22 + i) (1 - (al (22 + i))))))), (ek, .inl (gI G, 42, .inl (nA ka2_11))), (eh, .inl (gI G, 252, .inl (nA hy2_45))), (el, .inl (gI G, 12, .inl (nA le2_35))), (ew, .inl (gI G, 12, .inl (nA wh2_35))), (et, .inl (gI G, 20, .inl (nA ms2_35))), (er, .inl (gI G, 20, .inl (nA mr2_35)))] H := hP
    have hD : va_D A [(e0, .inr (6, [.ref ea, .ref ek, .ref eh, .int (nI hq2_45), .ref es, .ref ei, .ref el, .ref ew, .ref et, .ref er, .int lf2_35, .int md2_35, .ref ed, .ref ep, .int pn, .int sp, .ref ex, .ref eu, .int rm, .int la])), (ea, .inl (gI G, 42, .inl (nA (pu al (22 + i) (1 - (al (22 + i))))))), (ek, .inl (gI G, 42, .inl (nA ka2_11))), (eh, .inl (gI G, 252, .inl (nA hy2_45))), (el, .inl (gI G, 12, .inl (nA le2_35))), (ew, .inl (gI G, 12, .inl (nA wh2_35))), (et, .inl (gI G, 20, .inl (nA ms2_35))), (er, .inl (gI G, 20, .inl (nA mr2_35)))] := hD
    refine z_top (y := (r_turn (mR al) x)) (tu_1 (c := al 0) (n := al 1) (f := fun j => al (2 + j)) (g := fun j => al (22 + j)) (h := (0, fun _ => R0)) hi2 (by omega) hn3 (tu_m (by omega) hn3 hw_35)).1 ?_
    exact z_iret S hrt hlk hP hD hS (hq2_45, lf2_35, md2_35, pu al (22 + i) (1 - (al (22 + i))), ka2_11, hy2_45, le2_35, wh2_35, ms2_35, mr2_35) rfl ⟨rfl, (by rw [hw_45, hkR, mR_t (by omega) hn3]; exact (tu_1 (c := al 0) (n := al 1) (f := fun j => al (2 + j)) (g := fun j => al (22 + j)) hi2 (by omega) hn3 (tu_m (by omega) hn3 hw_35)).2)⟩ dX6_turn_48
  · skip
    have c_5 := of_decide_eq_false (bN_eq0 c_5)
    refine lv_iconst (v := -1) hx hb dX6_turn_8 (by decide +kernel) ?_
    refine z_top (y := (r_turn (mR al) x)) (tu_0 (R := mR al) (h := (0, fun _ => R0)) c_5).1 ?_
    exact z_iret S hrt hlk hP hD hS (hq, lf, md, al, ka, hy, le, wh, ms, mr) rfl ⟨rfl, (tu_0 (R := mR al) c_5).2⟩ dX6_turn_9
set_option maxHeartbeats 4000000 in
set_option maxRecDepth 100000 in
theorem c_X6_ifTold (l : Launch) (G : gT) (e0 ea ek eh es ei el ew et er ed ep ex eu : Nat) (hq : Int32) (lf : Int32) (md : Int32) (pn : Int32) (sp : Int32) (rm : Int32) (la : Int32) (al : Nat → Nat) (le : Nat → Nat) (wh : Nat → Nat) (ms : Nat → Nat) (mr : Nat → Nat) (x : Int32) (y : Int32) (hR : RowOK (mR al)) : CI l yX6_ifTold wsX6_ifTold ({ frames := 3, cells := 0, slots := 0, locals := 67 } : Room) G [.ref e0, .int x, .int y] [(e0, .inr (6, [.ref ea, .ref ek, .ref eh, .int hq, .ref es, .ref ei, .ref el, .ref ew, .ref et, .ref er, .int lf, .int md, .ref ed, .ref ep, .int pn, .int sp, .ref ex, .ref eu, .int rm, .int la])), (ea, .inl (gI G, 42, .inl (nA al))), (el, .inl (gI G, 12, .inl (nA le))), (ew, .inl (gI G, 12, .inl (nA wh))), (et, .inl (gI G, 20, .inl (nA ms))), (er, .inl (gI G, 20, .inl (nA mr)))] 0 0 (fun (r : Int32) (u : Int32 × Int32 × (Nat → Nat) × (Nat → Nat) × (Nat → Nat) × (Nat → Nat)) => r = (r_ifTold (mR al) x y)) (fun (u : Int32 × Int32 × (Nat → Nat) × (Nat → Nat) × (Nat → Nat) × (Nat → Nat)) => [(e0, .inr (6, [.ref ea, .ref ek, .ref eh, .int hq, .ref es, .ref ei, .ref el, .ref ew, .ref et, .ref er, .int u.1, .int u.2.1, .ref ed, .ref ep, .int pn, .int sp, .ref ex, .ref eu, .int rm, .int la])), (ea, .inl (gI G, 42, .inl (nA al))), (el, .inl (gI G, 12, .inl (nA u.2.2.1))), (ew, .inl (gI G, 12, .inl (nA u.2.2.2.1))), (et, .inl (gI G, 20, .inl (nA u.2.2.2.2.1))), (er, .inl (gI G, 20, .inl (nA u.2.2.2.2.2)))]) := by
  refine CI.of (cc := cX6_ifTold) (maxL := 3) (ret := (some .int)) (by decide +kernel) rfl (Nat.le_of_ble_eq_true rfl) rfl (fun p e s m args below meth c A S hrt hlk hnm K hA hP hD hS ls hl => ?_)
  have hx := S.1
  have hb := S.2.1
  have hl : lv_has ls 3 [(0, .ref e0), (1, .int x), (2, .int y)] := hl
  obtain ⟨hc1, hc2, hn3, hf4, hf5, hg6⟩ := mrow hR
  have hp2 := p12 hc2
  have h1s : 1 <<< al 0 = 2 ^ al 0 := Nat.one_shiftLeft _
  have hL0 := lN_toInt (n := 0) (by decide)
  have hL1 := lN_toInt (n := 1) (by decide)
  have hL12 := lN_toInt (n := 12) (by decide)
  have hLy := Int32.toInt_toInt64 y
  refine lv_aload_n hx hb dX6_ifTold_0 rfl (lv_at hl 0 rfl) ?_
  refine lv_iload_n hx hb dX6_ifTold_1 rfl (lv_at hl 1 rfl) ?_
  refine zcVi (rest := []) S K hP hD hS hA hl.1 (c_X6_isSet l G e0 ea ek eh es ei el ew et er ed ep ex eu hq lf md pn sp rm la al x hc2) rfl rfl gX6_ifTold_X6_isSet rfl eX6_isSet [0, 1] (by decide +kernel) rfl (fun _ => rfl) 6 0 rfl rfl rfl rfl rfl (Nat.le_of_ble_eq_true rfl) (Nat.le_of_ble_eq_true rfl) (Nat.le_of_ble_eq_true rfl) ⟨Nat.zero_le _, Nat.zero_le _⟩ dX6_ifTold_2 (fun r_2 u_2 H locs hw_2 hP hD hS => ?_)
  obtain ⟨hP, hD⟩ := mx_ok [some 0, some 1, none, none, none, none] (by decide +kernel) rfl rfl hP hD
  replace hw_2 : r_2 = nI (bN (decide (1 ≤ x.toInt ∧ x.toInt < ((2 ^ al 0 : Nat) : Int)))) := hw_2
  obtain rfl := hw_2
  have hP : va_P (gD G) vwCl [(e0, .inr (6, [.ref ea, .ref ek, .ref eh, .int hq, .ref es, .ref ei, .ref el, .ref ew, .ref et, .ref er, .int lf, .int md, .ref ed, .ref ep, .int pn, .int sp, .ref ex, .ref eu, .int rm, .int la])), (ea, .inl (gI G, 42, .inl (nA al))), (el, .inl (gI G, 12, .inl (nA le))), (ew, .inl (gI G, 12, .inl (nA wh))), (et, .inl (gI G, 20, .inl (nA ms))), (er, .inl (gI G, 20, .inl (nA mr)))] H := hP
  have hD : va_D A [(e0, .inr (6, [.ref ea, .ref ek, .ref eh, .int hq, .ref es, .ref ei, .ref el, .ref ew, .ref et, .ref er, .int lf, .int md, .ref ed, .ref ep, .int pn, .int sp, .ref ex, .ref eu, .int rm, .int la])), (ea, .inl (gI G, 42, .inl (nA al))), (el, .inl (gI G, 12, .inl (nA le))), (ew, .inl (gI G, 12, .inl (nA wh))), (et, .inl (gI G, 20, .inl (nA ms))), (er, .inl (gI G, 20, .inl (nA mr)))] := hD
  refine zf_eq (tgt := 18) S dX6_ifTold_5 (by decide) (bN_31 _) (fun c_5 => ?_) (fun c_5 => ?_)
  · skip
    have c_5 := of_decide_eq_false (bN_eq0 c_5)
    refine lv_bipush (v := -2) hx hb dX6_ifTold_18 (by decide +kernel) ?_
    refine z_top (y := (r_ifTold (mR al) x y)) (it_0 (R := mR al) (mrf (by first | exact Or.inl c_5 | exact Or.inr (by omega)))) ?_
    exact z_iret S hrt hlk hP hD hS (lf, md, le, wh, ms, mr) rfl rfl dX6_ifTold_20
  · skip
    have c_5 := of_decide_eq_true (bN_ne0 c_5)
    refine lv_iload_n hx hb dX6_ifTold_8 rfl (lv_at hl 2 rfl) ?_
    refine lv_i2l (v := Int32.toInt64 y) hx hb dX6_ifTold_9 rfl ?_
    refine lv_lconst (v := lN 0) hx hb dX6_ifTold_10 (by decide +kernel) ?_
    refine lv_lconst (v := lN 1) hx hb dX6_ifTold_11 (by decide +kernel) ?_
    refine zcSi (rest := []) S K hP hD hS hA hl.1 (c_X6_in l G (Int32.toInt64 y) (lN 0) (lN 1) ) rfl rfl gX6_ifTold_X6_in rfl eX6_in.2 [] (by decide +kernel) rfl (fun _ => rfl) rfl rfl (Nat.le_of_ble_eq_true rfl) (Nat.le_of_ble_eq_true rfl) (Nat.le_of_ble_eq_true rfl) ⟨Nat.zero_le _, Nat.zero_le _⟩ dX6_ifTold_12 (fun r_12 u_12 H locs hw_12 hP hD hS => ?_)
    replace hw_12 : r_12 = nI (bN (decide ((lN 0).toInt ≤ (Int32.toInt64 y).toInt ∧ (Int32.toInt64 y).toInt ≤ (lN 1).toInt))) := hw_12
    obtain rfl := hw_12
    have hP : va_P (gD G) vwCl [(e0, .inr (6, [.ref ea, .ref ek, .ref eh, .int hq, .ref es, .ref ei, .ref el, .ref ew, .ref et, .ref er, .int lf, .int md, .ref ed, .ref ep, .int pn, .int sp, .ref ex, .ref eu, .int rm, .int la])), (ea, .inl (gI G, 42, .inl (nA al))), (el, .inl (gI G, 12, .inl (nA le))), (ew, .inl (gI G, 12, .inl (nA wh))), (et, .inl (gI G, 20, .inl (nA ms))), (er, .inl (gI G, 20, .inl (nA mr)))] H := hP
    have hD : va_D A [(e0, .inr (6, [.ref ea, .ref ek, .ref eh, .int hq, .ref es, .ref ei, .ref el, .ref ew, .ref et, .ref er, .int lf, .int md, .ref ed, .ref ep, .int pn, .int sp, .ref ex, .ref eu, .int rm, .int la])), (ea, .inl (gI G, 42, .inl (nA al))), (el, .inl (gI G, 12, .inl (nA le))), (ew, .inl (gI G, 12, .inl (nA wh))), (et, .inl (gI G, 20, .inl (nA ms))), (er, .inl (gI G, 20, .inl (nA mr)))] := hD
    refine zf_ne (tgt := 21) S dX6_ifTold_15 (by decide) (bN_31 _) (fun c_15 => ?_) (fun c_15 => ?_)
    · skip
      have c_15 := of_decide_eq_true (bN_ne0 c_15)
      have hru := mru c_5 (show 0 ≤ y.toInt ∧ y.toInt ≤ 1 by omega)
      obtain ⟨a, b, ha1, ha2, hb1, hax, hby⟩ := isRu_t hru hc2
      have hl : lv_has ls 3 [(0, .ref e0), (1, .int (nI a)), (2, .int (nI b))] := by rw [hax, hby] at hl; exact hl
      refine lv_aload_n hx hb dX6_ifTold_21 rfl (lv_at hl 0 rfl) ?_
      refine zcVv (rest := []) S K hP hD hS hA hl.1 (c_X6_judges l G e0 ea ek eh es ei el ew et er ed ep ex eu hq lf md pn sp rm la al le wh ms mr (by first | assumption | omega)) rfl rfl gX6_ifTold_X6_judges rfl eX6_judges [0, 1, 2, 3, 4, 5] (by decide +kernel) rfl (fun _ => rfl) 6 0 rfl rfl rfl rfl rfl (Nat.le_of_ble_eq_true rfl) (Nat.le_of_ble_eq_true rfl) (Nat.le_of_ble_eq_true rfl) ⟨Nat.zero_le _, Nat.zero_le _⟩ dX6_ifTold_22 (fun u_22 H locs hw_22 hP hD hS => ?_)
      obtain ⟨hP, hD⟩ := mx_ok [some 0, some 1, some 2, some 3, some 4, some 5] (by decide +kernel) rfl rfl hP hD
      obtain ⟨lf2_22, md2_22, le2_22, wh2_22, ms2_22, mr2_22⟩ := u_22
      replace hw_22 : MV (fun j => al (2 + j)) (fun j => al (22 + j)) (al 1) ms2_22 mr2_22 le2_22 wh2_22 := hw_22
      have hP : va_P (gD G) vwCl [(e0, .inr (6, [.ref ea, .ref ek, .ref eh, .int hq, .ref es, .ref ei, .ref el, .ref ew, .ref et, .ref er, .int lf2_22, .int md2_22, .ref ed, .ref ep, .int pn, .int sp, .ref ex, .ref eu, .int rm, .int la])), (ea, .inl (gI G, 42, .inl (nA al))), (el, .inl (gI G, 12, .inl (nA le2_22))), (ew, .inl (gI G, 12, .inl (nA wh2_22))), (et, .inl (gI G, 20, .inl (nA ms2_22))), (er, .inl (gI G, 20, .inl (nA mr2_22)))] H := hP
      have hD : va_D A [(e0, .inr (6, [.ref ea, .ref ek, .ref eh, .int hq, .ref es, .ref ei, .ref el, .ref ew, .ref et, .ref er, .int lf2_22, .int md2_22, .ref ed, .ref ep, .int pn, .int sp, .ref ex, .ref eu, .int rm, .int la])), (ea, .inl (gI G, 42, .inl (nA al))), (el, .inl (gI G, 12, .inl (nA le2_22))), (ew, .inl (gI G, 12, .inl (nA wh2_22))), (et, .inl (gI G, 20, .inl (nA ms2_22))), (er, .inl (gI G, 20, .inl (nA mr2_22)))] := hD
      obtain ⟨q1, q3, hrq⟩ := mred_ex le2_22 wh2_22 a
      have hq1 := mq1 hw_22.2.2.2 (show a < 4096 by omega) hrq
      have hq3 := mq3 hw_22.2.2 hn3 hrq
      refine lv_aload_n hx hb dX6_ifTold_25 rfl (lv_at hl 0 rfl) ?_
      refine lv_iload_n hx hb dX6_ifTold_26 rfl (lv_at hl 1 rfl) ?_
      refine lv_iload_n hx hb dX6_ifTold_27 rfl (lv_at hl 2 rfl) ?_
      refine zcVi (rest := []) S K hP hD hS hA hl.1 (c_X6_stateOf l G e0 ea ek eh es ei el ew et er ed ep ex eu hq lf2_22 md2_22 pn sp rm la al le2_22 wh2_22 a b q1 q3 (by omega) hb1 hw_22.2.2.2 hrq hq1 hq3 hn3 hg6) rfl rfl gX6_ifTold_X6_stateOf rfl eX6_stateOf [0, 1, 2, 3] (by decide +kernel) rfl (fun _ => rfl) 6 0 rfl rfl rfl rfl rfl (Nat.le_of_ble_eq_true rfl) (Nat.le_of_ble_eq_true rfl) (Nat.le_of_ble_eq_true rfl) ⟨Nat.zero_le _, Nat.zero_le _⟩ dX6_ifTold_28 (fun r_28 u_28 H locs hw_28 hP hD hS => ?_)
      obtain ⟨hP, hD⟩ := mx_ok [some 0, some 1, some 2, some 3, none, none] (by decide +kernel) rfl rfl hP hD
      replace hw_28 : r_28 = nI (mst al q1 q3 b) := hw_28
      obtain rfl := hw_28
      have hP : va_P (gD G) vwCl [(e0, .inr (6, [.ref ea, .ref ek, .ref eh, .int hq, .ref es, .ref ei, .ref el, .ref ew, .ref et, .ref er, .int (nI q1), .int (nI q3), .ref ed, .ref ep, .int pn, .int sp, .ref ex, .ref eu, .int rm, .int la])), (ea, .inl (gI G, 42, .inl (nA al))), (el, .inl (gI G, 12, .inl (nA le2_22))), (ew, .inl (gI G, 12, .inl (nA wh2_22))), (et, .inl (gI G, 20, .inl (nA ms2_22))), (er, .inl (gI G, 20, .inl (nA mr2_22)))] H := hP
      have hD : va_D A [(e0, .inr (6, [.ref ea, .ref ek, .ref eh, .int hq, .ref es, .ref ei, .ref el, .ref ew, .ref et, .ref er, .int (nI q1), .int (nI q3), .ref ed, .ref ep, .int pn, .int sp, .ref ex, .ref eu, .int rm, .int la])), (ea, .inl (gI G, 42, .inl (nA al))), (el, .inl (gI G, 12, .inl (nA le2_22))), (ew, .inl (gI G, 12, .inl (nA wh2_22))), (et, .inl (gI G, 20, .inl (nA ms2_22))), (er, .inl (gI G, 20, .inl (nA mr2_22)))] := hD
      refine z_top (y := (r_ifTold (mR al) x y)) ((congrArg nI (mst_ok hw_22.2.2 (Nat.le_refl _) hrq)).trans (it_1 (c := al 0) (n := al 1) (f := fun j => al (2 + j)) (g := fun j => al (22 + j)) hru hax hby (by omega) hb1)) ?_
      exact z_iret S hrt hlk hP hD hS (nI q1, nI q3, le2_22, wh2_22, ms2_22, mr2_22) rfl rfl dX6_ifTold_31
    · skip
      have c_15 := of_decide_eq_false (bN_eq0 c_15)
      refine lv_bipush (v := -2) hx hb dX6_ifTold_18 (by decide +kernel) ?_
      refine z_top (y := (r_ifTold (mR al) x y)) (it_0 (R := mR al) (mrf (by first | exact Or.inl c_5 | exact Or.inr (by omega)))) ?_
      exact z_iret S hrt hlk hP hD hS (lf, md, le, wh, ms, mr) rfl rfl dX6_ifTold_20
