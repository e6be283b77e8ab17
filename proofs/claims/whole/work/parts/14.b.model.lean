set_option maxHeartbeats 4000000 in
set_option maxRecDepth 100000 in
theorem c_X6_nearest (l : Launch) (G : gT) (e0 ea ek eh es ei el ew et er ed ep ex eu : Nat) (hq : Int32) (lf : Int32) (md : Int32) (pn : Int32) (sp : Int32) (rm : Int32) (la : Int32) (al : Nat → Nat) (le : Nat → Nat) (wh : Nat → Nat) (ms : Nat → Nat) (mr : Nat → Nat) (x : Int32) (y : Int32) (hR : RowOK (mR al)) : CI l yX6_nearest wsX6_nearest ({ frames := 4, cells := 0, slots := 0, locals := 87 } : Room) G [.ref e0, .int x, .int y] [(e0, .inr (6, [.ref ea, .ref ek, .ref eh, .int hq, .ref es, .ref ei, .ref el, .ref ew, .ref et, .ref er, .int lf, .int md, .ref ed, .ref ep, .int pn, .int sp, .ref ex, .ref eu, .int rm, .int la])), (ea, .inl (gI G, 42, .inl (nA al))), (el, .inl (gI G, 12, .inl (nA le))), (ew, .inl (gI G, 12, .inl (nA wh))), (et, .inl (gI G, 20, .inl (nA ms))), (er, .inl (gI G, 20, .inl (nA mr)))] 0 0 (fun (r : Int32) (u : Int32 × Int32 × (Nat → Nat) × (Nat → Nat) × (Nat → Nat) × (Nat → Nat)) => r = (r_nearest (mR al) x y)) (fun (u : Int32 × Int32 × (Nat → Nat) × (Nat → Nat) × (Nat → Nat) × (Nat → Nat)) => [(e0, .inr (6, [.ref ea, .ref ek, .ref eh, .int hq, .ref es, .ref ei, .ref el, .ref ew, .ref et, .ref er, .int u.1, .int u.2.1, .ref ed, .ref ep, .int pn, .int sp, .ref ex, .ref eu, .int rm, .int la])), (ea, .inl (gI G, 42, .inl (nA al))), (el, .inl (gI G, 12, .inl (nA u.2.2.1))), (ew, .inl (gI G, 12, .inl (nA u.2.2.2.1))), (et, .inl (gI G, 20, .inl (nA u.2.2.2.2.1))), (er, .inl (gI G, 20, .inl (nA u.2.2.2.2.2)))]) := by
  refine CI.of (cc := cX6_nearest) (maxL := 8) (ret := (some .int)) (by decide +kernel) rfl (Nat.le_of_ble_eq_true rfl) rfl (fun p e s m args below meth c A S hrt hlk hnm K hA hP hD hS ls hl => ?_)
  have hx := S.1
  have hb := S.2.1
  have hl : lv_has ls 8 [(0, .ref e0), (1, .int x), (2, .int y)] := hl
  obtain ⟨hc1, hc2, hn3, hf4, hf5, hg6⟩ := mrow hR
  have hp2 := p12 hc2
  have h1s : 1 <<< al 0 = 2 ^ al 0 := Nat.one_shiftLeft _
  have hL0 := lN_toInt (n := 0) (by decide)
  have hL1 := lN_toInt (n := 1) (by decide)
  have hL12 := lN_toInt (n := 12) (by decide)
  have hLx := Int32.toInt_toInt64 x
  have hLy := Int32.toInt_toInt64 y
  have hls := lsub1 (n := 1 <<< al 0) (by omega)
  refine lv_iload_n hx hb dX6_nearest_0 rfl (lv_at hl 1 rfl) ?_
  refine lv_i2l (v := Int32.toInt64 x) hx hb dX6_nearest_1 rfl ?_
  refine lv_lconst (v := lN 0) hx hb dX6_nearest_2 (by decide +kernel) ?_
  refine lv_aload_n hx hb dX6_nearest_3 rfl (lv_at hl 0 rfl) ?_
  refine zcVi (rest := [.long (lN 0), .long (Int32.toInt64 x)]) S K hP hD hS hA hl.1 (c_X6_masks l G e0 ea ek eh es ei el ew et er ed ep ex eu hq lf md pn sp rm la al (by first | assumption | omega)) rfl rfl gX6_nearest_X6_masks rfl eX6_masks [0, 1] (by decide +kernel) rfl (fun _ => rfl) 6 0 rfl rfl rfl rfl rfl (Nat.le_of_ble_eq_true rfl) (Nat.le_of_ble_eq_true rfl) (Nat.le_of_ble_eq_true rfl) ⟨Nat.zero_le _, Nat.zero_le _⟩ dX6_nearest_4 (fun r_4 u_4 H locs hw_4 hP hD hS => ?_)
  obtain ⟨hP, hD⟩ := mx_ok [some 0, some 1, none, none, none, none] (by decide +kernel) rfl rfl hP hD
  replace hw_4 : r_4 = nI (1 <<< al 0) := hw_4
  obtain rfl := hw_4
  have hP : va_P (gD G) vwCl [(e0, .inr (6, [.ref ea, .ref ek, .ref eh, .int hq, .ref es, .ref ei, .ref el, .ref ew, .ref et, .ref er, .int lf, .int md, .ref ed, .ref ep, .int pn, .int sp, .ref ex, .ref eu, .int rm, .int la])), (ea, .inl (gI G, 42, .inl (nA al))), (el, .inl (gI G, 12, .inl (nA le))), (ew, .inl (gI G, 12, .inl (nA wh))), (et, .inl (gI G, 20, .inl (nA ms))), (er, .inl (gI G, 20, .inl (nA mr)))] H := hP
  have hD : va_D A [(e0, .inr (6, [.ref ea, .ref ek, .ref eh, .int hq, .ref es, .ref ei, .ref el, .ref ew, .ref et, .ref er, .int lf, .int md, .ref ed, .ref ep, .int pn, .int sp, .ref ex, .ref eu, .int rm, .int la])), (ea, .inl (gI G, 42, .inl (nA al))), (el, .inl (gI G, 12, .inl (nA le))), (ew, .inl (gI G, 12, .inl (nA wh))), (et, .inl (gI G, 20, .inl (nA ms))), (er, .inl (gI G, 20, .inl (nA mr)))] := hD
  refine lv_i2l (v := lN (1 <<< al 0)) hx hb dX6_nearest_7 (nI_l (by omega)) ?_
  refine lv_lconst (v := lN 1) hx hb dX6_nearest_8 (by decide +kernel) ?_
  refine lv_lsub hx hb dX6_nearest_9 ?_
  refine zcSi (rest := []) S K hP hD hS hA hl.1 (c_X6_in l G (Int32.toInt64 x) (lN 0) ((lN (1 <<< al 0)) - (lN 1)) ) rfl rfl gX6_nearest_X6_in rfl eX6_in.2 [] (by decide +kernel) rfl (fun _ => rfl) rfl rfl (Nat.le_of_ble_eq_true rfl) (Nat.le_of_ble_eq_true rfl) (Nat.le_of_ble_eq_true rfl) ⟨Nat.zero_le _, Nat.zero_le _⟩ dX6_nearest_10 (fun r_10 u_10 H locs hw_10 hP hD hS => ?_)
  replace hw_10 : r_10 = nI (bN (decide ((lN 0).toInt ≤ (Int32.toInt64 x).toInt ∧ (Int32.toInt64 x).toInt ≤ ((lN (1 <<< al 0)) - (lN 1)).toInt))) := hw_10
  obtain rfl := hw_10
  have hP : va_P (gD G) vwCl [(e0, .inr (6, [.ref ea, .ref ek, .ref eh, .int hq, .ref es, .ref ei, .ref el, .ref ew, .ref et, .ref er, .int lf, .int md, .ref ed, .ref ep, .int pn, .int sp, .ref ex, .ref eu, .int rm, .int la])), (ea, .inl (gI G, 42, .inl (nA al))), (el, .inl (gI G, 12, .inl (nA le))), (ew, .inl (gI G, 12, .inl (nA wh))), (et, .inl (gI G, 20, .inl (nA ms))), (er, .inl (gI G, 20, .inl (nA mr)))] H := hP
  have hD : va_D A [(e0, .inr (6, [.ref ea, .ref ek, .ref eh, .int hq, .ref es, .ref ei, .ref el, .ref ew, .ref et, .ref er, .int lf, .int md, .ref ed, .ref ep, .int pn, .int sp, .ref ex, .ref eu, .int rm, .int la])), (ea, .inl (gI G, 42, .inl (nA al))), (el, .inl (gI G, 12, .inl (nA le))), (ew, .inl (gI G, 12, .inl (nA wh))), (et, .inl (gI G, 20, .inl (nA ms))), (er, .inl (gI G, 20, .inl (nA mr)))] := hD
  refine zf_eq (tgt := 26) S dX6_nearest_13 (by decide) (bN_31 _) (fun c_13 => ?_) (fun c_13 => ?_)
  · skip
    have c_13 := of_decide_eq_false (bN_eq0 c_13)
    refine lv_bipush (v := -2) hx hb dX6_nearest_26 (by decide +kernel) ?_
    refine z_top (y := (r_nearest (mR al) x y)) (by first | exact ne_n (R := mR al) (show ¬ (0 ≤ x.toInt ∧ x.toInt < ((2 ^ al 0 : Nat) : Int)) by omega) | exact ne_o (by omega)) ?_
    exact z_iret S hrt hlk hP hD hS (lf, md, le, wh, ms, mr) rfl rfl dX6_nearest_28
  · skip
    have c_13 := of_decide_eq_true (bN_ne0 c_13)
    obtain ⟨w, hw1, hw2, hw3⟩ := z_of (x := x) (by omega)
    have hl : lv_has ls 8 [(0, .ref e0), (1, .int (nI w)), (2, .int y)] := by rw [hw2] at hl; exact hl
    refine lv_iload_n hx hb dX6_nearest_16 rfl (lv_at hl 2 rfl) ?_
    refine lv_i2l (v := Int32.toInt64 y) hx hb dX6_nearest_17 rfl ?_
    refine lv_lconst (v := lN 0) hx hb dX6_nearest_18 (by decide +kernel) ?_
    refine lv_lconst (v := lN 1) hx hb dX6_nearest_19 (by decide +kernel) ?_
    refine zcSi (rest := []) S K hP hD hS hA hl.1 (c_X6_in l G (Int32.toInt64 y) (lN 0) (lN 1) ) rfl rfl gX6_nearest_X6_in rfl eX6_in.2 [] (by decide +kernel) rfl (fun _ => rfl) rfl rfl (Nat.le_of_ble_eq_true rfl) (Nat.le_of_ble_eq_true rfl) (Nat.le_of_ble_eq_true rfl) ⟨Nat.zero_le _, Nat.zero_le _⟩ dX6_nearest_20 (fun r_20 u_20 H locs hw_20 hP hD hS => ?_)
    replace hw_20 : r_20 = nI (bN (decide ((lN 0).toInt ≤ (Int32.toInt64 y).toInt ∧ (Int32.toInt64 y).toInt ≤ (lN 1).toInt))) := hw_20
    obtain rfl := hw_20
    have hP : va_P (gD G) vwCl [(e0, .inr (6, [.ref ea, .ref ek, .ref eh, .int hq, .ref es, .ref ei, .ref el, .ref ew, .ref et, .ref er, .int lf, .int md, .ref ed, .ref ep, .int pn, .int sp, .ref ex, .ref eu, .int rm, .int la])), (ea, .inl (gI G, 42, .inl (nA al))), (el, .inl (gI G, 12, .inl (nA le))), (ew, .inl (gI G, 12, .inl (nA wh))), (et, .inl (gI G, 20, .inl (nA ms))), (er, .inl (gI G, 20, .inl (nA mr)))] H := hP
    have hD : va_D A [(e0, .inr (6, [.ref ea, .ref ek, .ref eh, .int hq, .ref es, .ref ei, .ref el, .ref ew, .ref et, .ref er, .int lf, .int md, .ref ed, .ref ep, .int pn, .int sp, .ref ex, .ref eu, .int rm, .int la])), (ea, .inl (gI G, 42, .inl (nA al))), (el, .inl (gI G, 12, .inl (nA le))), (ew, .inl (gI G, 12, .inl (nA wh))), (et, .inl (gI G, 20, .inl (nA ms))), (er, .inl (gI G, 20, .inl (nA mr)))] := hD
    refine zf_ne (tgt := 29) S dX6_nearest_23 (by decide) (bN_31 _) (fun c_23 => ?_) (fun c_23 => ?_)
    · skip
      have c_23 := of_decide_eq_true (bN_ne0 c_23)
      refine lv_aload_n hx hb dX6_nearest_29 rfl (lv_at hl 0 rfl) ?_
      refine zcVv (rest := []) S K hP hD hS hA hl.1 (c_X6_judges l G e0 ea ek eh es ei el ew et er ed ep ex eu hq lf md pn sp rm la al le wh ms mr (by first | assumption | omega)) rfl rfl gX6_nearest_X6_judges rfl eX6_judges [0, 1, 2, 3, 4, 5] (by decide +kernel) rfl (fun _ => rfl) 6 0 rfl rfl rfl rfl rfl (Nat.le_of_ble_eq_true rfl) (Nat.le_of_ble_eq_true rfl) (Nat.le_of_ble_eq_true rfl) ⟨Nat.zero_le _, Nat.zero_le _⟩ dX6_nearest_30 (fun u_30 H locs hw_30 hP hD hS => ?_)
      obtain ⟨hP, hD⟩ := mx_ok [some 0, some 1, some 2, some 3, some 4, some 5] (by decide +kernel) rfl rfl hP hD
      obtain ⟨lf2_30, md2_30, le2_30, wh2_30, ms2_30, mr2_30⟩ := u_30
      replace hw_30 : MV (fun j => al (2 + j)) (fun j => al (22 + j)) (al 1) ms2_30 mr2_30 le2_30 wh2_30 := hw_30
      have hP : va_P (gD G) vwCl [(e0, .inr (6, [.ref ea, .ref ek, .ref eh, .int hq, .ref es, .ref ei, .ref el, .ref ew, .ref et, .ref er, .int lf2_30, .int md2_30, .ref ed, .ref ep, .int pn, .int sp, .ref ex, .ref eu, .int rm, .int la])), (ea, .inl (gI G, 42, .inl (nA al))), (el, .inl (gI G, 12, .inl (nA le2_30))), (ew, .inl (gI G, 12, .inl (nA wh2_30))), (et, .inl (gI G, 20, .inl (nA ms2_30))), (er, .inl (gI G, 20, .inl (nA mr2_30)))] H := hP
      have hD : va_D A [(e0, .inr (6, [.ref ea, .ref ek, .ref eh, .int hq, .ref es, .ref ei, .ref el, .ref ew, .ref et, .ref er, .int lf2_30, .int md2_30, .ref ed, .ref ep, .int pn, .int sp, .ref ex, .ref eu, .int rm, .int la])), (ea, .inl (gI G, 42, .inl (nA al))), (el, .inl (gI G, 12, .inl (nA le2_30))), (ew, .inl (gI G, 12, .inl (nA wh2_30))), (et, .inl (gI G, 20, .inl (nA ms2_30))), (er, .inl (gI G, 20, .inl (nA mr2_30)))] := hD
      refine lv_bipush (v := -6) hx hb dX6_nearest_33 (by decide +kernel) ?_
      refine lv_istore_n (lv' := [(3, .int (-6)), (0, .ref e0), (1, .int (nI w)), (2, .int y)]) hx hb dX6_nearest_35 rfl hl (by decide) rfl (fun ls hl => ?_)
      refine lv_bipush (v := nI 13) hx hb dX6_nearest_36 (by decide +kernel) ?_
      refine lv_istore (lv' := [(4, .int (nI 13)), (3, .int (-6)), (0, .ref e0), (1, .int (nI w)), (2, .int y)]) hx hb dX6_nearest_38 hl (by decide) rfl (fun ls hl => ?_)
      refine lv_iconst (v := nI 0) hx hb dX6_nearest_40 (by decide +kernel) ?_
      refine lv_istore (lv' := [(5, .int (nI 0)), (4, .int (nI 13)), (3, .int (-6)), (0, .ref e0), (1, .int (nI w)), (2, .int y)]) hx hb dX6_nearest_41 hl (by decide) rfl (fun ls hl => ?_)
      have lp_43 : ∀ (n_43 : Nat) (a : Nat) (bst : Int32) (lst : Nat), 2 ^ al 0 - a < n_43 → (a ≤ 2 ^ al 0) → (NeI (mR al) w a bst lst) → ∀ (H : Heap) (locs : List Loc), va_P (gD G) vwCl [(e0, .inr (6, [.ref ea, .ref ek, .ref eh, .int hq, .ref es, .ref ei, .ref el, .ref ew, .ref et, .ref er, .int lf2_30, .int md2_30, .ref ed, .ref ep, .int pn, .int sp, .ref ex, .ref eu, .int rm, .int la])), (ea, .inl (gI G, 42, .inl (nA al))), (el, .inl (gI G, 12, .inl (nA le2_30))), (ew, .inl (gI G, 12, .inl (nA wh2_30))), (et, .inl (gI G, 20, .inl (nA ms2_30))), (er, .inl (gI G, 20, .inl (nA mr2_30)))] H → va_D A [(e0, .inr (6, [.ref ea, .ref ek, .ref eh, .int hq, .ref es, .ref ei, .ref el, .ref ew, .ref et, .ref er, .int lf2_30, .int md2_30, .ref ed, .ref ep, .int pn, .int sp, .ref ex, .ref eu, .int rm, .int la])), (ea, .inl (gI G, 42, .inl (nA al))), (el, .inl (gI G, 12, .inl (nA le2_30))), (ew, .inl (gI G, 12, .inl (nA wh2_30))), (et, .inl (gI G, 20, .inl (nA ms2_30))), (er, .inl (gI G, 20, .inl (nA mr2_30)))] → va_S A s.heap H locs → ∀ ls : Array Slot, lv_has ls 8 [(5, .int (nI a)), (4, .int (nI lst)), (3, .int bst), (0, .ref e0), (1, .int (nI w)), (2, .int y)] → W p l e ({ frames := 4, cells := 0, slots := 0, locals := 87 } : Room) s m args below meth c H locs 0 0 (MQ below (va_Qi (fun (r : Int32) (u : Int32 × Int32 × (Nat → Nat) × (Nat → Nat) × (Nat → Nat) × (Nat → Nat)) => r = (r_nearest (mR al) x y)) (cB G A (fun (u : Int32 × Int32 × (Nat → Nat) × (Nat → Nat) × (Nat → Nat) × (Nat → Nat)) => [(e0, .inr (6, [.ref ea, .ref ek, .ref eh, .int hq, .ref es, .ref ei, .ref el, .ref ew, .ref et, .ref er, .int u.1, .int u.2.1, .ref ed, .ref ep, .int pn, .int sp, .ref ex, .ref eu, .int rm, .int la])), (ea, .inl (gI G, 42, .inl (nA al))), (el, .inl (gI G, 12, .inl (nA u.2.2.1))), (ew, .inl (gI G, 12, .inl (nA u.2.2.2.1))), (et, .inl (gI G, 20, .inl (nA u.2.2.2.2.1))), (er, .inl (gI G, 20, .inl (nA u.2.2.2.2.2)))])) A) args s 0 0 A) (F0 m 43 ls []) := by
        intro n_43
        induction n_43 with
        | zero =>
          intro a bst lst h0
          exact absurd h0 (Nat.not_lt_zero _)
        | succ n_43 ih_43 =>
          intro a bst lst hm_43 ha hI H locs hP hD hS ls hl
          refine lv_iload hx hb dX6_nearest_43 (lv_at hl 0 rfl) ?_
          refine lv_aload_n hx hb dX6_nearest_45 rfl (lv_at hl 3 rfl) ?_
          refine zcVi (rest := [.int (nI a)]) S K hP hD hS hA hl.1 (c_X6_masks l G e0 ea ek eh es ei el ew et er ed ep ex eu hq lf2_30 md2_30 pn sp rm la al (by first | assumption | omega)) rfl rfl gX6_nearest_X6_masks rfl eX6_masks [0, 1] (by decide +kernel) rfl (fun _ => rfl) 6 0 rfl rfl rfl rfl rfl (Nat.le_of_ble_eq_true rfl) (Nat.le_of_ble_eq_true rfl) (Nat.le_of_ble_eq_true rfl) ⟨Nat.zero_le _, Nat.zero_le _⟩ dX6_nearest_46 (fun r_46 u_46 H locs hw_46 hP hD hS => ?_)
          obtain ⟨hP, hD⟩ := mx_ok [some 0, some 1, none, none, none, none] (by decide +kernel) rfl rfl hP hD
          replace hw_46 : r_46 = nI (1 <<< al 0) := hw_46
          obtain rfl := hw_46
          have hP : va_P (gD G) vwCl [(e0, .inr (6, [.ref ea, .ref ek, .ref eh, .int hq, .ref es, .ref ei, .ref el, .ref ew, .ref et, .ref er, .int lf2_30, .int md2_30, .ref ed, .ref ep, .int pn, .int sp, .ref ex, .ref eu, .int rm, .int la])), (ea, .inl (gI G, 42, .inl (nA al))), (el, .inl (gI G, 12, .inl (nA le2_30))), (ew, .inl (gI G, 12, .inl (nA wh2_30))), (et, .inl (gI G, 20, .inl (nA ms2_30))), (er, .inl (gI G, 20, .inl (nA mr2_30)))] H := hP
          have hD : va_D A [(e0, .inr (6, [.ref ea, .ref ek, .ref eh, .int hq, .ref es, .ref ei, .ref el, .ref ew, .ref et, .ref er, .int lf2_30, .int md2_30, .ref ed, .ref ep, .int pn, .int sp, .ref ex, .ref eu, .int rm, .int la])), (ea, .inl (gI G, 42, .inl (nA al))), (el, .inl (gI G, 12, .inl (nA le2_30))), (ew, .inl (gI G, 12, .inl (nA wh2_30))), (et, .inl (gI G, 20, .inl (nA ms2_30))), (er, .inl (gI G, 20, .inl (nA mr2_30)))] := hD
          refine zb_ge (tgt := 116) S dX6_nearest_49 (by decide) (by omega) (by omega) (fun c_49 => ?_) (fun c_49 => ?_)
          · skip
            obtain ⟨v, hv1, hv2, hv3⟩ := nei_e hR (show a = 2 ^ al 0 by omega) hI
            obtain rfl : bst = nI v := hv1
            obtain rfl : lst = pcn (v ^^^ w) := hv2
            refine lv_iload_n hx hb dX6_nearest_116 rfl (lv_at hl 5 rfl) ?_
            refine zq_ne (tgt := 124) S dX6_nearest_117 (by decide) rfl (fun c_117 => ?_) (fun c_117 => ?_)
            · skip
              refine lv_iload hx hb dX6_nearest_124 (lv_at hl 1 rfl) ?_
              refine z_top (y := (r_nearest (mR al) x y)) (ne_1 (R := mR al) hw2 (show w < 2 ^ al 0 by omega) hc2 hv3 (y_1 (by omega))) ?_
              exact z_iret S hrt hlk hP hD hS (lf2_30, md2_30, le2_30, wh2_30, ms2_30, mr2_30) rfl rfl dX6_nearest_126
            · skip
              refine lv_iload_n hx hb dX6_nearest_120 rfl (lv_at hl 2 rfl) ?_
              refine lv_goto (tgt := 126) hx hb dX6_nearest_121 (by decide) ?_
              refine z_top (y := (r_nearest (mR al) x y)) (ne_0 (R := mR al) hw2 (show w < 2 ^ al 0 by omega) hc2 hv3 (y_0 (by omega))) ?_
              exact z_iret S hrt hlk hP hD hS (lf2_30, md2_30, le2_30, wh2_30, ms2_30, mr2_30) rfl rfl dX6_nearest_126
          · skip
            have hx31 := xor12 (show a < 4096 by omega) (show w < 4096 by omega)
            have hp12 := pcn12 hx31
            have hn13 := nei_13 hI (show w < 4096 by omega) (show a ≤ 4096 by omega)
            refine lv_iload hx hb dX6_nearest_52 (lv_at hl 0 rfl) ?_
            refine lv_iload_n hx hb dX6_nearest_54 rfl (lv_at hl 4 rfl) ?_
            refine zi_xor S dX6_nearest_55 ?_
            refine zcSi (rest := []) S K hP hD hS hA hl.1 (c_X6_bits l G (a ^^^ w) (by omega)) rfl rfl gX6_nearest_X6_bits rfl eX6_bits.2 [] (by decide +kernel) rfl (fun _ => rfl) rfl rfl (Nat.le_of_ble_eq_true rfl) (Nat.le_of_ble_eq_true rfl) (Nat.le_of_ble_eq_true rfl) ⟨Nat.zero_le _, Nat.zero_le _⟩ dX6_nearest_56 (fun r_56 u_56 H locs hw_56 hP hD hS => ?_)
            replace hw_56 : r_56 = nI (pcn (a ^^^ w)) := hw_56
            obtain rfl := hw_56
            have hP : va_P (gD G) vwCl [(e0, .inr (6, [.ref ea, .ref ek, .ref eh, .int hq, .ref es, .ref ei, .ref el, .ref ew, .ref et, .ref er, .int lf2_30, .int md2_30, .ref ed, .ref ep, .int pn, .int sp, .ref ex, .ref eu, .int rm, .int la])), (ea, .inl (gI G, 42, .inl (nA al))), (el, .inl (gI G, 12, .inl (nA le2_30))), (ew, .inl (gI G, 12, .inl (nA wh2_30))), (et, .inl (gI G, 20, .inl (nA ms2_30))), (er, .inl (gI G, 20, .inl (nA mr2_30)))] H := hP
            have hD : va_D A [(e0, .inr (6, [.ref ea, .ref ek, .ref eh, .int hq, .ref es, .ref ei, .ref el, .ref ew, .ref et, .ref er, .int lf2_30, .int md2_30, .ref ed, .ref ep, .int pn, .int sp, .ref ex, .ref eu, .int rm, .int la])), (ea, .inl (gI G, 42, .inl (nA al))), (el, .inl (gI G, 12, .inl (nA le2_30))), (ew, .inl (gI G, 12, .inl (nA wh2_30))), (et, .inl (gI G, 20, .inl (nA ms2_30))), (er, .inl (gI G, 20, .inl (nA mr2_30)))] := hD
            refine lv_istore (lv' := [(6, .int (nI (pcn (a ^^^ w)))), (5, .int (nI a)), (4, .int (nI lst)), (3, .int bst), (0, .ref e0), (1, .int (nI w)), (2, .int y)]) hx hb dX6_nearest_59 hl (by decide) rfl (fun ls hl => ?_)
            refine lv_iload hx hb dX6_nearest_61 (lv_at hl 0 rfl) ?_
            refine lv_iload hx hb dX6_nearest_63 (lv_at hl 2 rfl) ?_
            refine zb_ge (tgt := 81) S dX6_nearest_65 (by decide) (by omega) (by omega) (fun c_65 => ?_) (fun c_65 => ?_)
            · skip
              refine lv_iconst (v := nI 0) hx hb dX6_nearest_81 (by decide +kernel) ?_
              refine lv_istore (lv' := [(7, .int (nI 0)), (6, .int (nI (pcn (a ^^^ w)))), (5, .int (nI a)), (4, .int (nI lst)), (3, .int bst), (0, .ref e0), (1, .int (nI w)), (2, .int y)]) hx hb dX6_nearest_82 hl (by decide) rfl (fun ls hl => ?_)
              refine lv_iload hx hb dX6_nearest_84 (lv_at hl 0 rfl) ?_
              refine zf_eq (tgt := 94) S dX6_nearest_86 (by decide) (by decide) (fun c_86 => ?_) (fun c_86 => ?_)
              · skip
                refine lv_iload_n hx hb dX6_nearest_94 rfl (lv_at hl 4 rfl) ?_
                refine lv_istore_n (lv' := [(3, .int bst), (7, .int (nI 0)), (6, .int (nI (pcn (a ^^^ w)))), (5, .int (nI a)), (4, .int (nI lst)), (0, .ref e0), (1, .int (nI w)), (2, .int y)]) hx hb dX6_nearest_95 rfl hl (by decide) rfl (fun ls hl => ?_)
                refine lv_iload hx hb dX6_nearest_96 (lv_at hl 1 rfl) ?_
                refine zf_eq (tgt := 106) S dX6_nearest_98 (by decide) (by decide) (fun c_98 => ?_) (fun c_98 => ?_)
                · skip
                  refine lv_iload hx hb dX6_nearest_106 (lv_at hl 4 rfl) ?_
                  refine lv_istore (lv' := [(4, .int (nI lst)), (3, .int bst), (7, .int (nI 0)), (6, .int (nI (pcn (a ^^^ w)))), (5, .int (nI a)), (0, .ref e0), (1, .int (nI w)), (2, .int y)]) hx hb dX6_nearest_108 hl (by decide) rfl (fun ls hl => ?_)
                  refine lv_iinc (v := (nI (a + 1))) (lv' := [(5, .int (nI (a + 1))), (4, .int (nI lst)), (3, .int bst), (7, .int (nI 0)), (6, .int (nI (pcn (a ^^^ w)))), (0, .ref e0), (1, .int (nI w)), (2, .int y)]) hx hb dX6_nearest_110 hl (k := 4) rfl (z_i1 _) (by decide) rfl (fun ls hl => ?_)
                  refine lv_goto (tgt := 43) hx hb dX6_nearest_113 (by decide) ?_
                  exact ih_43 (a + 1) bst lst (by omega) (by omega) (by first | exact nei_t hI c_65 c_74 | exact nei_f hI (by omega) (by omega) (Or.inl (by omega)) | exact nei_f hI (by omega) (by omega) (Or.inr c_74)) _ _ hP hD hS _ (lv_sub hl [0, 1, 2, 5, 6, 7] rfl)
                · skip
                  exact (by exfalso; omega)
              · skip
                exact (by exfalso; omega)
            · skip
              refine lv_aload_n hx hb dX6_nearest_68 rfl (lv_at hl 4 rfl) ?_
              refine lv_iload hx hb dX6_nearest_69 (lv_at hl 1 rfl) ?_
              refine zcVi (rest := []) S K hP hD hS hA hl.1 (c_X6_isAnswer l G e0 ea ek eh es ei el ew et er ed ep ex eu hq lf2_30 md2_30 pn sp rm la al ms2_30 a (by first | assumption | omega) (mv_st hw_30) (fun i hi => mv_le hw_30 hi) (by omega)) rfl rfl gX6_nearest_X6_isAnswer rfl eX6_isAnswer [0, 1, 4] (by decide +kernel) rfl (fun _ => rfl) 6 0 rfl rfl rfl rfl rfl (Nat.le_of_ble_eq_true rfl) (Nat.le_of_ble_eq_true rfl) (Nat.le_of_ble_eq_true rfl) ⟨Nat.zero_le _, Nat.zero_le _⟩ dX6_nearest_71 (fun r_71 u_71 H locs hw_71 hP hD hS => ?_)
              obtain ⟨hP, hD⟩ := mx_ok [some 0, some 1, none, none, some 2, none] (by decide +kernel) rfl rfl hP hD
              replace hw_71 : r_71 = nI (bN (isS (mR al) a)) := hw_71
              obtain rfl := hw_71
              have hP : va_P (gD G) vwCl [(e0, .inr (6, [.ref ea, .ref ek, .ref eh, .int hq, .ref es, .ref ei, .ref el, .ref ew, .ref et, .ref er, .int lf2_30, .int md2_30, .ref ed, .ref ep, .int pn, .int sp, .ref ex, .ref eu, .int rm, .int la])), (ea, .inl (gI G, 42, .inl (nA al))), (el, .inl (gI G, 12, .inl (nA le2_30))), (ew, .inl (gI G, 12, .inl (nA wh2_30))), (et, .inl (gI G, 20, .inl (nA ms2_30))), (er, .inl (gI G, 20, .inl (nA mr2_30)))] H := hP
              have hD : va_D A [(e0, .inr (6, [.ref ea, .ref ek, .ref eh, .int hq, .ref es, .ref ei, .ref el, .ref ew, .ref et, .ref er, .int lf2_30, .int md2_30, .ref ed, .ref ep, .int pn, .int sp, .ref ex, .ref eu, .int rm, .int la])), (ea, .inl (gI G, 42, .inl (nA al))), (el, .inl (gI G, 12, .inl (nA le2_30))), (ew, .inl (gI G, 12, .inl (nA wh2_30))), (et, .inl (gI G, 20, .inl (nA ms2_30))), (er, .inl (gI G, 20, .inl (nA mr2_30)))] := hD
              refine zf_eq (tgt := 81) S dX6_nearest_74 (by decide) (bN_31 _) (fun c_74 => ?_) (fun c_74 => ?_)
              · skip
                have c_74 := bN_eq0 c_74
                refine lv_iconst (v := nI 0) hx hb dX6_nearest_81 (by decide +kernel) ?_
                refine lv_istore (lv' := [(7, .int (nI 0)), (6, .int (nI (pcn (a ^^^ w)))), (5, .int (nI a)), (4, .int (nI lst)), (3, .int bst), (0, .ref e0), (1, .int (nI w)), (2, .int y)]) hx hb dX6_nearest_82 hl (by decide) rfl (fun ls hl => ?_)
                refine lv_iload hx hb dX6_nearest_84 (lv_at hl 0 rfl) ?_
                refine zf_eq (tgt := 94) S dX6_nearest_86 (by decide) (by decide) (fun c_86 => ?_) (fun c_86 => ?_)
                · skip
                  refine lv_iload_n hx hb dX6_nearest_94 rfl (lv_at hl 4 rfl) ?_
                  refine lv_istore_n (lv' := [(3, .int bst), (7, .int (nI 0)), (6, .int (nI (pcn (a ^^^ w)))), (5, .int (nI a)), (4, .int (nI lst)), (0, .ref e0), (1, .int (nI w)), (2, .int y)]) hx hb dX6_nearest_95 rfl hl (by decide) rfl (fun ls hl => ?_)
                  refine lv_iload hx hb dX6_nearest_96 (lv_at hl 1 rfl) ?_
                  refine zf_eq (tgt := 106) S dX6_nearest_98 (by decide) (by decide) (fun c_98 => ?_) (fun c_98 => ?_)
                  · skip
                    refine lv_iload hx hb dX6_nearest_106 (lv_at hl 4 rfl) ?_
                    refine lv_istore (lv' := [(4, .int (nI lst)), (3, .int bst), (7, .int (nI 0)), (6, .int (nI (pcn (a ^^^ w)))), (5, .int (nI a)), (0, .ref e0), (1, .int (nI w)), (2, .int y)]) hx hb dX6_nearest_108 hl (by decide) rfl (fun ls hl => ?_)
                    refine lv_iinc (v := (nI (a + 1))) (lv' := [(5, .int (nI (a + 1))), (4, .int (nI lst)), (3, .int bst), (7, .int (nI 0)), (6, .int (nI (pcn (a ^^^ w)))), (0, .ref e0), (1, .int (nI w)), (2, .int y)]) hx hb dX6_nearest_110 hl (k := 4) rfl (z_i1 _) (by decide) rfl (fun ls hl => ?_)
                    refine lv_goto (tgt := 43) hx hb dX6_nearest_113 (by decide) ?_
                    exact ih_43 (a + 1) bst lst (by omega) (by omega) (by first | exact nei_t hI c_65 c_74 | exact nei_f hI (by omega) (by omega) (Or.inl (by omega)) | exact nei_f hI (by omega) (by omega) (Or.inr c_74)) _ _ hP hD hS _ (lv_sub hl [0, 1, 2, 5, 6, 7] rfl)
                  · skip
                    exact (by exfalso; omega)
                · skip
                  exact (by exfalso; omega)
              · skip
                have c_74 := bN_ne0 c_74
                refine lv_iconst (v := nI 1) hx hb dX6_nearest_77 (by decide +kernel) ?_
                refine lv_goto (tgt := 82) hx hb dX6_nearest_78 (by decide) ?_
                refine lv_istore (lv' := [(7, .int (nI 1)), (6, .int (nI (pcn (a ^^^ w)))), (5, .int (nI a)), (4, .int (nI lst)), (3, .int bst), (0, .ref e0), (1, .int (nI w)), (2, .int y)]) hx hb dX6_nearest_82 hl (by decide) rfl (fun ls hl => ?_)
                refine lv_iload hx hb dX6_nearest_84 (lv_at hl 0 rfl) ?_
                refine zf_eq (tgt := 94) S dX6_nearest_86 (by decide) (by decide) (fun c_86 => ?_) (fun c_86 => ?_)
                · skip
                  exact (by exfalso; omega)
                · skip
                  refine lv_iload hx hb dX6_nearest_89 (lv_at hl 2 rfl) ?_
                  refine lv_goto (tgt := 95) hx hb dX6_nearest_91 (by decide) ?_
                  refine lv_istore_n (lv' := [(3, .int (nI a)), (7, .int (nI 1)), (6, .int (nI (pcn (a ^^^ w)))), (5, .int (nI a)), (4, .int (nI lst)), (0, .ref e0), (1, .int (nI w)), (2, .int y)]) hx hb dX6_nearest_95 rfl hl (by decide) rfl (fun ls hl => ?_)
                  refine lv_iload hx hb dX6_nearest_96 (lv_at hl 1 rfl) ?_
                  refine zf_eq (tgt := 106) S dX6_nearest_98 (by decide) (by decide) (fun c_98 => ?_) (fun c_98 => ?_)
                  · skip
                    exact (by exfalso; omega)
                  · skip
                    refine lv_iload hx hb dX6_nearest_101 (lv_at hl 2 rfl) ?_
                    refine lv_goto (tgt := 108) hx hb dX6_nearest_103 (by decide) ?_
                    refine lv_istore (lv' := [(4, .int (nI (pcn (a ^^^ w)))), (3, .int (nI a)), (7, .int (nI 1)), (6, .int (nI (pcn (a ^^^ w)))), (5, .int (nI a)), (0, .ref e0), (1, .int (nI w)), (2, .int y)]) hx hb dX6_nearest_108 hl (by decide) rfl (fun ls hl => ?_)
                    refine lv_iinc (v := (nI (a + 1))) (lv' := [(5, .int (nI (a + 1))), (4, .int (nI (pcn (a ^^^ w)))), (3, .int (nI a)), (7, .int (nI 1)), (6, .int (nI (pcn (a ^^^ w)))), (0, .ref e0), (1, .int (nI w)), (2, .int y)]) hx hb dX6_nearest_110 hl (k := 4) rfl (z_i1 _) (by decide) rfl (fun ls hl => ?_)
                    refine lv_goto (tgt := 43) hx hb dX6_nearest_113 (by decide) ?_
                    exact ih_43 (a + 1) (nI a) (pcn (a ^^^ w)) (by omega) (by omega) (by first | exact nei_t hI c_65 c_74 | exact nei_f hI (by omega) (by omega) (Or.inl (by omega)) | exact nei_f hI (by omega) (by omega) (Or.inr c_74)) _ _ hP hD hS _ (lv_sub hl [0, 1, 2, 5, 6, 7] rfl)
      exact lp_43 _ 0 (-6) 13 (Nat.lt_succ_self _) (by omega) nei_0 _ _ hP hD hS _ (lv_sub hl [0, 1, 2, 3, 4, 5] rfl)
    · skip
      have c_23 := of_decide_eq_false (bN_eq0 c_23)
      refine lv_bipush (v := -2) hx hb dX6_nearest_26 (by decide +kernel) ?_
      refine z_top (y := (r_nearest (mR al) x y)) (by first | exact ne_n (R := mR al) (show ¬ (0 ≤ x.toInt ∧ x.toInt < ((2 ^ al 0 : Nat) : Int)) by omega) | exact ne_o (by omega)) ?_
      exact z_iret S hrt hlk hP hD hS (lf, md, le, wh, ms, mr) rfl rfl dX6_nearest_28
set_option maxHeartbeats 4000000 in
set_option maxRecDepth 100000 in
theorem c_X6_best (l : Launch) (G : gT) (e0 ea ek eh es ei el ew et er ed ep ex eu : Nat) (hq : Int32) (lf : Int32) (md : Int32) (pn : Int32) (sp : Int32) (rm : Int32) (la : Int32) (al : Nat → Nat) (y : Int32) (hR : RowOK (mR al)) : CI l yX6_best wsX6_best ({ frames := 4, cells := 0, slots := 0, locals := 87 } : Room) G [.ref e0, .int y] [(e0, .inr (6, [.ref ea, .ref ek, .ref eh, .int hq, .ref es, .ref ei, .ref el, .ref ew, .ref et, .ref er, .int lf, .int md, .ref ed, .ref ep, .int pn, .int sp, .ref ex, .ref eu, .int rm, .int la])), (ea, .inl (gI G, 42, .inl (nA al)))] 0 0 (fun (r : Int32) (u : Unit) => r = (r_best (mR al) y)) (fun (u : Unit) => [(e0, .inr (6, [.ref ea, .ref ek, .ref eh, .int hq, .ref es, .ref ei, .ref el, .ref ew, .ref et, .ref er, .int lf, .int md, .ref ed, .ref ep, .int pn, .int sp, .ref ex, .ref eu, .int rm, .int la])), (ea, .inl (gI G, 42, .inl (nA al)))]) := by
  refine CI.of (cc := cX6_best) (maxL := 7) (ret := (some .int)) (by decide +kernel) rfl (Nat.le_of_ble_eq_true rfl) rfl (fun p e s m args below meth c A S hrt hlk hnm K hA hP hD hS ls hl => ?_)
  have hx := S.1
  have hb := S.2.1
  have hl : lv_has ls 7 [(0, .ref e0), (1, .int y)] := hl
  obtain ⟨hc1, hc2, hn3, hf4, hf5, hg6⟩ := mrow hR
  have hp2 := p12 hc2
  have h1s : 1 <<< al 0 = 2 ^ al 0 := Nat.one_shiftLeft _
  have hL0 := lN_toInt (n := 0) (by decide)
  have hL1 := lN_toInt (n := 1) (by decide)
  have hL12 := lN_toInt (n := 12) (by decide)
  have hL2 := lN_toInt (n := 2) (by decide)
  have hLy := Int32.toInt_toInt64 y
  refine lv_iload_n hx hb dX6_best_0 rfl (lv_at hl 1 rfl) ?_
  refine lv_i2l (v := Int32.toInt64 y) hx hb dX6_best_1 rfl ?_
  refine lv_lconst (v := lN 0) hx hb dX6_best_2 (by decide +kernel) ?_
  refine lv_ldc2 (v := lN 2) hx hb S.2.2.2.1 (S.2.2.2.2 _ kX6_best_1) dX6_best_3 ?_
  refine zcSi (rest := []) S K hP hD hS hA hl.1 (c_X6_in l G (Int32.toInt64 y) (lN 0) (lN 2) ) rfl rfl gX6_best_X6_in rfl eX6_in.2 [] (by decide +kernel) rfl (fun _ => rfl) rfl rfl (Nat.le_of_ble_eq_true rfl) (Nat.le_of_ble_eq_true rfl) (Nat.le_of_ble_eq_true rfl) ⟨Nat.zero_le _, Nat.zero_le _⟩ dX6_best_6 (fun r_6 u_6 H locs hw_6 hP hD hS => ?_)
  replace hw_6 : r_6 = nI (bN (decide ((lN 0).toInt ≤ (Int32.toInt64 y).toInt ∧ (Int32.toInt64 y).toInt ≤ (lN 2).toInt))) := hw_6
  obtain rfl := hw_6
  have hP : va_P (gD G) vwCl [(e0, .inr (6, [.ref ea, .ref ek, .ref eh, .int hq, .ref es, .ref ei, .ref el, .ref ew, .ref et, .ref er, .int lf, .int md, .ref ed, .ref ep, .int pn, .int sp, .ref ex, .ref eu, .int rm, .int la])), (ea, .inl (gI G, 42, .inl (nA al)))] H := hP
  have hD : va_D A [(e0, .inr (6, [.ref ea, .ref ek, .ref eh, .int hq, .ref es, .ref ei, .ref el, .ref ew, .ref et, .ref er, .int lf, .int md, .ref ed, .ref ep, .int pn, .int sp, .ref ex, .ref eu, .int rm, .int la])), (ea, .inl (gI G, 42, .inl (nA al)))] := hD
  refine zf_ne (tgt := 15) S dX6_best_9 (by decide) (bN_31 _) (fun c_9 => ?_) (fun c_9 => ?_)
  · skip
    have c_9 := of_decide_eq_true (bN_ne0 c_9)
    refine lv_iconst (v := nI 0) hx hb dX6_best_15 (by decide +kernel) ?_
    refine lv_istore_n (lv' := [(2, .int (nI 0)), (0, .ref e0), (1, .int y)]) hx hb dX6_best_16 rfl hl (by decide) rfl (fun ls hl => ?_)
    refine lv_bipush (v := nI 21) hx hb dX6_best_17 (by decide +kernel) ?_
    refine lv_istore_n (lv' := [(3, .int (nI 21)), (2, .int (nI 0)), (0, .ref e0), (1, .int y)]) hx hb dX6_best_19 rfl hl (by decide) rfl (fun ls hl => ?_)
    refine lv_iconst (v := nI 0) hx hb dX6_best_20 (by decide +kernel) ?_
    refine lv_istore (lv' := [(4, .int (nI 0)), (3, .int (nI 21)), (2, .int (nI 0)), (0, .ref e0), (1, .int y)]) hx hb dX6_best_21 hl (by decide) rfl (fun ls hl => ?_)
    refine lv_iconst (v := nI 0) hx hb dX6_best_23 (by decide +kernel) ?_
    refine lv_istore (lv' := [(5, .int (nI 0)), (4, .int (nI 0)), (3, .int (nI 21)), (2, .int (nI 0)), (0, .ref e0), (1, .int y)]) hx hb dX6_best_24 hl (by decide) rfl (fun ls hl => ?_)
    have lp_26 : ∀ (n_26 : Nat) (a : Nat) (b : Nat) (q : Nat) (o : Nat), 2 ^ al 0 - a < n_26 → (a ≤ 2 ^ al 0) → (BeI (brF (fun j => al (2 + j)) (fun j => al (22 + j)) (al 1)) a b q o) → ∀ (H : Heap) (locs : List Loc), va_P (gD G) vwCl [(e0, .inr (6, [.ref ea, .ref ek, .ref eh, .int hq, .ref es, .ref ei, .ref el, .ref ew, .ref et, .ref er, .int lf, .int md, .ref ed, .ref ep, .int pn, .int sp, .ref ex, .ref eu, .int rm, .int la])), (ea, .inl (gI G, 42, .inl (nA al)))] H → va_D A [(e0, .inr (6, [.ref ea, .ref ek, .ref eh, .int hq, .ref es, .ref ei, .ref el, .ref ew, .ref et, .ref er, .int lf, .int md, .ref ed, .ref ep, .int pn, .int sp, .ref ex, .ref eu, .int rm, .int la])), (ea, .inl (gI G, 42, .inl (nA al)))] → va_S A s.heap H locs → ∀ ls : Array Slot, lv_has ls 7 [(5, .int (nI a)), (4, .int (nI o)), (3, .int (nI q)), (2, .int (nI b)), (0, .ref e0), (1, .int y)] → W p l e ({ frames := 4, cells := 0, slots := 0, locals := 87 } : Room) s m args below meth c H locs 0 0 (MQ below (va_Qi (fun (r : Int32) (u : Unit) => r = (r_best (mR al) y)) (cB G A (fun (u : Unit) => [(e0, .inr (6, [.ref ea, .ref ek, .ref eh, .int hq, .ref es, .ref ei, .ref el, .ref ew, .ref et, .ref er, .int lf, .int md, .ref ed, .ref ep, .int pn, .int sp, .ref ex, .ref eu, .int rm, .int la])), (ea, .inl (gI G, 42, .inl (nA al)))])) A) args s 0 0 A) (F0 m 26 ls []) := by
      intro n_26
      induction n_26 with
      | zero =>
        intro a b q o h0
        exact absurd h0 (Nat.not_lt_zero _)
      | succ n_26 ih_26 =>
        intro a b q o hm_26 ha hI H locs hP hD hS ls hl
        refine lv_iload hx hb dX6_best_26 (lv_at hl 0 rfl) ?_
        refine lv_aload_n hx hb dX6_best_28 rfl (lv_at hl 4 rfl) ?_
        refine zcVi (rest := [.int (nI a)]) S K hP hD hS hA hl.1 (c_X6_masks l G e0 ea ek eh es ei el ew et er ed ep ex eu hq lf md pn sp rm la al (by first | assumption | omega)) rfl rfl gX6_best_X6_masks rfl eX6_masks [0, 1] (by decide +kernel) rfl (fun _ => rfl) 6 0 rfl rfl rfl rfl rfl (Nat.le_of_ble_eq_true rfl) (Nat.le_of_ble_eq_true rfl) (Nat.le_of_ble_eq_true rfl) ⟨Nat.zero_le _, Nat.zero_le _⟩ dX6_best_29 (fun r_29 u_29 H locs hw_29 hP hD hS => ?_)
        obtain ⟨hP, hD⟩ := mx_ok [some 0, some 1] (by decide +kernel) rfl rfl hP hD
        replace hw_29 : r_29 = nI (1 <<< al 0) := hw_29
        obtain rfl := hw_29
        have hP : va_P (gD G) vwCl [(e0, .inr (6, [.ref ea, .ref ek, .ref eh, .int hq, .ref es, .ref ei, .ref el, .ref ew, .ref et, .ref er, .int lf, .int md, .ref ed, .ref ep, .int pn, .int sp, .ref ex, .ref eu, .int rm, .int la])), (ea, .inl (gI G, 42, .inl (nA al)))] H := hP
        have hD : va_D A [(e0, .inr (6, [.ref ea, .ref ek, .ref eh, .int hq, .ref es, .ref ei, .ref el, .ref ew, .ref et, .ref er, .int lf, .int md, .ref ed, .ref ep, .int pn, .int sp, .ref ex, .ref eu, .int rm, .int la])), (ea, .inl (gI G, 42, .inl (nA al)))] := hD
        refine zb_ge (tgt := 102) S dX6_best_32 (by decide) (by omega) (by omega) (fun c_32 => ?_) (fun c_32 => ?_)
        · skip
          have hbr := bei_e (show a = 2 ^ al 0 by omega) hI
          refine lv_iload_n hx hb dX6_best_102 rfl (lv_at hl 5 rfl) ?_
          refine zq_ne (tgt := 110) S dX6_best_103 (by decide) rfl (fun c_103 => ?_) (fun c_103 => ?_)
          · skip
            refine lv_iload_n hx hb dX6_best_110 rfl (lv_at hl 5 rfl) ?_
            refine lv_iconst (v := nI 1) hx hb dX6_best_111 (by decide +kernel) ?_
            refine zr_ne (tgt := 119) S dX6_best_112 (by decide) rfl (z_toInt (by decide)) (fun c_112 => ?_) (fun c_112 => ?_)
            · skip
              refine lv_iload hx hb dX6_best_119 (lv_at hl 1 rfl) ?_
              refine z_top (y := (r_best (mR al) y)) (be_2 hbr (y_2 (by omega))) ?_
              exact z_iret S hrt hlk hP hD hS () rfl rfl dX6_best_121
            · skip
              refine lv_iload_n hx hb dX6_best_115 rfl (lv_at hl 2 rfl) ?_
              refine lv_goto (tgt := 121) hx hb dX6_best_116 (by decide) ?_
              refine z_top (y := (r_best (mR al) y)) (be_1 hbr (y_1 (by omega))) ?_
              exact z_iret S hrt hlk hP hD hS () rfl rfl dX6_best_121
          · skip
            refine lv_iload_n hx hb dX6_best_106 rfl (lv_at hl 3 rfl) ?_
            refine lv_goto (tgt := 121) hx hb dX6_best_107 (by decide) ?_
            refine z_top (y := (r_best (mR al) y)) (be_0 hbr (y_0 (by omega))) ?_
            exact z_iret S hrt hlk hP hD hS () rfl rfl dX6_best_121
        · skip
          have h20 : brF (fun j => al (2 + j)) (fun j => al (22 + j)) (al 1) a ≤ 20 := by have := brF_le (f := fun j => al (2 + j)) hg6 a; omega
          have h21 := bei_21 hI hn3 hg6
          refine lv_aload_n hx hb dX6_best_35 rfl (lv_at hl 4 rfl) ?_
          refine lv_iload hx hb dX6_best_36 (lv_at hl 0 rfl) ?_
          refine zcVi (rest := []) S K hP hD hS hA hl.1 (c_X6_broken l G e0 ea ek eh es ei el ew et er ed ep ex eu hq lf md pn sp rm la al a (by first | assumption | omega) (by omega)) rfl rfl gX6_best_X6_broken rfl eX6_broken [0, 1] (by decide +kernel) rfl (fun _ => rfl) 6 0 rfl rfl rfl rfl rfl (Nat.le_of_ble_eq_true rfl) (Nat.le_of_ble_eq_true rfl) (Nat.le_of_ble_eq_true rfl) ⟨Nat.zero_le _, Nat.zero_le _⟩ dX6_best_38 (fun r_38 u_38 H locs hw_38 hP hD hS => ?_)
          obtain ⟨hP, hD⟩ := mx_ok [some 0, some 1] (by decide +kernel) rfl rfl hP hD
          replace hw_38 : r_38 = nI (brF (fun j => al (2 + j)) (fun j => al (22 + j)) (al 1) a) := hw_38
          obtain rfl := hw_38
          have hP : va_P (gD G) vwCl [(e0, .inr (6, [.ref ea, .ref ek, .ref eh, .int hq, .ref es, .ref ei, .ref el, .ref ew, .ref et, .ref er, .int lf, .int md, .ref ed, .ref ep, .int pn, .int sp, .ref ex, .ref eu, .int rm, .int la])), (ea, .inl (gI G, 42, .inl (nA al)))] H := hP
          have hD : va_D A [(e0, .inr (6, [.ref ea, .ref ek, .ref eh, .int hq, .ref es, .ref ei, .ref el, .ref ew, .ref et, .ref er, .int lf, .int md, .ref ed, .ref ep, .int pn, .int sp, .ref ex, .ref eu, .int rm, .int la])), (ea, .inl (gI G, 42, .inl (nA al)))] := hD
          refine lv_istore (lv' := [(6, .int (nI (brF (fun j => al (2 + j)) (fun j => al (22 + j)) (al 1) a))), (5, .int (nI a)), (4, .int (nI o)), (3, .int (nI q)), (2, .int (nI b)), (0, .ref e0), (1, .int y)]) hx hb dX6_best_41 hl (by decide) rfl (fun ls hl => ?_)
          refine lv_iload hx hb dX6_best_43 (lv_at hl 0 rfl) ?_
          refine lv_iload_n hx hb dX6_best_45 rfl (lv_at hl 3 rfl) ?_
          refine zb_ge (tgt := 53) S dX6_best_46 (by decide) (by omega) (by omega) (fun c_46 => ?_) (fun c_46 => ?_)
          · skip
            refine lv_iload hx hb dX6_best_53 (lv_at hl 0 rfl) ?_
            refine lv_iload_n hx hb dX6_best_55 rfl (lv_at hl 3 rfl) ?_
            refine zb_ne (tgt := 66) S dX6_best_56 (by decide) (by omega) (by omega) (fun c_56 => ?_) (fun c_56 => ?_)
            · skip
              refine lv_iload hx hb dX6_best_66 (lv_at hl 2 rfl) ?_
              refine lv_istore (lv' := [(4, .int (nI o)), (6, .int (nI (brF (fun j => al (2 + j)) (fun j => al (22 + j)) (al 1) a))), (5, .int (nI a)), (3, .int (nI q)), (2, .int (nI b)), (0, .ref e0), (1, .int y)]) hx hb dX6_best_68 hl (by decide) rfl (fun ls hl => ?_)
              refine lv_iload hx hb dX6_best_70 (lv_at hl 1 rfl) ?_
              refine lv_iload_n hx hb dX6_best_72 rfl (lv_at hl 3 rfl) ?_
              refine zb_ge (tgt := 81) S dX6_best_73 (by decide) (by omega) (by omega) (fun c_73 => ?_) (fun c_73 => ?_)
              · skip
                refine lv_iload_n hx hb dX6_best_81 rfl (lv_at hl 4 rfl) ?_
                refine lv_istore_n (lv' := [(2, .int (nI b)), (4, .int (nI o)), (6, .int (nI (brF (fun j => al (2 + j)) (fun j => al (22 + j)) (al 1) a))), (5, .int (nI a)), (3, .int (nI q)), (0, .ref e0), (1, .int y)]) hx hb dX6_best_82 rfl hl (by decide) rfl (fun ls hl => ?_)
                refine lv_iload hx hb dX6_best_83 (lv_at hl 2 rfl) ?_
                refine lv_iload_n hx hb dX6_best_85 rfl (lv_at hl 4 rfl) ?_
                refine zb_ge (tgt := 94) S dX6_best_86 (by decide) (by omega) (by omega) (fun c_86 => ?_) (fun c_86 => ?_)
                · skip
                  refine lv_iload_n hx hb dX6_best_94 rfl (lv_at hl 4 rfl) ?_
                  refine lv_istore_n (lv' := [(3, .int (nI q)), (2, .int (nI b)), (4, .int (nI o)), (6, .int (nI (brF (fun j => al (2 + j)) (fun j => al (22 + j)) (al 1) a))), (5, .int (nI a)), (0, .ref e0), (1, .int y)]) hx hb dX6_best_95 rfl hl (by decide) rfl (fun ls hl => ?_)
                  refine lv_iinc (v := (nI (a + 1))) (lv' := [(5, .int (nI (a + 1))), (3, .int (nI q)), (2, .int (nI b)), (4, .int (nI o)), (6, .int (nI (brF (fun j => al (2 + j)) (fun j => al (22 + j)) (al 1) a))), (0, .ref e0), (1, .int y)]) hx hb dX6_best_96 hl (k := 4) rfl (z_i1 _) (by decide) rfl (fun ls hl => ?_)
                  refine lv_goto (tgt := 26) hx hb dX6_best_99 (by decide) ?_
                  exact ih_26 (a + 1) b q o (by omega) (by omega) (by first | exact bei_lt hI (by omega) | exact bei_eq hI h20 c_56 | exact bei_gt hI h20 (by omega) c_56) _ _ hP hD hS _ (lv_sub hl [0, 3, 1, 2, 5, 6] rfl)
                · skip
                  exact (by exfalso; omega)
              · skip
                exact (by exfalso; omega)
            · skip
              refine lv_iload hx hb dX6_best_59 (lv_at hl 2 rfl) ?_
              refine lv_iconst (v := nI 1) hx hb dX6_best_61 (by decide +kernel) ?_
              refine zi_add S dX6_best_62 ?_
              refine lv_goto (tgt := 68) hx hb dX6_best_63 (by decide) ?_
              refine lv_istore (lv' := [(4, .int (nI (o + 1))), (6, .int (nI (brF (fun j => al (2 + j)) (fun j => al (22 + j)) (al 1) a))), (5, .int (nI a)), (3, .int (nI q)), (2, .int (nI b)), (0, .ref e0), (1, .int y)]) hx hb dX6_best_68 hl (by decide) rfl (fun ls hl => ?_)
              refine lv_iload hx hb dX6_best_70 (lv_at hl 1 rfl) ?_
              refine lv_iload_n hx hb dX6_best_72 rfl (lv_at hl 3 rfl) ?_
              refine zb_ge (tgt := 81) S dX6_best_73 (by decide) (by omega) (by omega) (fun c_73 => ?_) (fun c_73 => ?_)
              · skip
                refine lv_iload_n hx hb dX6_best_81 rfl (lv_at hl 4 rfl) ?_
                refine lv_istore_n (lv' := [(2, .int (nI b)), (4, .int (nI (o + 1))), (6, .int (nI (brF (fun j => al (2 + j)) (fun j => al (22 + j)) (al 1) a))), (5, .int (nI a)), (3, .int (nI q)), (0, .ref e0), (1, .int y)]) hx hb dX6_best_82 rfl hl (by decide) rfl (fun ls hl => ?_)
                refine lv_iload hx hb dX6_best_83 (lv_at hl 2 rfl) ?_
                refine lv_iload_n hx hb dX6_best_85 rfl (lv_at hl 4 rfl) ?_
                refine zb_ge (tgt := 94) S dX6_best_86 (by decide) (by omega) (by omega) (fun c_86 => ?_) (fun c_86 => ?_)
                · skip
                  refine lv_iload_n hx hb dX6_best_94 rfl (lv_at hl 4 rfl) ?_
                  refine lv_istore_n (lv' := [(3, .int (nI q)), (2, .int (nI b)), (4, .int (nI (o + 1))), (6, .int (nI (brF (fun j => al (2 + j)) (fun j => al (22 + j)) (al 1) a))), (5, .int (nI a)), (0, .ref e0), (1, .int y)]) hx hb dX6_best_95 rfl hl (by decide) rfl (fun ls hl => ?_)
                  refine lv_iinc (v := (nI (a + 1))) (lv' := [(5, .int (nI (a + 1))), (3, .int (nI q)), (2, .int (nI b)), (4, .int (nI (o + 1))), (6, .int (nI (brF (fun j => al (2 + j)) (fun j => al (22 + j)) (al 1) a))), (0, .ref e0), (1, .int y)]) hx hb dX6_best_96 hl (k := 4) rfl (z_i1 _) (by decide) rfl (fun ls hl => ?_)
                  refine lv_goto (tgt := 26) hx hb dX6_best_99 (by decide) ?_
                  exact ih_26 (a + 1) b q (o + 1) (by omega) (by omega) (by first | exact bei_lt hI (by omega) | exact bei_eq hI h20 c_56 | exact bei_gt hI h20 (by omega) c_56) _ _ hP hD hS _ (lv_sub hl [0, 3, 1, 2, 5, 6] rfl)
                · skip
                  exact (by exfalso; omega)
              · skip
                exact (by exfalso; omega)
          · skip
            refine lv_iconst (v := nI 1) hx hb dX6_best_49 (by decide +kernel) ?_
            refine lv_goto (tgt := 68) hx hb dX6_best_50 (by decide) ?_
            refine lv_istore (lv' := [(4, .int (nI 1)), (6, .int (nI (brF (fun j => al (2 + j)) (fun j => al (22 + j)) (al 1) a))), (5, .int (nI a)), (3, .int (nI q)), (2, .int (nI b)), (0, .ref e0), (1, .int y)]) hx hb dX6_best_68 hl (by decide) rfl (fun ls hl => ?_)
            refine lv_iload hx hb dX6_best_70 (lv_at hl 1 rfl) ?_
            refine lv_iload_n hx hb dX6_best_72 rfl (lv_at hl 3 rfl) ?_
            refine zb_ge (tgt := 81) S dX6_best_73 (by decide) (by omega) (by omega) (fun c_73 => ?_) (fun c_73 => ?_)
            · skip
              exact (by exfalso; omega)
            · skip
              refine lv_iload hx hb dX6_best_76 (lv_at hl 2 rfl) ?_
              refine lv_goto (tgt := 82) hx hb dX6_best_78 (by decide) ?_
              refine lv_istore_n (lv' := [(2, .int (nI a)), (4, .int (nI 1)), (6, .int (nI (brF (fun j => al (2 + j)) (fun j => al (22 + j)) (al 1) a))), (5, .int (nI a)), (3, .int (nI q)), (0, .ref e0), (1, .int y)]) hx hb dX6_best_82 rfl hl (by decide) rfl (fun ls hl => ?_)
              refine lv_iload hx hb dX6_best_83 (lv_at hl 2 rfl) ?_
              refine lv_iload_n hx hb dX6_best_85 rfl (lv_at hl 4 rfl) ?_
              refine zb_ge (tgt := 94) S dX6_best_86 (by decide) (by omega) (by omega) (fun c_86 => ?_) (fun c_86 => ?_)
              · skip
                exact (by exfalso; omega)
              · skip
                refine lv_iload hx hb dX6_best_89 (lv_at hl 2 rfl) ?_
                refine lv_goto (tgt := 95) hx hb dX6_best_91 (by decide) ?_
                refine lv_istore_n (lv' := [(3, .int (nI (brF (fun j => al (2 + j)) (fun j => al (22 + j)) (al 1) a))), (2, .int (nI a)), (4, .int (nI 1)), (6, .int (nI (brF (fun j => al (2 + j)) (fun j => al (22 + j)) (al 1) a))), (5, .int (nI a)), (0, .ref e0), (1, .int y)]) hx hb dX6_best_95 rfl hl (by decide) rfl (fun ls hl => ?_)
                refine lv_iinc (v := (nI (a + 1))) (lv' := [(5, .int (nI (a + 1))), (3, .int (nI (brF (fun j => al (2 + j)) (fun j => al (22 + j)) (al 1) a))), (2, .int (nI a)), (4, .int (nI 1)), (6, .int (nI (brF (fun j => al (2 + j)) (fun j => al (22 + j)) (al 1) a))), (0, .ref e0), (1, .int y)]) hx hb dX6_best_96 hl (k := 4) rfl (z_i1 _) (by decide) rfl (fun ls hl => ?_)
                refine lv_goto (tgt := 26) hx hb dX6_best_99 (by decide) ?_
                exact ih_26 (a + 1) a (brF (fun j => al (2 + j)) (fun j => al (22 + j)) (al 1) a) 1 (by omega) (by omega) (by first | exact bei_lt hI (by omega) | exact bei_eq hI h20 c_56 | exact bei_gt hI h20 (by omega) c_56) _ _ hP hD hS _ (lv_sub hl [0, 3, 1, 2, 5, 6] rfl)
    exact lp_26 _ 0 0 21 0 (Nat.lt_succ_self _) (Nat.zero_le _) (Or.inl ⟨rfl, rfl, rfl, rfl⟩) _ _ hP hD hS _ (lv_sub hl [0, 1, 2, 3, 4, 5] rfl)
  · skip
    have c_9 := of_decide_eq_false (bN_eq0 c_9)
    refine lv_bipush (v := -2) hx hb dX6_best_12 (by decide +kernel) ?_
    refine z_top (y := (r_best (mR al) y)) (be_o (R := mR al) (by omega)) ?_
    exact z_iret S hrt hlk hP hD hS () rfl rfl dX6_best_14
set_option maxHeartbeats 4000000 in
set_option maxRecDepth 100000 in
theorem c_X6_putsIn (l : Launch) (G : gT) (e0 ea ek eh es ei el ew et er ed ep ex eu : Nat) (hq : Int32) (lf : Int32) (md : Int32) (pn : Int32) (sp : Int32) (rm : Int32) (la : Int32) (al : Nat → Nat) (w : Nat) (y : Nat) (j : Nat) (hj : j ≤ al 1) (hn20 : al 1 < 20) : CV l yX6_putsIn wsX6_putsIn ({ frames := 0, cells := 0, slots := 0, locals := 0 } : Room) G [.ref e0, .int (nI w), .int (nI y), .int (nI j)] [(e0, .inr (6, [.ref ea, .ref ek, .ref eh, .int hq, .ref es, .ref ei, .ref el, .ref ew, .ref et, .ref er, .int lf, .int md, .ref ed, .ref ep, .int pn, .int sp, .ref ex, .ref eu, .int rm, .int la])), (ea, .inl (gI G, 42, .inl (nA al)))] 0 0 (fun (u : (Nat → Nat)) => PI al u j w y) (fun (u : (Nat → Nat)) => [(e0, .inr (6, [.ref ea, .ref ek, .ref eh, .int hq, .ref es, .ref ei, .ref el, .ref ew, .ref et, .ref er, .int lf, .int md, .ref ed, .ref ep, .int pn, .int sp, .ref ex, .ref eu, .int rm, .int la])), (ea, .inl (gI G, 42, .inl (nA u)))]) := by
  refine CV.of (cc := cX6_putsIn) (maxL := 5) (ret := none) (by decide +kernel) rfl (Nat.le_of_ble_eq_true rfl) rfl (fun p e s m args below meth c A S hrt hlk hnm K hA hP hD hS ls hl => ?_)
  have hx := S.1
  have hb := S.2.1
  have hl : lv_has ls 5 [(0, .ref e0), (1, .int (nI w)), (2, .int (nI y)), (3, .int (nI j))] := hl
  refine lv_aload_n hx hb dX6_putsIn_0 rfl (lv_at hl 0 rfl) ?_
  refine z_get S K hP hX6_putsIn_X6 0 rfl rfl 0 (by decide) kX6_putsIn_1 rfl rfl dX6_putsIn_1 ?_
  refine lv_iconst (v := nI 1) hx hb dX6_putsIn_4 (by decide +kernel) ?_
  refine z_iald S K hP 1 rfl (by omega) (by decide) dX6_putsIn_5 ?_
  refine lv_istore (lv' := [(4, .int (nI (al 1))), (0, .ref e0), (1, .int (nI w)), (2, .int (nI y)), (3, .int (nI j))]) hx hb dX6_putsIn_6 hl (by decide) rfl (fun ls hl => ?_)
  have lp_8 : ∀ (n_8 : Nat) (r : Nat) (k1 : Nat → Nat), r < n_8 → (j ≤ r ∧ r ≤ al 1) → (PIn al k1 r) → ∀ (H : Heap) (locs : List Loc), va_P (gD G) vwCl [(e0, .inr (6, [.ref ea, .ref ek, .ref eh, .int hq, .ref es, .ref ei, .ref el, .ref ew, .ref et, .ref er, .int lf, .int md, .ref ed, .ref ep, .int pn, .int sp, .ref ex, .ref eu, .int rm, .int la])), (ea, .inl (gI G, 42, .inl (nA k1)))] H → va_D A [(e0, .inr (6, [.ref ea, .ref ek, .ref eh, .int hq, .ref es, .ref ei, .ref el, .ref ew, .ref et, .ref er, .int lf, .int md, .ref ed, .ref ep, .int pn, .int sp, .ref ex, .ref eu, .int rm, .int la])), (ea, .inl (gI G, 42, .inl (nA k1)))] → va_S A s.heap H locs → ∀ ls : Array Slot, lv_has ls 5 [(4, .int (nI r)), (0, .ref e0), (1, .int (nI w)), (2, .int (nI y)), (3, .int (nI j))] → W p l e ({ frames := 0, cells := 0, slots := 0, locals := 0 } : Room) s m args below meth c H locs 0 0 (MQ below (va_Qv (fun (u : (Nat → Nat)) => PI al u j w y) (cB G A (fun (u : (Nat → Nat)) => [(e0, .inr (6, [.ref ea, .ref ek, .ref eh, .int hq, .ref es, .ref ei, .ref el, .ref ew, .ref et, .ref er, .int lf, .int md, .ref ed, .ref ep, .int pn, .int sp, .ref ex, .ref eu, .int rm, .int la])), (ea, .inl (gI G, 42, .inl (nA u)))])) A) args s 0 0 A) (F0 m 8 ls []) := by
    intro n_8
    induction n_8 with
    | zero =>
      intro r k1 h0
      exact absurd h0 (Nat.not_lt_zero _)
    | succ n_8 ih_8 =>
      intro r k1 hm_8 hr hT H locs hP hD hS ls hl
      refine lv_iload hx hb dX6_putsIn_8 (lv_at hl 0 rfl) ?_
      refine lv_iload_n hx hb dX6_putsIn_10 rfl (lv_at hl 4 rfl) ?_
      refine zb_le (tgt := 62) S dX6_putsIn_11 (by decide) (by omega) (by omega) (fun c_11 => ?_) (fun c_11 => ?_)
      · skip
        have hrj : r = j := by omega
        rw [hrj] at hT
        refine lv_aload_n hx hb dX6_putsIn_62 rfl (lv_at hl 1 rfl) ?_
        refine z_get S K hP hX6_putsIn_X6 0 rfl rfl 0 (by decide) kX6_putsIn_1 rfl rfl dX6_putsIn_63 ?_
        refine lv_iconst (v := nI 2) hx hb dX6_putsIn_66 (by decide +kernel) ?_
        refine lv_iload_n hx hb dX6_putsIn_67 rfl (lv_at hl 4 rfl) ?_
        refine zi_add S dX6_putsIn_68 ?_
        refine lv_iload_n hx hb dX6_putsIn_69 rfl (lv_at hl 2 rfl) ?_
        refine z_iast S K hP hD hS 1 rfl (by omega) (by decide) dX6_putsIn_70 (fun H locs hP hD hS => ?_)
        have hP : va_P (gD G) vwCl [(e0, .inr (6, [.ref ea, .ref ek, .ref eh, .int hq, .ref es, .ref ei, .ref el, .ref ew, .ref et, .ref er, .int lf, .int md, .ref ed, .ref ep, .int pn, .int sp, .ref ex, .ref eu, .int rm, .int la])), (ea, .inl (gI G, 42, .inl (nA (pu k1 (2 + j) w))))] H := hP
        have hD : va_D A [(e0, .inr (6, [.ref ea, .ref ek, .ref eh, .int hq, .ref es, .ref ei, .ref el, .ref ew, .ref et, .ref er, .int lf, .int md, .ref ed, .ref ep, .int pn, .int sp, .ref ex, .ref eu, .int rm, .int la])), (ea, .inl (gI G, 42, .inl (nA (pu k1 (2 + j) w))))] := hD
        refine lv_aload_n hx hb dX6_putsIn_71 rfl (lv_at hl 1 rfl) ?_
        refine z_get S K hP hX6_putsIn_X6 0 rfl rfl 0 (by decide) kX6_putsIn_1 rfl rfl dX6_putsIn_72 ?_
        refine lv_bipush (v := nI 22) hx hb dX6_putsIn_75 (by decide +kernel) ?_
        refine lv_iload_n hx hb dX6_putsIn_77 rfl (lv_at hl 4 rfl) ?_
        refine zi_add S dX6_putsIn_78 ?_
        refine lv_iload_n hx hb dX6_putsIn_79 rfl (lv_at hl 3 rfl) ?_
        refine z_iast S K hP hD hS 1 rfl (by omega) (by decide) dX6_putsIn_80 (fun H locs hP hD hS => ?_)
        have hP : va_P (gD G) vwCl [(e0, .inr (6, [.ref ea, .ref ek, .ref eh, .int hq, .ref es, .ref ei, .ref el, .ref ew, .ref et, .ref er, .int lf, .int md, .ref ed, .ref ep, .int pn, .int sp, .ref ex, .ref eu, .int rm, .int la])), (ea, .inl (gI G, 42, .inl (nA (pu (pu k1 (2 + j) w) (22 + j) y))))] H := hP
        have hD : va_D A [(e0, .inr (6, [.ref ea, .ref ek, .ref eh, .int hq, .ref es, .ref ei, .ref el, .ref ew, .ref et, .ref er, .int lf, .int md, .ref ed, .ref ep, .int pn, .int sp, .ref ex, .ref eu, .int rm, .int la])), (ea, .inl (gI G, 42, .inl (nA (pu (pu k1 (2 + j) w) (22 + j) y))))] := hD
        refine lv_aload_n hx hb dX6_putsIn_81 rfl (lv_at hl 1 rfl) ?_
        refine z_get S K hP hX6_putsIn_X6 0 rfl rfl 0 (by decide) kX6_putsIn_1 rfl rfl dX6_putsIn_82 ?_
        refine lv_iconst (v := nI 1) hx hb dX6_putsIn_85 (by decide +kernel) ?_
        refine lv_dup2_11 hx hb dX6_putsIn_86 rfl rfl ?_
        refine z_iald S K hP 1 rfl (by omega) (by decide) dX6_putsIn_87 ?_
        refine z_top (y := nI (al 1)) (congrArg nI (pin_1 (by omega) hT)) ?_
        refine lv_iconst (v := nI 1) hx hb dX6_putsIn_88 (by decide +kernel) ?_
        refine zi_add S dX6_putsIn_89 ?_
        refine z_iast S K hP hD hS 1 rfl (by omega) (by decide) dX6_putsIn_90 (fun H locs hP hD hS => ?_)
        have hP : va_P (gD G) vwCl [(e0, .inr (6, [.ref ea, .ref ek, .ref eh, .int hq, .ref es, .ref ei, .ref el, .ref ew, .ref et, .ref er, .int lf, .int md, .ref ed, .ref ep, .int pn, .int sp, .ref ex, .ref eu, .int rm, .int la])), (ea, .inl (gI G, 42, .inl (nA (pu (pu (pu k1 (2 + j) w) (22 + j) y) 1 ((al 1) + 1)))))] H := hP
        have hD : va_D A [(e0, .inr (6, [.ref ea, .ref ek, .ref eh, .int hq, .ref es, .ref ei, .ref el, .ref ew, .ref et, .ref er, .int lf, .int md, .ref ed, .ref ep, .int pn, .int sp, .ref ex, .ref eu, .int rm, .int la])), (ea, .inl (gI G, 42, .inl (nA (pu (pu (pu k1 (2 + j) w) (22 + j) y) 1 ((al 1) + 1)))))] := hD
        exact z_vret S hrt hlk hP hD hS (pu (pu (pu k1 (2 + j) w) (22 + j) y) 1 ((al 1) + 1)) rfl (pin_e (by omega) hT) dX6_putsIn_91
      · skip
        refine lv_aload_n hx hb dX6_putsIn_14 rfl (lv_at hl 1 rfl) ?_
        refine z_get S K hP hX6_putsIn_X6 0 rfl rfl 0 (by decide) kX6_putsIn_1 rfl rfl dX6_putsIn_15 ?_
        refine lv_iconst (v := nI 2) hx hb dX6_putsIn_18 (by decide +kernel) ?_
        refine lv_iload hx hb dX6_putsIn_19 (lv_at hl 0 rfl) ?_
        refine zi_add S dX6_putsIn_21 ?_
        refine lv_aload_n hx hb dX6_putsIn_22 rfl (lv_at hl 1 rfl) ?_
        refine z_get S K hP hX6_putsIn_X6 0 rfl rfl 0 (by decide) kX6_putsIn_1 rfl rfl dX6_putsIn_23 ?_
        refine lv_iconst (v := nI 2) hx hb dX6_putsIn_26 (by decide +kernel) ?_
        refine lv_iload hx hb dX6_putsIn_27 (lv_at hl 0 rfl) ?_
        refine zi_add S dX6_putsIn_29 ?_
        refine lv_iconst (v := nI 1) hx hb dX6_putsIn_30 (by decide +kernel) ?_
        refine zi_sub S dX6_putsIn_31 (by omega) ?_
        refine z_iald S K hP 1 rfl (by omega) (by decide) dX6_putsIn_32 ?_
        refine z_iast S K hP hD hS 1 rfl (by omega) (by decide) dX6_putsIn_33 (fun H locs hP hD hS => ?_)
        have hP : va_P (gD G) vwCl [(e0, .inr (6, [.ref ea, .ref ek, .ref eh, .int hq, .ref es, .ref ei, .ref el, .ref ew, .ref et, .ref er, .int lf, .int md, .ref ed, .ref ep, .int pn, .int sp, .ref ex, .ref eu, .int rm, .int la])), (ea, .inl (gI G, 42, .inl (nA (pu k1 (2 + r) (k1 ((2 + r) - 1))))))] H := hP
        have hD : va_D A [(e0, .inr (6, [.ref ea, .ref ek, .ref eh, .int hq, .ref es, .ref ei, .ref el, .ref ew, .ref et, .ref er, .int lf, .int md, .ref ed, .ref ep, .int pn, .int sp, .ref ex, .ref eu, .int rm, .int la])), (ea, .inl (gI G, 42, .inl (nA (pu k1 (2 + r) (k1 ((2 + r) - 1))))))] := hD
        refine lv_aload_n hx hb dX6_putsIn_34 rfl (lv_at hl 1 rfl) ?_
        refine z_get S K hP hX6_putsIn_X6 0 rfl rfl 0 (by decide) kX6_putsIn_1 rfl rfl dX6_putsIn_35 ?_
        refine lv_bipush (v := nI 22) hx hb dX6_putsIn_38 (by decide +kernel) ?_
        refine lv_iload hx hb dX6_putsIn_40 (lv_at hl 0 rfl) ?_
        refine zi_add S dX6_putsIn_42 ?_
        refine lv_aload_n hx hb dX6_putsIn_43 rfl (lv_at hl 1 rfl) ?_
        refine z_get S K hP hX6_putsIn_X6 0 rfl rfl 0 (by decide) kX6_putsIn_1 rfl rfl dX6_putsIn_44 ?_
        refine lv_bipush (v := nI 22) hx hb dX6_putsIn_47 (by decide +kernel) ?_
        refine lv_iload hx hb dX6_putsIn_49 (lv_at hl 0 rfl) ?_
        refine zi_add S dX6_putsIn_51 ?_
        refine lv_iconst (v := nI 1) hx hb dX6_putsIn_52 (by decide +kernel) ?_
        refine zi_sub S dX6_putsIn_53 (by omega) ?_
        refine z_iald S K hP 1 rfl (by omega) (by decide) dX6_putsIn_54 ?_
        refine z_iast S K hP hD hS 1 rfl (by omega) (by decide) dX6_putsIn_55 (fun H locs hP hD hS => ?_)
        have hP : va_P (gD G) vwCl [(e0, .inr (6, [.ref ea, .ref ek, .ref eh, .int hq, .ref es, .ref ei, .ref el, .ref ew, .ref et, .ref er, .int lf, .int md, .ref ed, .ref ep, .int pn, .int sp, .ref ex, .ref eu, .int rm, .int la])), (ea, .inl (gI G, 42, .inl (nA (pu (pu k1 (2 + r) (k1 ((2 + r) - 1))) (22 + r) ((pu k1 (2 + r) (k1 ((2 + r) - 1))) ((22 + r) - 1))))))] H := hP
        have hD : va_D A [(e0, .inr (6, [.ref ea, .ref ek, .ref eh, .int hq, .ref es, .ref ei, .ref el, .ref ew, .ref et, .ref er, .int lf, .int md, .ref ed, .ref ep, .int pn, .int sp, .ref ex, .ref eu, .int rm, .int la])), (ea, .inl (gI G, 42, .inl (nA (pu (pu k1 (2 + r) (k1 ((2 + r) - 1))) (22 + r) ((pu k1 (2 + r) (k1 ((2 + r) - 1))) ((22 + r) - 1))))))] := hD
        refine lv_iinc (v := (nI (r - 1))) (lv' := [(4, .int (nI (r - 1))), (0, .ref e0), (1, .int (nI w)), (2, .int (nI y)), (3, .int (nI j))]) hx hb dX6_putsIn_56 hl (k := 0) rfl (z_im1 (show 0 < r by omega)) (by decide) rfl (fun ls hl => ?_)
        refine lv_goto (tgt := 8) hx hb dX6_putsIn_59 (by decide) ?_
        exact ih_8 (r - 1) (pu (pu k1 (2 + r) (k1 ((2 + r) - 1))) (22 + r) ((pu k1 (2 + r) (k1 ((2 + r) - 1))) ((22 + r) - 1))) (by omega) (by omega) (pin_s hT (by omega) (by omega) hn20) _ _ hP hD hS _ (lv_sub hl [0, 1, 2, 3, 4] rfl)
  exact lp_8 _ (al 1) al (Nat.lt_succ_self _) (by omega) pin_0 _ _ hP hD hS _ (lv_sub hl [0, 1, 2, 3, 4] rfl)
set_option maxHeartbeats 4000000 in
set_option maxRecDepth 100000 in
theorem c_X6_moves (l : Launch) (G : gT) (e0 ea ek eh es ei el ew et er ed ep ex eu : Nat) (hq : Int32) (lf : Int32) (md : Int32) (pn : Int32) (sp : Int32) (rm : Int32) (la : Int32) (al : Nat → Nat) (i : Nat) (k : Nat) (hi : i < al 1) (hk : k < al 1) (hn3 : al 1 ≤ 20) : CV l yX6_moves wsX6_moves ({ frames := 1, cells := 0, slots := 0, locals := 24 } : Room) G [.ref e0, .int (nI i), .int (nI k)] [(e0, .inr (6, [.ref ea, .ref ek, .ref eh, .int hq, .ref es, .ref ei, .ref el, .ref ew, .ref et, .ref er, .int lf, .int md, .ref ed, .ref ep, .int pn, .int sp, .ref ex, .ref eu, .int rm, .int la])), (ea, .inl (gI G, 42, .inl (nA al)))] 0 0 (fun (u : (Nat → Nat)) => MI al u i k) (fun (u : (Nat → Nat)) => [(e0, .inr (6, [.ref ea, .ref ek, .ref eh, .int hq, .ref es, .ref ei, .ref el, .ref ew, .ref et, .ref er, .int lf, .int md, .ref ed, .ref ep, .int pn, .int sp, .ref ex, .ref eu, .int rm, .int la])), (ea, .inl (gI G, 42, .inl (nA u)))]) := by
  refine CV.of (cc := cX6_moves) (maxL := 5) (ret := none) (by decide +kernel) rfl (Nat.le_of_ble_eq_true rfl) rfl (fun p e s m args below meth c A S hrt hlk hnm K hA hP hD hS ls hl => ?_)
  have hx := S.1
  have hb := S.2.1
  have hl : lv_has ls 5 [(0, .ref e0), (1, .int (nI i)), (2, .int (nI k))] := hl
  refine lv_aload_n hx hb dX6_moves_0 rfl (lv_at hl 0 rfl) ?_
  refine z_get S K hP hX6_moves_X6 0 rfl rfl 0 (by decide) kX6_moves_1 rfl rfl dX6_moves_1 ?_
  refine lv_iconst (v := nI 2) hx hb dX6_moves_4 (by decide +kernel) ?_
  refine lv_iload_n hx hb dX6_moves_5 rfl (lv_at hl 1 rfl) ?_
  refine zi_add S dX6_moves_6 ?_
  refine z_iald S K hP 1 rfl (by omega) (by decide) dX6_moves_7 ?_
  refine lv_istore_n (lv' := [(3, .int (nI (al (2 + i)))), (0, .ref e0), (1, .int (nI i)), (2, .int (nI k))]) hx hb dX6_moves_8 rfl hl (by decide) rfl (fun ls hl => ?_)
  refine lv_aload_n hx hb dX6_moves_9 rfl (lv_at hl 1 rfl) ?_
  refine z_get S K hP hX6_moves_X6 0 rfl rfl 0 (by decide) kX6_moves_1 rfl rfl dX6_moves_10 ?_
  refine lv_bipush (v := nI 22) hx hb dX6_moves_13 (by decide +kernel) ?_
  refine lv_iload_n hx hb dX6_moves_15 rfl (lv_at hl 2 rfl) ?_
  refine zi_add S dX6_moves_16 ?_
  refine z_iald S K hP 1 rfl (by omega) (by decide) dX6_moves_17 ?_
  refine lv_istore (lv' := [(4, .int (nI (al (22 + i)))), (3, .int (nI (al (2 + i)))), (0, .ref e0), (1, .int (nI i)), (2, .int (nI k))]) hx hb dX6_moves_18 hl (by decide) rfl (fun ls hl => ?_)
  refine lv_aload_n hx hb dX6_moves_20 rfl (lv_at hl 2 rfl) ?_
  refine lv_iload_n hx hb dX6_moves_21 rfl (lv_at hl 3 rfl) ?_
  refine zcVv (rest := []) S K hP hD hS hA hl.1 (c_X6_takesOut l G e0 ea ek eh es ei el ew et er ed ep ex eu hq lf md pn sp rm la al i (by first | assumption | omega) (by first | assumption | omega)) rfl rfl gX6_moves_X6_takesOut rfl eX6_takesOut [0, 1] (by decide +kernel) rfl (fun _ => rfl) 6 0 rfl rfl rfl rfl rfl (Nat.le_of_ble_eq_true rfl) (Nat.le_of_ble_eq_true rfl) (Nat.le_of_ble_eq_true rfl) ⟨Nat.zero_le _, Nat.zero_le _⟩ dX6_moves_22 (fun u_22 H locs hw_22 hP hD hS => ?_)
  obtain ⟨hP, hD⟩ := mx_ok [some 0, some 1] (by decide +kernel) rfl rfl hP hD
  obtain ⟨al2_22, rfl⟩ : ∃ z, z = u_22 := ⟨_, rfl⟩
  replace hw_22 : TO al al2_22 i (al 1 - 1) := hw_22
  have hP : va_P (gD G) vwCl [(e0, .inr (6, [.ref ea, .ref ek, .ref eh, .int hq, .ref es, .ref ei, .ref el, .ref ew, .ref et, .ref er, .int lf, .int md, .ref ed, .ref ep, .int pn, .int sp, .ref ex, .ref eu, .int rm, .int la])), (ea, .inl (gI G, 42, .inl (nA al2_22)))] H := hP
  have hD : va_D A [(e0, .inr (6, [.ref ea, .ref ek, .ref eh, .int hq, .ref es, .ref ei, .ref el, .ref ew, .ref et, .ref er, .int lf, .int md, .ref ed, .ref ep, .int pn, .int sp, .ref ex, .ref eu, .int rm, .int la])), (ea, .inl (gI G, 42, .inl (nA al2_22)))] := hD
  have hk1 := hw_22.2.1
  refine lv_aload_n hx hb dX6_moves_25 rfl (lv_at hl 2 rfl) ?_
  refine lv_iload_n hx hb dX6_moves_26 rfl (lv_at hl 1 rfl) ?_
  refine lv_iload hx hb dX6_moves_27 (lv_at hl 0 rfl) ?_
  refine lv_iload_n hx hb dX6_moves_29 rfl (lv_at hl 4 rfl) ?_
  refine zcVv (rest := []) S K hP hD hS hA hl.1 (c_X6_putsIn l G e0 ea ek eh es ei el ew et er ed ep ex eu hq lf md pn sp rm la al2_22 (al (2 + i)) (al (22 + i)) k (by omega) (by omega)) rfl rfl gX6_moves_X6_putsIn rfl eX6_putsIn [0, 1] (by decide +kernel) rfl (fun _ => rfl) 6 0 rfl rfl rfl rfl rfl (Nat.le_of_ble_eq_true rfl) (Nat.le_of_ble_eq_true rfl) (Nat.le_of_ble_eq_true rfl) ⟨Nat.zero_le _, Nat.zero_le _⟩ dX6_moves_30 (fun u_30 H locs hw_30 hP hD hS => ?_)
  obtain ⟨hP, hD⟩ := mx_ok [some 0, some 1] (by decide +kernel) rfl rfl hP hD
  obtain ⟨al2_30, rfl⟩ : ∃ z, z = u_30 := ⟨_, rfl⟩
  replace hw_30 : PI al2_22 al2_30 k (al (2 + i)) (al (22 + i)) := hw_30
  have hP : va_P (gD G) vwCl [(e0, .inr (6, [.ref ea, .ref ek, .ref eh, .int hq, .ref es, .ref ei, .ref el, .ref ew, .ref et, .ref er, .int lf, .int md, .ref ed, .ref ep, .int pn, .int sp, .ref ex, .ref eu, .int rm, .int la])), (ea, .inl (gI G, 42, .inl (nA al2_30)))] H := hP
  have hD : va_D A [(e0, .inr (6, [.ref ea, .ref ek, .ref eh, .int hq, .ref es, .ref ei, .ref el, .ref ew, .ref et, .ref er, .int lf, .int md, .ref ed, .ref ep, .int pn, .int sp, .ref ex, .ref eu, .int rm, .int la])), (ea, .inl (gI G, 42, .inl (nA al2_30)))] := hD
  exact z_vret S hrt hlk hP hD hS al2_30 rfl (mi_ok hi hk hn3 hw_22 hw_30) dX6_moves_33
set_option maxHeartbeats 4000000 in
set_option maxRecDepth 100000 in
theorem c_X6_move (l : Launch) (G : gT) (e0 ea ek eh es ei el ew et er ed ep ex eu : Nat) (lf : Int32) (md : Int32) (pn : Int32) (sp : Int32) (rm : Int32) (la : Int32) (al : Nat → Nat) (ka : Nat → Nat) (hy : Nat → Nat) (le : Nat → Nat) (wh : Nat → Nat) (ms : Nat → Nat) (mr : Nat → Nat) (mh : Nat → Nat) (hq : Nat) (x : Int32) (y : Int32) (hR : RowOK (mR al)) (hq6 : hq ≤ 6) (hn : ∀ k, k < hq → hy (42 * k + 1) ≤ 20) : CI l yX6_move wsX6_move ({ frames := 3, cells := 0, slots := 0, locals := 67 } : Room) G [.ref e0, .int x, .int y] [(e0, .inr (6, [.ref ea, .ref ek, .ref eh, .int (nI hq), .ref es, .ref ei, .ref el, .ref ew, .ref et, .ref er, .int lf, .int md, .ref ed, .ref ep, .int pn, .int sp, .ref ex, .ref eu, .int rm, .int la])), (ea, .inl (gI G, 42, .inl (nA al))), (ek, .inl (gI G, 42, .inl (nA ka))), (eh, .inl (gI G, 252, .inl (nA hy))), (el, .inl (gI G, 12, .inl (nA le))), (ew, .inl (gI G, 12, .inl (nA wh))), (et, .inl (gI G, 20, .inl (nA ms))), (er, .inl (gI G, 20, .inl (nA mr))), (ed, .inl (gI G, 20, .inl (nA mh)))] 0 0 (fun (r : Int32) (u : Nat × Int32 × Int32 × (Nat → Nat) × (Nat → Nat) × (Nat → Nat) × (Nat → Nat) × (Nat → Nat) × (Nat → Nat) × (Nat → Nat) × (Nat → Nat)) => r = (r_move (mR al) x y) ∧ (mR u.2.2.2.1, mH u.1 u.2.2.2.2.2.1) = n_move (mR al) (mH hq hy) x y) (fun (u : Nat × Int32 × Int32 × (Nat → Nat) × (Nat → Nat) × (Nat → Nat) × (Nat → Nat) × (Nat → Nat) × (Nat → Nat) × (Nat → Nat) × (Nat → Nat)) => [(e0, .inr (6, [.ref ea, .ref ek, .ref eh, .int (nI u.1), .ref es, .ref ei, .ref el, .ref ew, .ref et, .ref er, .int u.2.1, .int u.2.2.1, .ref ed, .ref ep, .int pn, .int sp, .ref ex, .ref eu, .int rm, .int la])), (ea, .inl (gI G, 42, .inl (nA u.2.2.2.1))), (ek, .inl (gI G, 42, .inl (nA u.2.2.2.2.1))), (eh, .inl (gI G, 252, .inl (nA u.2.2.2.2.2.1))), (el, .inl (gI G, 12, .inl (nA u.2.2.2.2.2.2.1))), (ew, .inl (gI G, 12, .inl (nA u.2.2.2.2.2.2.2.1))), (et, .inl (gI G, 20, .inl (nA u.2.2.2.2.2.2.2.2.1))), (er, .inl (gI G, 20, .inl (nA u.2.2.2.2.2.2.2.2.2.1))), (ed, .inl (gI G, 20, .inl (nA u.2.2.2.2.2.2.2.2.2.2)))]) := by
  refine CI.of (cc := cX6_move) (maxL := 6) (ret := (some .int)) (by decide +kernel) rfl (Nat.le_of_ble_eq_true rfl) rfl (fun p e s m args below meth c A S hrt hlk hnm K hA hP hD hS ls hl => ?_)
  have hx := S.1
  have hb := S.2.1
  have hl : lv_has ls 6 [(0, .ref e0), (1, .int x), (2, .int y)] := hl
  obtain ⟨hc1, hc2, hn3, hf4, hf5, hg6⟩ := mrow hR
  have hp2 := p12 hc2
  have h1s : 1 <<< al 0 = 2 ^ al 0 := Nat.one_shiftLeft _
  refine lv_aload_n hx hb dX6_move_0 rfl (lv_at hl 0 rfl) ?_
  refine lv_iload_n hx hb dX6_move_1 rfl (lv_at hl 1 rfl) ?_
  refine zcVi (rest := []) S K hP hD hS hA hl.1 (c_X6_isRule l G e0 ea ek eh es ei el ew et er ed ep ex eu (nI hq) lf md pn sp rm la al x (by first | assumption | omega)) rfl rfl gX6_move_X6_isRule rfl eX6_isRule [0, 1] (by decide +kernel) rfl (fun _ => rfl) 6 0 rfl rfl rfl rfl rfl (Nat.le_of_ble_eq_true rfl) (Nat.le_of_ble_eq_true rfl) (Nat.le_of_ble_eq_true rfl) ⟨Nat.zero_le _, Nat.zero_le _⟩ dX6_move_2 (fun r_2 u_2 H locs hw_2 hP hD hS => ?_)
  obtain ⟨hP, hD⟩ := mx_ok [some 0, some 1, none, none, none, none, none, none, none] (by decide +kernel) rfl rfl hP hD
  replace hw_2 : r_2 = nI (bN (decide (0 ≤ x.toInt ∧ x.toInt < (al 1 : Int)))) := hw_2
  obtain rfl := hw_2
  have hP : va_P (gD G) vwCl [(e0, .inr (6, [.ref ea, .ref ek, .ref eh, .int (nI hq), .ref es, .ref ei, .ref el, .ref ew, .ref et, .ref er, .int lf, .int md, .ref ed, .ref ep, .int pn, .int sp, .ref ex, .ref eu, .int rm, .int la])), (ea, .inl (gI G, 42, .inl (nA al))), (ek, .inl (gI G, 42, .inl (nA ka))), (eh, .inl (gI G, 252, .inl (nA hy))), (el, .inl (gI G, 12, .inl (nA le))), (ew, .inl (gI G, 12, .inl (nA wh))), (et, .inl (gI G, 20, .inl (nA ms))), (er, .inl (gI G, 20, .inl (nA mr))), (ed, .inl (gI G, 20, .inl (nA mh)))] H := hP
  have hD : va_D A [(e0, .inr (6, [.ref ea, .ref ek, .ref eh, .int (nI hq), .ref es, .ref ei, .ref el, .ref ew, .ref et, .ref er, .int lf, .int md, .ref ed, .ref ep, .int pn, .int sp, .ref ex, .ref eu, .int rm, .int la])), (ea, .inl (gI G, 42, .inl (nA al))), (ek, .inl (gI G, 42, .inl (nA ka))), (eh, .inl (gI G, 252, .inl (nA hy))), (el, .inl (gI G, 12, .inl (nA le))), (ew, .inl (gI G, 12, .inl (nA wh))), (et, .inl (gI G, 20, .inl (nA ms))), (er, .inl (gI G, 20, .inl (nA mr))), (ed, .inl (gI G, 20, .inl (nA mh)))] := hD
  refine zf_eq (tgt := 16) S dX6_move_5 (by decide) (bN_31 _) (fun c_5 => ?_) (fun c_5 => ?_)
  · skip
    have c_5 := of_decide_eq_false (bN_eq0 c_5)
    refine lv_iconst (v := -1) hx hb dX6_move_16 (by decide +kernel) ?_
    refine z_top (y := (r_move (mR al) x y)) (mo_0 (R := mR al) (h := (0, fun _ => R0)) (by first | exact Or.inl c_5 | exact Or.inr c_13)).1 ?_
    exact z_iret S hrt hlk hP hD hS (hq, lf, md, al, ka, hy, le, wh, ms, mr, mh) rfl ⟨rfl, (mo_0 (R := mR al) (by first | exact Or.inl c_5 | exact Or.inr c_13)).2⟩ dX6_move_17
  · skip
    have c_5 := of_decide_eq_true (bN_ne0 c_5)
    obtain ⟨i, hi1, hi2, hi3⟩ := z_of (x := x) (by omega)
    have hl : lv_has ls 6 [(0, .ref e0), (1, .int (nI i)), (2, .int y)] := by rw [hi2] at hl; exact hl
    refine lv_aload_n hx hb dX6_move_8 rfl (lv_at hl 0 rfl) ?_
    refine lv_iload_n hx hb dX6_move_9 rfl (lv_at hl 2 rfl) ?_
    refine zcVi (rest := []) S K hP hD hS hA hl.1 (c_X6_isRule l G e0 ea ek eh es ei el ew et er ed ep ex eu (nI hq) lf md pn sp rm la al y (by first | assumption | omega)) rfl rfl gX6_move_X6_isRule rfl eX6_isRule [0, 1] (by decide +kernel) rfl (fun _ => rfl) 6 0 rfl rfl rfl rfl rfl (Nat.le_of_ble_eq_true rfl) (Nat.le_of_ble_eq_true rfl) (Nat.le_of_ble_eq_true rfl) ⟨Nat.zero_le _, Nat.zero_le _⟩ dX6_move_10 (fun r_10 u_10 H locs hw_10 hP hD hS => ?_)
    obtain ⟨hP, hD⟩ := mx_ok [some 0, some 1, none, none, none, none, none, none, none] (by decide +kernel) rfl rfl hP hD
    replace hw_10 : r_10 = nI (bN (decide (0 ≤ y.toInt ∧ y.toInt < (al 1 : Int)))) := hw_10
    obtain rfl := hw_10
    have hP : va_P (gD G) vwCl [(e0, .inr (6, [.ref ea, .ref ek, .ref eh, .int (nI hq), .ref es, .ref ei, .ref el, .ref ew, .ref et, .ref er, .int lf, .int md, .ref ed, .ref ep, .int pn, .int sp, .ref ex, .ref eu, .int rm, .int la])), (ea, .inl (gI G, 42, .inl (nA al))), (ek, .inl (gI G, 42, .inl (nA ka))), (eh, .inl (gI G, 252, .inl (nA hy))), (el, .inl (gI G, 12, .inl (nA le))), (ew, .inl (gI G, 12, .inl (nA wh))), (et, .inl (gI G, 20, .inl (nA ms))), (er, .inl (gI G, 20, .inl (nA mr))), (ed, .inl (gI G, 20, .inl (nA mh)))] H := hP
    have hD : va_D A [(e0, .inr (6, [.ref ea, .ref ek, .ref eh, .int (nI hq), .ref es, .ref ei, .ref el, .ref ew, .ref et, .ref er, .int lf, .int md, .ref ed, .ref ep, .int pn, .int sp, .ref ex, .ref eu, .int rm, .int la])), (ea, .inl (gI G, 42, .inl (nA al))), (ek, .inl (gI G, 42, .inl (nA ka))), (eh, .inl (gI G, 252, .inl (nA hy))), (el, .inl (gI G, 12, .inl (nA le))), (ew, .inl (gI G, 12, .inl (nA wh))), (et, .inl (gI G, 20, .inl (nA ms))), (er, .inl (gI G, 20, .inl (nA mr))), (ed, .inl (gI G, 20, .inl (nA mh)))] := hD
    refine zf_ne (tgt := 18) S dX6_move_13 (by decide) (bN_31 _) (fun c_13 => ?_) (fun c_13 => ?_)
    · skip
      have c_13 := of_decide_eq_true (bN_ne0 c_13)
      obtain ⟨k, hk1, hk2, hk3⟩ := z_of (x := y) (by omega)
      have hl : lv_has ls 6 [(0, .ref e0), (1, .int (nI i)), (2, .int (nI k))] := by rw [hk2] at hl; exact hl
      refine lv_aload_n hx hb dX6_move_18 rfl (lv_at hl 0 rfl) ?_
      refine zcVv (rest := []) S K hP hD hS hA hl.1 (c_X6_keep l G e0 ea ek eh es ei el ew et er ed ep ex eu (nI hq) lf md pn sp rm la al ka ) rfl rfl gX6_move_X6_keep rfl eX6_keep [0, 1, 2] (by decide +kernel) rfl (fun _ => rfl) 6 0 rfl rfl rfl rfl rfl (Nat.le_of_ble_eq_true rfl) (Nat.le_of_ble_eq_true rfl) (Nat.le_of_ble_eq_true rfl) ⟨Nat.zero_le _, Nat.zero_le _⟩ dX6_move_19 (fun u_19 H locs hw_19 hP hD hS => ?_)
      obtain ⟨hP, hD⟩ := mx_ok [some 0, some 1, some 2, none, none, none, none, none, none] (by decide +kernel) rfl rfl hP hD
      obtain ⟨ka2_19, rfl⟩ : ∃ z, z = u_19 := ⟨_, rfl⟩
      replace hw_19 : ∀ j, j < 42 → ka2_19 j = al j := hw_19
      have hP : va_P (gD G) vwCl [(e0, .inr (6, [.ref ea, .ref ek, .ref eh, .int (nI hq), .ref es, .ref ei, .ref el, .ref ew, .ref et, .ref er, .int lf, .int md, .ref ed, .ref ep, .int pn, .int sp, .ref ex, .ref eu, .int rm, .int la])), (ea, .inl (gI G, 42, .inl (nA al))), (ek, .inl (gI G, 42, .inl (nA ka2_19))), (eh, .inl (gI G, 252, .inl (nA hy))), (el, .inl (gI G, 12, .inl (nA le))), (ew, .inl (gI G, 12, .inl (nA wh))), (et, .inl (gI G, 20, .inl (nA ms))), (er, .inl (gI G, 20, .inl (nA mr))), (ed, .inl (gI G, 20, .inl (nA mh)))] H := hP
      have hD : va_D A [(e0, .inr (6, [.ref ea, .ref ek, .ref eh, .int (nI hq), .ref es, .ref ei, .ref el, .ref ew, .ref et, .ref er, .int lf, .int md, .ref ed, .ref ep, .int pn, .int sp, .ref ex, .ref eu, .int rm, .int la])), (ea, .inl (gI G, 42, .inl (nA al))), (ek, .inl (gI G, 42, .inl (nA ka2_19))), (eh, .inl (gI G, 252, .inl (nA hy))), (el, .inl (gI G, 12, .inl (nA le))), (ew, .inl (gI G, 12, .inl (nA wh))), (et, .inl (gI G, 20, .inl (nA ms))), (er, .inl (gI G, 20, .inl (nA mr))), (ed, .inl (gI G, 20, .inl (nA mh)))] := hD
      obtain ⟨hkR, hkk⟩ := keep_R hw_19 hn3
      refine lv_aload_n hx hb dX6_move_22 rfl (lv_at hl 0 rfl) ?_
      refine zcVv (rest := []) S K hP hD hS hA hl.1 (c_X6_judges l G e0 ea ek eh es ei el ew et er ed ep ex eu (nI hq) lf md pn sp rm la al le wh ms mr (by first | assumption | omega)) rfl rfl gX6_move_X6_judges rfl eX6_judges [0, 1, 4, 5, 6, 7] (by decide +kernel) rfl (fun _ => rfl) 6 0 rfl rfl rfl rfl rfl (Nat.le_of_ble_eq_true rfl) (Nat.le_of_ble_eq_true rfl) (Nat.le_of_ble_eq_true rfl) ⟨Nat.zero_le _, Nat.zero_le _⟩ dX6_move_23 (fun u_23 H locs hw_23 hP hD hS => ?_)
      obtain ⟨hP, hD⟩ := mx_ok [some 0, some 1, none, none, some 2, some 3, some 4, some 5, none] (by decide +kernel) rfl rfl hP hD
      obtain ⟨lf2_23, md2_23, le2_23, wh2_23, ms2_23, mr2_23⟩ := u_23
      replace hw_23 : MV (fun j => al (2 + j)) (fun j => al (22 + j)) (al 1) ms2_23 mr2_23 le2_23 wh2_23 := hw_23
      have hP : va_P (gD G) vwCl [(e0, .inr (6, [.ref ea, .ref ek, .ref eh, .int (nI hq), .ref es, .ref ei, .ref el, .ref ew, .ref et, .ref er, .int lf2_23, .int md2_23, .ref ed, .ref ep, .int pn, .int sp, .ref ex, .ref eu, .int rm, .int la])), (ea, .inl (gI G, 42, .inl (nA al))), (ek, .inl (gI G, 42, .inl (nA ka2_19))), (eh, .inl (gI G, 252, .inl (nA hy))), (el, .inl (gI G, 12, .inl (nA le2_23))), (ew, .inl (gI G, 12, .inl (nA wh2_23))), (et, .inl (gI G, 20, .inl (nA ms2_23))), (er, .inl (gI G, 20, .inl (nA mr2_23))), (ed, .inl (gI G, 20, .inl (nA mh)))] H := hP
      have hD : va_D A [(e0, .inr (6, [.ref ea, .ref ek, .ref eh, .int (nI hq), .ref es, .ref ei, .ref el, .ref ew, .ref et, .ref er, .int lf2_23, .int md2_23, .ref ed, .ref ep, .int pn, .int sp, .ref ex, .ref eu, .int rm, .int la])), (ea, .inl (gI G, 42, .inl (nA al))), (ek, .inl (gI G, 42, .inl (nA ka2_19))), (eh, .inl (gI G, 252, .inl (nA hy))), (el, .inl (gI G, 12, .inl (nA le2_23))), (ew, .inl (gI G, 12, .inl (nA wh2_23))), (et, .inl (gI G, 20, .inl (nA ms2_23))), (er, .inl (gI G, 20, .inl (nA mr2_23))), (ed, .inl (gI G, 20, .inl (nA mh)))] := hD
      refine lv_iconst (v := nI 0) hx hb dX6_move_26 (by decide +kernel) ?_
      refine lv_istore_n (lv' := [(3, .int (nI 0)), (0, .ref e0), (1, .int (nI i)), (2, .int (nI k))]) hx hb dX6_move_27 rfl hl (by decide) rfl (fun ls hl => ?_)
      have lp_28 : ∀ (n_28 : Nat) (j : Nat) (mh1 : Nat → Nat), al 1 - j < n_28 → (j ≤ al 1) → (∀ p, p < j → mh1 p = ms2_23 p) → ∀ (H : Heap) (locs : List Loc), va_P (gD G) vwCl [(e0, .inr (6, [.ref ea, .ref ek, .ref eh, .int (nI hq), .ref es, .ref ei, .ref el, .ref ew, .ref et, .ref er, .int lf2_23, .int md2_23, .ref ed, .ref ep, .int pn, .int sp, .ref ex, .ref eu, .int rm, .int la])), (ea, .inl (gI G, 42, .inl (nA al))), (ek, .inl (gI G, 42, .inl (nA ka2_19))), (eh, .inl (gI G, 252, .inl (nA hy))), (el, .inl (gI G, 12, .inl (nA le2_23))), (ew, .inl (gI G, 12, .inl (nA wh2_23))), (et, .inl (gI G, 20, .inl (nA ms2_23))), (er, .inl (gI G, 20, .inl (nA mr2_23))), (ed, .inl (gI G, 20, .inl (nA mh1)))] H → va_D A [(e0, .inr (6, [.ref ea, .ref ek, .ref eh, .int (nI hq), .ref es, .ref ei, .ref el, .ref ew, .ref et, .ref er, .int lf2_23, .int md2_23, .ref ed, .ref ep, .int pn, .int sp, .ref ex, .ref eu, .int rm, .int la])), (ea, .inl (gI G, 42, .inl (nA al))), (ek, .inl (gI G, 42, .inl (nA ka2_19))), (eh, .inl (gI G, 252, .inl (nA hy))), (el, .inl (gI G, 12, .inl (nA le2_23))), (ew, .inl (gI G, 12, .inl (nA wh2_23))), (et, .inl (gI G, 20, .inl (nA ms2_23))), (er, .inl (gI G, 20, .inl (nA mr2_23))), (ed, .inl (gI G, 20, .inl (nA mh1)))] → va_S A s.heap H locs → ∀ ls : Array Slot, lv_has ls 6 [(3, .int (nI j)), (0, .ref e0), (1, .int (nI i)), (2, .int (nI k))] → W p l e ({ frames := 3, cells := 0, slots := 0, locals := 67 } : Room) s m args below meth c H locs 0 0 (MQ below (va_Qi (fun (r : Int32) (u : Nat × Int32 × Int32 × (Nat → Nat) × (Nat → Nat) × (Nat → Nat) × (Nat → Nat) × (Nat → Nat) × (Nat → Nat) × (Nat → Nat) × (Nat → Nat)) => r = (r_move (mR al) x y) ∧ (mR u.2.2.2.1, mH u.1 u.2.2.2.2.2.1) = n_move (mR al) (mH hq hy) x y) (cB G A (fun (u : Nat × Int32 × Int32 × (Nat → Nat) × (Nat → Nat) × (Nat → Nat) × (Nat → Nat) × (Nat → Nat) × (Nat → Nat) × (Nat → Nat) × (Nat → Nat)) => [(e0, .inr (6, [.ref ea, .ref ek, .ref eh, .int (nI u.1), .ref es, .ref ei, .ref el, .ref ew, .ref et, .ref er, .int u.2.1, .int u.2.2.1, .ref ed, .ref ep, .int pn, .int sp, .ref ex, .ref eu, .int rm, .int la])), (ea, .inl (gI G, 42, .inl (nA u.2.2.2.1))), (ek, .inl (gI G, 42, .inl (nA u.2.2.2.2.1))), (eh, .inl (gI G, 252, .inl (nA u.2.2.2.2.2.1))), (el, .inl (gI G, 12, .inl (nA u.2.2.2.2.2.2.1))), (ew, .inl (gI G, 12, .inl (nA u.2.2.2.2.2.2.2.1))), (et, .inl (gI G, 20, .inl (nA u.2.2.2.2.2.2.2.2.1))), (er, .inl (gI G, 20, .inl (nA u.2.2.2.2.2.2.2.2.2.1))), (ed, .inl (gI G, 20, .inl (nA u.2.2.2.2.2.2.2.2.2.2)))])) A) args s 0 0 A) (F0 m 28 ls []) := by
        intro n_28
        induction n_28 with
        | zero =>
          intro j mh1 h0
          exact absurd h0 (Nat.not_lt_zero _)
        | succ n_28 ih_28 =>
          intro j mh1 hm_28 hj hh0 H locs hP hD hS ls hl
          refine lv_iload_n hx hb dX6_move_28 rfl (lv_at hl 0 rfl) ?_
          refine lv_aload_n hx hb dX6_move_29 rfl (lv_at hl 1 rfl) ?_
          refine z_get S K hP hX6_move_X6 0 rfl rfl 0 (by decide) kX6_move_1 rfl rfl dX6_move_30 ?_
          refine lv_iconst (v := nI 1) hx hb dX6_move_33 (by decide +kernel) ?_
          refine z_iald S K hP 1 rfl (by omega) (by decide) dX6_move_34 ?_
          refine zb_ge (tgt := 56) S dX6_move_35 (by decide) (by omega) (by omega) (fun c_35 => ?_) (fun c_35 => ?_)
          · skip
            have hh : ∀ p, p < al 1 → mh1 p = ms2_23 p := fun p hp => hh0 p (by omega)
            refine lv_aload_n hx hb dX6_move_56 rfl (lv_at hl 1 rfl) ?_
            refine lv_iload_n hx hb dX6_move_57 rfl (lv_at hl 2 rfl) ?_
            refine lv_iload_n hx hb dX6_move_58 rfl (lv_at hl 3 rfl) ?_
            refine zcVv (rest := []) S K hP hD hS hA hl.1 (c_X6_moves l G e0 ea ek eh es ei el ew et er ed ep ex eu (nI hq) lf2_23 md2_23 pn sp rm la al i k (by omega) (by omega) hn3) rfl rfl gX6_move_X6_moves rfl eX6_moves [0, 1] (by decide +kernel) rfl (fun _ => rfl) 6 0 rfl rfl rfl rfl rfl (Nat.le_of_ble_eq_true rfl) (Nat.le_of_ble_eq_true rfl) (Nat.le_of_ble_eq_true rfl) ⟨Nat.zero_le _, Nat.zero_le _⟩ dX6_move_59 (fun u_59 H locs hw_59 hP hD hS => ?_)
            obtain ⟨hP, hD⟩ := mx_ok [some 0, some 1, none, none, none, none, none, none, none] (by decide +kernel) rfl rfl hP hD
            obtain ⟨al2_59, rfl⟩ : ∃ z, z = u_59 := ⟨_, rfl⟩
            replace hw_59 : MI al al2_59 i k := hw_59
            have hP : va_P (gD G) vwCl [(e0, .inr (6, [.ref ea, .ref ek, .ref eh, .int (nI hq), .ref es, .ref ei, .ref el, .ref ew, .ref et, .ref er, .int lf2_23, .int md2_23, .ref ed, .ref ep, .int pn, .int sp, .ref ex, .ref eu, .int rm, .int la])), (ea, .inl (gI G, 42, .inl (nA al2_59))), (ek, .inl (gI G, 42, .inl (nA ka2_19))), (eh, .inl (gI G, 252, .inl (nA hy))), (el, .inl (gI G, 12, .inl (nA le2_23))), (ew, .inl (gI G, 12, .inl (nA wh2_23))), (et, .inl (gI G, 20, .inl (nA ms2_23))), (er, .inl (gI G, 20, .inl (nA mr2_23))), (ed, .inl (gI G, 20, .inl (nA mh1)))] H := hP
            have hD : va_D A [(e0, .inr (6, [.ref ea, .ref ek, .ref eh, .int (nI hq), .ref es, .ref ei, .ref el, .ref ew, .ref et, .ref er, .int lf2_23, .int md2_23, .ref ed, .ref ep, .int pn, .int sp, .ref ex, .ref eu, .int rm, .int la])), (ea, .inl (gI G, 42, .inl (nA al2_59))), (ek, .inl (gI G, 42, .inl (nA ka2_19))), (eh, .inl (gI G, 252, .inl (nA hy))), (el, .inl (gI G, 12, .inl (nA le2_23))), (ew, .inl (gI G, 12, .inl (nA wh2_23))), (et, .inl (gI G, 20, .inl (nA ms2_23))), (er, .inl (gI G, 20, .inl (nA mr2_23))), (ed, .inl (gI G, 20, .inl (nA mh1)))] := hD
            have hM1 := hw_59.2.1
            have hmR := mi_R hw_59 (show i < al 1 by omega) (show k < al 1 by omega)
            have hR2 : RowOK (mR al2_59) := by rw [hmR]; exact mv_ok hR (show i < al 1 by omega) (show k < al 1 by omega)
            refine lv_aload_n hx hb dX6_move_62 rfl (lv_at hl 1 rfl) ?_
            refine zcVv (rest := []) S K hP hD hS hA hl.1 (c_X6_judges l G e0 ea ek eh es ei el ew et er ed ep ex eu (nI hq) lf2_23 md2_23 pn sp rm la al2_59 le2_23 wh2_23 ms2_23 mr2_23 hR2) rfl rfl gX6_move_X6_judges rfl eX6_judges [0, 1, 4, 5, 6, 7] (by decide +kernel) rfl (fun _ => rfl) 6 0 rfl rfl rfl rfl rfl (Nat.le_of_ble_eq_true rfl) (Nat.le_of_ble_eq_true rfl) (Nat.le_of_ble_eq_true rfl) ⟨Nat.zero_le _, Nat.zero_le _⟩ dX6_move_63 (fun u_63 H locs hw_63 hP hD hS => ?_)
            obtain ⟨hP, hD⟩ := mx_ok [some 0, some 1, none, none, some 2, some 3, some 4, some 5, none] (by decide +kernel) rfl rfl hP hD
            obtain ⟨lf2_63, md2_63, le2_63, wh2_63, ms2_63, mr2_63⟩ := u_63
            replace hw_63 : MV (fun j => al2_59 (2 + j)) (fun j => al2_59 (22 + j)) (al2_59 1) ms2_63 mr2_63 le2_63 wh2_63 := hw_63
            have hP : va_P (gD G) vwCl [(e0, .inr (6, [.ref ea, .ref ek, .ref eh, .int (nI hq), .ref es, .ref ei, .ref el, .ref ew, .ref et, .ref er, .int lf2_63, .int md2_63, .ref ed, .ref ep, .int pn, .int sp, .ref ex, .ref eu, .int rm, .int la])), (ea, .inl (gI G, 42, .inl (nA al2_59))), (ek, .inl (gI G, 42, .inl (nA ka2_19))), (eh, .inl (gI G, 252, .inl (nA hy))), (el, .inl (gI G, 12, .inl (nA le2_63))), (ew, .inl (gI G, 12, .inl (nA wh2_63))), (et, .inl (gI G, 20, .inl (nA ms2_63))), (er, .inl (gI G, 20, .inl (nA mr2_63))), (ed, .inl (gI G, 20, .inl (nA mh1)))] H := hP
            have hD : va_D A [(e0, .inr (6, [.ref ea, .ref ek, .ref eh, .int (nI hq), .ref es, .ref ei, .ref el, .ref ew, .ref et, .ref er, .int lf2_63, .int md2_63, .ref ed, .ref ep, .int pn, .int sp, .ref ex, .ref eu, .int rm, .int la])), (ea, .inl (gI G, 42, .inl (nA al2_59))), (ek, .inl (gI G, 42, .inl (nA ka2_19))), (eh, .inl (gI G, 252, .inl (nA hy))), (el, .inl (gI G, 12, .inl (nA le2_63))), (ew, .inl (gI G, 12, .inl (nA wh2_63))), (et, .inl (gI G, 20, .inl (nA ms2_63))), (er, .inl (gI G, 20, .inl (nA mr2_63))), (ed, .inl (gI G, 20, .inl (nA mh1)))] := hD
            refine lv_iconst (v := nI 0) hx hb dX6_move_66 (by decide +kernel) ?_
            refine lv_istore_n (lv' := [(3, .int (nI 0)), (0, .ref e0), (1, .int (nI i)), (2, .int (nI k))]) hx hb dX6_move_67 rfl hl (by decide) rfl (fun ls hl => ?_)
            refine lv_iconst (v := nI 0) hx hb dX6_move_68 (by decide +kernel) ?_
            refine lv_istore (lv' := [(4, .int (nI 0)), (3, .int (nI 0)), (0, .ref e0), (1, .int (nI i)), (2, .int (nI k))]) hx hb dX6_move_69 hl (by decide) rfl (fun ls hl => ?_)
            have lp_71 : ∀ (n_71 : Nat) (z : Nat) (t : Nat), al 1 - z < n_71 → (z ≤ al 1) → (t = smF (fun r => if ms2_63 (thF i k r) = mh1 r then 0 else 1) z) → ∀ (H : Heap) (locs : List Loc), va_P (gD G) vwCl [(e0, .inr (6, [.ref ea, .ref ek, .ref eh, .int (nI hq), .ref es, .ref ei, .ref el, .ref ew, .ref et, .ref er, .int lf2_63, .int md2_63, .ref ed, .ref ep, .int pn, .int sp, .ref ex, .ref eu, .int rm, .int la])), (ea, .inl (gI G, 42, .inl (nA al2_59))), (ek, .inl (gI G, 42, .inl (nA ka2_19))), (eh, .inl (gI G, 252, .inl (nA hy))), (el, .inl (gI G, 12, .inl (nA le2_63))), (ew, .inl (gI G, 12, .inl (nA wh2_63))), (et, .inl (gI G, 20, .inl (nA ms2_63))), (er, .inl (gI G, 20, .inl (nA mr2_63))), (ed, .inl (gI G, 20, .inl (nA mh1)))] H → va_D A [(e0, .inr (6, [.ref ea, .ref ek, .ref eh, .int (nI hq), .ref es, .ref ei, .ref el, .ref ew, .ref et, .ref er, .int lf2_63, .int md2_63, .ref ed, .ref ep, .int pn, .int sp, .ref ex, .ref eu, .int rm, .int la])), (ea, .inl (gI G, 42, .inl (nA al2_59))), (ek, .inl (gI G, 42, .inl (nA ka2_19))), (eh, .inl (gI G, 252, .inl (nA hy))), (el, .inl (gI G, 12, .inl (nA le2_63))), (ew, .inl (gI G, 12, .inl (nA wh2_63))), (et, .inl (gI G, 20, .inl (nA ms2_63))), (er, .inl (gI G, 20, .inl (nA mr2_63))), (ed, .inl (gI G, 20, .inl (nA mh1)))] → va_S A s.heap H locs → ∀ ls : Array Slot, lv_has ls 6 [(4, .int (nI z)), (3, .int (nI t)), (0, .ref e0), (1, .int (nI i)), (2, .int (nI k))] → W p l e ({ frames := 3, cells := 0, slots := 0, locals := 67 } : Room) s m args below meth c H locs 0 0 (MQ below (va_Qi (fun (r : Int32) (u : Nat × Int32 × Int32 × (Nat → Nat) × (Nat → Nat) × (Nat → Nat) × (Nat → Nat) × (Nat → Nat) × (Nat → Nat) × (Nat → Nat) × (Nat → Nat)) => r = (r_move (mR al) x y) ∧ (mR u.2.2.2.1, mH u.1 u.2.2.2.2.2.1) = n_move (mR al) (mH hq hy) x y) (cB G A (fun (u : Nat × Int32 × Int32 × (Nat → Nat) × (Nat → Nat) × (Nat → Nat) × (Nat → Nat) × (Nat → Nat) × (Nat → Nat) × (Nat → Nat) × (Nat → Nat)) => [(e0, .inr (6, [.ref ea, .ref ek, .ref eh, .int (nI u.1), .ref es, .ref ei, .ref el, .ref ew, .ref et, .ref er, .int u.2.1, .int u.2.2.1, .ref ed, .ref ep, .int pn, .int sp, .ref ex, .ref eu, .int rm, .int la])), (ea, .inl (gI G, 42, .inl (nA u.2.2.2.1))), (ek, .inl (gI G, 42, .inl (nA u.2.2.2.2.1))), (eh, .inl (gI G, 252, .inl (nA u.2.2.2.2.2.1))), (el, .inl (gI G, 12, .inl (nA u.2.2.2.2.2.2.1))), (ew, .inl (gI G, 12, .inl (nA u.2.2.2.2.2.2.2.1))), (et, .inl (gI G, 20, .inl (nA u.2.2.2.2.2.2.2.2.1))), (er, .inl (gI G, 20, .inl (nA u.2.2.2.2.2.2.2.2.2.1))), (ed, .inl (gI G, 20, .inl (nA u.2.2.2.2.2.2.2.2.2.2)))])) A) args s 0 0 A) (F0 m 71 ls []) := by
              intro n_71
              induction n_71 with
              | zero =>
                intro z t h0
                exact absurd h0 (Nat.not_lt_zero _)
              | succ n_71 ih_71 =>
                intro z t hm_71 hz hu H locs hP hD hS ls hl
                refine lv_iload hx hb dX6_move_71 (lv_at hl 0 rfl) ?_
                refine lv_aload_n hx hb dX6_move_73 rfl (lv_at hl 2 rfl) ?_
                refine z_get S K hP hX6_move_X6 0 rfl rfl 0 (by decide) kX6_move_1 rfl rfl dX6_move_74 ?_
                refine lv_iconst (v := nI 1) hx hb dX6_move_77 (by decide +kernel) ?_
                refine z_iald S K hP 1 rfl (by omega) (by decide) dX6_move_78 ?_
                refine z_top (y := nI (al 1)) (congrArg nI hM1) ?_
                refine zb_ge (tgt := 165) S dX6_move_79 (by decide) (by omega) (by omega) (fun c_79 => ?_) (fun c_79 => ?_)
                · skip
                  have hzn : z = al 1 := by omega
                  refine lv_aload_n hx hb dX6_move_165 rfl (lv_at hl 2 rfl) ?_
                  refine lv_iload_n hx hb dX6_move_166 rfl (lv_at hl 1 rfl) ?_
                  refine zcVi (rest := []) S K hP hD hS hA hl.1 (c_X6_changed l G e0 ea ek eh es ei el ew et er ed ep ex eu lf2_63 md2_63 pn sp rm la ka2_19 hy hq (nI t) hq6 hn hkk) rfl rfl gX6_move_X6_changed rfl eX6_changed [0, 2, 3] (by decide +kernel) rfl (fun _ => rfl) 6 0 rfl rfl rfl rfl rfl (Nat.le_of_ble_eq_true rfl) (Nat.le_of_ble_eq_true rfl) (Nat.le_of_ble_eq_true rfl) ⟨Nat.zero_le _, Nat.zero_le _⟩ dX6_move_167 (fun r_167 u_167 H locs hw_167 hP hD hS => ?_)
                  obtain ⟨hP, hD⟩ := mx_ok [some 0, none, some 1, some 2, none, none, none, none, none] (by decide +kernel) rfl rfl hP hD
                  obtain ⟨hq2_167, hy2_167⟩ := u_167
                  replace hw_167 : r_167 = ((nI t)) ∧ mH hq2_167 hy2_167 = pushH (mH hq hy) (mR ka2_19) := hw_167
                  obtain ⟨rfl, hw_167⟩ := hw_167
                  have hP : va_P (gD G) vwCl [(e0, .inr (6, [.ref ea, .ref ek, .ref eh, .int (nI hq2_167), .ref es, .ref ei, .ref el, .ref ew, .ref et, .ref er, .int lf2_63, .int md2_63, .ref ed, .ref ep, .int pn, .int sp, .ref ex, .ref eu, .int rm, .int la])), (ea, .inl (gI G, 42, .inl (nA al2_59))), (ek, .inl (gI G, 42, .inl (nA ka2_19))), (eh, .inl (gI G, 252, .inl (nA hy2_167))), (el, .inl (gI G, 12, .inl (nA le2_63))), (ew, .inl (gI G, 12, .inl (nA wh2_63))), (et, .inl (gI G, 20, .inl (nA ms2_63))), (er, .inl (gI G, 20, .inl (nA mr2_63))), (ed, .inl (gI G, 20, .inl (nA mh1)))] H := hP
                  have hD : va_D A [(e0, .inr (6, [.ref ea, .ref ek, .ref eh, .int (nI hq2_167), .ref es, .ref ei, .ref el, .ref ew, .ref et, .ref er, .int lf2_63, .int md2_63, .ref ed, .ref ep, .int pn, .int sp, .ref ex, .ref eu, .int rm, .int la])), (ea, .inl (gI G, 42, .inl (nA al2_59))), (ek, .inl (gI G, 42, .inl (nA ka2_19))), (eh, .inl (gI G, 252, .inl (nA hy2_167))), (el, .inl (gI G, 12, .inl (nA le2_63))), (ew, .inl (gI G, 12, .inl (nA wh2_63))), (et, .inl (gI G, 20, .inl (nA ms2_63))), (er, .inl (gI G, 20, .inl (nA mr2_63))), (ed, .inl (gI G, 20, .inl (nA mh1)))] := hD
                  refine z_top (y := (r_move (mR al) x y)) (mom_1 (h := (0, fun _ => R0)) (v := t) hi2 hk2 (show i < al 1 by omega) (show k < al 1 by omega) hn3 hw_59 (by rw [hu, hzn]; exact mth_ok hw_23 hw_63 hw_59 hh (by omega) (by omega))).1 ?_
                  exact z_iret S hrt hlk hP hD hS (hq2_167, lf2_63, md2_63, al2_59, ka2_19, hy2_167, le2_63, wh2_63, ms2_63, mr2_63, mh1) rfl ⟨rfl, (by rw [hw_167, hkR]; exact (mom_1 (v := t) hi2 hk2 (show i < al 1 by omega) (show k < al 1 by omega) hn3 hw_59 (by rw [hu, hzn]; exact mth_ok hw_23 hw_63 hw_59 hh (by omega) (by omega))).2)⟩ dX6_move_170
                · skip
                  refine lv_iload hx hb dX6_move_82 (lv_at hl 0 rfl) ?_
                  refine lv_iload_n hx hb dX6_move_84 rfl (lv_at hl 3 rfl) ?_
                  refine zb_ne (tgt := 92) S dX6_move_85 (by decide) (by omega) (by omega) (fun c_85 => ?_) (fun c_85 => ?_)
                  · skip
                    refine lv_iload_n hx hb dX6_move_92 rfl (lv_at hl 3 rfl) ?_
                    refine lv_iload hx hb dX6_move_93 (lv_at hl 0 rfl) ?_
                    refine zb_ge (tgt := 111) S dX6_move_95 (by decide) (by omega) (by omega) (fun c_95 => ?_) (fun c_95 => ?_)
                    · skip
                      refine lv_iload_n hx hb dX6_move_111 rfl (lv_at hl 4 rfl) ?_
                      refine lv_iload hx hb dX6_move_112 (lv_at hl 0 rfl) ?_
                      refine zb_gt (tgt := 130) S dX6_move_114 (by decide) (by omega) (by omega) (fun c_114 => ?_) (fun c_114 => ?_)
                      · skip
                        refine lv_iload hx hb dX6_move_130 (lv_at hl 0 rfl) ?_
                        refine lv_istore (lv' := [(5, .int (nI z)), (4, .int (nI z)), (3, .int (nI t)), (0, .ref e0), (1, .int (nI i)), (2, .int (nI k))]) hx hb dX6_move_132 hl (by decide) rfl (fun ls hl => ?_)
                        have hth : thF i k z = z := by unfold thF; (repeat' split) <;> omega
                        have htl := thF_lt (i := i) (k := k) (r := z) (n := al 1) (by omega) (by omega) (by omega)
                        rw [hth] at htl
                        have hml := mv_le hw_63 (show z < al2_59 1 by omega)
                        have hmh : mh1 z ≤ 2 := by rw [hh z (by omega)]; exact mv_le hw_23 (by omega)
                        refine lv_iload_n hx hb dX6_move_134 rfl (lv_at hl 2 rfl) ?_
                        refine lv_aload_n hx hb dX6_move_135 rfl (lv_at hl 3 rfl) ?_
                        refine z_get S K hP hX6_move_X6 0 rfl rfl 8 (by decide) kX6_move_3 rfl rfl dX6_move_136 ?_
                        refine lv_iload hx hb dX6_move_139 (lv_at hl 0 rfl) ?_
                        refine z_iald S K hP 6 rfl (by omega) (by decide) dX6_move_141 ?_
                        refine lv_aload_n hx hb dX6_move_142 rfl (lv_at hl 3 rfl) ?_
                        refine z_get S K hP hX6_move_X6 0 rfl rfl 12 (by decide) kX6_move_2 rfl rfl dX6_move_143 ?_
                        refine lv_iload hx hb dX6_move_146 (lv_at hl 1 rfl) ?_
                        refine z_iald S K hP 8 rfl (by omega) (by decide) dX6_move_148 ?_
                        refine zb_ne (tgt := 156) S dX6_move_149 (by decide) (by omega) (by omega) (fun c_149 => ?_) (fun c_149 => ?_)
                        · skip
                          refine lv_iconst (v := nI 1) hx hb dX6_move_156 (by decide +kernel) ?_
                          refine zi_add S dX6_move_157 ?_
                          refine lv_istore_n (lv' := [(3, .int (nI (t + 1))), (5, .int (nI z)), (4, .int (nI z)), (0, .ref e0), (1, .int (nI i)), (2, .int (nI k))]) hx hb dX6_move_158 rfl hl (by decide) rfl (fun ls hl => ?_)
                          refine lv_iinc (v := (nI (z + 1))) (lv' := [(4, .int (nI (z + 1))), (3, .int (nI (t + 1))), (5, .int (nI z)), (0, .ref e0), (1, .int (nI i)), (2, .int (nI k))]) hx hb dX6_move_159 hl (k := 2) rfl (z_i1 _) (by decide) rfl (fun ls hl => ?_)
                          refine lv_goto (tgt := 71) hx hb dX6_move_162 (by decide) ?_
                          exact ih_71 (z + 1) (t + 1) (by omega) (by omega) (by rw [hu]; first | exact mth_t hth c_149 | exact mth_f hth c_149) _ _ hP hD hS _ (lv_sub hl [0, 1, 3, 4, 5] rfl)
                        · skip
                          refine lv_iconst (v := nI 0) hx hb dX6_move_152 (by decide +kernel) ?_
                          refine lv_goto (tgt := 157) hx hb dX6_move_153 (by decide) ?_
                          refine zi_add S dX6_move_157 ?_
                          refine lv_istore_n (lv' := [(3, .int (nI (t + 0))), (5, .int (nI z)), (4, .int (nI z)), (0, .ref e0), (1, .int (nI i)), (2, .int (nI k))]) hx hb dX6_move_158 rfl hl (by decide) rfl (fun ls hl => ?_)
                          refine lv_iinc (v := (nI (z + 1))) (lv' := [(4, .int (nI (z + 1))), (3, .int (nI (t + 0))), (5, .int (nI z)), (0, .ref e0), (1, .int (nI i)), (2, .int (nI k))]) hx hb dX6_move_159 hl (k := 2) rfl (z_i1 _) (by decide) rfl (fun ls hl => ?_)
                          refine lv_goto (tgt := 71) hx hb dX6_move_162 (by decide) ?_
                          exact ih_71 (z + 1) (t + 0) (by omega) (by omega) (by rw [hu]; first | exact mth_t hth c_149 | exact mth_f hth c_149) _ _ hP hD hS _ (lv_sub hl [0, 1, 3, 4, 5] rfl)
                      · skip
                        refine lv_iload hx hb dX6_move_117 (lv_at hl 0 rfl) ?_
                        refine lv_iload_n hx hb dX6_move_119 rfl (lv_at hl 3 rfl) ?_
                        refine zb_ge (tgt := 130) S dX6_move_120 (by decide) (by omega) (by omega) (fun c_120 => ?_) (fun c_120 => ?_)
                        · skip
                          refine lv_iload hx hb dX6_move_130 (lv_at hl 0 rfl) ?_
                          refine lv_istore (lv' := [(5, .int (nI z)), (4, .int (nI z)), (3, .int (nI t)), (0, .ref e0), (1, .int (nI i)), (2, .int (nI k))]) hx hb dX6_move_132 hl (by decide) rfl (fun ls hl => ?_)
                          have hth : thF i k z = z := by unfold thF; (repeat' split) <;> omega
                          have htl := thF_lt (i := i) (k := k) (r := z) (n := al 1) (by omega) (by omega) (by omega)
                          rw [hth] at htl
                          have hml := mv_le hw_63 (show z < al2_59 1 by omega)
                          have hmh : mh1 z ≤ 2 := by rw [hh z (by omega)]; exact mv_le hw_23 (by omega)
                          refine lv_iload_n hx hb dX6_move_134 rfl (lv_at hl 2 rfl) ?_
                          refine lv_aload_n hx hb dX6_move_135 rfl (lv_at hl 3 rfl) ?_
                          refine z_get S K hP hX6_move_X6 0 rfl rfl 8 (by decide) kX6_move_3 rfl rfl dX6_move_136 ?_
                          refine lv_iload hx hb dX6_move_139 (lv_at hl 0 rfl) ?_
                          refine z_iald S K hP 6 rfl (by omega) (by decide) dX6_move_141 ?_
                          refine lv_aload_n hx hb dX6_move_142 rfl (lv_at hl 3 rfl) ?_
                          refine z_get S K hP hX6_move_X6 0 rfl rfl 12 (by decide) kX6_move_2 rfl rfl dX6_move_143 ?_
                          refine lv_iload hx hb dX6_move_146 (lv_at hl 1 rfl) ?_
                          refine z_iald S K hP 8 rfl (by omega) (by decide) dX6_move_148 ?_
                          refine zb_ne (tgt := 156) S dX6_move_149 (by decide) (by omega) (by omega) (fun c_149 => ?_) (fun c_149 => ?_)
                          · skip
                            refine lv_iconst (v := nI 1) hx hb dX6_move_156 (by decide +kernel) ?_
                            refine zi_add S dX6_move_157 ?_
                            refine lv_istore_n (lv' := [(3, .int (nI (t + 1))), (5, .int (nI z)), (4, .int (nI z)), (0, .ref e0), (1, .int (nI i)), (2, .int (nI k))]) hx hb dX6_move_158 rfl hl (by decide) rfl (fun ls hl => ?_)
                            refine lv_iinc (v := (nI (z + 1))) (lv' := [(4, .int (nI (z + 1))), (3, .int (nI (t + 1))), (5, .int (nI z)), (0, .ref e0), (1, .int (nI i)), (2, .int (nI k))]) hx hb dX6_move_159 hl (k := 2) rfl (z_i1 _) (by decide) rfl (fun ls hl => ?_)
                            refine lv_goto (tgt := 71) hx hb dX6_move_162 (by decide) ?_
                            exact ih_71 (z + 1) (t + 1) (by omega) (by omega) (by rw [hu]; first | exact mth_t hth c_149 | exact mth_f hth c_149) _ _ hP hD hS _ (lv_sub hl [0, 1, 3, 4, 5] rfl)
                          · skip
                            refine lv_iconst (v := nI 0) hx hb dX6_move_152 (by decide +kernel) ?_
                            refine lv_goto (tgt := 157) hx hb dX6_move_153 (by decide) ?_
                            refine zi_add S dX6_move_157 ?_
                            refine lv_istore_n (lv' := [(3, .int (nI (t + 0))), (5, .int (nI z)), (4, .int (nI z)), (0, .ref e0), (1, .int (nI i)), (2, .int (nI k))]) hx hb dX6_move_158 rfl hl (by decide) rfl (fun ls hl => ?_)
                            refine lv_iinc (v := (nI (z + 1))) (lv' := [(4, .int (nI (z + 1))), (3, .int (nI (t + 0))), (5, .int (nI z)), (0, .ref e0), (1, .int (nI i)), (2, .int (nI k))]) hx hb dX6_move_159 hl (k := 2) rfl (z_i1 _) (by decide) rfl (fun ls hl => ?_)
                            refine lv_goto (tgt := 71) hx hb dX6_move_162 (by decide) ?_
                            exact ih_71 (z + 1) (t + 0) (by omega) (by omega) (by rw [hu]; first | exact mth_t hth c_149 | exact mth_f hth c_149) _ _ hP hD hS _ (lv_sub hl [0, 1, 3, 4, 5] rfl)
                        · skip
                          refine lv_iload hx hb dX6_move_123 (lv_at hl 0 rfl) ?_
                          refine lv_iconst (v := nI 1) hx hb dX6_move_125 (by decide +kernel) ?_
                          refine zi_add S dX6_move_126 ?_
                          refine lv_goto (tgt := 132) hx hb dX6_move_127 (by decide) ?_
                          refine lv_istore (lv' := [(5, .int (nI (z + 1))), (4, .int (nI z)), (3, .int (nI t)), (0, .ref e0), (1, .int (nI i)), (2, .int (nI k))]) hx hb dX6_move_132 hl (by decide) rfl (fun ls hl => ?_)
                          have hth : thF i k z = z + 1 := by unfold thF; (repeat' split) <;> omega
                          have htl := thF_lt (i := i) (k := k) (r := z) (n := al 1) (by omega) (by omega) (by omega)
                          rw [hth] at htl
                          have hml := mv_le hw_63 (show z + 1 < al2_59 1 by omega)
                          have hmh : mh1 z ≤ 2 := by rw [hh z (by omega)]; exact mv_le hw_23 (by omega)
                          refine lv_iload_n hx hb dX6_move_134 rfl (lv_at hl 2 rfl) ?_
                          refine lv_aload_n hx hb dX6_move_135 rfl (lv_at hl 3 rfl) ?_
                          refine z_get S K hP hX6_move_X6 0 rfl rfl 8 (by decide) kX6_move_3 rfl rfl dX6_move_136 ?_
                          refine lv_iload hx hb dX6_move_139 (lv_at hl 0 rfl) ?_
                          refine z_iald S K hP 6 rfl (by omega) (by decide) dX6_move_141 ?_
                          refine lv_aload_n hx hb dX6_move_142 rfl (lv_at hl 3 rfl) ?_
                          refine z_get S K hP hX6_move_X6 0 rfl rfl 12 (by decide) kX6_move_2 rfl rfl dX6_move_143 ?_
                          refine lv_iload hx hb dX6_move_146 (lv_at hl 1 rfl) ?_
                          refine z_iald S K hP 8 rfl (by omega) (by decide) dX6_move_148 ?_
                          refine zb_ne (tgt := 156) S dX6_move_149 (by decide) (by omega) (by omega) (fun c_149 => ?_) (fun c_149 => ?_)
                          · skip
                            refine lv_iconst (v := nI 1) hx hb dX6_move_156 (by decide +kernel) ?_
                            refine zi_add S dX6_move_157 ?_
                            refine lv_istore_n (lv' := [(3, .int (nI (t + 1))), (5, .int (nI (z + 1))), (4, .int (nI z)), (0, .ref e0), (1, .int (nI i)), (2, .int (nI k))]) hx hb dX6_move_158 rfl hl (by decide) rfl (fun ls hl => ?_)
                            refine lv_iinc (v := (nI (z + 1))) (lv' := [(4, .int (nI (z + 1))), (3, .int (nI (t + 1))), (5, .int (nI (z + 1))), (0, .ref e0), (1, .int (nI i)), (2, .int (nI k))]) hx hb dX6_move_159 hl (k := 2) rfl (z_i1 _) (by decide) rfl (fun ls hl => ?_)
                            refine lv_goto (tgt := 71) hx hb dX6_move_162 (by decide) ?_
                            exact ih_71 (z + 1) (t + 1) (by omega) (by omega) (by rw [hu]; first | exact mth_t hth c_149 | exact mth_f hth c_149) _ _ hP hD hS _ (lv_sub hl [0, 1, 3, 4, 5] rfl)
                          · skip
                            refine lv_iconst (v := nI 0) hx hb dX6_move_152 (by decide +kernel) ?_
                            refine lv_goto (tgt := 157) hx hb dX6_move_153 (by decide) ?_
                            refine zi_add S dX6_move_157 ?_
                            refine lv_istore_n (lv' := [(3, .int (nI (t + 0))), (5, .int (nI (z + 1))), (4, .int (nI z)), (0, .ref e0), (1, .int (nI i)), (2, .int (nI k))]) hx hb dX6_move_158 rfl hl (by decide) rfl (fun ls hl => ?_)
                            refine lv_iinc (v := (nI (z + 1))) (lv' := [(4, .int (nI (z + 1))), (3, .int (nI (t + 0))), (5, .int (nI (z + 1))), (0, .ref e0), (1, .int (nI i)), (2, .int (nI k))]) hx hb dX6_move_159 hl (k := 2) rfl (z_i1 _) (by decide) rfl (fun ls hl => ?_)
                            refine lv_goto (tgt := 71) hx hb dX6_move_162 (by decide) ?_
                            exact ih_71 (z + 1) (t + 0) (by omega) (by omega) (by rw [hu]; first | exact mth_t hth c_149 | exact mth_f hth c_149) _ _ hP hD hS _ (lv_sub hl [0, 1, 3, 4, 5] rfl)
                    · skip
                      refine lv_iload hx hb dX6_move_98 (lv_at hl 0 rfl) ?_
                      refine lv_iload_n hx hb dX6_move_100 rfl (lv_at hl 4 rfl) ?_
                      refine zb_gt (tgt := 111) S dX6_move_101 (by decide) (by omega) (by omega) (fun c_101 => ?_) (fun c_101 => ?_)
                      · skip
                        refine lv_iload_n hx hb dX6_move_111 rfl (lv_at hl 4 rfl) ?_
                        refine lv_iload hx hb dX6_move_112 (lv_at hl 0 rfl) ?_
                        refine zb_gt (tgt := 130) S dX6_move_114 (by decide) (by omega) (by omega) (fun c_114 => ?_) (fun c_114 => ?_)
                        · skip
                          refine lv_iload hx hb dX6_move_130 (lv_at hl 0 rfl) ?_
                          refine lv_istore (lv' := [(5, .int (nI z)), (4, .int (nI z)), (3, .int (nI t)), (0, .ref e0), (1, .int (nI i)), (2, .int (nI k))]) hx hb dX6_move_132 hl (by decide) rfl (fun ls hl => ?_)
                          have hth : thF i k z = z := by unfold thF; (repeat' split) <;> omega
                          have htl := thF_lt (i := i) (k := k) (r := z) (n := al 1) (by omega) (by omega) (by omega)
                          rw [hth] at htl
                          have hml := mv_le hw_63 (show z < al2_59 1 by omega)
                          have hmh : mh1 z ≤ 2 := by rw [hh z (by omega)]; exact mv_le hw_23 (by omega)
                          refine lv_iload_n hx hb dX6_move_134 rfl (lv_at hl 2 rfl) ?_
                          refine lv_aload_n hx hb dX6_move_135 rfl (lv_at hl 3 rfl) ?_
                          refine z_get S K hP hX6_move_X6 0 rfl rfl 8 (by decide) kX6_move_3 rfl rfl dX6_move_136 ?_
                          refine lv_iload hx hb dX6_move_139 (lv_at hl 0 rfl) ?_
                          refine z_iald S K hP 6 rfl (by omega) (by decide) dX6_move_141 ?_
                          refine lv_aload_n hx hb dX6_move_142 rfl (lv_at hl 3 rfl) ?_
                          refine z_get S K hP hX6_move_X6 0 rfl rfl 12 (by decide) kX6_move_2 rfl rfl dX6_move_143 ?_
                          refine lv_iload hx hb dX6_move_146 (lv_at hl 1 rfl) ?_
                          refine z_iald S K hP 8 rfl (by omega) (by decide) dX6_move_148 ?_
                          refine zb_ne (tgt := 156) S dX6_move_149 (by decide) (by omega) (by omega) (fun c_149 => ?_) (fun c_149 => ?_)
                          · skip
                            refine lv_iconst (v := nI 1) hx hb dX6_move_156 (by decide +kernel) ?_
                            refine zi_add S dX6_move_157 ?_
                            refine lv_istore_n (lv' := [(3, .int (nI (t + 1))), (5, .int (nI z)), (4, .int (nI z)), (0, .ref e0), (1, .int (nI i)), (2, .int (nI k))]) hx hb dX6_move_158 rfl hl (by decide) rfl (fun ls hl => ?_)
                            refine lv_iinc (v := (nI (z + 1))) (lv' := [(4, .int (nI (z + 1))), (3, .int (nI (t + 1))), (5, .int (nI z)), (0, .ref e0), (1, .int (nI i)), (2, .int (nI k))]) hx hb dX6_move_159 hl (k := 2) rfl (z_i1 _) (by decide) rfl (fun ls hl => ?_)
                            refine lv_goto (tgt := 71) hx hb dX6_move_162 (by decide) ?_
                            exact ih_71 (z + 1) (t + 1) (by omega) (by omega) (by rw [hu]; first | exact mth_t hth c_149 | exact mth_f hth c_149) _ _ hP hD hS _ (lv_sub hl [0, 1, 3, 4, 5] rfl)
                          · skip
                            refine lv_iconst (v := nI 0) hx hb dX6_move_152 (by decide +kernel) ?_
                            refine lv_goto (tgt := 157) hx hb dX6_move_153 (by decide) ?_
                            refine zi_add S dX6_move_157 ?_
                            refine lv_istore_n (lv' := [(3, .int (nI (t + 0))), (5, .int (nI z)), (4, .int (nI z)), (0, .ref e0), (1, .int (nI i)), (2, .int (nI k))]) hx hb dX6_move_158 rfl hl (by decide) rfl (fun ls hl => ?_)
                            refine lv_iinc (v := (nI (z + 1))) (lv' := [(4, .int (nI (z + 1))), (3, .int (nI (t + 0))), (5, .int (nI z)), (0, .ref e0), (1, .int (nI i)), (2, .int (nI k))]) hx hb dX6_move_159 hl (k := 2) rfl (z_i1 _) (by decide) rfl (fun ls hl => ?_)
                            refine lv_goto (tgt := 71) hx hb dX6_move_162 (by decide) ?_
                            exact ih_71 (z + 1) (t + 0) (by omega) (by omega) (by rw [hu]; first | exact mth_t hth c_149 | exact mth_f hth c_149) _ _ hP hD hS _ (lv_sub hl [0, 1, 3, 4, 5] rfl)
                        · skip
                          refine lv_iload hx hb dX6_move_117 (lv_at hl 0 rfl) ?_
                          refine lv_iload_n hx hb dX6_move_119 rfl (lv_at hl 3 rfl) ?_
                          refine zb_ge (tgt := 130) S dX6_move_120 (by decide) (by omega) (by omega) (fun c_120 => ?_) (fun c_120 => ?_)
                          · skip
                            refine lv_iload hx hb dX6_move_130 (lv_at hl 0 rfl) ?_
                            refine lv_istore (lv' := [(5, .int (nI z)), (4, .int (nI z)), (3, .int (nI t)), (0, .ref e0), (1, .int (nI i)), (2, .int (nI k))]) hx hb dX6_move_132 hl (by decide) rfl (fun ls hl => ?_)
                            have hth : thF i k z = z := by unfold thF; (repeat' split) <;> omega
                            have htl := thF_lt (i := i) (k := k) (r := z) (n := al 1) (by omega) (by omega) (by omega)
                            rw [hth] at htl
                            have hml := mv_le hw_63 (show z < al2_59 1 by omega)
                            have hmh : mh1 z ≤ 2 := by rw [hh z (by omega)]; exact mv_le hw_23 (by omega)
                            refine lv_iload_n hx hb dX6_move_134 rfl (lv_at hl 2 rfl) ?_
                            refine lv_aload_n hx hb dX6_move_135 rfl (lv_at hl 3 rfl) ?_
                            refine z_get S K hP hX6_move_X6 0 rfl rfl 8 (by decide) kX6_move_3 rfl rfl dX6_move_136 ?_
                            refine lv_iload hx hb dX6_move_139 (lv_at hl 0 rfl) ?_
                            refine z_iald S K hP 6 rfl (by omega) (by decide) dX6_move_141 ?_
                            refine lv_aload_n hx hb dX6_move_142 rfl (lv_at hl 3 rfl) ?_
                            refine z_get S K hP hX6_move_X6 0 rfl rfl 12 (by decide) kX6_move_2 rfl rfl dX6_move_143 ?_
                            refine lv_iload hx hb dX6_move_146 (lv_at hl 1 rfl) ?_
                            refine z_iald S K hP 8 rfl (by omega) (by decide) dX6_move_148 ?_
                            refine zb_ne (tgt := 156) S dX6_move_149 (by decide) (by omega) (by omega) (fun c_149 => ?_) (fun c_149 => ?_)
                            · skip
                              refine lv_iconst (v := nI 1) hx hb dX6_move_156 (by decide +kernel) ?_
                              refine zi_add S dX6_move_157 ?_
                              refine lv_istore_n (lv' := [(3, .int (nI (t + 1))), (5, .int (nI z)), (4, .int (nI z)), (0, .ref e0), (1, .int (nI i)), (2, .int (nI k))]) hx hb dX6_move_158 rfl hl (by decide) rfl (fun ls hl => ?_)
                              refine lv_iinc (v := (nI (z + 1))) (lv' := [(4, .int (nI (z + 1))), (3, .int (nI (t + 1))), (5, .int (nI z)), (0, .ref e0), (1, .int (nI i)), (2, .int (nI k))]) hx hb dX6_move_159 hl (k := 2) rfl (z_i1 _) (by decide) rfl (fun ls hl => ?_)
                              refine lv_goto (tgt := 71) hx hb dX6_move_162 (by decide) ?_
                              exact ih_71 (z + 1) (t + 1) (by omega) (by omega) (by rw [hu]; first | exact mth_t hth c_149 | exact mth_f hth c_149) _ _ hP hD hS _ (lv_sub hl [0, 1, 3, 4, 5] rfl)
                            · skip
                              refine lv_iconst (v := nI 0) hx hb dX6_move_152 (by decide +kernel) ?_
                              refine lv_goto (tgt := 157) hx hb dX6_move_153 (by decide) ?_
                              refine zi_add S dX6_move_157 ?_
                              refine lv_istore_n (lv' := [(3, .int (nI (t + 0))), (5, .int (nI z)), (4, .int (nI z)), (0, .ref e0), (1, .int (nI i)), (2, .int (nI k))]) hx hb dX6_move_158 rfl hl (by decide) rfl (fun ls hl => ?_)
                              refine lv_iinc (v := (nI (z + 1))) (lv' := [(4, .int (nI (z + 1))), (3, .int (nI (t + 0))), (5, .int (nI z)), (0, .ref e0), (1, .int (nI i)), (2, .int (nI k))]) hx hb dX6_move_159 hl (k := 2) rfl (z_i1 _) (by decide) rfl (fun ls hl => ?_)
                              refine lv_goto (tgt := 71) hx hb dX6_move_162 (by decide) ?_
                              exact ih_71 (z + 1) (t + 0) (by omega) (by omega) (by rw [hu]; first | exact mth_t hth c_149 | exact mth_f hth c_149) _ _ hP hD hS _ (lv_sub hl [0, 1, 3, 4, 5] rfl)
                          · skip
                            refine lv_iload hx hb dX6_move_123 (lv_at hl 0 rfl) ?_
                            refine lv_iconst (v := nI 1) hx hb dX6_move_125 (by decide +kernel) ?_
                            refine zi_add S dX6_move_126 ?_
                            refine lv_goto (tgt := 132) hx hb dX6_move_127 (by decide) ?_
                            refine lv_istore (lv' := [(5, .int (nI (z + 1))), (4, .int (nI z)), (3, .int (nI t)), (0, .ref e0), (1, .int (nI i)), (2, .int (nI k))]) hx hb dX6_move_132 hl (by decide) rfl (fun ls hl => ?_)
                            have hth : thF i k z = z + 1 := by unfold thF; (repeat' split) <;> omega
                            have htl := thF_lt (i := i) (k := k) (r := z) (n := al 1) (by omega) (by omega) (by omega)
                            rw [hth] at htl
                            have hml := mv_le hw_63 (show z + 1 < al2_59 1 by omega)
                            have hmh : mh1 z ≤ 2 := by rw [hh z (by omega)]; exact mv_le hw_23 (by omega)
                            refine lv_iload_n hx hb dX6_move_134 rfl (lv_at hl 2 rfl) ?_
                            refine lv_aload_n hx hb dX6_move_135 rfl (lv_at hl 3 rfl) ?_
                            refine z_get S K hP hX6_move_X6 0 rfl rfl 8 (by decide) kX6_move_3 rfl rfl dX6_move_136 ?_
                            refine lv_iload hx hb dX6_move_139 (lv_at hl 0 rfl) ?_
                            refine z_iald S K hP 6 rfl (by omega) (by decide) dX6_move_141 ?_
                            refine lv_aload_n hx hb dX6_move_142 rfl (lv_at hl 3 rfl) ?_
                            refine z_get S K hP hX6_move_X6 0 rfl rfl 12 (by decide) kX6_move_2 rfl rfl dX6_move_143 ?_
                            refine lv_iload hx hb dX6_move_146 (lv_at hl 1 rfl) ?_
                            refine z_iald S K hP 8 rfl (by omega) (by decide) dX6_move_148 ?_
                            refine zb_ne (tgt := 156) S dX6_move_149 (by decide) (by omega) (by omega) (fun c_149 => ?_) (fun c_149 => ?_)
                            · skip
                              refine lv_iconst (v := nI 1) hx hb dX6_move_156 (by decide +kernel) ?_
                              refine zi_add S dX6_move_157 ?_
                              refine lv_istore_n (lv' := [(3, .int (nI (t + 1))), (5, .int (nI (z + 1))), (4, .int (nI z)), (0, .ref e0), (1, .int (nI i)), (2, .int (nI k))]) hx hb dX6_move_158 rfl hl (by decide) rfl (fun ls hl => ?_)
                              refine lv_iinc (v := (nI (z + 1))) (lv' := [(4, .int (nI (z + 1))), (3, .int (nI (t + 1))), (5, .int (nI (z + 1))), (0, .ref e0), (1, .int (nI i)), (2, .int (nI k))]) hx hb dX6_move_159 hl (k := 2) rfl (z_i1 _) (by decide) rfl (fun ls hl => ?_)
                              refine lv_goto (tgt := 71) hx hb dX6_move_162 (by decide) ?_
                              exact ih_71 (z + 1) (t + 1) (by omega) (by omega) (by rw [hu]; first | exact mth_t hth c_149 | exact mth_f hth c_149) _ _ hP hD hS _ (lv_sub hl [0, 1, 3, 4, 5] rfl)
                            · skip
                              refine lv_iconst (v := nI 0) hx hb dX6_move_152 (by decide +kernel) ?_
                              refine lv_goto (tgt := 157) hx hb dX6_move_153 (by decide) ?_
                              refine zi_add S dX6_move_157 ?_
                              refine lv_istore_n (lv' := [(3, .int (nI (t + 0))), (5, .int (nI (z + 1))), (4, .int (nI z)), (0, .ref e0), (1, .int (nI i)), (2, .int (nI k))]) hx hb dX6_move_158 rfl hl (by decide) rfl (fun ls hl => ?_)
                              refine lv_iinc (v := (nI (z + 1))) (lv' := [(4, .int (nI (z + 1))), (3, .int (nI (t + 0))), (5, .int (nI (z + 1))), (0, .ref e0), (1, .int (nI i)), (2, .int (nI k))]) hx hb dX6_move_159 hl (k := 2) rfl (z_i1 _) (by decide) rfl (fun ls hl => ?_)
                              refine lv_goto (tgt := 71) hx hb dX6_move_162 (by decide) ?_
                              exact ih_71 (z + 1) (t + 0) (by omega) (by omega) (by rw [hu]; first | exact mth_t hth c_149 | exact mth_f hth c_149) _ _ hP hD hS _ (lv_sub hl [0, 1, 3, 4, 5] rfl)
                      · skip
                        refine lv_iload hx hb dX6_move_104 (lv_at hl 0 rfl) ?_
                        refine lv_iconst (v := nI 1) hx hb dX6_move_106 (by decide +kernel) ?_
                        refine zi_sub S dX6_move_107 (by omega) ?_
                        refine lv_goto (tgt := 132) hx hb dX6_move_108 (by decide) ?_
                        refine lv_istore (lv' := [(5, .int (nI (z - 1))), (4, .int (nI z)), (3, .int (nI t)), (0, .ref e0), (1, .int (nI i)), (2, .int (nI k))]) hx hb dX6_move_132 hl (by decide) rfl (fun ls hl => ?_)
                        have hth : thF i k z = z - 1 := by unfold thF; (repeat' split) <;> omega
                        have htl := thF_lt (i := i) (k := k) (r := z) (n := al 1) (by omega) (by omega) (by omega)
                        rw [hth] at htl
                        have hml := mv_le hw_63 (show z - 1 < al2_59 1 by omega)
                        have hmh : mh1 z ≤ 2 := by rw [hh z (by omega)]; exact mv_le hw_23 (by omega)
                        refine lv_iload_n hx hb dX6_move_134 rfl (lv_at hl 2 rfl) ?_
                        refine lv_aload_n hx hb dX6_move_135 rfl (lv_at hl 3 rfl) ?_
                        refine z_get S K hP hX6_move_X6 0 rfl rfl 8 (by decide) kX6_move_3 rfl rfl dX6_move_136 ?_
                        refine lv_iload hx hb dX6_move_139 (lv_at hl 0 rfl) ?_
                        refine z_iald S K hP 6 rfl (by omega) (by decide) dX6_move_141 ?_
                        refine lv_aload_n hx hb dX6_move_142 rfl (lv_at hl 3 rfl) ?_
                        refine z_get S K hP hX6_move_X6 0 rfl rfl 12 (by decide) kX6_move_2 rfl rfl dX6_move_143 ?_
                        refine lv_iload hx hb dX6_move_146 (lv_at hl 1 rfl) ?_
                        refine z_iald S K hP 8 rfl (by omega) (by decide) dX6_move_148 ?_
                        refine zb_ne (tgt := 156) S dX6_move_149 (by decide) (by omega) (by omega) (fun c_149 => ?_) (fun c_149 => ?_)
                        · skip
                          refine lv_iconst (v := nI 1) hx hb dX6_move_156 (by decide +kernel) ?_
                          refine zi_add S dX6_move_157 ?_
                          refine lv_istore_n (lv' := [(3, .int (nI (t + 1))), (5, .int (nI (z - 1))), (4, .int (nI z)), (0, .ref e0), (1, .int (nI i)), (2, .int (nI k))]) hx hb dX6_move_158 rfl hl (by decide) rfl (fun ls hl => ?_)
                          refine lv_iinc (v := (nI (z + 1))) (lv' := [(4, .int (nI (z + 1))), (3, .int (nI (t + 1))), (5, .int (nI (z - 1))), (0, .ref e0), (1, .int (nI i)), (2, .int (nI k))]) hx hb dX6_move_159 hl (k := 2) rfl (z_i1 _) (by decide) rfl (fun ls hl => ?_)
                          refine lv_goto (tgt := 71) hx hb dX6_move_162 (by decide) ?_
                          exact ih_71 (z + 1) (t + 1) (by omega) (by omega) (by rw [hu]; first | exact mth_t hth c_149 | exact mth_f hth c_149) _ _ hP hD hS _ (lv_sub hl [0, 1, 3, 4, 5] rfl)
                        · skip
                          refine lv_iconst (v := nI 0) hx hb dX6_move_152 (by decide +kernel) ?_
                          refine lv_goto (tgt := 157) hx hb dX6_move_153 (by decide) ?_
                          refine zi_add S dX6_move_157 ?_
                          refine lv_istore_n (lv' := [(3, .int (nI (t + 0))), (5, .int (nI (z - 1))), (4, .int (nI z)), (0, .ref e0), (1, .int (nI i)), (2, .int (nI k))]) hx hb dX6_move_158 rfl hl (by decide) rfl (fun ls hl => ?_)
                          refine lv_iinc (v := (nI (z + 1))) (lv' := [(4, .int (nI (z + 1))), (3, .int (nI (t + 0))), (5, .int (nI (z - 1))), (0, .ref e0), (1, .int (nI i)), (2, .int (nI k))]) hx hb dX6_move_159 hl (k := 2) rfl (z_i1 _) (by decide) rfl (fun ls hl => ?_)
                          refine lv_goto (tgt := 71) hx hb dX6_move_162 (by decide) ?_
                          exact ih_71 (z + 1) (t + 0) (by omega) (by omega) (by rw [hu]; first | exact mth_t hth c_149 | exact mth_f hth c_149) _ _ hP hD hS _ (lv_sub hl [0, 1, 3, 4, 5] rfl)
                  · skip
                    refine lv_iload_n hx hb dX6_move_88 rfl (lv_at hl 4 rfl) ?_
                    refine lv_goto (tgt := 132) hx hb dX6_move_89 (by decide) ?_
                    refine lv_istore (lv' := [(5, .int (nI k)), (4, .int (nI z)), (3, .int (nI t)), (0, .ref e0), (1, .int (nI i)), (2, .int (nI k))]) hx hb dX6_move_132 hl (by decide) rfl (fun ls hl => ?_)
                    have hth : thF i k z = k := by unfold thF; (repeat' split) <;> omega
                    have htl := thF_lt (i := i) (k := k) (r := z) (n := al 1) (by omega) (by omega) (by omega)
                    rw [hth] at htl
                    have hml := mv_le hw_63 (show k < al2_59 1 by omega)
                    have hmh : mh1 z ≤ 2 := by rw [hh z (by omega)]; exact mv_le hw_23 (by omega)
                    refine lv_iload_n hx hb dX6_move_134 rfl (lv_at hl 2 rfl) ?_
                    refine lv_aload_n hx hb dX6_move_135 rfl (lv_at hl 3 rfl) ?_
                    refine z_get S K hP hX6_move_X6 0 rfl rfl 8 (by decide) kX6_move_3 rfl rfl dX6_move_136 ?_
                    refine lv_iload hx hb dX6_move_139 (lv_at hl 0 rfl) ?_
                    refine z_iald S K hP 6 rfl (by omega) (by decide) dX6_move_141 ?_
                    refine lv_aload_n hx hb dX6_move_142 rfl (lv_at hl 3 rfl) ?_
                    refine z_get S K hP hX6_move_X6 0 rfl rfl 12 (by decide) kX6_move_2 rfl rfl dX6_move_143 ?_
                    refine lv_iload hx hb dX6_move_146 (lv_at hl 1 rfl) ?_
                    refine z_iald S K hP 8 rfl (by omega) (by decide) dX6_move_148 ?_
                    refine zb_ne (tgt := 156) S dX6_move_149 (by decide) (by omega) (by omega) (fun c_149 => ?_) (fun c_149 => ?_)
                    · skip
                      refine lv_iconst (v := nI 1) hx hb dX6_move_156 (by decide +kernel) ?_
                      refine zi_add S dX6_move_157 ?_
                      refine lv_istore_n (lv' := [(3, .int (nI (t + 1))), (5, .int (nI k)), (4, .int (nI z)), (0, .ref e0), (1, .int (nI i)), (2, .int (nI k))]) hx hb dX6_move_158 rfl hl (by decide) rfl (fun ls hl => ?_)
                      refine lv_iinc (v := (nI (z + 1))) (lv' := [(4, .int (nI (z + 1))), (3, .int (nI (t + 1))), (5, .int (nI k)), (0, .ref e0), (1, .int (nI i)), (2, .int (nI k))]) hx hb dX6_move_159 hl (k := 2) rfl (z_i1 _) (by decide) rfl (fun ls hl => ?_)
                      refine lv_goto (tgt := 71) hx hb dX6_move_162 (by decide) ?_
                      exact ih_71 (z + 1) (t + 1) (by omega) (by omega) (by rw [hu]; first | exact mth_t hth c_149 | exact mth_f hth c_149) _ _ hP hD hS _ (lv_sub hl [0, 1, 3, 4, 5] rfl)
                    · skip
                      refine lv_iconst (v := nI 0) hx hb dX6_move_152 (by decide +kernel) ?_
                      refine lv_goto (tgt := 157) hx hb dX6_move_153 (by decide) ?_
                      refine zi_add S dX6_move_157 ?_
                      refine lv_istore_n (lv' := [(3, .int (nI (t + 0))), (5, .int (nI k)), (4, .int (nI z)), (0, .ref e0), (1, .int (nI i)), (2, .int (nI k))]) hx hb dX6_move_158 rfl hl (by decide) rfl (fun ls hl => ?_)
                      refine lv_iinc (v := (nI (z + 1))) (lv' := [(4, .int (nI (z + 1))), (3, .int (nI (t + 0))), (5, .int (nI k)), (0, .ref e0), (1, .int (nI i)), (2, .int (nI k))]) hx hb dX6_move_159 hl (k := 2) rfl (z_i1 _) (by decide) rfl (fun ls hl => ?_)
                      refine lv_goto (tgt := 71) hx hb dX6_move_162 (by decide) ?_
                      exact ih_71 (z + 1) (t + 0) (by omega) (by omega) (by rw [hu]; first | exact mth_t hth c_149 | exact mth_f hth c_149) _ _ hP hD hS _ (lv_sub hl [0, 1, 3, 4, 5] rfl)
            exact lp_71 _ 0 0 (Nat.lt_succ_self _) (by omega) rfl _ _ hP hD hS _ (lv_sub hl [0, 1, 2, 3, 4] rfl)
          · skip
            refine lv_aload_n hx hb dX6_move_38 rfl (lv_at hl 1 rfl) ?_
            refine z_get S K hP hX6_move_X6 0 rfl rfl 12 (by decide) kX6_move_2 rfl rfl dX6_move_39 ?_
            refine lv_iload_n hx hb dX6_move_42 rfl (lv_at hl 0 rfl) ?_
            refine lv_aload_n hx hb dX6_move_43 rfl (lv_at hl 1 rfl) ?_
            refine z_get S K hP hX6_move_X6 0 rfl rfl 8 (by decide) kX6_move_3 rfl rfl dX6_move_44 ?_
            refine lv_iload_n hx hb dX6_move_47 rfl (lv_at hl 0 rfl) ?_
            refine z_iald S K hP 6 rfl (by omega) (by decide) dX6_move_48 ?_
            refine z_iast S K hP hD hS 8 rfl (by omega) (by decide) dX6_move_49 (fun H locs hP hD hS => ?_)
            have hP : va_P (gD G) vwCl [(e0, .inr (6, [.ref ea, .ref ek, .ref eh, .int (nI hq), .ref es, .ref ei, .ref el, .ref ew, .ref et, .ref er, .int lf2_23, .int md2_23, .ref ed, .ref ep, .int pn, .int sp, .ref ex, .ref eu, .int rm, .int la])), (ea, .inl (gI G, 42, .inl (nA al))), (ek, .inl (gI G, 42, .inl (nA ka2_19))), (eh, .inl (gI G, 252, .inl (nA hy))), (el, .inl (gI G, 12, .inl (nA le2_23))), (ew, .inl (gI G, 12, .inl (nA wh2_23))), (et, .inl (gI G, 20, .inl (nA ms2_23))), (er, .inl (gI G, 20, .inl (nA mr2_23))), (ed, .inl (gI G, 20, .inl (nA (pu mh1 j (ms2_23 j)))))] H := hP
            have hD : va_D A [(e0, .inr (6, [.ref ea, .ref ek, .ref eh, .int (nI hq), .ref es, .ref ei, .ref el, .ref ew, .ref et, .ref er, .int lf2_23, .int md2_23, .ref ed, .ref ep, .int pn, .int sp, .ref ex, .ref eu, .int rm, .int la])), (ea, .inl (gI G, 42, .inl (nA al))), (ek, .inl (gI G, 42, .inl (nA ka2_19))), (eh, .inl (gI G, 252, .inl (nA hy))), (el, .inl (gI G, 12, .inl (nA le2_23))), (ew, .inl (gI G, 12, .inl (nA wh2_23))), (et, .inl (gI G, 20, .inl (nA ms2_23))), (er, .inl (gI G, 20, .inl (nA mr2_23))), (ed, .inl (gI G, 20, .inl (nA (pu mh1 j (ms2_23 j)))))] := hD
            refine lv_iinc (v := (nI (j + 1))) (lv' := [(3, .int (nI (j + 1))), (0, .ref e0), (1, .int (nI i)), (2, .int (nI k))]) hx hb dX6_move_50 hl (k := 0) rfl (z_i1 _) (by decide) rfl (fun ls hl => ?_)
            refine lv_goto (tgt := 28) hx hb dX6_move_53 (by decide) ?_
            exact ih_28 (j + 1) (pu mh1 j (ms2_23 j)) (by omega) (by omega) (cp_1 hh0) _ _ hP hD hS _ (lv_sub hl [0, 1, 2, 3] rfl)
      exact lp_28 _ 0 mh (Nat.lt_succ_self _) (by omega) (fun p hp => absurd hp (Nat.not_lt_zero _)) _ _ hP hD hS _ (lv_sub hl [0, 1, 2, 3] rfl)
    · skip
      have c_13 := of_decide_eq_false (bN_eq0 c_13)
      refine lv_iconst (v := -1) hx hb dX6_move_16 (by decide +kernel) ?_
      refine z_top (y := (r_move (mR al) x y)) (mo_0 (R := mR al) (h := (0, fun _ => R0)) (by first | exact Or.inl c_5 | exact Or.inr c_13)).1 ?_
      exact z_iret S hrt hlk hP hD hS (hq, lf, md, al, ka, hy, le, wh, ms, mr, mh) rfl ⟨rfl, (mo_0 (R := mR al) (by first | exact Or.inl c_5 | exact Or.inr c_13)).2⟩ dX6_move_17
set_option maxHeartbeats 4000000 in
set_option maxRecDepth 100000 in
theorem c_X6_ifMoved (l : Launch) (G : gT) (e0 ea ek eh es ei el ew et er ed ep ex eu : Nat) (hq : Int32) (lf : Int32) (md : Int32) (pn : Int32) (sp : Int32) (rm : Int32) (la : Int32) (al : Nat → Nat) (ka : Nat → Nat) (le : Nat → Nat) (wh : Nat → Nat) (ms : Nat → Nat) (mr : Nat → Nat) (x : Int32) (y : Int32) (hR : RowOK (mR al)) : CI l yX6_ifMoved wsX6_ifMoved ({ frames := 4, cells := 0, slots := 0, locals := 90 } : Room) G [.ref e0, .int x, .int y] [(e0, .inr (6, [.ref ea, .ref ek, .ref eh, .int hq, .ref es, .ref ei, .ref el, .ref ew, .ref et, .ref er, .int lf, .int md, .ref ed, .ref ep, .int pn, .int sp, .ref ex, .ref eu, .int rm, .int la])), (ea, .inl (gI G, 42, .inl (nA al))), (ek, .inl (gI G, 42, .inl (nA ka))), (el, .inl (gI G, 12, .inl (nA le))), (ew, .inl (gI G, 12, .inl (nA wh))), (et, .inl (gI G, 20, .inl (nA ms))), (er, .inl (gI G, 20, .inl (nA mr)))] 0 0 (fun (r : Int32) (u : Int32 × Int32 × (Nat → Nat) × (Nat → Nat) × (Nat → Nat) × (Nat → Nat) × (Nat → Nat) × (Nat → Nat)) => r = (r_ifMoved (mR al) x y) ∧ mR u.2.2.2.2.2.2.1 = mR al) (fun (u : Int32 × Int32 × (Nat → Nat) × (Nat → Nat) × (Nat → Nat) × (Nat → Nat) × (Nat → Nat) × (Nat → Nat)) => [(e0, .inr (6, [.ref ea, .ref ek, .ref eh, .int hq, .ref es, .ref ei, .ref el, .ref ew, .ref et, .ref er, .int u.1, .int u.2.1, .ref ed, .ref ep, .int pn, .int sp, .ref ex, .ref eu, .int rm, .int la])), (ea, .inl (gI G, 42, .inl (nA u.2.2.2.2.2.2.1))), (ek, .inl (gI G, 42, .inl (nA u.2.2.2.2.2.2.2))), (el, .inl (gI G, 12, .inl (nA u.2.2.1))), (ew, .inl (gI G, 12, .inl (nA u.2.2.2.1))), (et, .inl (gI G, 20, .inl (nA u.2.2.2.2.1))), (er, .inl (gI G, 20, .inl (nA u.2.2.2.2.2.1)))]) := by
  refine CI.of (cc := cX6_ifMoved) (maxL := 4) (ret := (some .int)) (by decide +kernel) rfl (Nat.le_of_ble_eq_true rfl) rfl (fun p e s m args below meth c A S hrt hlk hnm K hA hP hD hS ls hl => ?_)
  have hx := S.1
  have hb := S.2.1
  have hl : lv_has ls 4 [(0, .ref e0), (1, .int x), (2, .int y)] := hl
  obtain ⟨hc1, hc2, hn3, hf4, hf5, hg6⟩ := mrow hR
  have hp2 := p12 hc2
  have h1s : 1 <<< al 0 = 2 ^ al 0 := Nat.one_shiftLeft _
  refine lv_aload_n hx hb dX6_ifMoved_0 rfl (lv_at hl 0 rfl) ?_
  refine lv_iload_n hx hb dX6_ifMoved_1 rfl (lv_at hl 1 rfl) ?_
  refine zcVi (rest := []) S K hP hD hS hA hl.1 (c_X6_isRule l G e0 ea ek eh es ei el ew et er ed ep ex eu hq lf md pn sp rm la al x (by first | assumption | omega)) rfl rfl gX6_ifMoved_X6_isRule rfl eX6_isRule [0, 1] (by decide +kernel) rfl (fun _ => rfl) 6 0 rfl rfl rfl rfl rfl (Nat.le_of_ble_eq_true rfl) (Nat.le_of_ble_eq_true rfl) (Nat.le_of_ble_eq_true rfl) ⟨Nat.zero_le _, Nat.zero_le _⟩ dX6_ifMoved_2 (fun r_2 u_2 H locs hw_2 hP hD hS => ?_)
  obtain ⟨hP, hD⟩ := mx_ok [some 0, some 1, none, none, none, none, none] (by decide +kernel) rfl rfl hP hD
  replace hw_2 : r_2 = nI (bN (decide (0 ≤ x.toInt ∧ x.toInt < (al 1 : Int)))) := hw_2
  obtain rfl := hw_2
  have hP : va_P (gD G) vwCl [(e0, .inr (6, [.ref ea, .ref ek, .ref eh, .int hq, .ref es, .ref ei, .ref el, .ref ew, .ref et, .ref er, .int lf, .int md, .ref ed, .ref ep, .int pn, .int sp, .ref ex, .ref eu, .int rm, .int la])), (ea, .inl (gI G, 42, .inl (nA al))), (ek, .inl (gI G, 42, .inl (nA ka))), (el, .inl (gI G, 12, .inl (nA le))), (ew, .inl (gI G, 12, .inl (nA wh))), (et, .inl (gI G, 20, .inl (nA ms))), (er, .inl (gI G, 20, .inl (nA mr)))] H := hP
  have hD : va_D A [(e0, .inr (6, [.ref ea, .ref ek, .ref eh, .int hq, .ref es, .ref ei, .ref el, .ref ew, .ref et, .ref er, .int lf, .int md, .ref ed, .ref ep, .int pn, .int sp, .ref ex, .ref eu, .int rm, .int la])), (ea, .inl (gI G, 42, .inl (nA al))), (ek, .inl (gI G, 42, .inl (nA ka))), (el, .inl (gI G, 12, .inl (nA le))), (ew, .inl (gI G, 12, .inl (nA wh))), (et, .inl (gI G, 20, .inl (nA ms))), (er, .inl (gI G, 20, .inl (nA mr)))] := hD
  refine zf_eq (tgt := 16) S dX6_ifMoved_5 (by decide) (bN_31 _) (fun c_5 => ?_) (fun c_5 => ?_)
  · skip
    have c_5 := of_decide_eq_false (bN_eq0 c_5)
    refine lv_iconst (v := -1) hx hb dX6_ifMoved_16 (by decide +kernel) ?_
    refine z_top (y := (r_ifMoved (mR al) x y)) (im_0 (R := mR al) (by first | exact Or.inl c_5 | exact Or.inr c_13)) ?_
    exact z_iret S hrt hlk hP hD hS (lf, md, le, wh, ms, mr, al, ka) rfl ⟨rfl, rfl⟩ dX6_ifMoved_17
  · skip
    have c_5 := of_decide_eq_true (bN_ne0 c_5)
    obtain ⟨i, hi1, hi2, hi3⟩ := z_of (x := x) (by omega)
    have hl : lv_has ls 4 [(0, .ref e0), (1, .int (nI i)), (2, .int y)] := by rw [hi2] at hl; exact hl
    refine lv_aload_n hx hb dX6_ifMoved_8 rfl (lv_at hl 0 rfl) ?_
    refine lv_iload_n hx hb dX6_ifMoved_9 rfl (lv_at hl 2 rfl) ?_
    refine zcVi (rest := []) S K hP hD hS hA hl.1 (c_X6_isRule l G e0 ea ek eh es ei el ew et er ed ep ex eu hq lf md pn sp rm la al y (by first | assumption | omega)) rfl rfl gX6_ifMoved_X6_isRule rfl eX6_isRule [0, 1] (by decide +kernel) rfl (fun _ => rfl) 6 0 rfl rfl rfl rfl rfl (Nat.le_of_ble_eq_true rfl) (Nat.le_of_ble_eq_true rfl) (Nat.le_of_ble_eq_true rfl) ⟨Nat.zero_le _, Nat.zero_le _⟩ dX6_ifMoved_10 (fun r_10 u_10 H locs hw_10 hP hD hS => ?_)
    obtain ⟨hP, hD⟩ := mx_ok [some 0, some 1, none, none, none, none, none] (by decide +kernel) rfl rfl hP hD
    replace hw_10 : r_10 = nI (bN (decide (0 ≤ y.toInt ∧ y.toInt < (al 1 : Int)))) := hw_10
    obtain rfl := hw_10
    have hP : va_P (gD G) vwCl [(e0, .inr (6, [.ref ea, .ref ek, .ref eh, .int hq, .ref es, .ref ei, .ref el, .ref ew, .ref et, .ref er, .int lf, .int md, .ref ed, .ref ep, .int pn, .int sp, .ref ex, .ref eu, .int rm, .int la])), (ea, .inl (gI G, 42, .inl (nA al))), (ek, .inl (gI G, 42, .inl (nA ka))), (el, .inl (gI G, 12, .inl (nA le))), (ew, .inl (gI G, 12, .inl (nA wh))), (et, .inl (gI G, 20, .inl (nA ms))), (er, .inl (gI G, 20, .inl (nA mr)))] H := hP
    have hD : va_D A [(e0, .inr (6, [.ref ea, .ref ek, .ref eh, .int hq, .ref es, .ref ei, .ref el, .ref ew, .ref et, .ref er, .int lf, .int md, .ref ed, .ref ep, .int pn, .int sp, .ref ex, .ref eu, .int rm, .int la])), (ea, .inl (gI G, 42, .inl (nA al))), (ek, .inl (gI G, 42, .inl (nA ka))), (el, .inl (gI G, 12, .inl (nA le))), (ew, .inl (gI G, 12, .inl (nA wh))), (et, .inl (gI G, 20, .inl (nA ms))), (er, .inl (gI G, 20, .inl (nA mr)))] := hD
    refine zf_ne (tgt := 18) S dX6_ifMoved_13 (by decide) (bN_31 _) (fun c_13 => ?_) (fun c_13 => ?_)
    · skip
      have c_13 := of_decide_eq_true (bN_ne0 c_13)
      obtain ⟨k, hk1, hk2, hk3⟩ := z_of (x := y) (by omega)
      have hl : lv_has ls 4 [(0, .ref e0), (1, .int (nI i)), (2, .int (nI k))] := by rw [hk2] at hl; exact hl
      refine lv_aload_n hx hb dX6_ifMoved_18 rfl (lv_at hl 0 rfl) ?_
      refine zcVv (rest := []) S K hP hD hS hA hl.1 (c_X6_keep l G e0 ea ek eh es ei el ew et er ed ep ex eu hq lf md pn sp rm la al ka ) rfl rfl gX6_ifMoved_X6_keep rfl eX6_keep [0, 1, 2] (by decide +kernel) rfl (fun _ => rfl) 6 0 rfl rfl rfl rfl rfl (Nat.le_of_ble_eq_true rfl) (Nat.le_of_ble_eq_true rfl) (Nat.le_of_ble_eq_true rfl) ⟨Nat.zero_le _, Nat.zero_le _⟩ dX6_ifMoved_19 (fun u_19 H locs hw_19 hP hD hS => ?_)
      obtain ⟨hP, hD⟩ := mx_ok [some 0, some 1, some 2, none, none, none, none] (by decide +kernel) rfl rfl hP hD
      obtain ⟨ka2_19, rfl⟩ : ∃ z, z = u_19 := ⟨_, rfl⟩
      replace hw_19 : ∀ j, j < 42 → ka2_19 j = al j := hw_19
      have hP : va_P (gD G) vwCl [(e0, .inr (6, [.ref ea, .ref ek, .ref eh, .int hq, .ref es, .ref ei, .ref el, .ref ew, .ref et, .ref er, .int lf, .int md, .ref ed, .ref ep, .int pn, .int sp, .ref ex, .ref eu, .int rm, .int la])), (ea, .inl (gI G, 42, .inl (nA al))), (ek, .inl (gI G, 42, .inl (nA ka2_19))), (el, .inl (gI G, 12, .inl (nA le))), (ew, .inl (gI G, 12, .inl (nA wh))), (et, .inl (gI G, 20, .inl (nA ms))), (er, .inl (gI G, 20, .inl (nA mr)))] H := hP
      have hD : va_D A [(e0, .inr (6, [.ref ea, .ref ek, .ref eh, .int hq, .ref es, .ref ei, .ref el, .ref ew, .ref et, .ref er, .int lf, .int md, .ref ed, .ref ep, .int pn, .int sp, .ref ex, .ref eu, .int rm, .int la])), (ea, .inl (gI G, 42, .inl (nA al))), (ek, .inl (gI G, 42, .inl (nA ka2_19))), (el, .inl (gI G, 12, .inl (nA le))), (ew, .inl (gI G, 12, .inl (nA wh))), (et, .inl (gI G, 20, .inl (nA ms))), (er, .inl (gI G, 20, .inl (nA mr)))] := hD
      refine lv_aload_n hx hb dX6_ifMoved_22 rfl (lv_at hl 0 rfl) ?_
      refine lv_iload_n hx hb dX6_ifMoved_23 rfl (lv_at hl 1 rfl) ?_
      refine lv_iload_n hx hb dX6_ifMoved_24 rfl (lv_at hl 2 rfl) ?_
      refine zcVv (rest := []) S K hP hD hS hA hl.1 (c_X6_moves l G e0 ea ek eh es ei el ew et er ed ep ex eu hq lf md pn sp rm la al i k (by omega) (by omega) hn3) rfl rfl gX6_ifMoved_X6_moves rfl eX6_moves [0, 1] (by decide +kernel) rfl (fun _ => rfl) 6 0 rfl rfl rfl rfl rfl (Nat.le_of_ble_eq_true rfl) (Nat.le_of_ble_eq_true rfl) (Nat.le_of_ble_eq_true rfl) ⟨Nat.zero_le _, Nat.zero_le _⟩ dX6_ifMoved_25 (fun u_25 H locs hw_25 hP hD hS => ?_)
      obtain ⟨hP, hD⟩ := mx_ok [some 0, some 1, none, none, none, none, none] (by decide +kernel) rfl rfl hP hD
      obtain ⟨al2_25, rfl⟩ : ∃ z, z = u_25 := ⟨_, rfl⟩
      replace hw_25 : MI al al2_25 i k := hw_25
      have hP : va_P (gD G) vwCl [(e0, .inr (6, [.ref ea, .ref ek, .ref eh, .int hq, .ref es, .ref ei, .ref el, .ref ew, .ref et, .ref er, .int lf, .int md, .ref ed, .ref ep, .int pn, .int sp, .ref ex, .ref eu, .int rm, .int la])), (ea, .inl (gI G, 42, .inl (nA al2_25))), (ek, .inl (gI G, 42, .inl (nA ka2_19))), (el, .inl (gI G, 12, .inl (nA le))), (ew, .inl (gI G, 12, .inl (nA wh))), (et, .inl (gI G, 20, .inl (nA ms))), (er, .inl (gI G, 20, .inl (nA mr)))] H := hP
      have hD : va_D A [(e0, .inr (6, [.ref ea, .ref ek, .ref eh, .int hq, .ref es, .ref ei, .ref el, .ref ew, .ref et, .ref er, .int lf, .int md, .ref ed, .ref ep, .int pn, .int sp, .ref ex, .ref eu, .int rm, .int la])), (ea, .inl (gI G, 42, .inl (nA al2_25))), (ek, .inl (gI G, 42, .inl (nA ka2_19))), (el, .inl (gI G, 12, .inl (nA le))), (ew, .inl (gI G, 12, .inl (nA wh))), (et, .inl (gI G, 20, .inl (nA ms))), (er, .inl (gI G, 20, .inl (nA mr)))] := hD
      have hmR := mi_R hw_25 (show i < al 1 by omega) (show k < al 1 by omega)
      have hR2 : RowOK (mR al2_25) := by rw [hmR]; exact mv_ok hR (show i < al 1 by omega) (show k < al 1 by omega)
      refine lv_aload_n hx hb dX6_ifMoved_28 rfl (lv_at hl 0 rfl) ?_
      refine lv_iconst (v := nI 2) hx hb dX6_ifMoved_29 (by decide +kernel) ?_
      refine zcVi (rest := []) S K hP hD hS hA hl.1 (c_X6_rulesIn l G e0 ea ek eh es ei el ew et er ed ep ex eu hq lf md pn sp rm la al2_25 le wh ms mr 2 hR2 (by omega)) rfl rfl gX6_ifMoved_X6_rulesIn rfl eX6_rulesIn [0, 1, 3, 4, 5, 6] (by decide +kernel) rfl (fun _ => rfl) 6 0 rfl rfl rfl rfl rfl (Nat.le_of_ble_eq_true rfl) (Nat.le_of_ble_eq_true rfl) (Nat.le_of_ble_eq_true rfl) ⟨Nat.zero_le _, Nat.zero_le _⟩ dX6_ifMoved_30 (fun r_30 u_30 H locs hw_30 hP hD hS => ?_)
      obtain ⟨hP, hD⟩ := mx_ok [some 0, some 1, none, some 2, some 3, some 4, some 5] (by decide +kernel) rfl rfl hP hD
      obtain ⟨lf2_30, md2_30, le2_30, wh2_30, ms2_30, mr2_30⟩ := u_30
      replace hw_30 : r_30 = nI (ctS (mR al2_25) 2) ∧ MV (fun j => al2_25 (2 + j)) (fun j => al2_25 (22 + j)) (al2_25 1) ms2_30 mr2_30 le2_30 wh2_30 := hw_30
      obtain ⟨rfl, hw_30⟩ := hw_30
      have hP : va_P (gD G) vwCl [(e0, .inr (6, [.ref ea, .ref ek, .ref eh, .int hq, .ref es, .ref ei, .ref el, .ref ew, .ref et, .ref er, .int lf2_30, .int md2_30, .ref ed, .ref ep, .int pn, .int sp, .ref ex, .ref eu, .int rm, .int la])), (ea, .inl (gI G, 42, .inl (nA al2_25))), (ek, .inl (gI G, 42, .inl (nA ka2_19))), (el, .inl (gI G, 12, .inl (nA le2_30))), (ew, .inl (gI G, 12, .inl (nA wh2_30))), (et, .inl (gI G, 20, .inl (nA ms2_30))), (er, .inl (gI G, 20, .inl (nA mr2_30)))] H := hP
      have hD : va_D A [(e0, .inr (6, [.ref ea, .ref ek, .ref eh, .int hq, .ref es, .ref ei, .ref el, .ref ew, .ref et, .ref er, .int lf2_30, .int md2_30, .ref ed, .ref ep, .int pn, .int sp, .ref ex, .ref eu, .int rm, .int la])), (ea, .inl (gI G, 42, .inl (nA al2_25))), (ek, .inl (gI G, 42, .inl (nA ka2_19))), (el, .inl (gI G, 12, .inl (nA le2_30))), (ew, .inl (gI G, 12, .inl (nA wh2_30))), (et, .inl (gI G, 20, .inl (nA ms2_30))), (er, .inl (gI G, 20, .inl (nA mr2_30)))] := hD
      refine lv_istore_n (lv' := [(3, .int (nI (ctS (mR al2_25) 2))), (0, .ref e0), (1, .int (nI i)), (2, .int (nI k))]) hx hb dX6_ifMoved_33 rfl hl (by decide) rfl (fun ls hl => ?_)
      refine lv_aload_n hx hb dX6_ifMoved_34 rfl (lv_at hl 1 rfl) ?_
      refine zcVv (rest := []) S K hP hD hS hA hl.1 (c_X6_giveBack l G e0 ea ek eh es ei el ew et er ed ep ex eu hq lf2_30 md2_30 pn sp rm la ka2_19 al2_25 ) rfl rfl gX6_ifMoved_X6_giveBack rfl eX6_giveBack [0, 2, 1] (by decide +kernel) rfl (fun _ => rfl) 6 0 rfl rfl rfl rfl rfl (Nat.le_of_ble_eq_true rfl) (Nat.le_of_ble_eq_true rfl) (Nat.le_of_ble_eq_true rfl) ⟨Nat.zero_le _, Nat.zero_le _⟩ dX6_ifMoved_35 (fun u_35 H locs hw_35 hP hD hS => ?_)
      obtain ⟨hP, hD⟩ := mx_ok [some 0, some 2, some 1, none, none, none, none] (by decide +kernel) rfl rfl hP hD
      obtain ⟨al2_35, rfl⟩ : ∃ z, z = u_35 := ⟨_, rfl⟩
      replace hw_35 : ∀ j, j < 42 → al2_35 j = ka2_19 j := hw_35
      have hP : va_P (gD G) vwCl [(e0, .inr (6, [.ref ea, .ref ek, .ref eh, .int hq, .ref es, .ref ei, .ref el, .ref ew, .ref et, .ref er, .int lf2_30, .int md2_30, .ref ed, .ref ep, .int pn, .int sp, .ref ex, .ref eu, .int rm, .int la])), (ea, .inl (gI G, 42, .inl (nA al2_35))), (ek, .inl (gI G, 42, .inl (nA ka2_19))), (el, .inl (gI G, 12, .inl (nA le2_30))), (ew, .inl (gI G, 12, .inl (nA wh2_30))), (et, .inl (gI G, 20, .inl (nA ms2_30))), (er, .inl (gI G, 20, .inl (nA mr2_30)))] H := hP
      have hD : va_D A [(e0, .inr (6, [.ref ea, .ref ek, .ref eh, .int hq, .ref es, .ref ei, .ref el, .ref ew, .ref et, .ref er, .int lf2_30, .int md2_30, .ref ed, .ref ep, .int pn, .int sp, .ref ex, .ref eu, .int rm, .int la])), (ea, .inl (gI G, 42, .inl (nA al2_35))), (ek, .inl (gI G, 42, .inl (nA ka2_19))), (el, .inl (gI G, 12, .inl (nA le2_30))), (ew, .inl (gI G, 12, .inl (nA wh2_30))), (et, .inl (gI G, 20, .inl (nA ms2_30))), (er, .inl (gI G, 20, .inl (nA mr2_30)))] := hD
      refine lv_iload_n hx hb dX6_ifMoved_38 rfl (lv_at hl 0 rfl) ?_
      refine z_top (y := (r_ifMoved (mR al) x y)) (imm_1 hi2 hk2 (by omega) (by omega) hn3 hw_25) ?_
      exact z_iret S hrt hlk hP hD hS (lf2_30, md2_30, le2_30, wh2_30, ms2_30, mr2_30, al2_35, ka2_19) rfl ⟨rfl, (keep_R (al := al) (fun j hj => (hw_35 j hj).trans (hw_19 j hj)) hn3).1⟩ dX6_ifMoved_39
    · skip
      have c_13 := of_decide_eq_false (bN_eq0 c_13)
      refine lv_iconst (v := -1) hx hb dX6_ifMoved_16 (by decide +kernel) ?_
      refine z_top (y := (r_ifMoved (mR al) x y)) (im_0 (R := mR al) (by first | exact Or.inl c_5 | exact Or.inr c_13)) ?_
      exact z_iret S hrt hlk hP hD hS (lf, md, le, wh, ms, mr, al, ka) rfl ⟨rfl, rfl⟩ dX6_ifMoved_17
