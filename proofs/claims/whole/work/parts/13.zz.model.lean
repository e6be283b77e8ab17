set_option maxHeartbeats 4000000 in
set_option maxRecDepth 100000 in
theorem c_X6_answer (l : Launch) (G : gT) (e0 ea ek eh es ei el ew et er ed ep ex eu : Nat) (hq : Int32) (lf : Int32) (md : Int32) (pn : Int32) (sp : Int32) (rm : Int32) (la : Int32) (al : Nat → Nat) (le : Nat → Nat) (wh : Nat → Nat) (ms : Nat → Nat) (mr : Nat → Nat) (x : Int32) (hR : RowOK (mR al)) : CI l yX6_answer wsX6_answer ({ frames := 5, cells := 0, slots := 0, locals := 110 } : Room) G [.ref e0, .int x] [(e0, .inr (6, [.ref ea, .ref ek, .ref eh, .int hq, .ref es, .ref ei, .ref el, .ref ew, .ref et, .ref er, .int lf, .int md, .ref ed, .ref ep, .int pn, .int sp, .ref ex, .ref eu, .int rm, .int la])), (ea, .inl (gI G, 42, .inl (nA al))), (el, .inl (gI G, 12, .inl (nA le))), (ew, .inl (gI G, 12, .inl (nA wh))), (et, .inl (gI G, 20, .inl (nA ms))), (er, .inl (gI G, 20, .inl (nA mr)))] 0 0 (fun (r : Int32) (u : Int32 × Int32 × (Nat → Nat) × (Nat → Nat) × (Nat → Nat) × (Nat → Nat)) => r = (r_answer (mR al) x)) (fun (u : Int32 × Int32 × (Nat → Nat) × (Nat → Nat) × (Nat → Nat) × (Nat → Nat)) => [(e0, .inr (6, [.ref ea, .ref ek, .ref eh, .int hq, .ref es, .ref ei, .ref el, .ref ew, .ref et, .ref er, .int u.1, .int u.2.1, .ref ed, .ref ep, .int pn, .int sp, .ref ex, .ref eu, .int rm, .int la])), (ea, .inl (gI G, 42, .inl (nA al))), (el, .inl (gI G, 12, .inl (nA u.2.2.1))), (ew, .inl (gI G, 12, .inl (nA u.2.2.2.1))), (et, .inl (gI G, 20, .inl (nA u.2.2.2.2.1))), (er, .inl (gI G, 20, .inl (nA u.2.2.2.2.2)))]) := by
  refine CI.of (cc := cX6_answer) (maxL := 4) (ret := (some .int)) (by decide +kernel) rfl (Nat.le_of_ble_eq_true rfl) rfl (fun p e s m args below meth c A S hrt hlk hnm K hA hP hD hS ls hl => ?_)
  have hx := S.1
  have hb := S.2.1
  have hl : lv_has ls 4 [(0, .ref e0), (1, .int x)] := hl
  obtain ⟨hc1, hc2, hn3, hf4, hf5, hg6⟩ := mrow hR
  have hp2 := p12 hc2
  have h1s : 1 <<< al 0 = 2 ^ al 0 := Nat.one_shiftLeft _
  have hL0 := lN_toInt (n := 0) (by decide)
  have hL1 := lN_toInt (n := 1) (by decide)
  have hL12 := lN_toInt (n := 12) (by decide)
  have hLx := Int32.toInt_toInt64 x
  have hnl := na_le hR
  have hls := lsub1 (n := naS (mR al)) hnl
  refine lv_iload_n hx hb dX6_answer_0 rfl (lv_at hl 1 rfl) ?_
  refine lv_i2l (v := Int32.toInt64 x) hx hb dX6_answer_1 rfl ?_
  refine lv_lconst (v := lN 0) hx hb dX6_answer_2 (by decide +kernel) ?_
  refine lv_aload_n hx hb dX6_answer_3 rfl (lv_at hl 0 rfl) ?_
  refine zcVi (rest := [.long (lN 0), .long (Int32.toInt64 x)]) S K hP hD hS hA hl.1 (c_X6_answers l G e0 ea ek eh es ei el ew et er ed ep ex eu hq lf md pn sp rm la al le wh ms mr (by first | assumption | omega)) rfl rfl gX6_answer_X6_answers rfl eX6_answers [0, 1, 2, 3, 4, 5] (by decide +kernel) rfl (fun _ => rfl) 6 0 rfl rfl rfl rfl rfl (Nat.le_of_ble_eq_true rfl) (Nat.le_of_ble_eq_true rfl) (Nat.le_of_ble_eq_true rfl) ⟨Nat.zero_le _, Nat.zero_le _⟩ dX6_answer_4 (fun r_4 u_4 H locs hw_4 hP hD hS => ?_)
  obtain ⟨hP, hD⟩ := mx_ok [some 0, some 1, some 2, some 3, some 4, some 5] (by decide +kernel) rfl rfl hP hD
  obtain ⟨lf2_4, md2_4, le2_4, wh2_4, ms2_4, mr2_4⟩ := u_4
  replace hw_4 : r_4 = nI (naS (mR al)) ∧ MV (fun j => al (2 + j)) (fun j => al (22 + j)) (al 1) ms2_4 mr2_4 le2_4 wh2_4 := hw_4
  obtain ⟨rfl, hw_4⟩ := hw_4
  have hP : va_P (gD G) vwCl [(e0, .inr (6, [.ref ea, .ref ek, .ref eh, .int hq, .ref es, .ref ei, .ref el, .ref ew, .ref et, .ref er, .int lf2_4, .int md2_4, .ref ed, .ref ep, .int pn, .int sp, .ref ex, .ref eu, .int rm, .int la])), (ea, .inl (gI G, 42, .inl (nA al))), (el, .inl (gI G, 12, .inl (nA le2_4))), (ew, .inl (gI G, 12, .inl (nA wh2_4))), (et, .inl (gI G, 20, .inl (nA ms2_4))), (er, .inl (gI G, 20, .inl (nA mr2_4)))] H := hP
  have hD : va_D A [(e0, .inr (6, [.ref ea, .ref ek, .ref eh, .int hq, .ref es, .ref ei, .ref el, .ref ew, .ref et, .ref er, .int lf2_4, .int md2_4, .ref ed, .ref ep, .int pn, .int sp, .ref ex, .ref eu, .int rm, .int la])), (ea, .inl (gI G, 42, .inl (nA al))), (el, .inl (gI G, 12, .inl (nA le2_4))), (ew, .inl (gI G, 12, .inl (nA wh2_4))), (et, .inl (gI G, 20, .inl (nA ms2_4))), (er, .inl (gI G, 20, .inl (nA mr2_4)))] := hD
  refine lv_i2l (v := lN (naS (mR al))) hx hb dX6_answer_7 (nI_l (by omega)) ?_
  refine lv_lconst (v := lN 1) hx hb dX6_answer_8 (by decide +kernel) ?_
  refine lv_lsub hx hb dX6_answer_9 ?_
  refine zcSi (rest := []) S K hP hD hS hA hl.1 (c_X6_in l G (Int32.toInt64 x) (lN 0) ((lN (naS (mR al))) - (lN 1)) ) rfl rfl gX6_answer_X6_in rfl eX6_in.2 [] (by decide +kernel) rfl (fun _ => rfl) rfl rfl (Nat.le_of_ble_eq_true rfl) (Nat.le_of_ble_eq_true rfl) (Nat.le_of_ble_eq_true rfl) ⟨Nat.zero_le _, Nat.zero_le _⟩ dX6_answer_10 (fun r_10 u_10 H locs hw_10 hP hD hS => ?_)
  replace hw_10 : r_10 = nI (bN (decide ((lN 0).toInt ≤ (Int32.toInt64 x).toInt ∧ (Int32.toInt64 x).toInt ≤ ((lN (naS (mR al))) - (lN 1)).toInt))) := hw_10
  obtain rfl := hw_10
  have hP : va_P (gD G) vwCl [(e0, .inr (6, [.ref ea, .ref ek, .ref eh, .int hq, .ref es, .ref ei, .ref el, .ref ew, .ref et, .ref er, .int lf2_4, .int md2_4, .ref ed, .ref ep, .int pn, .int sp, .ref ex, .ref eu, .int rm, .int la])), (ea, .inl (gI G, 42, .inl (nA al))), (el, .inl (gI G, 12, .inl (nA le2_4))), (ew, .inl (gI G, 12, .inl (nA wh2_4))), (et, .inl (gI G, 20, .inl (nA ms2_4))), (er, .inl (gI G, 20, .inl (nA mr2_4)))] H := hP
  have hD : va_D A [(e0, .inr (6, [.ref ea, .ref ek, .ref eh, .int hq, .ref es, .ref ei, .ref el, .ref ew, .ref et, .ref er, .int lf2_4, .int md2_4, .ref ed, .ref ep, .int pn, .int sp, .ref ex, .ref eu, .int rm, .int la])), (ea, .inl (gI G, 42, .inl (nA al))), (el, .inl (gI G, 12, .inl (nA le2_4))), (ew, .inl (gI G, 12, .inl (nA wh2_4))), (et, .inl (gI G, 20, .inl (nA ms2_4))), (er, .inl (gI G, 20, .inl (nA mr2_4)))] := hD
  refine zf_ne (tgt := 18) S dX6_answer_13 (by decide) (bN_31 _) (fun c_13 => ?_) (fun c_13 => ?_)
  · skip
    have c_13 := of_decide_eq_true (bN_ne0 c_13)
    obtain ⟨a, ha1, ha2, ha3⟩ := z_of (x := x) (by omega)
    have hl : lv_has ls 4 [(0, .ref e0), (1, .int (nI a))] := by rw [ha2] at hl; exact hl
    obtain ⟨z, hz1, hz2, hz3⟩ := an_ex hR (show a < naS (mR al) by omega)
    change isS (mR al) z = true at hz2
    change ctB (isS (mR al)) z = a at hz3
    refine lv_iload_n hx hb dX6_answer_18 rfl (lv_at hl 1 rfl) ?_
    refine lv_istore_n (lv' := [(2, .int (nI a)), (0, .ref e0), (1, .int (nI a))]) hx hb dX6_answer_19 rfl hl (by decide) rfl (fun ls hl => ?_)
    refine lv_iconst (v := nI 0) hx hb dX6_answer_20 (by decide +kernel) ?_
    refine lv_istore_n (lv' := [(3, .int (nI 0)), (2, .int (nI a)), (0, .ref e0), (1, .int (nI a))]) hx hb dX6_answer_21 rfl hl (by decide) rfl (fun ls hl => ?_)
    have lp_22 : ∀ (n_22 : Nat) (b v : Nat), z - v < n_22 → (v ≤ z) → (b + ctB (isS (mR al)) v = a) → ∀ (H : Heap) (locs : List Loc), va_P (gD G) vwCl [(e0, .inr (6, [.ref ea, .ref ek, .ref eh, .int hq, .ref es, .ref ei, .ref el, .ref ew, .ref et, .ref er, .int lf2_4, .int md2_4, .ref ed, .ref ep, .int pn, .int sp, .ref ex, .ref eu, .int rm, .int la])), (ea, .inl (gI G, 42, .inl (nA al))), (el, .inl (gI G, 12, .inl (nA le2_4))), (ew, .inl (gI G, 12, .inl (nA wh2_4))), (et, .inl (gI G, 20, .inl (nA ms2_4))), (er, .inl (gI G, 20, .inl (nA mr2_4)))] H → va_D A [(e0, .inr (6, [.ref ea, .ref ek, .ref eh, .int hq, .ref es, .ref ei, .ref el, .ref ew, .ref et, .ref er, .int lf2_4, .int md2_4, .ref ed, .ref ep, .int pn, .int sp, .ref ex, .ref eu, .int rm, .int la])), (ea, .inl (gI G, 42, .inl (nA al))), (el, .inl (gI G, 12, .inl (nA le2_4))), (ew, .inl (gI G, 12, .inl (nA wh2_4))), (et, .inl (gI G, 20, .inl (nA ms2_4))), (er, .inl (gI G, 20, .inl (nA mr2_4)))] → va_S A s.heap H locs → ∀ ls : Array Slot, lv_has ls 4 [(3, .int (nI v)), (2, .int (nI b)), (0, .ref e0), (1, .int (nI a))] → W p l e ({ frames := 5, cells := 0, slots := 0, locals := 110 } : Room) s m args below meth c H locs 0 0 (MQ below (va_Qi (fun (r : Int32) (u : Int32 × Int32 × (Nat → Nat) × (Nat → Nat) × (Nat → Nat) × (Nat → Nat)) => r = (r_answer (mR al) x)) (cB G A (fun (u : Int32 × Int32 × (Nat → Nat) × (Nat → Nat) × (Nat → Nat) × (Nat → Nat)) => [(e0, .inr (6, [.ref ea, .ref ek, .ref eh, .int hq, .ref es, .ref ei, .ref el, .ref ew, .ref et, .ref er, .int u.1, .int u.2.1, .ref ed, .ref ep, .int pn, .int sp, .ref ex, .ref eu, .int rm, .int la])), (ea, .inl (gI G, 42, .inl (nA al))), (el, .inl (gI G, 12, .inl (nA u.2.2.1))), (ew, .inl (gI G, 12, .inl (nA u.2.2.2.1))), (et, .inl (gI G, 20, .inl (nA u.2.2.2.2.1))), (er, .inl (gI G, 20, .inl (nA u.2.2.2.2.2)))])) A) args s 0 0 A) (F0 m 22 ls []) := by
      intro n_22
      induction n_22 with
      | zero =>
        intro b v h0
        exact absurd h0 (Nat.not_lt_zero _)
      | succ n_22 ih_22 =>
        intro b v hm_22 hv hbc H locs hP hD hS ls hl
        have hba : b ≤ a := by omega
        refine lv_iload_n hx hb dX6_answer_22 rfl (lv_at hl 1 rfl) ?_
        refine zq_gt (tgt := 34) S dX6_answer_23 (by decide) (z_toInt (by omega)) (fun c_23 => ?_) (fun c_23 => ?_)
        · skip
          refine lv_iload_n hx hb dX6_answer_34 rfl (lv_at hl 1 rfl) ?_
          refine lv_aload_n hx hb dX6_answer_35 rfl (lv_at hl 2 rfl) ?_
          refine lv_iload_n hx hb dX6_answer_36 rfl (lv_at hl 0 rfl) ?_
          refine zcVi (rest := [.int (nI b)]) S K hP hD hS hA hl.1 (c_X6_isAnswer l G e0 ea ek eh es ei el ew et er ed ep ex eu hq lf2_4 md2_4 pn sp rm la al ms2_4 v (by first | assumption | omega) (mv_st hw_4) (fun i hi => mv_le hw_4 hi) (by omega)) rfl rfl gX6_answer_X6_isAnswer rfl eX6_isAnswer [0, 1, 4] (by decide +kernel) rfl (fun _ => rfl) 6 0 rfl rfl rfl rfl rfl (Nat.le_of_ble_eq_true rfl) (Nat.le_of_ble_eq_true rfl) (Nat.le_of_ble_eq_true rfl) ⟨Nat.zero_le _, Nat.zero_le _⟩ dX6_answer_37 (fun r_37 u_37 H locs hw_37 hP hD hS => ?_)
          obtain ⟨hP, hD⟩ := mx_ok [some 0, some 1, none, none, some 2, none] (by decide +kernel) rfl rfl hP hD
          replace hw_37 : r_37 = nI (bN (isS (mR al) v)) := hw_37
          obtain rfl := hw_37
          have hP : va_P (gD G) vwCl [(e0, .inr (6, [.ref ea, .ref ek, .ref eh, .int hq, .ref es, .ref ei, .ref el, .ref ew, .ref et, .ref er, .int lf2_4, .int md2_4, .ref ed, .ref ep, .int pn, .int sp, .ref ex, .ref eu, .int rm, .int la])), (ea, .inl (gI G, 42, .inl (nA al))), (el, .inl (gI G, 12, .inl (nA le2_4))), (ew, .inl (gI G, 12, .inl (nA wh2_4))), (et, .inl (gI G, 20, .inl (nA ms2_4))), (er, .inl (gI G, 20, .inl (nA mr2_4)))] H := hP
          have hD : va_D A [(e0, .inr (6, [.ref ea, .ref ek, .ref eh, .int hq, .ref es, .ref ei, .ref el, .ref ew, .ref et, .ref er, .int lf2_4, .int md2_4, .ref ed, .ref ep, .int pn, .int sp, .ref ex, .ref eu, .int rm, .int la])), (ea, .inl (gI G, 42, .inl (nA al))), (el, .inl (gI G, 12, .inl (nA le2_4))), (ew, .inl (gI G, 12, .inl (nA wh2_4))), (et, .inl (gI G, 20, .inl (nA ms2_4))), (er, .inl (gI G, 20, .inl (nA mr2_4)))] := hD
          refine zf_eq (tgt := 47) S dX6_answer_40 (by decide) (bN_31 _) (fun c_40 => ?_) (fun c_40 => ?_)
          · skip
            have c_40 := bN_eq0 c_40
            refine lv_iconst (v := nI 0) hx hb dX6_answer_47 (by decide +kernel) ?_
            refine zi_sub S dX6_answer_48 (by first | omega | exact absurd c_40 (by rw [c_31]; decide)) ?_
            refine lv_istore_n (lv' := [(2, .int (nI (b - 0))), (3, .int (nI v)), (0, .ref e0), (1, .int (nI a))]) hx hb dX6_answer_49 rfl hl (by decide) rfl (fun ls hl => ?_)
            refine lv_iinc (v := (nI (v + 1))) (lv' := [(3, .int (nI (v + 1))), (2, .int (nI (b - 0))), (0, .ref e0), (1, .int (nI a))]) hx hb dX6_answer_50 hl (k := 1) rfl (z_i1 _) (by decide) rfl (fun ls hl => ?_)
            refine lv_goto (tgt := 22) hx hb dX6_answer_53 (by decide) ?_
            have hvz : v + 1 ≤ z := by first | exact (awb_1 hbc hv hz3 c_40 (by omega)).1 | exact (awb_0 hbc hv hz2 c_40).1
            exact ih_22 (b - 0) (v + 1) (by omega) (by first | exact (awb_1 hbc hv hz3 c_40 (by omega)).1 | exact (awb_0 hbc hv hz2 c_40).1) (by first | exact (awb_1 hbc hv hz3 c_40 (by omega)).2 | exact (awb_0 hbc hv hz2 c_40).2) _ _ hP hD hS _ (lv_sub hl [0, 1, 2, 3] rfl)
          · skip
            have c_40 := bN_ne0 c_40
            refine lv_iconst (v := nI 1) hx hb dX6_answer_43 (by decide +kernel) ?_
            refine lv_goto (tgt := 48) hx hb dX6_answer_44 (by decide) ?_
            refine zi_sub S dX6_answer_48 (by first | omega | exact absurd c_40 (by rw [c_31]; decide)) ?_
            refine lv_istore_n (lv' := [(2, .int (nI (b - 1))), (3, .int (nI v)), (0, .ref e0), (1, .int (nI a))]) hx hb dX6_answer_49 rfl hl (by decide) rfl (fun ls hl => ?_)
            refine lv_iinc (v := (nI (v + 1))) (lv' := [(3, .int (nI (v + 1))), (2, .int (nI (b - 1))), (0, .ref e0), (1, .int (nI a))]) hx hb dX6_answer_50 hl (k := 1) rfl (z_i1 _) (by decide) rfl (fun ls hl => ?_)
            refine lv_goto (tgt := 22) hx hb dX6_answer_53 (by decide) ?_
            have hvz : v + 1 ≤ z := by first | exact (awb_1 hbc hv hz3 c_40 (by omega)).1 | exact (awb_0 hbc hv hz2 c_40).1
            exact ih_22 (b - 1) (v + 1) (by omega) (by first | exact (awb_1 hbc hv hz3 c_40 (by omega)).1 | exact (awb_0 hbc hv hz2 c_40).1) (by first | exact (awb_1 hbc hv hz3 c_40 (by omega)).2 | exact (awb_0 hbc hv hz2 c_40).2) _ _ hP hD hS _ (lv_sub hl [0, 1, 2, 3] rfl)
        · skip
          refine lv_aload_n hx hb dX6_answer_26 rfl (lv_at hl 2 rfl) ?_
          refine lv_iload_n hx hb dX6_answer_27 rfl (lv_at hl 0 rfl) ?_
          refine zcVi (rest := []) S K hP hD hS hA hl.1 (c_X6_isAnswer l G e0 ea ek eh es ei el ew et er ed ep ex eu hq lf2_4 md2_4 pn sp rm la al ms2_4 v (by first | assumption | omega) (mv_st hw_4) (fun i hi => mv_le hw_4 hi) (by omega)) rfl rfl gX6_answer_X6_isAnswer rfl eX6_isAnswer [0, 1, 4] (by decide +kernel) rfl (fun _ => rfl) 6 0 rfl rfl rfl rfl rfl (Nat.le_of_ble_eq_true rfl) (Nat.le_of_ble_eq_true rfl) (Nat.le_of_ble_eq_true rfl) ⟨Nat.zero_le _, Nat.zero_le _⟩ dX6_answer_28 (fun r_28 u_28 H locs hw_28 hP hD hS => ?_)
          obtain ⟨hP, hD⟩ := mx_ok [some 0, some 1, none, none, some 2, none] (by decide +kernel) rfl rfl hP hD
          replace hw_28 : r_28 = nI (bN (isS (mR al) v)) := hw_28
          obtain rfl := hw_28
          have hP : va_P (gD G) vwCl [(e0, .inr (6, [.ref ea, .ref ek, .ref eh, .int hq, .ref es, .ref ei, .ref el, .ref ew, .ref et, .ref er, .int lf2_4, .int md2_4, .ref ed, .ref ep, .int pn, .int sp, .ref ex, .ref eu, .int rm, .int la])), (ea, .inl (gI G, 42, .inl (nA al))), (el, .inl (gI G, 12, .inl (nA le2_4))), (ew, .inl (gI G, 12, .inl (nA wh2_4))), (et, .inl (gI G, 20, .inl (nA ms2_4))), (er, .inl (gI G, 20, .inl (nA mr2_4)))] H := hP
          have hD : va_D A [(e0, .inr (6, [.ref ea, .ref ek, .ref eh, .int hq, .ref es, .ref ei, .ref el, .ref ew, .ref et, .ref er, .int lf2_4, .int md2_4, .ref ed, .ref ep, .int pn, .int sp, .ref ex, .ref eu, .int rm, .int la])), (ea, .inl (gI G, 42, .inl (nA al))), (el, .inl (gI G, 12, .inl (nA le2_4))), (ew, .inl (gI G, 12, .inl (nA wh2_4))), (et, .inl (gI G, 20, .inl (nA ms2_4))), (er, .inl (gI G, 20, .inl (nA mr2_4)))] := hD
          refine zf_ne (tgt := 56) S dX6_answer_31 (by decide) (bN_31 _) (fun c_31 => ?_) (fun c_31 => ?_)
          · skip
            have c_31 := bN_ne0 c_31
            refine lv_iload_n hx hb dX6_answer_56 rfl (lv_at hl 0 rfl) ?_
            refine z_top (y := (r_answer (mR al) x)) (aw_y (R := mR al) ha2 (by omega) hnl (anS_eq (R := mR al) (show v < 2 ^ al 0 by omega) c_31 (by omega)).symm) ?_
            exact z_iret S hrt hlk hP hD hS (lf2_4, md2_4, le2_4, wh2_4, ms2_4, mr2_4) rfl rfl dX6_answer_57
          · skip
            have c_31 := bN_eq0 c_31
            refine lv_iload_n hx hb dX6_answer_34 rfl (lv_at hl 1 rfl) ?_
            refine lv_aload_n hx hb dX6_answer_35 rfl (lv_at hl 2 rfl) ?_
            refine lv_iload_n hx hb dX6_answer_36 rfl (lv_at hl 0 rfl) ?_
            refine zcVi (rest := [.int (nI b)]) S K hP hD hS hA hl.1 (c_X6_isAnswer l G e0 ea ek eh es ei el ew et er ed ep ex eu hq lf2_4 md2_4 pn sp rm la al ms2_4 v (by first | assumption | omega) (mv_st hw_4) (fun i hi => mv_le hw_4 hi) (by omega)) rfl rfl gX6_answer_X6_isAnswer rfl eX6_isAnswer [0, 1, 4] (by decide +kernel) rfl (fun _ => rfl) 6 0 rfl rfl rfl rfl rfl (Nat.le_of_ble_eq_true rfl) (Nat.le_of_ble_eq_true rfl) (Nat.le_of_ble_eq_true rfl) ⟨Nat.zero_le _, Nat.zero_le _⟩ dX6_answer_37 (fun r_37 u_37 H locs hw_37 hP hD hS => ?_)
            obtain ⟨hP, hD⟩ := mx_ok [some 0, some 1, none, none, some 2, none] (by decide +kernel) rfl rfl hP hD
            replace hw_37 : r_37 = nI (bN (isS (mR al) v)) := hw_37
            obtain rfl := hw_37
            have hP : va_P (gD G) vwCl [(e0, .inr (6, [.ref ea, .ref ek, .ref eh, .int hq, .ref es, .ref ei, .ref el, .ref ew, .ref et, .ref er, .int lf2_4, .int md2_4, .ref ed, .ref ep, .int pn, .int sp, .ref ex, .ref eu, .int rm, .int la])), (ea, .inl (gI G, 42, .inl (nA al))), (el, .inl (gI G, 12, .inl (nA le2_4))), (ew, .inl (gI G, 12, .inl (nA wh2_4))), (et, .inl (gI G, 20, .inl (nA ms2_4))), (er, .inl (gI G, 20, .inl (nA mr2_4)))] H := hP
            have hD : va_D A [(e0, .inr (6, [.ref ea, .ref ek, .ref eh, .int hq, .ref es, .ref ei, .ref el, .ref ew, .ref et, .ref er, .int lf2_4, .int md2_4, .ref ed, .ref ep, .int pn, .int sp, .ref ex, .ref eu, .int rm, .int la])), (ea, .inl (gI G, 42, .inl (nA al))), (el, .inl (gI G, 12, .inl (nA le2_4))), (ew, .inl (gI G, 12, .inl (nA wh2_4))), (et, .inl (gI G, 20, .inl (nA ms2_4))), (er, .inl (gI G, 20, .inl (nA mr2_4)))] := hD
            refine zf_eq (tgt := 47) S dX6_answer_40 (by decide) (bN_31 _) (fun c_40 => ?_) (fun c_40 => ?_)
            · skip
              have c_40 := bN_eq0 c_40
              refine lv_iconst (v := nI 0) hx hb dX6_answer_47 (by decide +kernel) ?_
              refine zi_sub S dX6_answer_48 (by first | omega | exact absurd c_40 (by rw [c_31]; decide)) ?_
              refine lv_istore_n (lv' := [(2, .int (nI (b - 0))), (3, .int (nI v)), (0, .ref e0), (1, .int (nI a))]) hx hb dX6_answer_49 rfl hl (by decide) rfl (fun ls hl => ?_)
              refine lv_iinc (v := (nI (v + 1))) (lv' := [(3, .int (nI (v + 1))), (2, .int (nI (b - 0))), (0, .ref e0), (1, .int (nI a))]) hx hb dX6_answer_50 hl (k := 1) rfl (z_i1 _) (by decide) rfl (fun ls hl => ?_)
              refine lv_goto (tgt := 22) hx hb dX6_answer_53 (by decide) ?_
              have hvz : v + 1 ≤ z := by first | exact (awb_1 hbc hv hz3 c_40 (by omega)).1 | exact (awb_0 hbc hv hz2 c_40).1
              exact ih_22 (b - 0) (v + 1) (by omega) (by first | exact (awb_1 hbc hv hz3 c_40 (by omega)).1 | exact (awb_0 hbc hv hz2 c_40).1) (by first | exact (awb_1 hbc hv hz3 c_40 (by omega)).2 | exact (awb_0 hbc hv hz2 c_40).2) _ _ hP hD hS _ (lv_sub hl [0, 1, 2, 3] rfl)
            · skip
              have c_40 := bN_ne0 c_40
              refine lv_iconst (v := nI 1) hx hb dX6_answer_43 (by decide +kernel) ?_
              refine lv_goto (tgt := 48) hx hb dX6_answer_44 (by decide) ?_
              refine zi_sub S dX6_answer_48 (by first | omega | exact absurd c_40 (by rw [c_31]; decide)) ?_
              refine lv_istore_n (lv' := [(2, .int (nI (b - 1))), (3, .int (nI v)), (0, .ref e0), (1, .int (nI a))]) hx hb dX6_answer_49 rfl hl (by decide) rfl (fun ls hl => ?_)
              refine lv_iinc (v := (nI (v + 1))) (lv' := [(3, .int (nI (v + 1))), (2, .int (nI (b - 1))), (0, .ref e0), (1, .int (nI a))]) hx hb dX6_answer_50 hl (k := 1) rfl (z_i1 _) (by decide) rfl (fun ls hl => ?_)
              refine lv_goto (tgt := 22) hx hb dX6_answer_53 (by decide) ?_
              have hvz : v + 1 ≤ z := by first | exact (awb_1 hbc hv hz3 c_40 (by omega)).1 | exact (awb_0 hbc hv hz2 c_40).1
              exact ih_22 (b - 1) (v + 1) (by omega) (by first | exact (awb_1 hbc hv hz3 c_40 (by omega)).1 | exact (awb_0 hbc hv hz2 c_40).1) (by first | exact (awb_1 hbc hv hz3 c_40 (by omega)).2 | exact (awb_0 hbc hv hz2 c_40).2) _ _ hP hD hS _ (lv_sub hl [0, 1, 2, 3] rfl)
    exact lp_22 _ a 0 (Nat.lt_succ_self _) (by omega) rfl _ _ hP hD hS _ (lv_sub hl [0, 1, 2, 3] rfl)
  · skip
    have c_13 := of_decide_eq_false (bN_eq0 c_13)
    refine lv_iconst (v := -1) hx hb dX6_answer_16 (by decide +kernel) ?_
    refine z_top (y := (r_answer (mR al) x)) (aw_n (R := mR al) (by omega)) ?_
    exact z_iret S hrt hlk hP hD hS (lf2_4, md2_4, le2_4, wh2_4, ms2_4, mr2_4) rfl rfl dX6_answer_17
