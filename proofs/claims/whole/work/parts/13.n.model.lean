set_option maxHeartbeats 4000000 in
set_option maxRecDepth 100000 in
theorem c_X6_settled (l : Launch) (G : gT) (e0 ea ek eh es ei el ew et er ed ep ex eu : Nat) (hq : Int32) (lf : Int32) (md : Int32) (pn : Int32) (sp : Int32) (rm : Int32) (la : Int32) (al : Nat → Nat) (le : Nat → Nat) (wh : Nat → Nat) (ms : Nat → Nat) (mr : Nat → Nat) (hR : RowOK (mR al)) : CI l yX6_settled wsX6_settled ({ frames := 3, cells := 0, slots := 0, locals := 67 } : Room) G [.ref e0] [(e0, .inr (6, [.ref ea, .ref ek, .ref eh, .int hq, .ref es, .ref ei, .ref el, .ref ew, .ref et, .ref er, .int lf, .int md, .ref ed, .ref ep, .int pn, .int sp, .ref ex, .ref eu, .int rm, .int la])), (ea, .inl (gI G, 42, .inl (nA al))), (el, .inl (gI G, 12, .inl (nA le))), (ew, .inl (gI G, 12, .inl (nA wh))), (et, .inl (gI G, 20, .inl (nA ms))), (er, .inl (gI G, 20, .inl (nA mr)))] 0 0 (fun (r : Int32) (u : Int32 × Int32 × (Nat → Nat) × (Nat → Nat) × (Nat → Nat) × (Nat → Nat)) => r = nI (seS (mR al))) (fun (u : Int32 × Int32 × (Nat → Nat) × (Nat → Nat) × (Nat → Nat) × (Nat → Nat)) => [(e0, .inr (6, [.ref ea, .ref ek, .ref eh, .int hq, .ref es, .ref ei, .ref el, .ref ew, .ref et, .ref er, .int u.1, .int u.2.1, .ref ed, .ref ep, .int pn, .int sp, .ref ex, .ref eu, .int rm, .int la])), (ea, .inl (gI G, 42, .inl (nA al))), (el, .inl (gI G, 12, .inl (nA u.2.2.1))), (ew, .inl (gI G, 12, .inl (nA u.2.2.2.1))), (et, .inl (gI G, 20, .inl (nA u.2.2.2.2.1))), (er, .inl (gI G, 20, .inl (nA u.2.2.2.2.2)))]) := by
  refine CI.of (cc := cX6_settled) (maxL := 3) (ret := (some .int)) (by decide +kernel) rfl (Nat.le_of_ble_eq_true rfl) rfl (fun p e s m args below meth c A S hrt hlk hnm K hA hP hD hS ls hl => ?_)
  have hx := S.1
  have hb := S.2.1
  have hl : lv_has ls 3 [(0, .ref e0)] := hl
  obtain ⟨hc1, hc2, hn3, hf4, hf5, hg6⟩ := mrow hR
  have hp2 := p12 hc2
  have h1s : 1 <<< al 0 = 2 ^ al 0 := Nat.one_shiftLeft _
  refine lv_aload_n hx hb dX6_settled_0 rfl (lv_at hl 0 rfl) ?_
  refine zcVv (rest := []) S K hP hD hS hA hl.1 (c_X6_judges l G e0 ea ek eh es ei el ew et er ed ep ex eu hq lf md pn sp rm la al le wh ms mr (by first | assumption | omega)) rfl rfl gX6_settled_X6_judges rfl eX6_judges [0, 1, 2, 3, 4, 5] (by decide +kernel) rfl (fun _ => rfl) 6 0 rfl rfl rfl rfl rfl (Nat.le_of_ble_eq_true rfl) (Nat.le_of_ble_eq_true rfl) (Nat.le_of_ble_eq_true rfl) ⟨Nat.zero_le _, Nat.zero_le _⟩ dX6_settled_1 (fun u_1 H locs hw_1 hP hD hS => ?_)
  obtain ⟨hP, hD⟩ := mx_ok [some 0, some 1, some 2, some 3, some 4, some 5] (by decide +kernel) rfl rfl hP hD
  obtain ⟨lf2_1, md2_1, le2_1, wh2_1, ms2_1, mr2_1⟩ := u_1
  replace hw_1 : MV (fun j => al (2 + j)) (fun j => al (22 + j)) (al 1) ms2_1 mr2_1 le2_1 wh2_1 := hw_1
  have hP : va_P (gD G) vwCl [(e0, .inr (6, [.ref ea, .ref ek, .ref eh, .int hq, .ref es, .ref ei, .ref el, .ref ew, .ref et, .ref er, .int lf2_1, .int md2_1, .ref ed, .ref ep, .int pn, .int sp, .ref ex, .ref eu, .int rm, .int la])), (ea, .inl (gI G, 42, .inl (nA al))), (el, .inl (gI G, 12, .inl (nA le2_1))), (ew, .inl (gI G, 12, .inl (nA wh2_1))), (et, .inl (gI G, 20, .inl (nA ms2_1))), (er, .inl (gI G, 20, .inl (nA mr2_1)))] H := hP
  have hD : va_D A [(e0, .inr (6, [.ref ea, .ref ek, .ref eh, .int hq, .ref es, .ref ei, .ref el, .ref ew, .ref et, .ref er, .int lf2_1, .int md2_1, .ref ed, .ref ep, .int pn, .int sp, .ref ex, .ref eu, .int rm, .int la])), (ea, .inl (gI G, 42, .inl (nA al))), (el, .inl (gI G, 12, .inl (nA le2_1))), (ew, .inl (gI G, 12, .inl (nA wh2_1))), (et, .inl (gI G, 20, .inl (nA ms2_1))), (er, .inl (gI G, 20, .inl (nA mr2_1)))] := hD
  refine lv_iconst (v := nI 0) hx hb dX6_settled_4 (by decide +kernel) ?_
  refine lv_istore_n (lv' := [(1, .int (nI 0)), (0, .ref e0)]) hx hb dX6_settled_5 rfl hl (by decide) rfl (fun ls hl => ?_)
  refine lv_iconst (v := nI 0) hx hb dX6_settled_6 (by decide +kernel) ?_
  refine lv_istore_n (lv' := [(2, .int (nI 0)), (1, .int (nI 0)), (0, .ref e0)]) hx hb dX6_settled_7 rfl hl (by decide) rfl (fun ls hl => ?_)
  have lp_8 : ∀ (n_8 : Nat) (i : Nat) (y : Nat) (lf3 : Int32) (md3 : Int32), al 0 - i < n_8 → (i ≤ al 0) → (y = seF (fun d => spS (mR al) (1 <<< d)) i) → ∀ (H : Heap) (locs : List Loc), va_P (gD G) vwCl [(e0, .inr (6, [.ref ea, .ref ek, .ref eh, .int hq, .ref es, .ref ei, .ref el, .ref ew, .ref et, .ref er, .int lf3, .int md3, .ref ed, .ref ep, .int pn, .int sp, .ref ex, .ref eu, .int rm, .int la])), (ea, .inl (gI G, 42, .inl (nA al))), (el, .inl (gI G, 12, .inl (nA le2_1))), (ew, .inl (gI G, 12, .inl (nA wh2_1))), (et, .inl (gI G, 20, .inl (nA ms2_1))), (er, .inl (gI G, 20, .inl (nA mr2_1)))] H → va_D A [(e0, .inr (6, [.ref ea, .ref ek, .ref eh, .int hq, .ref es, .ref ei, .ref el, .ref ew, .ref et, .ref er, .int lf3, .int md3, .ref ed, .ref ep, .int pn, .int sp, .ref ex, .ref eu, .int rm, .int la])), (ea, .inl (gI G, 42, .inl (nA al))), (el, .inl (gI G, 12, .inl (nA le2_1))), (ew, .inl (gI G, 12, .inl (nA wh2_1))), (et, .inl (gI G, 20, .inl (nA ms2_1))), (er, .inl (gI G, 20, .inl (nA mr2_1)))] → va_S A s.heap H locs → ∀ ls : Array Slot, lv_has ls 3 [(2, .int (nI i)), (1, .int (nI y)), (0, .ref e0)] → W p l e ({ frames := 3, cells := 0, slots := 0, locals := 67 } : Room) s m args below meth c H locs 0 0 (MQ below (va_Qi (fun (r : Int32) (u : Int32 × Int32 × (Nat → Nat) × (Nat → Nat) × (Nat → Nat) × (Nat → Nat)) => r = nI (seS (mR al))) (cB G A (fun (u : Int32 × Int32 × (Nat → Nat) × (Nat → Nat) × (Nat → Nat) × (Nat → Nat)) => [(e0, .inr (6, [.ref ea, .ref ek, .ref eh, .int hq, .ref es, .ref ei, .ref el, .ref ew, .ref et, .ref er, .int u.1, .int u.2.1, .ref ed, .ref ep, .int pn, .int sp, .ref ex, .ref eu, .int rm, .int la])), (ea, .inl (gI G, 42, .inl (nA al))), (el, .inl (gI G, 12, .inl (nA u.2.2.1))), (ew, .inl (gI G, 12, .inl (nA u.2.2.2.1))), (et, .inl (gI G, 20, .inl (nA u.2.2.2.2.1))), (er, .inl (gI G, 20, .inl (nA u.2.2.2.2.2)))])) A) args s 0 0 A) (F0 m 8 ls []) := by
    intro n_8
    induction n_8 with
    | zero =>
      intro i y lf3 md3 h0
      exact absurd h0 (Nat.not_lt_zero _)
    | succ n_8 ih_8 =>
      intro i y lf3 md3 hm_8 hi hy H locs hP hD hS ls hl
      refine lv_iload_n hx hb dX6_settled_8 rfl (lv_at hl 0 rfl) ?_
      refine lv_aload_n hx hb dX6_settled_9 rfl (lv_at hl 2 rfl) ?_
      refine z_get S K hP hX6_settled_X6 0 rfl rfl 0 (by decide) kX6_settled_1 rfl rfl dX6_settled_10 ?_
      refine lv_iconst (v := nI 0) hx hb dX6_settled_13 (by decide +kernel) ?_
      refine z_iald S K hP 1 rfl (by omega) (by decide) dX6_settled_14 ?_
      refine zb_ge (tgt := 46) S dX6_settled_15 (by decide) (by omega) (by omega) (fun c_15 => ?_) (fun c_15 => ?_)
      · skip
        have hia : i = al 0 := by omega
        refine lv_iload_n hx hb dX6_settled_46 rfl (lv_at hl 1 rfl) ?_
        refine z_top (y := nI (seS (mR al))) (congrArg nI (by rw [hy, hia]; rfl)) ?_
        exact z_iret S hrt hlk hP hD hS (lf3, md3, le2_1, wh2_1, ms2_1, mr2_1) rfl rfl dX6_settled_47
      · skip
        refine lv_iload_n hx hb dX6_settled_18 rfl (lv_at hl 1 rfl) ?_
        refine lv_aload_n hx hb dX6_settled_19 rfl (lv_at hl 2 rfl) ?_
        refine lv_iconst (v := nI 1) hx hb dX6_settled_20 (by decide +kernel) ?_
        refine lv_iload_n hx hb dX6_settled_21 rfl (lv_at hl 0 rfl) ?_
        refine zi_shl S dX6_settled_22 (by omega) ?_
        refine zcVi (rest := [.int (nI y)]) S K hP hD hS hA hl.1 (c_X6_knownOf l G e0 ea ek eh es ei el ew et er ed ep ex eu hq lf3 md3 pn sp rm la al le2_1 wh2_1 (1 <<< i) (by first | assumption | omega) hw_1.2.2 (shl12 (by omega))) rfl rfl gX6_settled_X6_knownOf rfl eX6_knownOf [0, 1, 2, 3] (by decide +kernel) rfl (fun _ => rfl) 6 0 rfl rfl rfl rfl rfl (Nat.le_of_ble_eq_true rfl) (Nat.le_of_ble_eq_true rfl) (Nat.le_of_ble_eq_true rfl) ⟨Nat.zero_le _, Nat.zero_le _⟩ dX6_settled_23 (fun r_23 u_23 H locs hw_23 hP hD hS => ?_)
        obtain ⟨hP, hD⟩ := mx_ok [some 0, some 1, some 2, some 3, none, none] (by decide +kernel) rfl rfl hP hD
        obtain ⟨lf2_23, md2_23⟩ := u_23
        replace hw_23 : r_23 = (knS (mR al) (1 <<< i)) := hw_23
        obtain rfl := hw_23
        have hP : va_P (gD G) vwCl [(e0, .inr (6, [.ref ea, .ref ek, .ref eh, .int hq, .ref es, .ref ei, .ref el, .ref ew, .ref et, .ref er, .int lf2_23, .int md2_23, .ref ed, .ref ep, .int pn, .int sp, .ref ex, .ref eu, .int rm, .int la])), (ea, .inl (gI G, 42, .inl (nA al))), (el, .inl (gI G, 12, .inl (nA le2_1))), (ew, .inl (gI G, 12, .inl (nA wh2_1))), (et, .inl (gI G, 20, .inl (nA ms2_1))), (er, .inl (gI G, 20, .inl (nA mr2_1)))] H := hP
        have hD : va_D A [(e0, .inr (6, [.ref ea, .ref ek, .ref eh, .int hq, .ref es, .ref ei, .ref el, .ref ew, .ref et, .ref er, .int lf2_23, .int md2_23, .ref ed, .ref ep, .int pn, .int sp, .ref ex, .ref eu, .int rm, .int la])), (ea, .inl (gI G, 42, .inl (nA al))), (el, .inl (gI G, 12, .inl (nA le2_1))), (ew, .inl (gI G, 12, .inl (nA wh2_1))), (et, .inl (gI G, 20, .inl (nA ms2_1))), (er, .inl (gI G, 20, .inl (nA mr2_1)))] := hD
        refine lv_bipush (v := -6) hx hb dX6_settled_26 (by decide +kernel) ?_
        refine zr_ne (tgt := 35) S dX6_settled_28 (by decide) rfl (by decide : (-6 : Int32).toInt = -6) (fun c_28 => ?_) (fun c_28 => ?_)
        · skip
          refine lv_iconst (v := nI 1) hx hb dX6_settled_35 (by decide +kernel) ?_
          refine lv_iload_n hx hb dX6_settled_36 rfl (lv_at hl 0 rfl) ?_
          refine zi_shl S dX6_settled_37 (by omega) ?_
          refine zi_or S dX6_settled_38 ?_
          refine lv_istore_n (lv' := [(1, .int (nI (y ||| (1 <<< i)))), (2, .int (nI i)), (0, .ref e0)]) hx hb dX6_settled_39 rfl hl (by decide) rfl (fun ls hl => ?_)
          refine lv_iinc (v := (nI (i + 1))) (lv' := [(2, .int (nI (i + 1))), (1, .int (nI (y ||| (1 <<< i)))), (0, .ref e0)]) hx hb dX6_settled_40 hl (k := 1) rfl (z_i1 _) (by decide) rfl (fun ls hl => ?_)
          refine lv_goto (tgt := 8) hx hb dX6_settled_43 (by decide) ?_
          exact ih_8 (i + 1) (y ||| (1 <<< i)) lf2_23 md2_23 (by omega) (by omega) (by first | exact se_t hy (kn_t hR c_28) | exact (Nat.or_zero _).trans (se_f hy (kn_f hR c_28))) _ _ hP hD hS _ (lv_sub hl [0, 1, 2] rfl)
        · skip
          refine lv_iconst (v := nI 0) hx hb dX6_settled_31 (by decide +kernel) ?_
          refine lv_goto (tgt := 38) hx hb dX6_settled_32 (by decide) ?_
          refine zi_or S dX6_settled_38 ?_
          refine lv_istore_n (lv' := [(1, .int (nI (y ||| 0))), (2, .int (nI i)), (0, .ref e0)]) hx hb dX6_settled_39 rfl hl (by decide) rfl (fun ls hl => ?_)
          refine lv_iinc (v := (nI (i + 1))) (lv' := [(2, .int (nI (i + 1))), (1, .int (nI (y ||| 0))), (0, .ref e0)]) hx hb dX6_settled_40 hl (k := 1) rfl (z_i1 _) (by decide) rfl (fun ls hl => ?_)
          refine lv_goto (tgt := 8) hx hb dX6_settled_43 (by decide) ?_
          exact ih_8 (i + 1) (y ||| 0) lf2_23 md2_23 (by omega) (by omega) (by first | exact se_t hy (kn_t hR c_28) | exact (Nat.or_zero _).trans (se_f hy (kn_f hR c_28))) _ _ hP hD hS _ (lv_sub hl [0, 1, 2] rfl)
  exact lp_8 _ 0 0 lf2_1 md2_1 (Nat.lt_succ_self _) (by omega) rfl _ _ hP hD hS _ (lv_sub hl [0, 1, 2] rfl)
set_option maxHeartbeats 4000000 in
set_option maxRecDepth 100000 in
theorem c_X6_wipe (l : Launch) (G : gT) (e0 ea ek eh es ei el ew et er ed ep ex eu : Nat) (hq : Int32) (lf : Int32) (md : Int32) (sp : Int32) (rm : Int32) (la : Int32) (pn : Nat) : CI l yX6_wipe wsX6_wipe ({ frames := 0, cells := 0, slots := 0, locals := 0 } : Room) G [.ref e0] [(e0, .inr (6, [.ref ea, .ref ek, .ref eh, .int hq, .ref es, .ref ei, .ref el, .ref ew, .ref et, .ref er, .int lf, .int md, .ref ed, .ref ep, .int (nI pn), .int sp, .ref ex, .ref eu, .int rm, .int la]))] 0 0 (fun (r : Int32) (u : Unit) => r = nI pn) (fun (u : Unit) => [(e0, .inr (6, [.ref ea, .ref ek, .ref eh, .int hq, .ref es, .ref ei, .ref el, .ref ew, .ref et, .ref er, .int lf, .int md, .ref ed, .ref ep, .int (nI 0), .int sp, .ref ex, .ref eu, .int rm, .int la]))]) := by
  refine CI.of (cc := cX6_wipe) (maxL := 2) (ret := (some .int)) (by decide +kernel) rfl (Nat.le_of_ble_eq_true rfl) rfl (fun p e s m args below meth c A S hrt hlk hnm K hA hP hD hS ls hl => ?_)
  have hx := S.1
  have hb := S.2.1
  have hl : lv_has ls 2 [(0, .ref e0)] := hl
  refine lv_aload_n hx hb dX6_wipe_0 rfl (lv_at hl 0 rfl) ?_
  refine z_get S K hP hX6_wipe_X6 0 rfl rfl 14 (by decide) kX6_wipe_1 rfl rfl dX6_wipe_1 ?_
  refine lv_istore_n (lv' := [(1, .int (nI pn)), (0, .ref e0)]) hx hb dX6_wipe_4 rfl hl (by decide) rfl (fun ls hl => ?_)
  refine lv_aload_n hx hb dX6_wipe_5 rfl (lv_at hl 1 rfl) ?_
  refine lv_iconst (v := nI 0) hx hb dX6_wipe_6 (by decide +kernel) ?_
  refine z_put S K hP hD hS (ty0 := tyX6) hX6_wipe_X6 tyX6_ok nmX6 0 rfl rfl 14 (by decide) kX6_wipe_1 rfl rfl rfl rfl (Nat.le_of_ble_eq_true rfl) dX6_wipe_7 (fun H locs hP hD hS => ?_)
  have hP : va_P (gD G) vwCl [(e0, .inr (6, [.ref ea, .ref ek, .ref eh, .int hq, .ref es, .ref ei, .ref el, .ref ew, .ref et, .ref er, .int lf, .int md, .ref ed, .ref ep, .int (nI 0), .int sp, .ref ex, .ref eu, .int rm, .int la]))] H := hP
  have hD : va_D A [(e0, .inr (6, [.ref ea, .ref ek, .ref eh, .int hq, .ref es, .ref ei, .ref el, .ref ew, .ref et, .ref er, .int lf, .int md, .ref ed, .ref ep, .int (nI 0), .int sp, .ref ex, .ref eu, .int rm, .int la]))] := hD
  refine lv_iload_n hx hb dX6_wipe_10 rfl (lv_at hl 0 rfl) ?_
  exact z_iret S hrt hlk hP hD hS () rfl rfl dX6_wipe_11
set_option maxHeartbeats 4000000 in
set_option maxRecDepth 100000 in
theorem c_X6_rule (l : Launch) (G : gT) (e0 ea ek eh es ei el ew et er ed ep ex eu : Nat) (hq : Int32) (lf : Int32) (md : Int32) (pn : Int32) (sp : Int32) (rm : Int32) (la : Int32) (al : Nat → Nat) (le : Nat → Nat) (wh : Nat → Nat) (ms : Nat → Nat) (mr : Nat → Nat) (x : Int32) (y : Int32) (hR : RowOK (mR al)) : CI l yX6_rule wsX6_rule ({ frames := 5, cells := 0, slots := 0, locals := 110 } : Room) G [.ref e0, .int x, .int y] [(e0, .inr (6, [.ref ea, .ref ek, .ref eh, .int hq, .ref es, .ref ei, .ref el, .ref ew, .ref et, .ref er, .int lf, .int md, .ref ed, .ref ep, .int pn, .int sp, .ref ex, .ref eu, .int rm, .int la])), (ea, .inl (gI G, 42, .inl (nA al))), (el, .inl (gI G, 12, .inl (nA le))), (ew, .inl (gI G, 12, .inl (nA wh))), (et, .inl (gI G, 20, .inl (nA ms))), (er, .inl (gI G, 20, .inl (nA mr)))] 0 0 (fun (r : Int32) (u : Int32 × Int32 × (Nat → Nat) × (Nat → Nat) × (Nat → Nat) × (Nat → Nat)) => r = (r_rule (mR al) x y)) (fun (u : Int32 × Int32 × (Nat → Nat) × (Nat → Nat) × (Nat → Nat) × (Nat → Nat)) => [(e0, .inr (6, [.ref ea, .ref ek, .ref eh, .int hq, .ref es, .ref ei, .ref el, .ref ew, .ref et, .ref er, .int u.1, .int u.2.1, .ref ed, .ref ep, .int pn, .int sp, .ref ex, .ref eu, .int rm, .int la])), (ea, .inl (gI G, 42, .inl (nA al))), (el, .inl (gI G, 12, .inl (nA u.2.2.1))), (ew, .inl (gI G, 12, .inl (nA u.2.2.2.1))), (et, .inl (gI G, 20, .inl (nA u.2.2.2.2.1))), (er, .inl (gI G, 20, .inl (nA u.2.2.2.2.2)))]) := by
  refine CI.of (cc := cX6_rule) (maxL := 3) (ret := (some .int)) (by decide +kernel) rfl (Nat.le_of_ble_eq_true rfl) rfl (fun p e s m args below meth c A S hrt hlk hnm K hA hP hD hS ls hl => ?_)
  have hx := S.1
  have hb := S.2.1
  have hl : lv_has ls 3 [(0, .ref e0), (1, .int x), (2, .int y)] := hl
  obtain ⟨hc1, hc2, hn3, hf4, hf5, hg6⟩ := mrow hR
  have hp2 := p12 hc2
  have h1s : 1 <<< al 0 = 2 ^ al 0 := Nat.one_shiftLeft _
  refine lv_aload_n hx hb dX6_rule_0 rfl (lv_at hl 0 rfl) ?_
  refine lv_iload_n hx hb dX6_rule_1 rfl (lv_at hl 1 rfl) ?_
  refine zcVi (rest := []) S K hP hD hS hA hl.1 (c_X6_isRule l G e0 ea ek eh es ei el ew et er ed ep ex eu hq lf md pn sp rm la al x (by first | assumption | omega)) rfl rfl gX6_rule_X6_isRule rfl eX6_isRule [0, 1] (by decide +kernel) rfl (fun _ => rfl) 6 0 rfl rfl rfl rfl rfl (Nat.le_of_ble_eq_true rfl) (Nat.le_of_ble_eq_true rfl) (Nat.le_of_ble_eq_true rfl) ⟨Nat.zero_le _, Nat.zero_le _⟩ dX6_rule_2 (fun r_2 u_2 H locs hw_2 hP hD hS => ?_)
  obtain ⟨hP, hD⟩ := mx_ok [some 0, some 1, none, none, none, none] (by decide +kernel) rfl rfl hP hD
  replace hw_2 : r_2 = nI (bN (decide (0 ≤ x.toInt ∧ x.toInt < (al 1 : Int)))) := hw_2
  obtain rfl := hw_2
  have hP : va_P (gD G) vwCl [(e0, .inr (6, [.ref ea, .ref ek, .ref eh, .int hq, .ref es, .ref ei, .ref el, .ref ew, .ref et, .ref er, .int lf, .int md, .ref ed, .ref ep, .int pn, .int sp, .ref ex, .ref eu, .int rm, .int la])), (ea, .inl (gI G, 42, .inl (nA al))), (el, .inl (gI G, 12, .inl (nA le))), (ew, .inl (gI G, 12, .inl (nA wh))), (et, .inl (gI G, 20, .inl (nA ms))), (er, .inl (gI G, 20, .inl (nA mr)))] H := hP
  have hD : va_D A [(e0, .inr (6, [.ref ea, .ref ek, .ref eh, .int hq, .ref es, .ref ei, .ref el, .ref ew, .ref et, .ref er, .int lf, .int md, .ref ed, .ref ep, .int pn, .int sp, .ref ex, .ref eu, .int rm, .int la])), (ea, .inl (gI G, 42, .inl (nA al))), (el, .inl (gI G, 12, .inl (nA le))), (ew, .inl (gI G, 12, .inl (nA wh))), (et, .inl (gI G, 20, .inl (nA ms))), (er, .inl (gI G, 20, .inl (nA mr)))] := hD
  refine zf_ne (tgt := 10) S dX6_rule_5 (by decide) (bN_31 _) (fun c_5 => ?_) (fun c_5 => ?_)
  · skip
    have c_5 := of_decide_eq_true (bN_ne0 c_5)
    obtain ⟨i, hi1, hi2, hi3⟩ := z_of (x := x) (by omega)
    have hl : lv_has ls 3 [(0, .ref e0), (1, .int (nI i)), (2, .int y)] := by rw [hi2] at hl; exact hl
    refine lv_aload_n hx hb dX6_rule_10 rfl (lv_at hl 0 rfl) ?_
    refine zcVv (rest := []) S K hP hD hS hA hl.1 (c_X6_judges l G e0 ea ek eh es ei el ew et er ed ep ex eu hq lf md pn sp rm la al le wh ms mr (by first | assumption | omega)) rfl rfl gX6_rule_X6_judges rfl eX6_judges [0, 1, 2, 3, 4, 5] (by decide +kernel) rfl (fun _ => rfl) 6 0 rfl rfl rfl rfl rfl (Nat.le_of_ble_eq_true rfl) (Nat.le_of_ble_eq_true rfl) (Nat.le_of_ble_eq_true rfl) ⟨Nat.zero_le _, Nat.zero_le _⟩ dX6_rule_11 (fun u_11 H locs hw_11 hP hD hS => ?_)
    obtain ⟨hP, hD⟩ := mx_ok [some 0, some 1, some 2, some 3, some 4, some 5] (by decide +kernel) rfl rfl hP hD
    obtain ⟨lf2_11, md2_11, le2_11, wh2_11, ms2_11, mr2_11⟩ := u_11
    replace hw_11 : MV (fun j => al (2 + j)) (fun j => al (22 + j)) (al 1) ms2_11 mr2_11 le2_11 wh2_11 := hw_11
    have hP : va_P (gD G) vwCl [(e0, .inr (6, [.ref ea, .ref ek, .ref eh, .int hq, .ref es, .ref ei, .ref el, .ref ew, .ref et, .ref er, .int lf2_11, .int md2_11, .ref ed, .ref ep, .int pn, .int sp, .ref ex, .ref eu, .int rm, .int la])), (ea, .inl (gI G, 42, .inl (nA al))), (el, .inl (gI G, 12, .inl (nA le2_11))), (ew, .inl (gI G, 12, .inl (nA wh2_11))), (et, .inl (gI G, 20, .inl (nA ms2_11))), (er, .inl (gI G, 20, .inl (nA mr2_11)))] H := hP
    have hD : va_D A [(e0, .inr (6, [.ref ea, .ref ek, .ref eh, .int hq, .ref es, .ref ei, .ref el, .ref ew, .ref et, .ref er, .int lf2_11, .int md2_11, .ref ed, .ref ep, .int pn, .int sp, .ref ex, .ref eu, .int rm, .int la])), (ea, .inl (gI G, 42, .inl (nA al))), (el, .inl (gI G, 12, .inl (nA le2_11))), (ew, .inl (gI G, 12, .inl (nA wh2_11))), (et, .inl (gI G, 20, .inl (nA ms2_11))), (er, .inl (gI G, 20, .inl (nA mr2_11)))] := hD
    refine lv_iload_n hx hb dX6_rule_14 rfl (lv_at hl 2 rfl) ?_
    rcases y5 y with hy | hy | hy | hy | hy | hy | hy
    · skip
      refine z_top hy ?_
      refine lv_tableIn (off := 37) (tgt := 52) hx hb dX6_rule_15 (by decide +kernel) (by decide +kernel) (by decide +kernel) (by decide) ?_
      refine lv_aload_n hx hb dX6_rule_52 rfl (lv_at hl 0 rfl) ?_
      refine z_get S K hP hX6_rule_X6 0 rfl rfl 0 (by decide) kX6_rule_1 rfl rfl dX6_rule_53 ?_
      refine lv_iconst (v := nI 2) hx hb dX6_rule_56 (by decide +kernel) ?_
      refine lv_iload_n hx hb dX6_rule_57 rfl (lv_at hl 1 rfl) ?_
      refine zi_add S dX6_rule_58 ?_
      refine z_iald S K hP 1 rfl (by omega) (by decide) dX6_rule_59 ?_
      refine z_top (y := (r_rule (mR al) x y)) (ru_y (c := al 0) (n := al 1) (f := fun j => al (2 + j)) (g := fun j => al (22 + j)) hi2 (show i < al 1 by omega) hn3 (by rw [hy]; exact ruF_0 (c := al 0) (n := al 1) (f := fun j => al (2 + j)) (g := fun j => al (22 + j)) (by omega))) ?_
      exact z_iret S hrt hlk hP hD hS (lf2_11, md2_11, le2_11, wh2_11, ms2_11, mr2_11) rfl rfl dX6_rule_60
    · skip
      refine z_top hy ?_
      refine lv_tableIn (off := 46) (tgt := 61) hx hb dX6_rule_15 (by decide +kernel) (by decide +kernel) (by decide +kernel) (by decide) ?_
      refine lv_aload_n hx hb dX6_rule_61 rfl (lv_at hl 0 rfl) ?_
      refine z_get S K hP hX6_rule_X6 0 rfl rfl 0 (by decide) kX6_rule_1 rfl rfl dX6_rule_62 ?_
      refine lv_bipush (v := nI 22) hx hb dX6_rule_65 (by decide +kernel) ?_
      refine lv_iload_n hx hb dX6_rule_67 rfl (lv_at hl 1 rfl) ?_
      refine zi_add S dX6_rule_68 ?_
      refine z_iald S K hP 1 rfl (by omega) (by decide) dX6_rule_69 ?_
      refine z_top (y := (r_rule (mR al) x y)) (ru_y (c := al 0) (n := al 1) (f := fun j => al (2 + j)) (g := fun j => al (22 + j)) hi2 (show i < al 1 by omega) hn3 (by rw [hy]; exact ruF_1 (c := al 0) (n := al 1) (f := fun j => al (2 + j)) (g := fun j => al (22 + j)) (by omega))) ?_
      exact z_iret S hrt hlk hP hD hS (lf2_11, md2_11, le2_11, wh2_11, ms2_11, mr2_11) rfl rfl dX6_rule_70
    · skip
      refine z_top hy ?_
      refine lv_tableIn (off := 56) (tgt := 71) hx hb dX6_rule_15 (by decide +kernel) (by decide +kernel) (by decide +kernel) (by decide) ?_
      refine lv_aload_n hx hb dX6_rule_71 rfl (lv_at hl 0 rfl) ?_
      refine z_get S K hP hX6_rule_X6 0 rfl rfl 8 (by decide) kX6_rule_2 rfl rfl dX6_rule_72 ?_
      refine lv_iload_n hx hb dX6_rule_75 rfl (lv_at hl 1 rfl) ?_
      refine z_iald S K hP 4 rfl (by omega) (by decide) dX6_rule_76 ?_
      refine z_top (y := (r_rule (mR al) x y)) (ru_y (c := al 0) (n := al 1) (f := fun j => al (2 + j)) (g := fun j => al (22 + j)) hi2 (show i < al 1 by omega) hn3 (by rw [hy, mv_st hw_11 i (by omega)]; exact ruF_2)) ?_
      exact z_iret S hrt hlk hP hD hS (lf2_11, md2_11, le2_11, wh2_11, ms2_11, mr2_11) rfl rfl dX6_rule_77
    · skip
      refine z_top hy ?_
      refine lv_tableIn (off := 63) (tgt := 78) hx hb dX6_rule_15 (by decide +kernel) (by decide +kernel) (by decide +kernel) (by decide) ?_
      refine lv_aload_n hx hb dX6_rule_78 rfl (lv_at hl 0 rfl) ?_
      refine z_get S K hP hX6_rule_X6 0 rfl rfl 8 (by decide) kX6_rule_2 rfl rfl dX6_rule_79 ?_
      refine lv_iload_n hx hb dX6_rule_82 rfl (lv_at hl 1 rfl) ?_
      have hml := mv_le hw_11 (show i < al 1 by omega)
      refine z_iald S K hP 4 rfl (by omega) (by decide) dX6_rule_83 ?_
      refine zf_ne (tgt := 92) S dX6_rule_84 (by decide) (by omega) (fun c_84 => ?_) (fun c_84 => ?_)
      · skip
        refine lv_aload_n hx hb dX6_rule_92 rfl (lv_at hl 0 rfl) ?_
        refine z_get S K hP hX6_rule_X6 0 rfl rfl 9 (by decide) kX6_rule_3 rfl rfl dX6_rule_93 ?_
        refine lv_iload_n hx hb dX6_rule_96 rfl (lv_at hl 1 rfl) ?_
        refine z_iald S K hP 5 rfl (by omega) (by decide) dX6_rule_97 ?_
        refine z_top (y := (r_rule (mR al) x y)) (ru_y (c := al 0) (n := al 1) (f := fun j => al (2 + j)) (g := fun j => al (22 + j)) hi2 (show i < al 1 by omega) hn3 (by rw [hy]; exact (if_neg c_84).symm.trans (mv_r3 hw_11 (by omega)))) ?_
        exact z_iret S hrt hlk hP hD hS (lf2_11, md2_11, le2_11, wh2_11, ms2_11, mr2_11) rfl rfl dX6_rule_98
      · skip
        refine lv_bipush (v := -6) hx hb dX6_rule_87 (by decide +kernel) ?_
        refine lv_goto (tgt := 98) hx hb dX6_rule_89 (by decide) ?_
        refine z_top (y := (r_rule (mR al) x y)) (ru_y (c := al 0) (n := al 1) (f := fun j => al (2 + j)) (g := fun j => al (22 + j)) hi2 (show i < al 1 by omega) hn3 (by rw [hy]; exact (if_pos c_84).symm.trans (mv_r3 hw_11 (by omega)))) ?_
        exact z_iret S hrt hlk hP hD hS (lf2_11, md2_11, le2_11, wh2_11, ms2_11, mr2_11) rfl rfl dX6_rule_98
    · skip
      refine z_top hy ?_
      refine lv_tableIn (off := 84) (tgt := 99) hx hb dX6_rule_15 (by decide +kernel) (by decide +kernel) (by decide +kernel) (by decide) ?_
      refine lv_aload_n hx hb dX6_rule_99 rfl (lv_at hl 0 rfl) ?_
      refine lv_iload_n hx hb dX6_rule_100 rfl (lv_at hl 1 rfl) ?_
      refine zcVi (rest := []) S K hP hD hS hA hl.1 (c_X6_reasonsWith l G e0 ea ek eh es ei el ew et er ed ep ex eu hq lf2_11 md2_11 pn sp rm la al ms2_11 mr2_11 le2_11 wh2_11 i (by first | assumption | omega) hw_11 (by omega) (mv_31 hw_11 hn3)) rfl rfl gX6_rule_X6_reasonsWith rfl eX6_reasonsWith [0, 1, 4, 5] (by decide +kernel) rfl (fun _ => rfl) 6 0 rfl rfl rfl rfl rfl (Nat.le_of_ble_eq_true rfl) (Nat.le_of_ble_eq_true rfl) (Nat.le_of_ble_eq_true rfl) ⟨Nat.zero_le _, Nat.zero_le _⟩ dX6_rule_101 (fun r_101 u_101 H locs hw_101 hP hD hS => ?_)
      obtain ⟨hP, hD⟩ := mx_ok [some 0, some 1, none, none, some 2, some 3] (by decide +kernel) rfl rfl hP hD
      replace hw_101 : r_101 = nI (rwS (mR al) i) := hw_101
      obtain rfl := hw_101
      have hP : va_P (gD G) vwCl [(e0, .inr (6, [.ref ea, .ref ek, .ref eh, .int hq, .ref es, .ref ei, .ref el, .ref ew, .ref et, .ref er, .int lf2_11, .int md2_11, .ref ed, .ref ep, .int pn, .int sp, .ref ex, .ref eu, .int rm, .int la])), (ea, .inl (gI G, 42, .inl (nA al))), (el, .inl (gI G, 12, .inl (nA le2_11))), (ew, .inl (gI G, 12, .inl (nA wh2_11))), (et, .inl (gI G, 20, .inl (nA ms2_11))), (er, .inl (gI G, 20, .inl (nA mr2_11)))] H := hP
      have hD : va_D A [(e0, .inr (6, [.ref ea, .ref ek, .ref eh, .int hq, .ref es, .ref ei, .ref el, .ref ew, .ref et, .ref er, .int lf2_11, .int md2_11, .ref ed, .ref ep, .int pn, .int sp, .ref ex, .ref eu, .int rm, .int la])), (ea, .inl (gI G, 42, .inl (nA al))), (el, .inl (gI G, 12, .inl (nA le2_11))), (ew, .inl (gI G, 12, .inl (nA wh2_11))), (et, .inl (gI G, 20, .inl (nA ms2_11))), (er, .inl (gI G, 20, .inl (nA mr2_11)))] := hD
      refine z_top (y := (r_rule (mR al) x y)) (ru_y (c := al 0) (n := al 1) (f := fun j => al (2 + j)) (g := fun j => al (22 + j)) hi2 (show i < al 1 by omega) hn3 (by rw [hy]; exact ruF_4)) ?_
      exact z_iret S hrt hlk hP hD hS (lf2_11, md2_11, le2_11, wh2_11, ms2_11, mr2_11) rfl rfl dX6_rule_104
    · skip
      refine z_top hy ?_
      refine lv_tableIn (off := 90) (tgt := 105) hx hb dX6_rule_15 (by decide +kernel) (by decide +kernel) (by decide +kernel) (by decide) ?_
      refine lv_aload_n hx hb dX6_rule_105 rfl (lv_at hl 0 rfl) ?_
      refine z_get S K hP hX6_rule_X6 0 rfl rfl 8 (by decide) kX6_rule_2 rfl rfl dX6_rule_106 ?_
      refine lv_iload_n hx hb dX6_rule_109 rfl (lv_at hl 1 rfl) ?_
      have hml := mv_le hw_11 (show i < al 1 by omega)
      refine z_iald S K hP 4 rfl (by omega) (by decide) dX6_rule_110 ?_
      refine lv_iconst (v := nI 2) hx hb dX6_rule_111 (by decide +kernel) ?_
      refine zb_ne (tgt := 119) S dX6_rule_112 (by decide) (by omega) (by decide) (fun c_112 => ?_) (fun c_112 => ?_)
      · skip
        refine lv_aload_n hx hb dX6_rule_119 rfl (lv_at hl 0 rfl) ?_
        refine zcVi (rest := []) S K hP hD hS hA hl.1 (c_X6_answers l G e0 ea ek eh es ei el ew et er ed ep ex eu hq lf2_11 md2_11 pn sp rm la al le2_11 wh2_11 ms2_11 mr2_11 (by first | assumption | omega)) rfl rfl gX6_rule_X6_answers rfl eX6_answers [0, 1, 2, 3, 4, 5] (by decide +kernel) rfl (fun _ => rfl) 6 0 rfl rfl rfl rfl rfl (Nat.le_of_ble_eq_true rfl) (Nat.le_of_ble_eq_true rfl) (Nat.le_of_ble_eq_true rfl) ⟨Nat.zero_le _, Nat.zero_le _⟩ dX6_rule_120 (fun r_120 u_120 H locs hw_120 hP hD hS => ?_)
        obtain ⟨hP, hD⟩ := mx_ok [some 0, some 1, some 2, some 3, some 4, some 5] (by decide +kernel) rfl rfl hP hD
        obtain ⟨lf2_120, md2_120, le2_120, wh2_120, ms2_120, mr2_120⟩ := u_120
        replace hw_120 : r_120 = nI (naS (mR al)) ∧ MV (fun j => al (2 + j)) (fun j => al (22 + j)) (al 1) ms2_120 mr2_120 le2_120 wh2_120 := hw_120
        obtain ⟨rfl, hw_120⟩ := hw_120
        have hP : va_P (gD G) vwCl [(e0, .inr (6, [.ref ea, .ref ek, .ref eh, .int hq, .ref es, .ref ei, .ref el, .ref ew, .ref et, .ref er, .int lf2_120, .int md2_120, .ref ed, .ref ep, .int pn, .int sp, .ref ex, .ref eu, .int rm, .int la])), (ea, .inl (gI G, 42, .inl (nA al))), (el, .inl (gI G, 12, .inl (nA le2_120))), (ew, .inl (gI G, 12, .inl (nA wh2_120))), (et, .inl (gI G, 20, .inl (nA ms2_120))), (er, .inl (gI G, 20, .inl (nA mr2_120)))] H := hP
        have hD : va_D A [(e0, .inr (6, [.ref ea, .ref ek, .ref eh, .int hq, .ref es, .ref ei, .ref el, .ref ew, .ref et, .ref er, .int lf2_120, .int md2_120, .ref ed, .ref ep, .int pn, .int sp, .ref ex, .ref eu, .int rm, .int la])), (ea, .inl (gI G, 42, .inl (nA al))), (el, .inl (gI G, 12, .inl (nA le2_120))), (ew, .inl (gI G, 12, .inl (nA wh2_120))), (et, .inl (gI G, 20, .inl (nA ms2_120))), (er, .inl (gI G, 20, .inl (nA mr2_120)))] := hD
        refine z_top (y := (r_rule (mR al) x y)) (ru_y (c := al 0) (n := al 1) (f := fun j => al (2 + j)) (g := fun j => al (22 + j)) hi2 (show i < al 1 by omega) hn3 (by rw [hy]; exact (if_neg c_112).symm.trans (mv_r5 hw_11 (by omega)))) ?_
        exact z_iret S hrt hlk hP hD hS (lf2_120, md2_120, le2_120, wh2_120, ms2_120, mr2_120) rfl rfl dX6_rule_123
      · skip
        refine lv_iconst (v := nI 0) hx hb dX6_rule_115 (by decide +kernel) ?_
        refine lv_goto (tgt := 123) hx hb dX6_rule_116 (by decide) ?_
        refine z_top (y := (r_rule (mR al) x y)) (ru_y (c := al 0) (n := al 1) (f := fun j => al (2 + j)) (g := fun j => al (22 + j)) hi2 (show i < al 1 by omega) hn3 (by rw [hy]; exact (if_pos c_112).symm.trans (mv_r5 hw_11 (by omega)))) ?_
        exact z_iret S hrt hlk hP hD hS (lf2_11, md2_11, le2_11, wh2_11, ms2_11, mr2_11) rfl rfl dX6_rule_123
    · skip
      refine lv_tableOut (tgt := 124) hx hb dX6_rule_15 hy (by decide) ?_
      refine lv_bipush (v := -2) hx hb dX6_rule_124 (by decide +kernel) ?_
      refine z_top (y := (r_rule (mR al) x y)) (ru_y (c := al 0) (n := al 1) (f := fun j => al (2 + j)) (g := fun j => al (22 + j)) hi2 (show i < al 1 by omega) hn3 (ruF_o hy)) ?_
      exact z_iret S hrt hlk hP hD hS (lf2_11, md2_11, le2_11, wh2_11, ms2_11, mr2_11) rfl rfl dX6_rule_126
  · skip
    have c_5 := of_decide_eq_false (bN_eq0 c_5)
    refine lv_iconst (v := -1) hx hb dX6_rule_8 (by decide +kernel) ?_
    refine z_top (y := (r_rule (mR al) x y)) (ru_n (R := mR al) c_5) ?_
    exact z_iret S hrt hlk hP hD hS (lf, md, le, wh, ms, mr) rfl rfl dX6_rule_9
set_option maxHeartbeats 4000000 in
set_option maxRecDepth 100000 in
theorem c_X6_count (l : Launch) (G : gT) (e0 ea ek eh es ei el ew et er ed ep ex eu : Nat) (lf : Int32) (md : Int32) (sp : Int32) (rm : Int32) (la : Int32) (al : Nat → Nat) (le : Nat → Nat) (wh : Nat → Nat) (ms : Nat → Nat) (mr : Nat → Nat) (hq : Nat) (pn : Nat) (y : Int32) (hR : RowOK (mR al)) : CI l yX6_count wsX6_count ({ frames := 5, cells := 0, slots := 0, locals := 110 } : Room) G [.ref e0, .int y] [(e0, .inr (6, [.ref ea, .ref ek, .ref eh, .int (nI hq), .ref es, .ref ei, .ref el, .ref ew, .ref et, .ref er, .int lf, .int md, .ref ed, .ref ep, .int (nI pn), .int sp, .ref ex, .ref eu, .int rm, .int la])), (ea, .inl (gI G, 42, .inl (nA al))), (el, .inl (gI G, 12, .inl (nA le))), (ew, .inl (gI G, 12, .inl (nA wh))), (et, .inl (gI G, 20, .inl (nA ms))), (er, .inl (gI G, 20, .inl (nA mr)))] 0 0 (fun (r : Int32) (u : Int32 × Int32 × (Nat → Nat) × (Nat → Nat) × (Nat → Nat) × (Nat → Nat)) => r = (r_count (mR al) hq pn y)) (fun (u : Int32 × Int32 × (Nat → Nat) × (Nat → Nat) × (Nat → Nat) × (Nat → Nat)) => [(e0, .inr (6, [.ref ea, .ref ek, .ref eh, .int (nI hq), .ref es, .ref ei, .ref el, .ref ew, .ref et, .ref er, .int u.1, .int u.2.1, .ref ed, .ref ep, .int (nI pn), .int sp, .ref ex, .ref eu, .int rm, .int la])), (ea, .inl (gI G, 42, .inl (nA al))), (el, .inl (gI G, 12, .inl (nA u.2.2.1))), (ew, .inl (gI G, 12, .inl (nA u.2.2.2.1))), (et, .inl (gI G, 20, .inl (nA u.2.2.2.2.1))), (er, .inl (gI G, 20, .inl (nA u.2.2.2.2.2)))]) := by
  refine CI.of (cc := cX6_count) (maxL := 2) (ret := (some .int)) (by decide +kernel) rfl (Nat.le_of_ble_eq_true rfl) rfl (fun p e s m args below meth c A S hrt hlk hnm K hA hP hD hS ls hl => ?_)
  have hx := S.1
  have hb := S.2.1
  have hl : lv_has ls 2 [(0, .ref e0), (1, .int y)] := hl
  obtain ⟨hc1, hc2, hn3, hf4, hf5, hg6⟩ := mrow hR
  have hp2 := p12 hc2
  have h1s : 1 <<< al 0 = 2 ^ al 0 := Nat.one_shiftLeft _
  refine lv_iload_n hx hb dX6_count_0 rfl (lv_at hl 1 rfl) ?_
  rcases y8 y with hy | hy | hy | hy | hy | hy | hy | hy | hy | hy
  · skip
    refine z_top hy ?_
    refine lv_tableIn (off := 51) (tgt := 52) hx hb dX6_count_1 (by decide +kernel) (by decide +kernel) (by decide +kernel) (by decide) ?_
    have hl : lv_has ls 2 [(0, .ref e0), (1, .int (nI 0))] := by rw [hy] at hl; exact hl
    refine lv_aload_n hx hb dX6_count_52 rfl (lv_at hl 0 rfl) ?_
    refine z_get S K hP hX6_count_X6 0 rfl rfl 0 (by decide) kX6_count_1 rfl rfl dX6_count_53 ?_
    refine lv_iconst (v := nI 1) hx hb dX6_count_56 (by decide +kernel) ?_
    refine z_iald S K hP 1 rfl (by omega) (by decide) dX6_count_57 ?_
    refine z_top (y := (r_count (mR al) hq pn y)) (by rw [hy]; exact cnt_0 (c := al 0) (n := al 1) (f := fun j => al (2 + j)) (g := fun j => al (22 + j))) ?_
    exact z_iret S hrt hlk hP hD hS (lf, md, le, wh, ms, mr) rfl rfl dX6_count_58
  · skip
    refine z_top hy ?_
    refine lv_tableIn (off := 58) (tgt := 59) hx hb dX6_count_1 (by decide +kernel) (by decide +kernel) (by decide +kernel) (by decide) ?_
    have hl : lv_has ls 2 [(0, .ref e0), (1, .int (nI 1))] := by rw [hy] at hl; exact hl
    refine lv_aload_n hx hb dX6_count_59 rfl (lv_at hl 0 rfl) ?_
    refine lv_iload_n hx hb dX6_count_60 rfl (lv_at hl 1 rfl) ?_
    refine lv_iconst (v := nI 1) hx hb dX6_count_61 (by decide +kernel) ?_
    refine zi_sub S dX6_count_62 (by omega) ?_
    refine zcVi (rest := []) S K hP hD hS hA hl.1 (c_X6_rulesIn l G e0 ea ek eh es ei el ew et er ed ep ex eu (nI hq) lf md (nI pn) sp rm la al le wh ms mr 0 (by first | assumption | omega) (by omega)) rfl rfl gX6_count_X6_rulesIn rfl eX6_rulesIn [0, 1, 2, 3, 4, 5] (by decide +kernel) rfl (fun _ => rfl) 6 0 rfl rfl rfl rfl rfl (Nat.le_of_ble_eq_true rfl) (Nat.le_of_ble_eq_true rfl) (Nat.le_of_ble_eq_true rfl) ⟨Nat.zero_le _, Nat.zero_le _⟩ dX6_count_63 (fun r_63 u_63 H locs hw_63 hP hD hS => ?_)
    obtain ⟨hP, hD⟩ := mx_ok [some 0, some 1, some 2, some 3, some 4, some 5] (by decide +kernel) rfl rfl hP hD
    obtain ⟨lf2_63, md2_63, le2_63, wh2_63, ms2_63, mr2_63⟩ := u_63
    replace hw_63 : r_63 = nI (ctS (mR al) 0) ∧ MV (fun j => al (2 + j)) (fun j => al (22 + j)) (al 1) ms2_63 mr2_63 le2_63 wh2_63 := hw_63
    obtain ⟨rfl, hw_63⟩ := hw_63
    have hP : va_P (gD G) vwCl [(e0, .inr (6, [.ref ea, .ref ek, .ref eh, .int (nI hq), .ref es, .ref ei, .ref el, .ref ew, .ref et, .ref er, .int lf2_63, .int md2_63, .ref ed, .ref ep, .int (nI pn), .int sp, .ref ex, .ref eu, .int rm, .int la])), (ea, .inl (gI G, 42, .inl (nA al))), (el, .inl (gI G, 12, .inl (nA le2_63))), (ew, .inl (gI G, 12, .inl (nA wh2_63))), (et, .inl (gI G, 20, .inl (nA ms2_63))), (er, .inl (gI G, 20, .inl (nA mr2_63)))] H := hP
    have hD : va_D A [(e0, .inr (6, [.ref ea, .ref ek, .ref eh, .int (nI hq), .ref es, .ref ei, .ref el, .ref ew, .ref et, .ref er, .int lf2_63, .int md2_63, .ref ed, .ref ep, .int (nI pn), .int sp, .ref ex, .ref eu, .int rm, .int la])), (ea, .inl (gI G, 42, .inl (nA al))), (el, .inl (gI G, 12, .inl (nA le2_63))), (ew, .inl (gI G, 12, .inl (nA wh2_63))), (et, .inl (gI G, 20, .inl (nA ms2_63))), (er, .inl (gI G, 20, .inl (nA mr2_63)))] := hD
    refine z_top (y := (r_count (mR al) hq pn y)) (by rw [hy]; exact cnt_1) ?_
    exact z_iret S hrt hlk hP hD hS (lf2_63, md2_63, le2_63, wh2_63, ms2_63, mr2_63) rfl rfl dX6_count_66
  · skip
    refine z_top hy ?_
    refine lv_tableIn (off := 58) (tgt := 59) hx hb dX6_count_1 (by decide +kernel) (by decide +kernel) (by decide +kernel) (by decide) ?_
    have hl : lv_has ls 2 [(0, .ref e0), (1, .int (nI 2))] := by rw [hy] at hl; exact hl
    refine lv_aload_n hx hb dX6_count_59 rfl (lv_at hl 0 rfl) ?_
    refine lv_iload_n hx hb dX6_count_60 rfl (lv_at hl 1 rfl) ?_
    refine lv_iconst (v := nI 1) hx hb dX6_count_61 (by decide +kernel) ?_
    refine zi_sub S dX6_count_62 (by omega) ?_
    refine zcVi (rest := []) S K hP hD hS hA hl.1 (c_X6_rulesIn l G e0 ea ek eh es ei el ew et er ed ep ex eu (nI hq) lf md (nI pn) sp rm la al le wh ms mr 1 (by first | assumption | omega) (by omega)) rfl rfl gX6_count_X6_rulesIn rfl eX6_rulesIn [0, 1, 2, 3, 4, 5] (by decide +kernel) rfl (fun _ => rfl) 6 0 rfl rfl rfl rfl rfl (Nat.le_of_ble_eq_true rfl) (Nat.le_of_ble_eq_true rfl) (Nat.le_of_ble_eq_true rfl) ⟨Nat.zero_le _, Nat.zero_le _⟩ dX6_count_63 (fun r_63 u_63 H locs hw_63 hP hD hS => ?_)
    obtain ⟨hP, hD⟩ := mx_ok [some 0, some 1, some 2, some 3, some 4, some 5] (by decide +kernel) rfl rfl hP hD
    obtain ⟨lf2_63_1, md2_63_1, le2_63_1, wh2_63_1, ms2_63_1, mr2_63_1⟩ := u_63
    replace hw_63 : r_63 = nI (ctS (mR al) 1) ∧ MV (fun j => al (2 + j)) (fun j => al (22 + j)) (al 1) ms2_63_1 mr2_63_1 le2_63_1 wh2_63_1 := hw_63
    obtain ⟨rfl, hw_63⟩ := hw_63
    have hP : va_P (gD G) vwCl [(e0, .inr (6, [.ref ea, .ref ek, .ref eh, .int (nI hq), .ref es, .ref ei, .ref el, .ref ew, .ref et, .ref er, .int lf2_63_1, .int md2_63_1, .ref ed, .ref ep, .int (nI pn), .int sp, .ref ex, .ref eu, .int rm, .int la])), (ea, .inl (gI G, 42, .inl (nA al))), (el, .inl (gI G, 12, .inl (nA le2_63_1))), (ew, .inl (gI G, 12, .inl (nA wh2_63_1))), (et, .inl (gI G, 20, .inl (nA ms2_63_1))), (er, .inl (gI G, 20, .inl (nA mr2_63_1)))] H := hP
    have hD : va_D A [(e0, .inr (6, [.ref ea, .ref ek, .ref eh, .int (nI hq), .ref es, .ref ei, .ref el, .ref ew, .ref et, .ref er, .int lf2_63_1, .int md2_63_1, .ref ed, .ref ep, .int (nI pn), .int sp, .ref ex, .ref eu, .int rm, .int la])), (ea, .inl (gI G, 42, .inl (nA al))), (el, .inl (gI G, 12, .inl (nA le2_63_1))), (ew, .inl (gI G, 12, .inl (nA wh2_63_1))), (et, .inl (gI G, 20, .inl (nA ms2_63_1))), (er, .inl (gI G, 20, .inl (nA mr2_63_1)))] := hD
    refine z_top (y := (r_count (mR al) hq pn y)) (by rw [hy]; exact cnt_2) ?_
    exact z_iret S hrt hlk hP hD hS (lf2_63_1, md2_63_1, le2_63_1, wh2_63_1, ms2_63_1, mr2_63_1) rfl rfl dX6_count_66
  · skip
    refine z_top hy ?_
    refine lv_tableIn (off := 58) (tgt := 59) hx hb dX6_count_1 (by decide +kernel) (by decide +kernel) (by decide +kernel) (by decide) ?_
    have hl : lv_has ls 2 [(0, .ref e0), (1, .int (nI 3))] := by rw [hy] at hl; exact hl
    refine lv_aload_n hx hb dX6_count_59 rfl (lv_at hl 0 rfl) ?_
    refine lv_iload_n hx hb dX6_count_60 rfl (lv_at hl 1 rfl) ?_
    refine lv_iconst (v := nI 1) hx hb dX6_count_61 (by decide +kernel) ?_
    refine zi_sub S dX6_count_62 (by omega) ?_
    refine zcVi (rest := []) S K hP hD hS hA hl.1 (c_X6_rulesIn l G e0 ea ek eh es ei el ew et er ed ep ex eu (nI hq) lf md (nI pn) sp rm la al le wh ms mr 2 (by first | assumption | omega) (by omega)) rfl rfl gX6_count_X6_rulesIn rfl eX6_rulesIn [0, 1, 2, 3, 4, 5] (by decide +kernel) rfl (fun _ => rfl) 6 0 rfl rfl rfl rfl rfl (Nat.le_of_ble_eq_true rfl) (Nat.le_of_ble_eq_true rfl) (Nat.le_of_ble_eq_true rfl) ⟨Nat.zero_le _, Nat.zero_le _⟩ dX6_count_63 (fun r_63 u_63 H locs hw_63 hP hD hS => ?_)
    obtain ⟨hP, hD⟩ := mx_ok [some 0, some 1, some 2, some 3, some 4, some 5] (by decide +kernel) rfl rfl hP hD
    obtain ⟨lf2_63_2, md2_63_2, le2_63_2, wh2_63_2, ms2_63_2, mr2_63_2⟩ := u_63
    replace hw_63 : r_63 = nI (ctS (mR al) 2) ∧ MV (fun j => al (2 + j)) (fun j => al (22 + j)) (al 1) ms2_63_2 mr2_63_2 le2_63_2 wh2_63_2 := hw_63
    obtain ⟨rfl, hw_63⟩ := hw_63
    have hP : va_P (gD G) vwCl [(e0, .inr (6, [.ref ea, .ref ek, .ref eh, .int (nI hq), .ref es, .ref ei, .ref el, .ref ew, .ref et, .ref er, .int lf2_63_2, .int md2_63_2, .ref ed, .ref ep, .int (nI pn), .int sp, .ref ex, .ref eu, .int rm, .int la])), (ea, .inl (gI G, 42, .inl (nA al))), (el, .inl (gI G, 12, .inl (nA le2_63_2))), (ew, .inl (gI G, 12, .inl (nA wh2_63_2))), (et, .inl (gI G, 20, .inl (nA ms2_63_2))), (er, .inl (gI G, 20, .inl (nA mr2_63_2)))] H := hP
    have hD : va_D A [(e0, .inr (6, [.ref ea, .ref ek, .ref eh, .int (nI hq), .ref es, .ref ei, .ref el, .ref ew, .ref et, .ref er, .int lf2_63_2, .int md2_63_2, .ref ed, .ref ep, .int (nI pn), .int sp, .ref ex, .ref eu, .int rm, .int la])), (ea, .inl (gI G, 42, .inl (nA al))), (el, .inl (gI G, 12, .inl (nA le2_63_2))), (ew, .inl (gI G, 12, .inl (nA wh2_63_2))), (et, .inl (gI G, 20, .inl (nA ms2_63_2))), (er, .inl (gI G, 20, .inl (nA mr2_63_2)))] := hD
    refine z_top (y := (r_count (mR al) hq pn y)) (by rw [hy]; exact cnt_3) ?_
    exact z_iret S hrt hlk hP hD hS (lf2_63_2, md2_63_2, le2_63_2, wh2_63_2, ms2_63_2, mr2_63_2) rfl rfl dX6_count_66
  · skip
    refine z_top hy ?_
    refine lv_tableIn (off := 66) (tgt := 67) hx hb dX6_count_1 (by decide +kernel) (by decide +kernel) (by decide +kernel) (by decide) ?_
    have hl : lv_has ls 2 [(0, .ref e0), (1, .int (nI 4))] := by rw [hy] at hl; exact hl
    refine lv_aload_n hx hb dX6_count_67 rfl (lv_at hl 0 rfl) ?_
    refine zcVi (rest := []) S K hP hD hS hA hl.1 (c_X6_answers l G e0 ea ek eh es ei el ew et er ed ep ex eu (nI hq) lf md (nI pn) sp rm la al le wh ms mr (by first | assumption | omega)) rfl rfl gX6_count_X6_answers rfl eX6_answers [0, 1, 2, 3, 4, 5] (by decide +kernel) rfl (fun _ => rfl) 6 0 rfl rfl rfl rfl rfl (Nat.le_of_ble_eq_true rfl) (Nat.le_of_ble_eq_true rfl) (Nat.le_of_ble_eq_true rfl) ⟨Nat.zero_le _, Nat.zero_le _⟩ dX6_count_68 (fun r_68 u_68 H locs hw_68 hP hD hS => ?_)
    obtain ⟨hP, hD⟩ := mx_ok [some 0, some 1, some 2, some 3, some 4, some 5] (by decide +kernel) rfl rfl hP hD
    obtain ⟨lf2_68, md2_68, le2_68, wh2_68, ms2_68, mr2_68⟩ := u_68
    replace hw_68 : r_68 = nI (naS (mR al)) ∧ MV (fun j => al (2 + j)) (fun j => al (22 + j)) (al 1) ms2_68 mr2_68 le2_68 wh2_68 := hw_68
    obtain ⟨rfl, hw_68⟩ := hw_68
    have hP : va_P (gD G) vwCl [(e0, .inr (6, [.ref ea, .ref ek, .ref eh, .int (nI hq), .ref es, .ref ei, .ref el, .ref ew, .ref et, .ref er, .int lf2_68, .int md2_68, .ref ed, .ref ep, .int (nI pn), .int sp, .ref ex, .ref eu, .int rm, .int la])), (ea, .inl (gI G, 42, .inl (nA al))), (el, .inl (gI G, 12, .inl (nA le2_68))), (ew, .inl (gI G, 12, .inl (nA wh2_68))), (et, .inl (gI G, 20, .inl (nA ms2_68))), (er, .inl (gI G, 20, .inl (nA mr2_68)))] H := hP
    have hD : va_D A [(e0, .inr (6, [.ref ea, .ref ek, .ref eh, .int (nI hq), .ref es, .ref ei, .ref el, .ref ew, .ref et, .ref er, .int lf2_68, .int md2_68, .ref ed, .ref ep, .int (nI pn), .int sp, .ref ex, .ref eu, .int rm, .int la])), (ea, .inl (gI G, 42, .inl (nA al))), (el, .inl (gI G, 12, .inl (nA le2_68))), (ew, .inl (gI G, 12, .inl (nA wh2_68))), (et, .inl (gI G, 20, .inl (nA ms2_68))), (er, .inl (gI G, 20, .inl (nA mr2_68)))] := hD
    refine z_top (y := (r_count (mR al) hq pn y)) (by rw [hy]; exact cnt_4) ?_
    exact z_iret S hrt hlk hP hD hS (lf2_68, md2_68, le2_68, wh2_68, ms2_68, mr2_68) rfl rfl dX6_count_71
  · skip
    refine z_top hy ?_
    refine lv_tableIn (off := 71) (tgt := 72) hx hb dX6_count_1 (by decide +kernel) (by decide +kernel) (by decide +kernel) (by decide) ?_
    have hl : lv_has ls 2 [(0, .ref e0), (1, .int (nI 5))] := by rw [hy] at hl; exact hl
    refine lv_aload_n hx hb dX6_count_72 rfl (lv_at hl 0 rfl) ?_
    refine zcVi (rest := []) S K hP hD hS hA hl.1 (c_X6_settled l G e0 ea ek eh es ei el ew et er ed ep ex eu (nI hq) lf md (nI pn) sp rm la al le wh ms mr (by first | assumption | omega)) rfl rfl gX6_count_X6_settled rfl eX6_settled [0, 1, 2, 3, 4, 5] (by decide +kernel) rfl (fun _ => rfl) 6 0 rfl rfl rfl rfl rfl (Nat.le_of_ble_eq_true rfl) (Nat.le_of_ble_eq_true rfl) (Nat.le_of_ble_eq_true rfl) ⟨Nat.zero_le _, Nat.zero_le _⟩ dX6_count_73 (fun r_73 u_73 H locs hw_73 hP hD hS => ?_)
    obtain ⟨hP, hD⟩ := mx_ok [some 0, some 1, some 2, some 3, some 4, some 5] (by decide +kernel) rfl rfl hP hD
    obtain ⟨lf2_73, md2_73, le2_73, wh2_73, ms2_73, mr2_73⟩ := u_73
    replace hw_73 : r_73 = nI (seS (mR al)) := hw_73
    obtain rfl := hw_73
    have hP : va_P (gD G) vwCl [(e0, .inr (6, [.ref ea, .ref ek, .ref eh, .int (nI hq), .ref es, .ref ei, .ref el, .ref ew, .ref et, .ref er, .int lf2_73, .int md2_73, .ref ed, .ref ep, .int (nI pn), .int sp, .ref ex, .ref eu, .int rm, .int la])), (ea, .inl (gI G, 42, .inl (nA al))), (el, .inl (gI G, 12, .inl (nA le2_73))), (ew, .inl (gI G, 12, .inl (nA wh2_73))), (et, .inl (gI G, 20, .inl (nA ms2_73))), (er, .inl (gI G, 20, .inl (nA mr2_73)))] H := hP
    have hD : va_D A [(e0, .inr (6, [.ref ea, .ref ek, .ref eh, .int (nI hq), .ref es, .ref ei, .ref el, .ref ew, .ref et, .ref er, .int lf2_73, .int md2_73, .ref ed, .ref ep, .int (nI pn), .int sp, .ref ex, .ref eu, .int rm, .int la])), (ea, .inl (gI G, 42, .inl (nA al))), (el, .inl (gI G, 12, .inl (nA le2_73))), (ew, .inl (gI G, 12, .inl (nA wh2_73))), (et, .inl (gI G, 20, .inl (nA ms2_73))), (er, .inl (gI G, 20, .inl (nA mr2_73)))] := hD
    refine z_top (y := (r_count (mR al) hq pn y)) (by rw [hy]; exact cnt_5) ?_
    exact z_iret S hrt hlk hP hD hS (lf2_73, md2_73, le2_73, wh2_73, ms2_73, mr2_73) rfl rfl dX6_count_76
  · skip
    refine z_top hy ?_
    refine lv_tableIn (off := 76) (tgt := 77) hx hb dX6_count_1 (by decide +kernel) (by decide +kernel) (by decide +kernel) (by decide) ?_
    have hl : lv_has ls 2 [(0, .ref e0), (1, .int (nI 6))] := by rw [hy] at hl; exact hl
    refine lv_aload_n hx hb dX6_count_77 rfl (lv_at hl 0 rfl) ?_
    refine z_get S K hP hX6_count_X6 0 rfl rfl 0 (by decide) kX6_count_1 rfl rfl dX6_count_78 ?_
    refine lv_iconst (v := nI 0) hx hb dX6_count_81 (by decide +kernel) ?_
    refine z_iald S K hP 1 rfl (by omega) (by decide) dX6_count_82 ?_
    refine z_top (y := (r_count (mR al) hq pn y)) (by rw [hy]; exact cnt_6 (c := al 0) (n := al 1) (f := fun j => al (2 + j)) (g := fun j => al (22 + j))) ?_
    exact z_iret S hrt hlk hP hD hS (lf, md, le, wh, ms, mr) rfl rfl dX6_count_83
  · skip
    refine z_top hy ?_
    refine lv_tableIn (off := 83) (tgt := 84) hx hb dX6_count_1 (by decide +kernel) (by decide +kernel) (by decide +kernel) (by decide) ?_
    have hl : lv_has ls 2 [(0, .ref e0), (1, .int (nI 7))] := by rw [hy] at hl; exact hl
    refine lv_aload_n hx hb dX6_count_84 rfl (lv_at hl 0 rfl) ?_
    refine z_get S K hP hX6_count_X6 0 rfl rfl 14 (by decide) kX6_count_2 rfl rfl dX6_count_85 ?_
    refine z_top (y := (r_count (mR al) hq pn y)) (by rw [hy]; exact cnt_7) ?_
    exact z_iret S hrt hlk hP hD hS (lf, md, le, wh, ms, mr) rfl rfl dX6_count_88
  · skip
    refine z_top hy ?_
    refine lv_tableIn (off := 88) (tgt := 89) hx hb dX6_count_1 (by decide +kernel) (by decide +kernel) (by decide +kernel) (by decide) ?_
    have hl : lv_has ls 2 [(0, .ref e0), (1, .int (nI 8))] := by rw [hy] at hl; exact hl
    refine lv_aload_n hx hb dX6_count_89 rfl (lv_at hl 0 rfl) ?_
    refine z_get S K hP hX6_count_X6 0 rfl rfl 3 (by decide) kX6_count_3 rfl rfl dX6_count_90 ?_
    refine z_top (y := (r_count (mR al) hq pn y)) (by rw [hy]; exact cnt_8) ?_
    exact z_iret S hrt hlk hP hD hS (lf, md, le, wh, ms, mr) rfl rfl dX6_count_93
  · skip
    refine lv_tableOut (tgt := 94) hx hb dX6_count_1 hy (by decide) ?_
    refine lv_bipush (v := -2) hx hb dX6_count_94 (by decide +kernel) ?_
    refine z_top (y := (r_count (mR al) hq pn y)) (co_o hy) ?_
    exact z_iret S hrt hlk hP hD hS (lf, md, le, wh, ms, mr) rfl rfl dX6_count_96
set_option maxHeartbeats 4000000 in
set_option maxRecDepth 100000 in
theorem c_X6_undo (l : Launch) (G : gT) (e0 ea ek eh es ei el ew et er ed ep ex eu : Nat) (lf : Int32) (md : Int32) (pn : Int32) (sp : Int32) (rm : Int32) (la : Int32) (al : Nat → Nat) (hy : Nat → Nat) (hq : Nat) (hq6 : hq ≤ 6) (hn : ∀ k, k < hq → hy (42 * k + 1) ≤ 20) : CI l yX6_undo wsX6_undo ({ frames := 0, cells := 0, slots := 0, locals := 0 } : Room) G [.ref e0] [(e0, .inr (6, [.ref ea, .ref ek, .ref eh, .int (nI hq), .ref es, .ref ei, .ref el, .ref ew, .ref et, .ref er, .int lf, .int md, .ref ed, .ref ep, .int pn, .int sp, .ref ex, .ref eu, .int rm, .int la])), (ea, .inl (gI G, 42, .inl (nA al))), (eh, .inl (gI G, 252, .inl (nA hy)))] 0 0 (fun (r : Int32) (u : Nat × (Nat → Nat)) => r = (r_undo (mH hq hy)) ∧ (mR u.2, mH u.1 hy) = n_undo (mR al) (mH hq hy)) (fun (u : Nat × (Nat → Nat)) => [(e0, .inr (6, [.ref ea, .ref ek, .ref eh, .int (nI u.1), .ref es, .ref ei, .ref el, .ref ew, .ref et, .ref er, .int lf, .int md, .ref ed, .ref ep, .int pn, .int sp, .ref ex, .ref eu, .int rm, .int la])), (ea, .inl (gI G, 42, .inl (nA u.2))), (eh, .inl (gI G, 252, .inl (nA hy)))]) := by
  refine CI.of (cc := cX6_undo) (maxL := 2) (ret := (some .int)) (by decide +kernel) rfl (Nat.le_of_ble_eq_true rfl) rfl (fun p e s m args below meth c A S hrt hlk hnm K hA hP hD hS ls hl => ?_)
  have hx := S.1
  have hb := S.2.1
  have hl : lv_has ls 2 [(0, .ref e0)] := hl
  refine lv_aload_n hx hb dX6_undo_0 rfl (lv_at hl 0 rfl) ?_
  refine z_get S K hP hX6_undo_X6 0 rfl rfl 3 (by decide) kX6_undo_1 rfl rfl dX6_undo_1 ?_
  refine zf_ne (tgt := 10) S dX6_undo_4 (by decide) (by omega) (fun c_4 => ?_) (fun c_4 => ?_)
  · skip
    refine lv_aload_n hx hb dX6_undo_10 rfl (lv_at hl 0 rfl) ?_
    refine lv_dup hx hb dX6_undo_11 rfl ?_
    refine z_get S K hP hX6_undo_X6 0 rfl rfl 3 (by decide) kX6_undo_1 rfl rfl dX6_undo_12 ?_
    refine lv_iconst (v := nI 1) hx hb dX6_undo_15 (by decide +kernel) ?_
    refine zi_sub S dX6_undo_16 (by omega) ?_
    refine z_put S K hP hD hS (ty0 := tyX6) hX6_undo_X6 tyX6_ok nmX6 0 rfl rfl 3 (by decide) kX6_undo_1 rfl rfl rfl rfl (Nat.le_of_ble_eq_true rfl) dX6_undo_17 (fun H locs hP hD hS => ?_)
    have hP : va_P (gD G) vwCl [(e0, .inr (6, [.ref ea, .ref ek, .ref eh, .int (nI (hq - 1)), .ref es, .ref ei, .ref el, .ref ew, .ref et, .ref er, .int lf, .int md, .ref ed, .ref ep, .int pn, .int sp, .ref ex, .ref eu, .int rm, .int la])), (ea, .inl (gI G, 42, .inl (nA al))), (eh, .inl (gI G, 252, .inl (nA hy)))] H := hP
    have hD : va_D A [(e0, .inr (6, [.ref ea, .ref ek, .ref eh, .int (nI (hq - 1)), .ref es, .ref ei, .ref el, .ref ew, .ref et, .ref er, .int lf, .int md, .ref ed, .ref ep, .int pn, .int sp, .ref ex, .ref eu, .int rm, .int la])), (ea, .inl (gI G, 42, .inl (nA al))), (eh, .inl (gI G, 252, .inl (nA hy)))] := hD
    refine lv_iconst (v := nI 0) hx hb dX6_undo_20 (by decide +kernel) ?_
    refine lv_istore_n (lv' := [(1, .int (nI 0)), (0, .ref e0)]) hx hb dX6_undo_21 rfl hl (by decide) rfl (fun ls hl => ?_)
    have lp_22 : ∀ (n_22 : Nat) (i : Nat) (k1 : Nat → Nat), 42 - i < n_22 → (i ≤ 42) → (∀ j, j < i → k1 j = hy (42 * (hq - 1) + j)) → ∀ (H : Heap) (locs : List Loc), va_P (gD G) vwCl [(e0, .inr (6, [.ref ea, .ref ek, .ref eh, .int (nI (hq - 1)), .ref es, .ref ei, .ref el, .ref ew, .ref et, .ref er, .int lf, .int md, .ref ed, .ref ep, .int pn, .int sp, .ref ex, .ref eu, .int rm, .int la])), (ea, .inl (gI G, 42, .inl (nA k1))), (eh, .inl (gI G, 252, .inl (nA hy)))] H → va_D A [(e0, .inr (6, [.ref ea, .ref ek, .ref eh, .int (nI (hq - 1)), .ref es, .ref ei, .ref el, .ref ew, .ref et, .ref er, .int lf, .int md, .ref ed, .ref ep, .int pn, .int sp, .ref ex, .ref eu, .int rm, .int la])), (ea, .inl (gI G, 42, .inl (nA k1))), (eh, .inl (gI G, 252, .inl (nA hy)))] → va_S A s.heap H locs → ∀ ls : Array Slot, lv_has ls 2 [(1, .int (nI i)), (0, .ref e0)] → W p l e ({ frames := 0, cells := 0, slots := 0, locals := 0 } : Room) s m args below meth c H locs 0 0 (MQ below (va_Qi (fun (r : Int32) (u : Nat × (Nat → Nat)) => r = (r_undo (mH hq hy)) ∧ (mR u.2, mH u.1 hy) = n_undo (mR al) (mH hq hy)) (cB G A (fun (u : Nat × (Nat → Nat)) => [(e0, .inr (6, [.ref ea, .ref ek, .ref eh, .int (nI u.1), .ref es, .ref ei, .ref el, .ref ew, .ref et, .ref er, .int lf, .int md, .ref ed, .ref ep, .int pn, .int sp, .ref ex, .ref eu, .int rm, .int la])), (ea, .inl (gI G, 42, .inl (nA u.2))), (eh, .inl (gI G, 252, .inl (nA hy)))])) A) args s 0 0 A) (F0 m 22 ls []) := by
      intro n_22
      induction n_22 with
      | zero =>
        intro i k1 h0
        exact absurd h0 (Nat.not_lt_zero _)
      | succ n_22 ih_22 =>
        intro i k1 hm_22 hi hk H locs hP hD hS ls hl
        refine lv_iload_n hx hb dX6_undo_22 rfl (lv_at hl 0 rfl) ?_
        refine lv_bipush (v := nI 42) hx hb dX6_undo_23 (by decide +kernel) ?_
        refine zb_ge (tgt := 54) S dX6_undo_25 (by decide) (by omega) (by decide) (fun c_25 => ?_) (fun c_25 => ?_)
        · skip
          have hal2 : ∀ j, j < 42 → k1 j = hy (42 * (hq - 1) + j) := fun j hj => hk j (by omega)
          refine lv_aload_n hx hb dX6_undo_54 rfl (lv_at hl 1 rfl) ?_
          refine z_get S K hP hX6_undo_X6 0 rfl rfl 3 (by decide) kX6_undo_1 rfl rfl dX6_undo_55 ?_
          refine z_top (y := (r_undo (mH hq hy))) (mun_1 (R := mR al) (show 0 < hq by omega) hal2 (by have := hal2 1 (by omega); have := hn (hq - 1) (by omega); omega)).1 ?_
          exact z_iret S hrt hlk hP hD hS (hq - 1, k1) rfl ⟨rfl, (mun_1 (R := mR al) (show 0 < hq by omega) hal2 (by have := hal2 1 (by omega); have := hn (hq - 1) (by omega); omega)).2⟩ dX6_undo_58
        · skip
          refine lv_aload_n hx hb dX6_undo_28 rfl (lv_at hl 1 rfl) ?_
          refine z_get S K hP hX6_undo_X6 0 rfl rfl 0 (by decide) kX6_undo_2 rfl rfl dX6_undo_29 ?_
          refine lv_iload_n hx hb dX6_undo_32 rfl (lv_at hl 0 rfl) ?_
          refine lv_aload_n hx hb dX6_undo_33 rfl (lv_at hl 1 rfl) ?_
          refine z_get S K hP hX6_undo_X6 0 rfl rfl 2 (by decide) kX6_undo_3 rfl rfl dX6_undo_34 ?_
          refine lv_bipush (v := nI 42) hx hb dX6_undo_37 (by decide +kernel) ?_
          refine lv_aload_n hx hb dX6_undo_39 rfl (lv_at hl 1 rfl) ?_
          refine z_get S K hP hX6_undo_X6 0 rfl rfl 3 (by decide) kX6_undo_1 rfl rfl dX6_undo_40 ?_
          refine zi_mul S dX6_undo_43 ?_
          refine lv_iload_n hx hb dX6_undo_44 rfl (lv_at hl 0 rfl) ?_
          refine zi_add S dX6_undo_45 ?_
          refine z_iald S K hP 2 rfl (by omega) (by decide) dX6_undo_46 ?_
          refine z_iast S K hP hD hS 1 rfl (by omega) (by decide) dX6_undo_47 (fun H locs hP hD hS => ?_)
          have hP : va_P (gD G) vwCl [(e0, .inr (6, [.ref ea, .ref ek, .ref eh, .int (nI (hq - 1)), .ref es, .ref ei, .ref el, .ref ew, .ref et, .ref er, .int lf, .int md, .ref ed, .ref ep, .int pn, .int sp, .ref ex, .ref eu, .int rm, .int la])), (ea, .inl (gI G, 42, .inl (nA (pu k1 i (hy ((42 * (hq - 1)) + i)))))), (eh, .inl (gI G, 252, .inl (nA hy)))] H := hP
          have hD : va_D A [(e0, .inr (6, [.ref ea, .ref ek, .ref eh, .int (nI (hq - 1)), .ref es, .ref ei, .ref el, .ref ew, .ref et, .ref er, .int lf, .int md, .ref ed, .ref ep, .int pn, .int sp, .ref ex, .ref eu, .int rm, .int la])), (ea, .inl (gI G, 42, .inl (nA (pu k1 i (hy ((42 * (hq - 1)) + i)))))), (eh, .inl (gI G, 252, .inl (nA hy)))] := hD
          refine lv_iinc (v := (nI (i + 1))) (lv' := [(1, .int (nI (i + 1))), (0, .ref e0)]) hx hb dX6_undo_48 hl (k := 0) rfl (z_i1 _) (by decide) rfl (fun ls hl => ?_)
          refine lv_goto (tgt := 22) hx hb dX6_undo_51 (by decide) ?_
          exact ih_22 (i + 1) (pu k1 i (hy ((42 * (hq - 1)) + i))) (by omega) (by omega) (cp_1 (f := fun j => hy (42 * (hq - 1) + j)) hk) _ _ hP hD hS _ (lv_sub hl [0, 1] rfl)
    exact lp_22 _ 0 al (Nat.lt_succ_self _) (by omega) (fun j hj => absurd hj (Nat.not_lt_zero _)) _ _ hP hD hS _ (lv_sub hl [0, 1] rfl)
  · skip
    refine lv_bipush (v := -5) hx hb dX6_undo_7 (by decide +kernel) ?_
    refine z_top (y := (r_undo (mH hq hy))) (un_0 (R := mR al) (h := mH hq hy) c_4).1 ?_
    exact z_iret S hrt hlk hP hD hS (hq, al) rfl ⟨rfl, (un_0 (R := mR al) (h := mH hq hy) c_4).2⟩ dX6_undo_9
