set_option maxHeartbeats 4000000 in
set_option maxRecDepth 100000 in
theorem c_X6_takesOut (l : Launch) (G : gT) (e0 ea ek eh es ei el ew et er ed ep ex eu : Nat) (hq : Int32) (lf : Int32) (md : Int32) (pn : Int32) (sp : Int32) (rm : Int32) (la : Int32) (al : Nat → Nat) (i : Nat) (hi : i < al 1) (hn3 : al 1 ≤ 20) : CV l yX6_takesOut wsX6_takesOut ({ frames := 0, cells := 0, slots := 0, locals := 0 } : Room) G [.ref e0, .int (nI i)] [(e0, .inr (6, [.ref ea, .ref ek, .ref eh, .int hq, .ref es, .ref ei, .ref el, .ref ew, .ref et, .ref er, .int lf, .int md, .ref ed, .ref ep, .int pn, .int sp, .ref ex, .ref eu, .int rm, .int la])), (ea, .inl (gI G, 42, .inl (nA al)))] 0 0 (fun (u : (Nat → Nat)) => TO al u i (al 1 - 1)) (fun (u : (Nat → Nat)) => [(e0, .inr (6, [.ref ea, .ref ek, .ref eh, .int hq, .ref es, .ref ei, .ref el, .ref ew, .ref et, .ref er, .int lf, .int md, .ref ed, .ref ep, .int pn, .int sp, .ref ex, .ref eu, .int rm, .int la])), (ea, .inl (gI G, 42, .inl (nA u)))]) := by
  refine CV.of (cc := cX6_takesOut) (maxL := 3) (ret := none) (by decide +kernel) rfl (Nat.le_of_ble_eq_true rfl) rfl (fun p e s m args below meth c A S hrt hlk hnm K hA hP hD hS ls hl => ?_)
  have hx := S.1
  have hb := S.2.1
  have hl : lv_has ls 3 [(0, .ref e0), (1, .int (nI i))] := hl
  refine lv_aload_n hx hb dX6_takesOut_0 rfl (lv_at hl 0 rfl) ?_
  refine z_get S K hP hX6_takesOut_X6 0 rfl rfl 0 (by decide) kX6_takesOut_1 rfl rfl dX6_takesOut_1 ?_
  refine lv_iconst (v := nI 1) hx hb dX6_takesOut_4 (by decide +kernel) ?_
  refine lv_dup2_11 hx hb dX6_takesOut_5 rfl rfl ?_
  refine z_iald S K hP 1 rfl (by omega) (by decide) dX6_takesOut_6 ?_
  refine lv_iconst (v := nI 1) hx hb dX6_takesOut_7 (by decide +kernel) ?_
  refine zi_sub S dX6_takesOut_8 (by omega) ?_
  refine z_iast S K hP hD hS 1 rfl (by omega) (by decide) dX6_takesOut_9 (fun H locs hP hD hS => ?_)
  have hP : va_P (gD G) vwCl [(e0, .inr (6, [.ref ea, .ref ek, .ref eh, .int hq, .ref es, .ref ei, .ref el, .ref ew, .ref et, .ref er, .int lf, .int md, .ref ed, .ref ep, .int pn, .int sp, .ref ex, .ref eu, .int rm, .int la])), (ea, .inl (gI G, 42, .inl (nA (pu al 1 ((al 1) - 1)))))] H := hP
  have hD : va_D A [(e0, .inr (6, [.ref ea, .ref ek, .ref eh, .int hq, .ref es, .ref ei, .ref el, .ref ew, .ref et, .ref er, .int lf, .int md, .ref ed, .ref ep, .int pn, .int sp, .ref ex, .ref eu, .int rm, .int la])), (ea, .inl (gI G, 42, .inl (nA (pu al 1 ((al 1) - 1)))))] := hD
  refine lv_iload_n hx hb dX6_takesOut_10 rfl (lv_at hl 1 rfl) ?_
  refine lv_istore_n (lv' := [(2, .int (nI i)), (0, .ref e0), (1, .int (nI i))]) hx hb dX6_takesOut_11 rfl hl (by decide) rfl (fun ls hl => ?_)
  have lp_12 : ∀ (n_12 : Nat) (r : Nat) (k1 : Nat → Nat), al 1 - 1 - r < n_12 → (i ≤ r ∧ r ≤ al 1 - 1) → (TO al k1 i r) → ∀ (H : Heap) (locs : List Loc), va_P (gD G) vwCl [(e0, .inr (6, [.ref ea, .ref ek, .ref eh, .int hq, .ref es, .ref ei, .ref el, .ref ew, .ref et, .ref er, .int lf, .int md, .ref ed, .ref ep, .int pn, .int sp, .ref ex, .ref eu, .int rm, .int la])), (ea, .inl (gI G, 42, .inl (nA k1)))] H → va_D A [(e0, .inr (6, [.ref ea, .ref ek, .ref eh, .int hq, .ref es, .ref ei, .ref el, .ref ew, .ref et, .ref er, .int lf, .int md, .ref ed, .ref ep, .int pn, .int sp, .ref ex, .ref eu, .int rm, .int la])), (ea, .inl (gI G, 42, .inl (nA k1)))] → va_S A s.heap H locs → ∀ ls : Array Slot, lv_has ls 3 [(2, .int (nI r)), (0, .ref e0), (1, .int (nI i))] → W p l e ({ frames := 0, cells := 0, slots := 0, locals := 0 } : Room) s m args below meth c H locs 0 0 (MQ below (va_Qv (fun (u : (Nat → Nat)) => TO al u i (al 1 - 1)) (cB G A (fun (u : (Nat → Nat)) => [(e0, .inr (6, [.ref ea, .ref ek, .ref eh, .int hq, .ref es, .ref ei, .ref el, .ref ew, .ref et, .ref er, .int lf, .int md, .ref ed, .ref ep, .int pn, .int sp, .ref ex, .ref eu, .int rm, .int la])), (ea, .inl (gI G, 42, .inl (nA u)))])) A) args s 0 0 A) (F0 m 12 ls []) := by
    intro n_12
    induction n_12 with
    | zero =>
      intro r k1 h0
      exact absurd h0 (Nat.not_lt_zero _)
    | succ n_12 ih_12 =>
      intro r k1 hm_12 hr hT H locs hP hD hS ls hl
      refine lv_iload_n hx hb dX6_takesOut_12 rfl (lv_at hl 0 rfl) ?_
      refine lv_aload_n hx hb dX6_takesOut_13 rfl (lv_at hl 1 rfl) ?_
      refine z_get S K hP hX6_takesOut_X6 0 rfl rfl 0 (by decide) kX6_takesOut_1 rfl rfl dX6_takesOut_14 ?_
      refine lv_iconst (v := nI 1) hx hb dX6_takesOut_17 (by decide +kernel) ?_
      refine z_iald S K hP 1 rfl (by omega) (by decide) dX6_takesOut_18 ?_
      refine z_top (y := nI (al 1 - 1)) (congrArg nI hT.2.1) ?_
      refine zb_ge (tgt := 66) S dX6_takesOut_19 (by decide) (by omega) (by omega) (fun c_19 => ?_) (fun c_19 => ?_)
      · skip
        have hra : r = al 1 - 1 := by omega
        rw [hra] at hT
        exact z_vret S hrt hlk hP hD hS k1 rfl hT dX6_takesOut_66
      · skip
        refine lv_aload_n hx hb dX6_takesOut_22 rfl (lv_at hl 1 rfl) ?_
        refine z_get S K hP hX6_takesOut_X6 0 rfl rfl 0 (by decide) kX6_takesOut_1 rfl rfl dX6_takesOut_23 ?_
        refine lv_iconst (v := nI 2) hx hb dX6_takesOut_26 (by decide +kernel) ?_
        refine lv_iload_n hx hb dX6_takesOut_27 rfl (lv_at hl 0 rfl) ?_
        refine zi_add S dX6_takesOut_28 ?_
        refine lv_aload_n hx hb dX6_takesOut_29 rfl (lv_at hl 1 rfl) ?_
        refine z_get S K hP hX6_takesOut_X6 0 rfl rfl 0 (by decide) kX6_takesOut_1 rfl rfl dX6_takesOut_30 ?_
        refine lv_iconst (v := nI 2) hx hb dX6_takesOut_33 (by decide +kernel) ?_
        refine lv_iload_n hx hb dX6_takesOut_34 rfl (lv_at hl 0 rfl) ?_
        refine zi_add S dX6_takesOut_35 ?_
        refine lv_iconst (v := nI 1) hx hb dX6_takesOut_36 (by decide +kernel) ?_
        refine zi_add S dX6_takesOut_37 ?_
        refine z_iald S K hP 1 rfl (by omega) (by decide) dX6_takesOut_38 ?_
        refine z_iast S K hP hD hS 1 rfl (by omega) (by decide) dX6_takesOut_39 (fun H locs hP hD hS => ?_)
        have hP : va_P (gD G) vwCl [(e0, .inr (6, [.ref ea, .ref ek, .ref eh, .int hq, .ref es, .ref ei, .ref el, .ref ew, .ref et, .ref er, .int lf, .int md, .ref ed, .ref ep, .int pn, .int sp, .ref ex, .ref eu, .int rm, .int la])), (ea, .inl (gI G, 42, .inl (nA (pu k1 (2 + r) (k1 ((2 + r) + 1))))))] H := hP
        have hD : va_D A [(e0, .inr (6, [.ref ea, .ref ek, .ref eh, .int hq, .ref es, .ref ei, .ref el, .ref ew, .ref et, .ref er, .int lf, .int md, .ref ed, .ref ep, .int pn, .int sp, .ref ex, .ref eu, .int rm, .int la])), (ea, .inl (gI G, 42, .inl (nA (pu k1 (2 + r) (k1 ((2 + r) + 1))))))] := hD
        refine lv_aload_n hx hb dX6_takesOut_40 rfl (lv_at hl 1 rfl) ?_
        refine z_get S K hP hX6_takesOut_X6 0 rfl rfl 0 (by decide) kX6_takesOut_1 rfl rfl dX6_takesOut_41 ?_
        refine lv_bipush (v := nI 22) hx hb dX6_takesOut_44 (by decide +kernel) ?_
        refine lv_iload_n hx hb dX6_takesOut_46 rfl (lv_at hl 0 rfl) ?_
        refine zi_add S dX6_takesOut_47 ?_
        refine lv_aload_n hx hb dX6_takesOut_48 rfl (lv_at hl 1 rfl) ?_
        refine z_get S K hP hX6_takesOut_X6 0 rfl rfl 0 (by decide) kX6_takesOut_1 rfl rfl dX6_takesOut_49 ?_
        refine lv_bipush (v := nI 22) hx hb dX6_takesOut_52 (by decide +kernel) ?_
        refine lv_iload_n hx hb dX6_takesOut_54 rfl (lv_at hl 0 rfl) ?_
        refine zi_add S dX6_takesOut_55 ?_
        refine lv_iconst (v := nI 1) hx hb dX6_takesOut_56 (by decide +kernel) ?_
        refine zi_add S dX6_takesOut_57 ?_
        refine z_iald S K hP 1 rfl (by omega) (by decide) dX6_takesOut_58 ?_
        refine z_iast S K hP hD hS 1 rfl (by omega) (by decide) dX6_takesOut_59 (fun H locs hP hD hS => ?_)
        have hP : va_P (gD G) vwCl [(e0, .inr (6, [.ref ea, .ref ek, .ref eh, .int hq, .ref es, .ref ei, .ref el, .ref ew, .ref et, .ref er, .int lf, .int md, .ref ed, .ref ep, .int pn, .int sp, .ref ex, .ref eu, .int rm, .int la])), (ea, .inl (gI G, 42, .inl (nA (pu (pu k1 (2 + r) (k1 ((2 + r) + 1))) (22 + r) ((pu k1 (2 + r) (k1 ((2 + r) + 1))) ((22 + r) + 1))))))] H := hP
        have hD : va_D A [(e0, .inr (6, [.ref ea, .ref ek, .ref eh, .int hq, .ref es, .ref ei, .ref el, .ref ew, .ref et, .ref er, .int lf, .int md, .ref ed, .ref ep, .int pn, .int sp, .ref ex, .ref eu, .int rm, .int la])), (ea, .inl (gI G, 42, .inl (nA (pu (pu k1 (2 + r) (k1 ((2 + r) + 1))) (22 + r) ((pu k1 (2 + r) (k1 ((2 + r) + 1))) ((22 + r) + 1))))))] := hD
        refine lv_iinc (v := (nI (r + 1))) (lv' := [(2, .int (nI (r + 1))), (0, .ref e0), (1, .int (nI i))]) hx hb dX6_takesOut_60 hl (k := 0) rfl (z_i1 _) (by decide) rfl (fun ls hl => ?_)
        refine lv_goto (tgt := 12) hx hb dX6_takesOut_63 (by decide) ?_
        exact ih_12 (r + 1) (pu (pu k1 (2 + r) (k1 ((2 + r) + 1))) (22 + r) ((pu k1 (2 + r) (k1 ((2 + r) + 1))) ((22 + r) + 1))) (by omega) (by omega) (to_s hT (by omega) (by omega)) _ _ hP hD hS _ (lv_sub hl [0, 1, 2] rfl)
  exact lp_12 _ i (pu al 1 ((al 1) - 1)) (Nat.lt_succ_self _) (by omega) to_0 _ _ hP hD hS _ (lv_sub hl [0, 1, 2] rfl)
set_option maxHeartbeats 4000000 in
set_option maxRecDepth 100000 in
theorem c_X6_drop (l : Launch) (G : gT) (e0 ea ek eh es ei el ew et er ed ep ex eu : Nat) (lf : Int32) (md : Int32) (pn : Int32) (sp : Int32) (rm : Int32) (la : Int32) (al : Nat → Nat) (ka : Nat → Nat) (hy : Nat → Nat) (le : Nat → Nat) (wh : Nat → Nat) (ms : Nat → Nat) (mr : Nat → Nat) (hq : Nat) (x : Int32) (hR : RowOK (mR al)) (hq6 : hq ≤ 6) (hn : ∀ k, k < hq → hy (42 * k + 1) ≤ 20) : CI l yX6_drop wsX6_drop ({ frames := 2, cells := 0, slots := 0, locals := 46 } : Room) G [.ref e0, .int x] [(e0, .inr (6, [.ref ea, .ref ek, .ref eh, .int (nI hq), .ref es, .ref ei, .ref el, .ref ew, .ref et, .ref er, .int lf, .int md, .ref ed, .ref ep, .int pn, .int sp, .ref ex, .ref eu, .int rm, .int la])), (ea, .inl (gI G, 42, .inl (nA al))), (ek, .inl (gI G, 42, .inl (nA ka))), (eh, .inl (gI G, 252, .inl (nA hy))), (el, .inl (gI G, 12, .inl (nA le))), (ew, .inl (gI G, 12, .inl (nA wh))), (et, .inl (gI G, 20, .inl (nA ms))), (er, .inl (gI G, 20, .inl (nA mr)))] 0 0 (fun (r : Int32) (u : Nat × Int32 × Int32 × (Nat → Nat) × (Nat → Nat) × (Nat → Nat) × (Nat → Nat) × (Nat → Nat) × (Nat → Nat) × (Nat → Nat)) => r = (r_drop (mR al) x) ∧ (mR u.2.2.2.1, mH u.1 u.2.2.2.2.2.1) = n_drop (mR al) (mH hq hy) x) (fun (u : Nat × Int32 × Int32 × (Nat → Nat) × (Nat → Nat) × (Nat → Nat) × (Nat → Nat) × (Nat → Nat) × (Nat → Nat) × (Nat → Nat)) => [(e0, .inr (6, [.ref ea, .ref ek, .ref eh, .int (nI u.1), .ref es, .ref ei, .ref el, .ref ew, .ref et, .ref er, .int u.2.1, .int u.2.2.1, .ref ed, .ref ep, .int pn, .int sp, .ref ex, .ref eu, .int rm, .int la])), (ea, .inl (gI G, 42, .inl (nA u.2.2.2.1))), (ek, .inl (gI G, 42, .inl (nA u.2.2.2.2.1))), (eh, .inl (gI G, 252, .inl (nA u.2.2.2.2.2.1))), (el, .inl (gI G, 12, .inl (nA u.2.2.2.2.2.2.1))), (ew, .inl (gI G, 12, .inl (nA u.2.2.2.2.2.2.2.1))), (et, .inl (gI G, 20, .inl (nA u.2.2.2.2.2.2.2.2.1))), (er, .inl (gI G, 20, .inl (nA u.2.2.2.2.2.2.2.2.2)))]) := by
  refine CI.of (cc := cX6_drop) (maxL := 2) (ret := (some .int)) (by decide +kernel) rfl (Nat.le_of_ble_eq_true rfl) rfl (fun p e s m args below meth c A S hrt hlk hnm K hA hP hD hS ls hl => ?_)
  have hx := S.1
  have hb := S.2.1
  have hl : lv_has ls 2 [(0, .ref e0), (1, .int x)] := hl
  obtain ⟨hc1, hc2, hn3, hf4, hf5, hg6⟩ := mrow hR
  have hp2 := p12 hc2
  have h1s : 1 <<< al 0 = 2 ^ al 0 := Nat.one_shiftLeft _
  have hL0 := lN_toInt (n := 0) (by decide)
  have hL1 := lN_toInt (n := 1) (by decide)
  have hL12 := lN_toInt (n := 12) (by decide)
  have hLx := Int32.toInt_toInt64 x
  refine lv_aload_n hx hb dX6_drop_0 rfl (lv_at hl 0 rfl) ?_
  refine lv_iload_n hx hb dX6_drop_1 rfl (lv_at hl 1 rfl) ?_
  refine zcVi (rest := []) S K hP hD hS hA hl.1 (c_X6_isRule l G e0 ea ek eh es ei el ew et er ed ep ex eu (nI hq) lf md pn sp rm la al x (by first | assumption | omega)) rfl rfl gX6_drop_X6_isRule rfl eX6_isRule [0, 1] (by decide +kernel) rfl (fun _ => rfl) 6 0 rfl rfl rfl rfl rfl (Nat.le_of_ble_eq_true rfl) (Nat.le_of_ble_eq_true rfl) (Nat.le_of_ble_eq_true rfl) ⟨Nat.zero_le _, Nat.zero_le _⟩ dX6_drop_2 (fun r_2 u_2 H locs hw_2 hP hD hS => ?_)
  obtain ⟨hP, hD⟩ := mx_ok [some 0, some 1, none, none, none, none, none, none] (by decide +kernel) rfl rfl hP hD
  replace hw_2 : r_2 = nI (bN (decide (0 ≤ x.toInt ∧ x.toInt < (al 1 : Int)))) := hw_2
  obtain rfl := hw_2
  have hP : va_P (gD G) vwCl [(e0, .inr (6, [.ref ea, .ref ek, .ref eh, .int (nI hq), .ref es, .ref ei, .ref el, .ref ew, .ref et, .ref er, .int lf, .int md, .ref ed, .ref ep, .int pn, .int sp, .ref ex, .ref eu, .int rm, .int la])), (ea, .inl (gI G, 42, .inl (nA al))), (ek, .inl (gI G, 42, .inl (nA ka))), (eh, .inl (gI G, 252, .inl (nA hy))), (el, .inl (gI G, 12, .inl (nA le))), (ew, .inl (gI G, 12, .inl (nA wh))), (et, .inl (gI G, 20, .inl (nA ms))), (er, .inl (gI G, 20, .inl (nA mr)))] H := hP
  have hD : va_D A [(e0, .inr (6, [.ref ea, .ref ek, .ref eh, .int (nI hq), .ref es, .ref ei, .ref el, .ref ew, .ref et, .ref er, .int lf, .int md, .ref ed, .ref ep, .int pn, .int sp, .ref ex, .ref eu, .int rm, .int la])), (ea, .inl (gI G, 42, .inl (nA al))), (ek, .inl (gI G, 42, .inl (nA ka))), (eh, .inl (gI G, 252, .inl (nA hy))), (el, .inl (gI G, 12, .inl (nA le))), (ew, .inl (gI G, 12, .inl (nA wh))), (et, .inl (gI G, 20, .inl (nA ms))), (er, .inl (gI G, 20, .inl (nA mr)))] := hD
  refine zf_ne (tgt := 10) S dX6_drop_5 (by decide) (bN_31 _) (fun c_5 => ?_) (fun c_5 => ?_)
  · skip
    have c_5 := of_decide_eq_true (bN_ne0 c_5)
    obtain ⟨i, hi1, hi2, hi3⟩ := z_of (x := x) (by omega)
    have hl : lv_has ls 2 [(0, .ref e0), (1, .int (nI i))] := by rw [hi2] at hl; exact hl
    refine lv_aload_n hx hb dX6_drop_10 rfl (lv_at hl 0 rfl) ?_
    refine zcVv (rest := []) S K hP hD hS hA hl.1 (c_X6_keep l G e0 ea ek eh es ei el ew et er ed ep ex eu (nI hq) lf md pn sp rm la al ka ) rfl rfl gX6_drop_X6_keep rfl eX6_keep [0, 1, 2] (by decide +kernel) rfl (fun _ => rfl) 6 0 rfl rfl rfl rfl rfl (Nat.le_of_ble_eq_true rfl) (Nat.le_of_ble_eq_true rfl) (Nat.le_of_ble_eq_true rfl) ⟨Nat.zero_le _, Nat.zero_le _⟩ dX6_drop_11 (fun u_11 H locs hw_11 hP hD hS => ?_)
    obtain ⟨hP, hD⟩ := mx_ok [some 0, some 1, some 2, none, none, none, none, none] (by decide +kernel) rfl rfl hP hD
    obtain ⟨ka2_11, rfl⟩ : ∃ z, z = u_11 := ⟨_, rfl⟩
    replace hw_11 : ∀ j, j < 42 → ka2_11 j = al j := hw_11
    have hP : va_P (gD G) vwCl [(e0, .inr (6, [.ref ea, .ref ek, .ref eh, .int (nI hq), .ref es, .ref ei, .ref el, .ref ew, .ref et, .ref er, .int lf, .int md, .ref ed, .ref ep, .int pn, .int sp, .ref ex, .ref eu, .int rm, .int la])), (ea, .inl (gI G, 42, .inl (nA al))), (ek, .inl (gI G, 42, .inl (nA ka2_11))), (eh, .inl (gI G, 252, .inl (nA hy))), (el, .inl (gI G, 12, .inl (nA le))), (ew, .inl (gI G, 12, .inl (nA wh))), (et, .inl (gI G, 20, .inl (nA ms))), (er, .inl (gI G, 20, .inl (nA mr)))] H := hP
    have hD : va_D A [(e0, .inr (6, [.ref ea, .ref ek, .ref eh, .int (nI hq), .ref es, .ref ei, .ref el, .ref ew, .ref et, .ref er, .int lf, .int md, .ref ed, .ref ep, .int pn, .int sp, .ref ex, .ref eu, .int rm, .int la])), (ea, .inl (gI G, 42, .inl (nA al))), (ek, .inl (gI G, 42, .inl (nA ka2_11))), (eh, .inl (gI G, 252, .inl (nA hy))), (el, .inl (gI G, 12, .inl (nA le))), (ew, .inl (gI G, 12, .inl (nA wh))), (et, .inl (gI G, 20, .inl (nA ms))), (er, .inl (gI G, 20, .inl (nA mr)))] := hD
    obtain ⟨hkR, hk1⟩ := keep_R hw_11 hn3
    refine lv_aload_n hx hb dX6_drop_14 rfl (lv_at hl 0 rfl) ?_
    refine lv_iload_n hx hb dX6_drop_15 rfl (lv_at hl 1 rfl) ?_
    refine zcVv (rest := []) S K hP hD hS hA hl.1 (c_X6_takesOut l G e0 ea ek eh es ei el ew et er ed ep ex eu (nI hq) lf md pn sp rm la al i (by first | assumption | omega) (by first | assumption | omega)) rfl rfl gX6_drop_X6_takesOut rfl eX6_takesOut [0, 1] (by decide +kernel) rfl (fun _ => rfl) 6 0 rfl rfl rfl rfl rfl (Nat.le_of_ble_eq_true rfl) (Nat.le_of_ble_eq_true rfl) (Nat.le_of_ble_eq_true rfl) ⟨Nat.zero_le _, Nat.zero_le _⟩ dX6_drop_16 (fun u_16 H locs hw_16 hP hD hS => ?_)
    obtain ⟨hP, hD⟩ := mx_ok [some 0, some 1, none, none, none, none, none, none] (by decide +kernel) rfl rfl hP hD
    obtain ⟨al2_16, rfl⟩ : ∃ z, z = u_16 := ⟨_, rfl⟩
    replace hw_16 : TO al al2_16 i (al 1 - 1) := hw_16
    have hP : va_P (gD G) vwCl [(e0, .inr (6, [.ref ea, .ref ek, .ref eh, .int (nI hq), .ref es, .ref ei, .ref el, .ref ew, .ref et, .ref er, .int lf, .int md, .ref ed, .ref ep, .int pn, .int sp, .ref ex, .ref eu, .int rm, .int la])), (ea, .inl (gI G, 42, .inl (nA al2_16))), (ek, .inl (gI G, 42, .inl (nA ka2_11))), (eh, .inl (gI G, 252, .inl (nA hy))), (el, .inl (gI G, 12, .inl (nA le))), (ew, .inl (gI G, 12, .inl (nA wh))), (et, .inl (gI G, 20, .inl (nA ms))), (er, .inl (gI G, 20, .inl (nA mr)))] H := hP
    have hD : va_D A [(e0, .inr (6, [.ref ea, .ref ek, .ref eh, .int (nI hq), .ref es, .ref ei, .ref el, .ref ew, .ref et, .ref er, .int lf, .int md, .ref ed, .ref ep, .int pn, .int sp, .ref ex, .ref eu, .int rm, .int la])), (ea, .inl (gI G, 42, .inl (nA al2_16))), (ek, .inl (gI G, 42, .inl (nA ka2_11))), (eh, .inl (gI G, 252, .inl (nA hy))), (el, .inl (gI G, 12, .inl (nA le))), (ew, .inl (gI G, 12, .inl (nA wh))), (et, .inl (gI G, 20, .inl (nA ms))), (er, .inl (gI G, 20, .inl (nA mr)))] := hD
    refine lv_aload_n hx hb dX6_drop_19 rfl (lv_at hl 0 rfl) ?_
    refine lv_aload_n hx hb dX6_drop_20 rfl (lv_at hl 0 rfl) ?_
    refine z_get S K hP hX6_drop_X6 0 rfl rfl 0 (by decide) kX6_drop_1 rfl rfl dX6_drop_21 ?_
    refine lv_iconst (v := nI 1) hx hb dX6_drop_24 (by decide +kernel) ?_
    refine z_iald S K hP 1 rfl (by omega) (by decide) dX6_drop_25 ?_
    refine z_top (y := nI (al 1 - 1)) (congrArg nI hw_16.2.1) ?_
    refine zcVi (rest := []) S K hP hD hS hA hl.1 (c_X6_changed l G e0 ea ek eh es ei el ew et er ed ep ex eu lf md pn sp rm la ka2_11 hy hq (nI (al 1 - 1)) hq6 hn hk1) rfl rfl gX6_drop_X6_changed rfl eX6_changed [0, 2, 3] (by decide +kernel) rfl (fun _ => rfl) 6 0 rfl rfl rfl rfl rfl (Nat.le_of_ble_eq_true rfl) (Nat.le_of_ble_eq_true rfl) (Nat.le_of_ble_eq_true rfl) ⟨Nat.zero_le _, Nat.zero_le _⟩ dX6_drop_26 (fun r_26 u_26 H locs hw_26 hP hD hS => ?_)
    obtain ⟨hP, hD⟩ := mx_ok [some 0, none, some 1, some 2, none, none, none, none] (by decide +kernel) rfl rfl hP hD
    obtain ⟨hq2_26, hy2_26⟩ := u_26
    replace hw_26 : r_26 = ((nI (al 1 - 1))) ∧ mH hq2_26 hy2_26 = pushH (mH hq hy) (mR ka2_11) := hw_26
    obtain ⟨rfl, hw_26⟩ := hw_26
    have hP : va_P (gD G) vwCl [(e0, .inr (6, [.ref ea, .ref ek, .ref eh, .int (nI hq2_26), .ref es, .ref ei, .ref el, .ref ew, .ref et, .ref er, .int lf, .int md, .ref ed, .ref ep, .int pn, .int sp, .ref ex, .ref eu, .int rm, .int la])), (ea, .inl (gI G, 42, .inl (nA al2_16))), (ek, .inl (gI G, 42, .inl (nA ka2_11))), (eh, .inl (gI G, 252, .inl (nA hy2_26))), (el, .inl (gI G, 12, .inl (nA le))), (ew, .inl (gI G, 12, .inl (nA wh))), (et, .inl (gI G, 20, .inl (nA ms))), (er, .inl (gI G, 20, .inl (nA mr)))] H := hP
    have hD : va_D A [(e0, .inr (6, [.ref ea, .ref ek, .ref eh, .int (nI hq2_26), .ref es, .ref ei, .ref el, .ref ew, .ref et, .ref er, .int lf, .int md, .ref ed, .ref ep, .int pn, .int sp, .ref ex, .ref eu, .int rm, .int la])), (ea, .inl (gI G, 42, .inl (nA al2_16))), (ek, .inl (gI G, 42, .inl (nA ka2_11))), (eh, .inl (gI G, 252, .inl (nA hy2_26))), (el, .inl (gI G, 12, .inl (nA le))), (ew, .inl (gI G, 12, .inl (nA wh))), (et, .inl (gI G, 20, .inl (nA ms))), (er, .inl (gI G, 20, .inl (nA mr)))] := hD
    refine z_top (y := (r_drop (mR al) x)) (dm_1 (h := (0, fun _ => R0)) hi2 (by omega) hn3 (to_R hw_16 (by omega) hn3)).1 ?_
    exact z_iret S hrt hlk hP hD hS (hq2_26, lf, md, al2_16, ka2_11, hy2_26, le, wh, ms, mr) rfl ⟨rfl, (by rw [hw_26, hkR]; exact (dm_1 hi2 (by omega) hn3 (to_R hw_16 (by omega) hn3)).2)⟩ dX6_drop_29
  · skip
    have c_5 := of_decide_eq_false (bN_eq0 c_5)
    refine lv_iconst (v := -1) hx hb dX6_drop_8 (by decide +kernel) ?_
    refine z_top (y := (r_drop (mR al) x)) (dr_0 (R := mR al) (h := (0, fun _ => R0)) c_5).1 ?_
    exact z_iret S hrt hlk hP hD hS (hq, lf, md, al, ka, hy, le, wh, ms, mr) rfl ⟨rfl, (dr_0 (R := mR al) c_5).2⟩ dX6_drop_9
