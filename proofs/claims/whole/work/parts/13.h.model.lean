set_option maxHeartbeats 4000000 in
set_option maxRecDepth 100000 in
theorem c_X6_rulesIn (l : Launch) (G : gT) (e0 ea ek eh es ei el ew et er ed ep ex eu : Nat) (hq : Int32) (lf : Int32) (md : Int32) (pn : Int32) (sp : Int32) (rm : Int32) (la : Int32) (al : Nat → Nat) (le : Nat → Nat) (wh : Nat → Nat) (ms : Nat → Nat) (mr : Nat → Nat) (w : Nat) (hR : RowOK (mR al)) (hw2 : w ≤ 2) : CI l yX6_rulesIn wsX6_rulesIn ({ frames := 3, cells := 0, slots := 0, locals := 67 } : Room) G [.ref e0, .int (nI w)] [(e0, .inr (6, [.ref ea, .ref ek, .ref eh, .int hq, .ref es, .ref ei, .ref el, .ref ew, .ref et, .ref er, .int lf, .int md, .ref ed, .ref ep, .int pn, .int sp, .ref ex, .ref eu, .int rm, .int la])), (ea, .inl (gI G, 42, .inl (nA al))), (el, .inl (gI G, 12, .inl (nA le))), (ew, .inl (gI G, 12, .inl (nA wh))), (et, .inl (gI G, 20, .inl (nA ms))), (er, .inl (gI G, 20, .inl (nA mr)))] 0 0 (fun (r : Int32) (u : Int32 × Int32 × (Nat → Nat) × (Nat → Nat) × (Nat → Nat) × (Nat → Nat)) => r = nI (ctS (mR al) w) ∧ MV (fun j => al (2 + j)) (fun j => al (22 + j)) (al 1) u.2.2.2.2.1 u.2.2.2.2.2 u.2.2.1 u.2.2.2.1) (fun (u : Int32 × Int32 × (Nat → Nat) × (Nat → Nat) × (Nat → Nat) × (Nat → Nat)) => [(e0, .inr (6, [.ref ea, .ref ek, .ref eh, .int hq, .ref es, .ref ei, .ref el, .ref ew, .ref et, .ref er, .int u.1, .int u.2.1, .ref ed, .ref ep, .int pn, .int sp, .ref ex, .ref eu, .int rm, .int la])), (ea, .inl (gI G, 42, .inl (nA al))), (el, .inl (gI G, 12, .inl (nA u.2.2.1))), (ew, .inl (gI G, 12, .inl (nA u.2.2.2.1))), (et, .inl (gI G, 20, .inl (nA u.2.2.2.2.1))), (er, .inl (gI G, 20, .inl (nA u.2.2.2.2.2)))]) := by
  refine CI.of (cc := cX6_rulesIn) (maxL := 4) (ret := (some .int)) (by decide +kernel) rfl (Nat.le_of_ble_eq_true rfl) rfl (fun p e s m args below meth c A S hrt hlk hnm K hA hP hD hS ls hl => ?_)
  have hx := S.1
  have hb := S.2.1
  have hl : lv_has ls 4 [(0, .ref e0), (1, .int (nI w))] := hl
  obtain ⟨hc1, hc2, hn3, hf4, hf5, hg6⟩ := mrow hR
  have hp2 := p12 hc2
  have h1s : 1 <<< al 0 = 2 ^ al 0 := Nat.one_shiftLeft _
  refine lv_aload_n hx hb dX6_rulesIn_0 rfl (lv_at hl 0 rfl) ?_
  refine zcVv (rest := []) S K hP hD hS hA hl.1 (c_X6_judges l G e0 ea ek eh es ei el ew et er ed ep ex eu hq lf md pn sp rm la al le wh ms mr (by first | assumption | omega)) rfl rfl gX6_rulesIn_X6_judges rfl eX6_judges [0, 1, 2, 3, 4, 5] (by decide +kernel) rfl (fun _ => rfl) 6 0 rfl rfl rfl rfl rfl (Nat.le_of_ble_eq_true rfl) (Nat.le_of_ble_eq_true rfl) (Nat.le_of_ble_eq_true rfl) ⟨Nat.zero_le _, Nat.zero_le _⟩ dX6_rulesIn_1 (fun u_1 H locs hw_1 hP hD hS => ?_)
  obtain ⟨hP, hD⟩ := mx_ok [some 0, some 1, some 2, some 3, some 4, some 5] (by decide +kernel) rfl rfl hP hD
  obtain ⟨lf2_1, md2_1, le2_1, wh2_1, ms2_1, mr2_1⟩ := u_1
  replace hw_1 : MV (fun j => al (2 + j)) (fun j => al (22 + j)) (al 1) ms2_1 mr2_1 le2_1 wh2_1 := hw_1
  have hP : va_P (gD G) vwCl [(e0, .inr (6, [.ref ea, .ref ek, .ref eh, .int hq, .ref es, .ref ei, .ref el, .ref ew, .ref et, .ref er, .int lf2_1, .int md2_1, .ref ed, .ref ep, .int pn, .int sp, .ref ex, .ref eu, .int rm, .int la])), (ea, .inl (gI G, 42, .inl (nA al))), (el, .inl (gI G, 12, .inl (nA le2_1))), (ew, .inl (gI G, 12, .inl (nA wh2_1))), (et, .inl (gI G, 20, .inl (nA ms2_1))), (er, .inl (gI G, 20, .inl (nA mr2_1)))] H := hP
  have hD : va_D A [(e0, .inr (6, [.ref ea, .ref ek, .ref eh, .int hq, .ref es, .ref ei, .ref el, .ref ew, .ref et, .ref er, .int lf2_1, .int md2_1, .ref ed, .ref ep, .int pn, .int sp, .ref ex, .ref eu, .int rm, .int la])), (ea, .inl (gI G, 42, .inl (nA al))), (el, .inl (gI G, 12, .inl (nA le2_1))), (ew, .inl (gI G, 12, .inl (nA wh2_1))), (et, .inl (gI G, 20, .inl (nA ms2_1))), (er, .inl (gI G, 20, .inl (nA mr2_1)))] := hD
  refine lv_iconst (v := nI 0) hx hb dX6_rulesIn_4 (by decide +kernel) ?_
  refine lv_istore_n (lv' := [(2, .int (nI 0)), (0, .ref e0), (1, .int (nI w))]) hx hb dX6_rulesIn_5 rfl hl (by decide) rfl (fun ls hl => ?_)
  refine lv_iconst (v := nI 0) hx hb dX6_rulesIn_6 (by decide +kernel) ?_
  refine lv_istore_n (lv' := [(3, .int (nI 0)), (2, .int (nI 0)), (0, .ref e0), (1, .int (nI w))]) hx hb dX6_rulesIn_7 rfl hl (by decide) rfl (fun ls hl => ?_)
  have lp_8 : ∀ (n_8 : Nat) (i y : Nat), al 1 - i < n_8 → (i ≤ al 1) → (y = ctF ms2_1 w i) → ∀ (H : Heap) (locs : List Loc), va_P (gD G) vwCl [(e0, .inr (6, [.ref ea, .ref ek, .ref eh, .int hq, .ref es, .ref ei, .ref el, .ref ew, .ref et, .ref er, .int lf2_1, .int md2_1, .ref ed, .ref ep, .int pn, .int sp, .ref ex, .ref eu, .int rm, .int la])), (ea, .inl (gI G, 42, .inl (nA al))), (el, .inl (gI G, 12, .inl (nA le2_1))), (ew, .inl (gI G, 12, .inl (nA wh2_1))), (et, .inl (gI G, 20, .inl (nA ms2_1))), (er, .inl (gI G, 20, .inl (nA mr2_1)))] H → va_D A [(e0, .inr (6, [.ref ea, .ref ek, .ref eh, .int hq, .ref es, .ref ei, .ref el, .ref ew, .ref et, .ref er, .int lf2_1, .int md2_1, .ref ed, .ref ep, .int pn, .int sp, .ref ex, .ref eu, .int rm, .int la])), (ea, .inl (gI G, 42, .inl (nA al))), (el, .inl (gI G, 12, .inl (nA le2_1))), (ew, .inl (gI G, 12, .inl (nA wh2_1))), (et, .inl (gI G, 20, .inl (nA ms2_1))), (er, .inl (gI G, 20, .inl (nA mr2_1)))] → va_S A s.heap H locs → ∀ ls : Array Slot, lv_has ls 4 [(3, .int (nI i)), (2, .int (nI y)), (0, .ref e0), (1, .int (nI w))] → W p l e ({ frames := 3, cells := 0, slots := 0, locals := 67 } : Room) s m args below meth c H locs 0 0 (MQ below (va_Qi (fun (r : Int32) (u : Int32 × Int32 × (Nat → Nat) × (Nat → Nat) × (Nat → Nat) × (Nat → Nat)) => r = nI (ctS (mR al) w) ∧ MV (fun j => al (2 + j)) (fun j => al (22 + j)) (al 1) u.2.2.2.2.1 u.2.2.2.2.2 u.2.2.1 u.2.2.2.1) (cB G A (fun (u : Int32 × Int32 × (Nat → Nat) × (Nat → Nat) × (Nat → Nat) × (Nat → Nat)) => [(e0, .inr (6, [.ref ea, .ref ek, .ref eh, .int hq, .ref es, .ref ei, .ref el, .ref ew, .ref et, .ref er, .int u.1, .int u.2.1, .ref ed, .ref ep, .int pn, .int sp, .ref ex, .ref eu, .int rm, .int la])), (ea, .inl (gI G, 42, .inl (nA al))), (el, .inl (gI G, 12, .inl (nA u.2.2.1))), (ew, .inl (gI G, 12, .inl (nA u.2.2.2.1))), (et, .inl (gI G, 20, .inl (nA u.2.2.2.2.1))), (er, .inl (gI G, 20, .inl (nA u.2.2.2.2.2)))])) A) args s 0 0 A) (F0 m 8 ls []) := by
    intro n_8
    induction n_8 with
    | zero =>
      intro i y h0
      exact absurd h0 (Nat.not_lt_zero _)
    | succ n_8 ih_8 =>
      intro i y hm_8 hi hy H locs hP hD hS ls hl
      refine lv_iload_n hx hb dX6_rulesIn_8 rfl (lv_at hl 0 rfl) ?_
      refine lv_aload_n hx hb dX6_rulesIn_9 rfl (lv_at hl 2 rfl) ?_
      refine z_get S K hP hX6_rulesIn_X6 0 rfl rfl 0 (by decide) kX6_rulesIn_1 rfl rfl dX6_rulesIn_10 ?_
      refine lv_iconst (v := nI 1) hx hb dX6_rulesIn_13 (by decide +kernel) ?_
      refine z_iald S K hP 1 rfl (by omega) (by decide) dX6_rulesIn_14 ?_
      refine zb_ge (tgt := 42) S dX6_rulesIn_15 (by decide) (by omega) (by omega) (fun c_15 => ?_) (fun c_15 => ?_)
      · skip
        have hia : i = al 1 := by omega
        refine lv_iload_n hx hb dX6_rulesIn_42 rfl (lv_at hl 1 rfl) ?_
        refine z_top (y := nI (ctS (mR al) w)) (congrArg nI (by rw [hy, hia]; exact mv_ct hw_1)) ?_
        exact z_iret S hrt hlk hP hD hS (lf2_1, md2_1, le2_1, wh2_1, ms2_1, mr2_1) rfl ⟨rfl, hw_1⟩ dX6_rulesIn_43
      · skip
        refine lv_iload_n hx hb dX6_rulesIn_18 rfl (lv_at hl 1 rfl) ?_
        refine lv_aload_n hx hb dX6_rulesIn_19 rfl (lv_at hl 2 rfl) ?_
        refine z_get S K hP hX6_rulesIn_X6 0 rfl rfl 8 (by decide) kX6_rulesIn_2 rfl rfl dX6_rulesIn_20 ?_
        refine lv_iload_n hx hb dX6_rulesIn_23 rfl (lv_at hl 0 rfl) ?_
        refine z_iald S K hP 4 rfl (by omega) (by decide) dX6_rulesIn_24 ?_
        refine lv_iload_n hx hb dX6_rulesIn_25 rfl (lv_at hl 3 rfl) ?_
        have hml := mv_le hw_1 (show i < al 1 by omega)
        refine zb_ne (tgt := 33) S dX6_rulesIn_26 (by decide) (by omega) (by omega) (fun c_26 => ?_) (fun c_26 => ?_)
        · skip
          refine lv_iconst (v := nI 0) hx hb dX6_rulesIn_33 (by decide +kernel) ?_
          refine zi_add S dX6_rulesIn_34 ?_
          refine lv_istore_n (lv' := [(2, .int (nI (y + 0))), (3, .int (nI i)), (0, .ref e0), (1, .int (nI w))]) hx hb dX6_rulesIn_35 rfl hl (by decide) rfl (fun ls hl => ?_)
          refine lv_iinc (v := (nI (i + 1))) (lv' := [(3, .int (nI (i + 1))), (2, .int (nI (y + 0))), (0, .ref e0), (1, .int (nI w))]) hx hb dX6_rulesIn_36 hl (k := 1) rfl (z_i1 _) (by decide) rfl (fun ls hl => ?_)
          refine lv_goto (tgt := 8) hx hb dX6_rulesIn_39 (by decide) ?_
          exact ih_8 (i + 1) (y + 0) (by omega) (by omega) (by rw [ctF_succ, hy]; first | rw [if_pos c_26] | rw [if_neg c_26]) _ _ hP hD hS _ (lv_sub hl [0, 1, 2, 3] rfl)
        · skip
          refine lv_iconst (v := nI 1) hx hb dX6_rulesIn_29 (by decide +kernel) ?_
          refine lv_goto (tgt := 34) hx hb dX6_rulesIn_30 (by decide) ?_
          refine zi_add S dX6_rulesIn_34 ?_
          refine lv_istore_n (lv' := [(2, .int (nI (y + 1))), (3, .int (nI i)), (0, .ref e0), (1, .int (nI w))]) hx hb dX6_rulesIn_35 rfl hl (by decide) rfl (fun ls hl => ?_)
          refine lv_iinc (v := (nI (i + 1))) (lv' := [(3, .int (nI (i + 1))), (2, .int (nI (y + 1))), (0, .ref e0), (1, .int (nI w))]) hx hb dX6_rulesIn_36 hl (k := 1) rfl (z_i1 _) (by decide) rfl (fun ls hl => ?_)
          refine lv_goto (tgt := 8) hx hb dX6_rulesIn_39 (by decide) ?_
          exact ih_8 (i + 1) (y + 1) (by omega) (by omega) (by rw [ctF_succ, hy]; first | rw [if_pos c_26] | rw [if_neg c_26]) _ _ hP hD hS _ (lv_sub hl [0, 1, 2, 3] rfl)
  exact lp_8 _ 0 0 (Nat.lt_succ_self _) (by omega) rfl _ _ hP hD hS _ (lv_sub hl [0, 1, 2, 3] rfl)
set_option maxHeartbeats 4000000 in
set_option maxRecDepth 100000 in
theorem c_X6_answers (l : Launch) (G : gT) (e0 ea ek eh es ei el ew et er ed ep ex eu : Nat) (hq : Int32) (lf : Int32) (md : Int32) (pn : Int32) (sp : Int32) (rm : Int32) (la : Int32) (al : Nat → Nat) (le : Nat → Nat) (wh : Nat → Nat) (ms : Nat → Nat) (mr : Nat → Nat) (hR : RowOK (mR al)) : CI l yX6_answers wsX6_answers ({ frames := 4, cells := 0, slots := 0, locals := 90 } : Room) G [.ref e0] [(e0, .inr (6, [.ref ea, .ref ek, .ref eh, .int hq, .ref es, .ref ei, .ref el, .ref ew, .ref et, .ref er, .int lf, .int md, .ref ed, .ref ep, .int pn, .int sp, .ref ex, .ref eu, .int rm, .int la])), (ea, .inl (gI G, 42, .inl (nA al))), (el, .inl (gI G, 12, .inl (nA le))), (ew, .inl (gI G, 12, .inl (nA wh))), (et, .inl (gI G, 20, .inl (nA ms))), (er, .inl (gI G, 20, .inl (nA mr)))] 0 0 (fun (r : Int32) (u : Int32 × Int32 × (Nat → Nat) × (Nat → Nat) × (Nat → Nat) × (Nat → Nat)) => r = nI (naS (mR al)) ∧ MV (fun j => al (2 + j)) (fun j => al (22 + j)) (al 1) u.2.2.2.2.1 u.2.2.2.2.2 u.2.2.1 u.2.2.2.1) (fun (u : Int32 × Int32 × (Nat → Nat) × (Nat → Nat) × (Nat → Nat) × (Nat → Nat)) => [(e0, .inr (6, [.ref ea, .ref ek, .ref eh, .int hq, .ref es, .ref ei, .ref el, .ref ew, .ref et, .ref er, .int u.1, .int u.2.1, .ref ed, .ref ep, .int pn, .int sp, .ref ex, .ref eu, .int rm, .int la])), (ea, .inl (gI G, 42, .inl (nA al))), (el, .inl (gI G, 12, .inl (nA u.2.2.1))), (ew, .inl (gI G, 12, .inl (nA u.2.2.2.1))), (et, .inl (gI G, 20, .inl (nA u.2.2.2.2.1))), (er, .inl (gI G, 20, .inl (nA u.2.2.2.2.2)))]) := by
  refine CI.of (cc := cX6_answers) (maxL := 1) (ret := (some .int)) (by decide +kernel) rfl (Nat.le_of_ble_eq_true rfl) rfl (fun p e s m args below meth c A S hrt hlk hnm K hA hP hD hS ls hl => ?_)
  have hx := S.1
  have hb := S.2.1
  have hl : lv_has ls 1 [(0, .ref e0)] := hl
  obtain ⟨hc1, hc2, hn3, hf4, hf5, hg6⟩ := mrow hR
  have hp2 := p12 hc2
  have h1s : 1 <<< al 0 = 2 ^ al 0 := Nat.one_shiftLeft _
  have hct := na_ct hR
  refine lv_iconst (v := nI 1) hx hb dX6_answers_0 (by decide +kernel) ?_
  refine lv_aload_n hx hb dX6_answers_1 rfl (lv_at hl 0 rfl) ?_
  refine z_get S K hP hX6_answers_X6 0 rfl rfl 0 (by decide) kX6_answers_1 rfl rfl dX6_answers_2 ?_
  refine lv_iconst (v := nI 0) hx hb dX6_answers_5 (by decide +kernel) ?_
  refine z_iald S K hP 1 rfl (by omega) (by decide) dX6_answers_6 ?_
  refine lv_aload_n hx hb dX6_answers_7 rfl (lv_at hl 0 rfl) ?_
  refine lv_iconst (v := nI 0) hx hb dX6_answers_8 (by decide +kernel) ?_
  refine zcVi (rest := [.int (nI (al 0)), .int (nI 1)]) S K hP hD hS hA hl.1 (c_X6_rulesIn l G e0 ea ek eh es ei el ew et er ed ep ex eu hq lf md pn sp rm la al le wh ms mr 0 (by first | assumption | omega) (by omega)) rfl rfl gX6_answers_X6_rulesIn rfl eX6_rulesIn [0, 1, 2, 3, 4, 5] (by decide +kernel) rfl (fun _ => rfl) 6 0 rfl rfl rfl rfl rfl (Nat.le_of_ble_eq_true rfl) (Nat.le_of_ble_eq_true rfl) (Nat.le_of_ble_eq_true rfl) ⟨Nat.zero_le _, Nat.zero_le _⟩ dX6_answers_9 (fun r_9 u_9 H locs hw_9 hP hD hS => ?_)
  obtain ⟨hP, hD⟩ := mx_ok [some 0, some 1, some 2, some 3, some 4, some 5] (by decide +kernel) rfl rfl hP hD
  obtain ⟨lf2_9, md2_9, le2_9, wh2_9, ms2_9, mr2_9⟩ := u_9
  replace hw_9 : r_9 = nI (ctS (mR al) 0) ∧ MV (fun j => al (2 + j)) (fun j => al (22 + j)) (al 1) ms2_9 mr2_9 le2_9 wh2_9 := hw_9
  obtain ⟨rfl, hw_9⟩ := hw_9
  have hP : va_P (gD G) vwCl [(e0, .inr (6, [.ref ea, .ref ek, .ref eh, .int hq, .ref es, .ref ei, .ref el, .ref ew, .ref et, .ref er, .int lf2_9, .int md2_9, .ref ed, .ref ep, .int pn, .int sp, .ref ex, .ref eu, .int rm, .int la])), (ea, .inl (gI G, 42, .inl (nA al))), (el, .inl (gI G, 12, .inl (nA le2_9))), (ew, .inl (gI G, 12, .inl (nA wh2_9))), (et, .inl (gI G, 20, .inl (nA ms2_9))), (er, .inl (gI G, 20, .inl (nA mr2_9)))] H := hP
  have hD : va_D A [(e0, .inr (6, [.ref ea, .ref ek, .ref eh, .int hq, .ref es, .ref ei, .ref el, .ref ew, .ref et, .ref er, .int lf2_9, .int md2_9, .ref ed, .ref ep, .int pn, .int sp, .ref ex, .ref eu, .int rm, .int la])), (ea, .inl (gI G, 42, .inl (nA al))), (el, .inl (gI G, 12, .inl (nA le2_9))), (ew, .inl (gI G, 12, .inl (nA wh2_9))), (et, .inl (gI G, 20, .inl (nA ms2_9))), (er, .inl (gI G, 20, .inl (nA mr2_9)))] := hD
  refine zi_sub S dX6_answers_12 (by omega) ?_
  refine zi_shl S dX6_answers_13 (by omega) ?_
  refine z_top (y := nI (naS (mR al))) rfl ?_
  exact z_iret S hrt hlk hP hD hS (lf2_9, md2_9, le2_9, wh2_9, ms2_9, mr2_9) rfl ⟨rfl, hw_9⟩ dX6_answers_14
set_option maxHeartbeats 4000000 in
set_option maxRecDepth 100000 in
theorem c_X6_isAnswer (l : Launch) (G : gT) (e0 ea ek eh es ei el ew et er ed ep ex eu : Nat) (hq : Int32) (lf : Int32) (md : Int32) (pn : Int32) (sp : Int32) (rm : Int32) (la : Int32) (al : Nat → Nat) (ms : Nat → Nat) (w : Nat) (hR : RowOK (mR al)) (hs : ∀ i, i < al 1 → ms i = stS (mR al) i) (hs2 : ∀ i, i < al 1 → ms i ≤ 2) (hw4 : w < 4096) : CI l yX6_isAnswer wsX6_isAnswer ({ frames := 3, cells := 0, slots := 0, locals := 64 } : Room) G [.ref e0, .int (nI w)] [(e0, .inr (6, [.ref ea, .ref ek, .ref eh, .int hq, .ref es, .ref ei, .ref el, .ref ew, .ref et, .ref er, .int lf, .int md, .ref ed, .ref ep, .int pn, .int sp, .ref ex, .ref eu, .int rm, .int la])), (ea, .inl (gI G, 42, .inl (nA al))), (et, .inl (gI G, 20, .inl (nA ms)))] 0 0 (fun (r : Int32) (u : Unit) => r = nI (bN (isS (mR al) w))) (fun (u : Unit) => [(e0, .inr (6, [.ref ea, .ref ek, .ref eh, .int hq, .ref es, .ref ei, .ref el, .ref ew, .ref et, .ref er, .int lf, .int md, .ref ed, .ref ep, .int pn, .int sp, .ref ex, .ref eu, .int rm, .int la])), (ea, .inl (gI G, 42, .inl (nA al))), (et, .inl (gI G, 20, .inl (nA ms)))]) := by
  refine CI.of (cc := cX6_isAnswer) (maxL := 4) (ret := (some .boolean)) (by decide +kernel) rfl (Nat.le_of_ble_eq_true rfl) rfl (fun p e s m args below meth c A S hrt hlk hnm K hA hP hD hS ls hl => ?_)
  have hx := S.1
  have hb := S.2.1
  have hl : lv_has ls 4 [(0, .ref e0), (1, .int (nI w))] := hl
  obtain ⟨hc1, hc2, hn3, hf4, hf5, hg6⟩ := mrow hR
  have hp2 := p12 hc2
  have h1s : 1 <<< al 0 = 2 ^ al 0 := Nat.one_shiftLeft _
  refine lv_iconst (v := nI 1) hx hb dX6_isAnswer_0 (by decide +kernel) ?_
  refine lv_istore_n (lv' := [(2, .int (nI 1)), (0, .ref e0), (1, .int (nI w))]) hx hb dX6_isAnswer_1 rfl hl (by decide) rfl (fun ls hl => ?_)
  refine lv_iconst (v := nI 0) hx hb dX6_isAnswer_2 (by decide +kernel) ?_
  refine lv_istore_n (lv' := [(3, .int (nI 0)), (2, .int (nI 1)), (0, .ref e0), (1, .int (nI w))]) hx hb dX6_isAnswer_3 rfl hl (by decide) rfl (fun ls hl => ?_)
  have lp_4 : ∀ (n_4 : Nat) (i y : Nat), al 1 - i < n_4 → (i ≤ al 1) → (y ≤ 1) → (y = 1 ↔ mA al ms w i) → ∀ (H : Heap) (locs : List Loc), va_P (gD G) vwCl [(e0, .inr (6, [.ref ea, .ref ek, .ref eh, .int hq, .ref es, .ref ei, .ref el, .ref ew, .ref et, .ref er, .int lf, .int md, .ref ed, .ref ep, .int pn, .int sp, .ref ex, .ref eu, .int rm, .int la])), (ea, .inl (gI G, 42, .inl (nA al))), (et, .inl (gI G, 20, .inl (nA ms)))] H → va_D A [(e0, .inr (6, [.ref ea, .ref ek, .ref eh, .int hq, .ref es, .ref ei, .ref el, .ref ew, .ref et, .ref er, .int lf, .int md, .ref ed, .ref ep, .int pn, .int sp, .ref ex, .ref eu, .int rm, .int la])), (ea, .inl (gI G, 42, .inl (nA al))), (et, .inl (gI G, 20, .inl (nA ms)))] → va_S A s.heap H locs → ∀ ls : Array Slot, lv_has ls 4 [(3, .int (nI i)), (2, .int (nI y)), (0, .ref e0), (1, .int (nI w))] → W p l e ({ frames := 3, cells := 0, slots := 0, locals := 64 } : Room) s m args below meth c H locs 0 0 (MQ below (va_Qi (fun (r : Int32) (u : Unit) => r = nI (bN (isS (mR al) w))) (cB G A (fun (u : Unit) => [(e0, .inr (6, [.ref ea, .ref ek, .ref eh, .int hq, .ref es, .ref ei, .ref el, .ref ew, .ref et, .ref er, .int lf, .int md, .ref ed, .ref ep, .int pn, .int sp, .ref ex, .ref eu, .int rm, .int la])), (ea, .inl (gI G, 42, .inl (nA al))), (et, .inl (gI G, 20, .inl (nA ms)))])) A) args s 0 0 A) (F0 m 4 ls []) := by
    intro n_4
    induction n_4 with
    | zero =>
      intro i y h0
      exact absurd h0 (Nat.not_lt_zero _)
    | succ n_4 ih_4 =>
      intro i y hm_4 hi hy1 hy H locs hP hD hS ls hl
      refine lv_iload_n hx hb dX6_isAnswer_4 rfl (lv_at hl 0 rfl) ?_
      refine lv_aload_n hx hb dX6_isAnswer_5 rfl (lv_at hl 2 rfl) ?_
      refine z_get S K hP hX6_isAnswer_X6 0 rfl rfl 0 (by decide) kX6_isAnswer_1 rfl rfl dX6_isAnswer_6 ?_
      refine lv_iconst (v := nI 1) hx hb dX6_isAnswer_9 (by decide +kernel) ?_
      refine z_iald S K hP 1 rfl (by omega) (by decide) dX6_isAnswer_10 ?_
      refine zb_ge (tgt := 48) S dX6_isAnswer_11 (by decide) (by omega) (by omega) (fun c_11 => ?_) (fun c_11 => ?_)
      · skip
        have hia : i = al 1 := by omega
        rw [hia] at hy
        refine lv_iload_n hx hb dX6_isAnswer_48 rfl (lv_at hl 1 rfl) ?_
        refine z_top (y := nI (bN (isS (mR al) w))) (congrArg nI (mA_b hs hy1 hy)) ?_
        exact z_zret S hrt hlk hP hD hS () rfl rfl (z_bnar _) dX6_isAnswer_49
      · skip
        refine lv_iload_n hx hb dX6_isAnswer_14 rfl (lv_at hl 1 rfl) ?_
        refine zf_eq (tgt := 40) S dX6_isAnswer_15 (by decide) (by omega) (fun c_15 => ?_) (fun c_15 => ?_)
        · skip
          refine lv_iconst (v := nI 0) hx hb dX6_isAnswer_40 (by decide +kernel) ?_
          refine lv_istore_n (lv' := [(2, .int (nI 0)), (3, .int (nI i)), (0, .ref e0), (1, .int (nI w))]) hx hb dX6_isAnswer_41 rfl hl (by decide) rfl (fun ls hl => ?_)
          refine lv_iinc (v := (nI (i + 1))) (lv' := [(3, .int (nI (i + 1))), (2, .int (nI 0)), (0, .ref e0), (1, .int (nI w))]) hx hb dX6_isAnswer_42 hl (k := 1) rfl (z_i1 _) (by decide) rfl (fun ls hl => ?_)
          refine lv_goto (tgt := 4) hx hb dX6_isAnswer_45 (by decide) ?_
          exact ih_4 (i + 1) 0 (by omega) (by omega) (by omega) (by first | exact mA_0 hy c_15 | exact mA_1 hy hy1 c_15 (fun z => absurd z c_24) | exact mA_1 hy hy1 c_15 (fun _ => c_33) | exact mA_2 c_24 c_33) _ _ hP hD hS _ (lv_sub hl [0, 1, 2, 3] rfl)
        · skip
          refine lv_aload_n hx hb dX6_isAnswer_18 rfl (lv_at hl 2 rfl) ?_
          refine z_get S K hP hX6_isAnswer_X6 0 rfl rfl 8 (by decide) kX6_isAnswer_2 rfl rfl dX6_isAnswer_19 ?_
          refine lv_iload_n hx hb dX6_isAnswer_22 rfl (lv_at hl 0 rfl) ?_
          refine z_iald S K hP 2 rfl (by omega) (by decide) dX6_isAnswer_23 ?_
          have hms := hs2 i (by omega)
          refine zf_ne (tgt := 36) S dX6_isAnswer_24 (by decide) (by omega) (fun c_24 => ?_) (fun c_24 => ?_)
          · skip
            refine lv_iconst (v := nI 1) hx hb dX6_isAnswer_36 (by decide +kernel) ?_
            refine lv_goto (tgt := 41) hx hb dX6_isAnswer_37 (by decide) ?_
            refine lv_istore_n (lv' := [(2, .int (nI 1)), (3, .int (nI i)), (0, .ref e0), (1, .int (nI w))]) hx hb dX6_isAnswer_41 rfl hl (by decide) rfl (fun ls hl => ?_)
            refine lv_iinc (v := (nI (i + 1))) (lv' := [(3, .int (nI (i + 1))), (2, .int (nI 1)), (0, .ref e0), (1, .int (nI w))]) hx hb dX6_isAnswer_42 hl (k := 1) rfl (z_i1 _) (by decide) rfl (fun ls hl => ?_)
            refine lv_goto (tgt := 4) hx hb dX6_isAnswer_45 (by decide) ?_
            exact ih_4 (i + 1) 1 (by omega) (by omega) (by omega) (by first | exact mA_0 hy c_15 | exact mA_1 hy hy1 c_15 (fun z => absurd z c_24) | exact mA_1 hy hy1 c_15 (fun _ => c_33) | exact mA_2 c_24 c_33) _ _ hP hD hS _ (lv_sub hl [0, 1, 2, 3] rfl)
          · skip
            refine lv_aload_n hx hb dX6_isAnswer_27 rfl (lv_at hl 2 rfl) ?_
            refine lv_iload_n hx hb dX6_isAnswer_28 rfl (lv_at hl 3 rfl) ?_
            refine lv_iload_n hx hb dX6_isAnswer_29 rfl (lv_at hl 0 rfl) ?_
            refine zcVi (rest := []) S K hP hD hS hA hl.1 (c_X6_fits l G e0 ea ek eh es ei el ew et er ed ep ex eu hq lf md pn sp rm la al w i (by omega) hw4 (by have := hg6 i (by omega); omega)) rfl rfl gX6_isAnswer_X6_fits rfl eX6_fits [0, 1] (by decide +kernel) rfl (fun _ => rfl) 6 0 rfl rfl rfl rfl rfl (Nat.le_of_ble_eq_true rfl) (Nat.le_of_ble_eq_true rfl) (Nat.le_of_ble_eq_true rfl) ⟨Nat.zero_le _, Nat.zero_le _⟩ dX6_isAnswer_30 (fun r_30 u_30 H locs hw_30 hP hD hS => ?_)
            obtain ⟨hP, hD⟩ := mx_ok [some 0, some 1, none] (by decide +kernel) rfl rfl hP hD
            replace hw_30 : r_30 = nI (bN (decide (pty (w &&& al (2 + i)) = al (22 + i)))) := hw_30
            obtain rfl := hw_30
            have hP : va_P (gD G) vwCl [(e0, .inr (6, [.ref ea, .ref ek, .ref eh, .int hq, .ref es, .ref ei, .ref el, .ref ew, .ref et, .ref er, .int lf, .int md, .ref ed, .ref ep, .int pn, .int sp, .ref ex, .ref eu, .int rm, .int la])), (ea, .inl (gI G, 42, .inl (nA al))), (et, .inl (gI G, 20, .inl (nA ms)))] H := hP
            have hD : va_D A [(e0, .inr (6, [.ref ea, .ref ek, .ref eh, .int hq, .ref es, .ref ei, .ref el, .ref ew, .ref et, .ref er, .int lf, .int md, .ref ed, .ref ep, .int pn, .int sp, .ref ex, .ref eu, .int rm, .int la])), (ea, .inl (gI G, 42, .inl (nA al))), (et, .inl (gI G, 20, .inl (nA ms)))] := hD
            refine zf_eq (tgt := 40) S dX6_isAnswer_33 (by decide) (bN_31 _) (fun c_33 => ?_) (fun c_33 => ?_)
            · skip
              have c_33 := of_decide_eq_false (bN_eq0 c_33)
              refine lv_iconst (v := nI 0) hx hb dX6_isAnswer_40 (by decide +kernel) ?_
              refine lv_istore_n (lv' := [(2, .int (nI 0)), (3, .int (nI i)), (0, .ref e0), (1, .int (nI w))]) hx hb dX6_isAnswer_41 rfl hl (by decide) rfl (fun ls hl => ?_)
              refine lv_iinc (v := (nI (i + 1))) (lv' := [(3, .int (nI (i + 1))), (2, .int (nI 0)), (0, .ref e0), (1, .int (nI w))]) hx hb dX6_isAnswer_42 hl (k := 1) rfl (z_i1 _) (by decide) rfl (fun ls hl => ?_)
              refine lv_goto (tgt := 4) hx hb dX6_isAnswer_45 (by decide) ?_
              exact ih_4 (i + 1) 0 (by omega) (by omega) (by omega) (by first | exact mA_0 hy c_15 | exact mA_1 hy hy1 c_15 (fun z => absurd z c_24) | exact mA_1 hy hy1 c_15 (fun _ => c_33) | exact mA_2 c_24 c_33) _ _ hP hD hS _ (lv_sub hl [0, 1, 2, 3] rfl)
            · skip
              have c_33 := of_decide_eq_true (bN_ne0 c_33)
              refine lv_iconst (v := nI 1) hx hb dX6_isAnswer_36 (by decide +kernel) ?_
              refine lv_goto (tgt := 41) hx hb dX6_isAnswer_37 (by decide) ?_
              refine lv_istore_n (lv' := [(2, .int (nI 1)), (3, .int (nI i)), (0, .ref e0), (1, .int (nI w))]) hx hb dX6_isAnswer_41 rfl hl (by decide) rfl (fun ls hl => ?_)
              refine lv_iinc (v := (nI (i + 1))) (lv' := [(3, .int (nI (i + 1))), (2, .int (nI 1)), (0, .ref e0), (1, .int (nI w))]) hx hb dX6_isAnswer_42 hl (k := 1) rfl (z_i1 _) (by decide) rfl (fun ls hl => ?_)
              refine lv_goto (tgt := 4) hx hb dX6_isAnswer_45 (by decide) ?_
              exact ih_4 (i + 1) 1 (by omega) (by omega) (by omega) (by first | exact mA_0 hy c_15 | exact mA_1 hy hy1 c_15 (fun z => absurd z c_24) | exact mA_1 hy hy1 c_15 (fun _ => c_33) | exact mA_2 c_24 c_33) _ _ hP hD hS _ (lv_sub hl [0, 1, 2, 3] rfl)
  exact lp_4 _ 0 1 (Nat.lt_succ_self _) (by omega) (by omega) ⟨fun _ j hj => absurd hj (Nat.not_lt_zero _), fun _ => rfl⟩ _ _ hP hD hS _ (lv_sub hl [0, 1, 2, 3] rfl)
set_option maxHeartbeats 4000000 in
set_option maxRecDepth 100000 in
theorem c_X6_knownOf (l : Launch) (G : gT) (e0 ea ek eh es ei el ew et er ed ep ex eu : Nat) (hq : Int32) (lf : Int32) (md : Int32) (pn : Int32) (sp : Int32) (rm : Int32) (la : Int32) (al : Nat → Nat) (le : Nat → Nat) (wh : Nat → Nat) (w : Nat) (hR : RowOK (mR al)) (hB : MB (fun j => al (2 + j)) (fun j => al (22 + j)) (al 1) le wh) (hw4 : w < 4096) : CI l yX6_knownOf wsX6_knownOf ({ frames := 1, cells := 0, slots := 0, locals := 23 } : Room) G [.ref e0, .int (nI w)] [(e0, .inr (6, [.ref ea, .ref ek, .ref eh, .int hq, .ref es, .ref ei, .ref el, .ref ew, .ref et, .ref er, .int lf, .int md, .ref ed, .ref ep, .int pn, .int sp, .ref ex, .ref eu, .int rm, .int la])), (ea, .inl (gI G, 42, .inl (nA al))), (el, .inl (gI G, 12, .inl (nA le))), (ew, .inl (gI G, 12, .inl (nA wh)))] 0 0 (fun (r : Int32) (u : Int32 × Int32) => r = (knS (mR al) w)) (fun (u : Int32 × Int32) => [(e0, .inr (6, [.ref ea, .ref ek, .ref eh, .int hq, .ref es, .ref ei, .ref el, .ref ew, .ref et, .ref er, .int u.1, .int u.2, .ref ed, .ref ep, .int pn, .int sp, .ref ex, .ref eu, .int rm, .int la])), (ea, .inl (gI G, 42, .inl (nA al))), (el, .inl (gI G, 12, .inl (nA le))), (ew, .inl (gI G, 12, .inl (nA wh)))]) := by
  refine CI.of (cc := cX6_knownOf) (maxL := 2) (ret := (some .int)) (by decide +kernel) rfl (Nat.le_of_ble_eq_true rfl) rfl (fun p e s m args below meth c A S hrt hlk hnm K hA hP hD hS ls hl => ?_)
  have hx := S.1
  have hb := S.2.1
  have hl : lv_has ls 2 [(0, .ref e0), (1, .int (nI w))] := hl
  obtain ⟨hc1, hc2, hn3, hf4, hf5, hg6⟩ := mrow hR
  have hp2 := p12 hc2
  have h1s : 1 <<< al 0 = 2 ^ al 0 := Nat.one_shiftLeft _
  obtain ⟨q1, q3, hrq⟩ := mred_ex le wh w
  have hq1 := mq1 hB.2 hw4 hrq
  have hq3 := mq3 hB hn3 hrq
  refine lv_aload_n hx hb dX6_knownOf_0 rfl (lv_at hl 0 rfl) ?_
  refine lv_iload_n hx hb dX6_knownOf_1 rfl (lv_at hl 1 rfl) ?_
  refine zcVv (rest := []) S K hP hD hS hA hl.1 (c_X6_reduces l G e0 ea ek eh es ei el ew et er ed ep ex eu hq lf md pn sp rm la le wh w q1 q3 hw4 hB.2 hrq) rfl rfl gX6_knownOf_X6_reduces rfl eX6_reduces [0, 2, 3] (by decide +kernel) rfl (fun _ => rfl) 6 0 rfl rfl rfl rfl rfl (Nat.le_of_ble_eq_true rfl) (Nat.le_of_ble_eq_true rfl) (Nat.le_of_ble_eq_true rfl) ⟨Nat.zero_le _, Nat.zero_le _⟩ dX6_knownOf_2 (fun u_2 H locs hw_2 hP hD hS => ?_)
  obtain ⟨hP, hD⟩ := mx_ok [some 0, none, some 1, some 2] (by decide +kernel) rfl rfl hP hD
  have hP : va_P (gD G) vwCl [(e0, .inr (6, [.ref ea, .ref ek, .ref eh, .int hq, .ref es, .ref ei, .ref el, .ref ew, .ref et, .ref er, .int (nI q1), .int (nI q3), .ref ed, .ref ep, .int pn, .int sp, .ref ex, .ref eu, .int rm, .int la])), (ea, .inl (gI G, 42, .inl (nA al))), (el, .inl (gI G, 12, .inl (nA le))), (ew, .inl (gI G, 12, .inl (nA wh)))] H := hP
  have hD : va_D A [(e0, .inr (6, [.ref ea, .ref ek, .ref eh, .int hq, .ref es, .ref ei, .ref el, .ref ew, .ref et, .ref er, .int (nI q1), .int (nI q3), .ref ed, .ref ep, .int pn, .int sp, .ref ex, .ref eu, .int rm, .int la])), (ea, .inl (gI G, 42, .inl (nA al))), (el, .inl (gI G, 12, .inl (nA le))), (ew, .inl (gI G, 12, .inl (nA wh)))] := hD
  refine lv_aload_n hx hb dX6_knownOf_5 rfl (lv_at hl 0 rfl) ?_
  refine z_get S K hP hX6_knownOf_X6 0 rfl rfl 10 (by decide) kX6_knownOf_1 rfl rfl dX6_knownOf_6 ?_
  refine zf_ne (tgt := 23) S dX6_knownOf_9 (by decide) (by omega) (fun c_9 => ?_) (fun c_9 => ?_)
  · skip
    refine lv_bipush (v := -6) hx hb dX6_knownOf_23 (by decide +kernel) ?_
    refine z_top (y := (knS (mR al) w)) ((if_neg c_9).symm.trans (mk_1 hB hrq)) ?_
    exact z_iret S hrt hlk hP hD hS (nI q1, nI q3) rfl rfl dX6_knownOf_25
  · skip
    refine lv_aload_n hx hb dX6_knownOf_12 rfl (lv_at hl 0 rfl) ?_
    refine lv_aload_n hx hb dX6_knownOf_13 rfl (lv_at hl 0 rfl) ?_
    refine z_get S K hP hX6_knownOf_X6 0 rfl rfl 11 (by decide) kX6_knownOf_2 rfl rfl dX6_knownOf_14 ?_
    refine zcVi (rest := []) S K hP hD hS hA hl.1 (c_X6_sumOf l G e0 ea ek eh es ei el ew et er ed ep ex eu hq (nI q1) (nI q3) pn sp rm la al q3 hn3 hq3) rfl rfl gX6_knownOf_X6_sumOf rfl eX6_sumOf [0, 1] (by decide +kernel) rfl (fun _ => rfl) 6 0 rfl rfl rfl rfl rfl (Nat.le_of_ble_eq_true rfl) (Nat.le_of_ble_eq_true rfl) (Nat.le_of_ble_eq_true rfl) ⟨Nat.zero_le _, Nat.zero_le _⟩ dX6_knownOf_17 (fun r_17 u_17 H locs hw_17 hP hD hS => ?_)
    obtain ⟨hP, hD⟩ := mx_ok [some 0, some 1, none, none] (by decide +kernel) rfl rfl hP hD
    replace hw_17 : r_17 = nI (cmb (fun j => al (22 + j)) (al 1) q3) := hw_17
    obtain rfl := hw_17
    have hP : va_P (gD G) vwCl [(e0, .inr (6, [.ref ea, .ref ek, .ref eh, .int hq, .ref es, .ref ei, .ref el, .ref ew, .ref et, .ref er, .int (nI q1), .int (nI q3), .ref ed, .ref ep, .int pn, .int sp, .ref ex, .ref eu, .int rm, .int la])), (ea, .inl (gI G, 42, .inl (nA al))), (el, .inl (gI G, 12, .inl (nA le))), (ew, .inl (gI G, 12, .inl (nA wh)))] H := hP
    have hD : va_D A [(e0, .inr (6, [.ref ea, .ref ek, .ref eh, .int hq, .ref es, .ref ei, .ref el, .ref ew, .ref et, .ref er, .int (nI q1), .int (nI q3), .ref ed, .ref ep, .int pn, .int sp, .ref ex, .ref eu, .int rm, .int la])), (ea, .inl (gI G, 42, .inl (nA al))), (el, .inl (gI G, 12, .inl (nA le))), (ew, .inl (gI G, 12, .inl (nA wh)))] := hD
    refine lv_goto (tgt := 25) hx hb dX6_knownOf_20 (by decide) ?_
    refine z_top (y := (knS (mR al) w)) ((if_pos c_9).symm.trans (mk_1 hB hrq)) ?_
    exact z_iret S hrt hlk hP hD hS (nI q1, nI q3) rfl rfl dX6_knownOf_25
set_option maxHeartbeats 4000000 in
set_option maxRecDepth 100000 in
theorem c_X6_reasonsWith (l : Launch) (G : gT) (e0 ea ek eh es ei el ew et er ed ep ex eu : Nat) (hq : Int32) (lf : Int32) (md : Int32) (pn : Int32) (sp : Int32) (rm : Int32) (la : Int32) (al : Nat → Nat) (ms : Nat → Nat) (mr : Nat → Nat) (le : Nat → Nat) (wh : Nat → Nat) (w : Nat) (hR : RowOK (mR al)) (hV : MV (fun j => al (2 + j)) (fun j => al (22 + j)) (al 1) ms mr le wh) (hw20 : w < 20) (hr31 : ∀ j, j < al 1 → ¬ ms j = 0 → mr j < 2147483648) : CI l yX6_reasonsWith wsX6_reasonsWith ({ frames := 0, cells := 0, slots := 0, locals := 0 } : Room) G [.ref e0, .int (nI w)] [(e0, .inr (6, [.ref ea, .ref ek, .ref eh, .int hq, .ref es, .ref ei, .ref el, .ref ew, .ref et, .ref er, .int lf, .int md, .ref ed, .ref ep, .int pn, .int sp, .ref ex, .ref eu, .int rm, .int la])), (ea, .inl (gI G, 42, .inl (nA al))), (et, .inl (gI G, 20, .inl (nA ms))), (er, .inl (gI G, 20, .inl (nA mr)))] 0 0 (fun (r : Int32) (u : Unit) => r = nI (rwS (mR al) w)) (fun (u : Unit) => [(e0, .inr (6, [.ref ea, .ref ek, .ref eh, .int hq, .ref es, .ref ei, .ref el, .ref ew, .ref et, .ref er, .int lf, .int md, .ref ed, .ref ep, .int pn, .int sp, .ref ex, .ref eu, .int rm, .int la])), (ea, .inl (gI G, 42, .inl (nA al))), (et, .inl (gI G, 20, .inl (nA ms))), (er, .inl (gI G, 20, .inl (nA mr)))]) := by
  refine CI.of (cc := cX6_reasonsWith) (maxL := 4) (ret := (some .int)) (by decide +kernel) rfl (Nat.le_of_ble_eq_true rfl) rfl (fun p e s m args below meth c A S hrt hlk hnm K hA hP hD hS ls hl => ?_)
  have hx := S.1
  have hb := S.2.1
  have hl : lv_has ls 4 [(0, .ref e0), (1, .int (nI w))] := hl
  obtain ⟨hc1, hc2, hn3, hf4, hf5, hg6⟩ := mrow hR
  have hp2 := p12 hc2
  have h1s : 1 <<< al 0 = 2 ^ al 0 := Nat.one_shiftLeft _
  refine lv_iconst (v := nI 0) hx hb dX6_reasonsWith_0 (by decide +kernel) ?_
  refine lv_istore_n (lv' := [(2, .int (nI 0)), (0, .ref e0), (1, .int (nI w))]) hx hb dX6_reasonsWith_1 rfl hl (by decide) rfl (fun ls hl => ?_)
  refine lv_iconst (v := nI 0) hx hb dX6_reasonsWith_2 (by decide +kernel) ?_
  refine lv_istore_n (lv' := [(3, .int (nI 0)), (2, .int (nI 0)), (0, .ref e0), (1, .int (nI w))]) hx hb dX6_reasonsWith_3 rfl hl (by decide) rfl (fun ls hl => ?_)
  have lp_4 : ∀ (n_4 : Nat) (i y : Nat), al 1 - i < n_4 → (i ≤ al 1) → (y = smF (fun j => if ¬ stS (mR al) j = 0 ∧ (rsS (mR al) j).testBit w = true then 1 else 0) i) → ∀ (H : Heap) (locs : List Loc), va_P (gD G) vwCl [(e0, .inr (6, [.ref ea, .ref ek, .ref eh, .int hq, .ref es, .ref ei, .ref el, .ref ew, .ref et, .ref er, .int lf, .int md, .ref ed, .ref ep, .int pn, .int sp, .ref ex, .ref eu, .int rm, .int la])), (ea, .inl (gI G, 42, .inl (nA al))), (et, .inl (gI G, 20, .inl (nA ms))), (er, .inl (gI G, 20, .inl (nA mr)))] H → va_D A [(e0, .inr (6, [.ref ea, .ref ek, .ref eh, .int hq, .ref es, .ref ei, .ref el, .ref ew, .ref et, .ref er, .int lf, .int md, .ref ed, .ref ep, .int pn, .int sp, .ref ex, .ref eu, .int rm, .int la])), (ea, .inl (gI G, 42, .inl (nA al))), (et, .inl (gI G, 20, .inl (nA ms))), (er, .inl (gI G, 20, .inl (nA mr)))] → va_S A s.heap H locs → ∀ ls : Array Slot, lv_has ls 4 [(3, .int (nI i)), (2, .int (nI y)), (0, .ref e0), (1, .int (nI w))] → W p l e ({ frames := 0, cells := 0, slots := 0, locals := 0 } : Room) s m args below meth c H locs 0 0 (MQ below (va_Qi (fun (r : Int32) (u : Unit) => r = nI (rwS (mR al) w)) (cB G A (fun (u : Unit) => [(e0, .inr (6, [.ref ea, .ref ek, .ref eh, .int hq, .ref es, .ref ei, .ref el, .ref ew, .ref et, .ref er, .int lf, .int md, .ref ed, .ref ep, .int pn, .int sp, .ref ex, .ref eu, .int rm, .int la])), (ea, .inl (gI G, 42, .inl (nA al))), (et, .inl (gI G, 20, .inl (nA ms))), (er, .inl (gI G, 20, .inl (nA mr)))])) A) args s 0 0 A) (F0 m 4 ls []) := by
    intro n_4
    induction n_4 with
    | zero =>
      intro i y h0
      exact absurd h0 (Nat.not_lt_zero _)
    | succ n_4 ih_4 =>
      intro i y hm_4 hi hy H locs hP hD hS ls hl
      refine lv_iload_n hx hb dX6_reasonsWith_4 rfl (lv_at hl 0 rfl) ?_
      refine lv_aload_n hx hb dX6_reasonsWith_5 rfl (lv_at hl 2 rfl) ?_
      refine z_get S K hP hX6_reasonsWith_X6 0 rfl rfl 0 (by decide) kX6_reasonsWith_1 rfl rfl dX6_reasonsWith_6 ?_
      refine lv_iconst (v := nI 1) hx hb dX6_reasonsWith_9 (by decide +kernel) ?_
      refine z_iald S K hP 1 rfl (by omega) (by decide) dX6_reasonsWith_10 ?_
      refine zb_ge (tgt := 51) S dX6_reasonsWith_11 (by decide) (by omega) (by omega) (fun c_11 => ?_) (fun c_11 => ?_)
      · skip
        have hia : i = al 1 := by omega
        refine lv_iload_n hx hb dX6_reasonsWith_51 rfl (lv_at hl 1 rfl) ?_
        refine z_top (y := nI (rwS (mR al) w)) (congrArg nI (by rw [hy, hia]; rfl)) ?_
        exact z_iret S hrt hlk hP hD hS () rfl rfl dX6_reasonsWith_52
      · skip
        refine lv_iload_n hx hb dX6_reasonsWith_14 rfl (lv_at hl 1 rfl) ?_
        refine lv_aload_n hx hb dX6_reasonsWith_15 rfl (lv_at hl 2 rfl) ?_
        refine z_get S K hP hX6_reasonsWith_X6 0 rfl rfl 8 (by decide) kX6_reasonsWith_2 rfl rfl dX6_reasonsWith_16 ?_
        refine lv_iload_n hx hb dX6_reasonsWith_19 rfl (lv_at hl 0 rfl) ?_
        refine z_iald S K hP 2 rfl (by omega) (by decide) dX6_reasonsWith_20 ?_
        have hml := mv_le hV (show i < al 1 by omega)
        refine zf_eq (tgt := 42) S dX6_reasonsWith_21 (by decide) (by omega) (fun c_21 => ?_) (fun c_21 => ?_)
        · skip
          refine lv_iconst (v := nI 0) hx hb dX6_reasonsWith_42 (by decide +kernel) ?_
          refine zi_add S dX6_reasonsWith_43 ?_
          refine lv_istore_n (lv' := [(2, .int (nI (y + 0))), (3, .int (nI i)), (0, .ref e0), (1, .int (nI w))]) hx hb dX6_reasonsWith_44 rfl hl (by decide) rfl (fun ls hl => ?_)
          refine lv_iinc (v := (nI (i + 1))) (lv' := [(3, .int (nI (i + 1))), (2, .int (nI (y + 0))), (0, .ref e0), (1, .int (nI w))]) hx hb dX6_reasonsWith_45 hl (k := 1) rfl (z_i1 _) (by decide) rfl (fun ls hl => ?_)
          refine lv_goto (tgt := 4) hx hb dX6_reasonsWith_48 (by decide) ?_
          exact ih_4 (i + 1) (y + 0) (by omega) (by omega) (by first | exact rw_0 hV (by omega) hy (Or.inl c_21) | exact rw_0 hV (by omega) hy (Or.inr ⟨c_21, c_35⟩) | exact rw_1 hV (by omega) hy c_21 c_35) _ _ hP hD hS _ (lv_sub hl [0, 1, 2, 3] rfl)
        · skip
          refine lv_aload_n hx hb dX6_reasonsWith_24 rfl (lv_at hl 2 rfl) ?_
          refine z_get S K hP hX6_reasonsWith_X6 0 rfl rfl 9 (by decide) kX6_reasonsWith_3 rfl rfl dX6_reasonsWith_25 ?_
          refine lv_iload_n hx hb dX6_reasonsWith_28 rfl (lv_at hl 0 rfl) ?_
          refine z_iald S K hP 3 rfl (by omega) (by decide) dX6_reasonsWith_29 ?_
          refine lv_iload_n hx hb dX6_reasonsWith_30 rfl (lv_at hl 3 rfl) ?_
          refine zi_shr S dX6_reasonsWith_31 (hr31 i (by omega) c_21) (by omega) ?_
          refine lv_iconst (v := nI 1) hx hb dX6_reasonsWith_32 (by decide +kernel) ?_
          refine zi_and S dX6_reasonsWith_33 ?_
          refine lv_iconst (v := nI 1) hx hb dX6_reasonsWith_34 (by decide +kernel) ?_
          refine zb_ne (tgt := 42) S dX6_reasonsWith_35 (by decide) and1_31 (by decide) (fun c_35 => ?_) (fun c_35 => ?_)
          · skip
            refine lv_iconst (v := nI 0) hx hb dX6_reasonsWith_42 (by decide +kernel) ?_
            refine zi_add S dX6_reasonsWith_43 ?_
            refine lv_istore_n (lv' := [(2, .int (nI (y + 0))), (3, .int (nI i)), (0, .ref e0), (1, .int (nI w))]) hx hb dX6_reasonsWith_44 rfl hl (by decide) rfl (fun ls hl => ?_)
            refine lv_iinc (v := (nI (i + 1))) (lv' := [(3, .int (nI (i + 1))), (2, .int (nI (y + 0))), (0, .ref e0), (1, .int (nI w))]) hx hb dX6_reasonsWith_45 hl (k := 1) rfl (z_i1 _) (by decide) rfl (fun ls hl => ?_)
            refine lv_goto (tgt := 4) hx hb dX6_reasonsWith_48 (by decide) ?_
            exact ih_4 (i + 1) (y + 0) (by omega) (by omega) (by first | exact rw_0 hV (by omega) hy (Or.inl c_21) | exact rw_0 hV (by omega) hy (Or.inr ⟨c_21, c_35⟩) | exact rw_1 hV (by omega) hy c_21 c_35) _ _ hP hD hS _ (lv_sub hl [0, 1, 2, 3] rfl)
          · skip
            refine lv_iconst (v := nI 1) hx hb dX6_reasonsWith_38 (by decide +kernel) ?_
            refine lv_goto (tgt := 43) hx hb dX6_reasonsWith_39 (by decide) ?_
            refine zi_add S dX6_reasonsWith_43 ?_
            refine lv_istore_n (lv' := [(2, .int (nI (y + 1))), (3, .int (nI i)), (0, .ref e0), (1, .int (nI w))]) hx hb dX6_reasonsWith_44 rfl hl (by decide) rfl (fun ls hl => ?_)
            refine lv_iinc (v := (nI (i + 1))) (lv' := [(3, .int (nI (i + 1))), (2, .int (nI (y + 1))), (0, .ref e0), (1, .int (nI w))]) hx hb dX6_reasonsWith_45 hl (k := 1) rfl (z_i1 _) (by decide) rfl (fun ls hl => ?_)
            refine lv_goto (tgt := 4) hx hb dX6_reasonsWith_48 (by decide) ?_
            exact ih_4 (i + 1) (y + 1) (by omega) (by omega) (by first | exact rw_0 hV (by omega) hy (Or.inl c_21) | exact rw_0 hV (by omega) hy (Or.inr ⟨c_21, c_35⟩) | exact rw_1 hV (by omega) hy c_21 c_35) _ _ hP hD hS _ (lv_sub hl [0, 1, 2, 3] rfl)
  exact lp_4 _ 0 0 (Nat.lt_succ_self _) (by omega) rfl _ _ hP hD hS _ (lv_sub hl [0, 1, 2, 3] rfl)
set_option maxHeartbeats 4000000 in
set_option maxRecDepth 100000 in
theorem c_X6_rulesWith (l : Launch) (G : gT) (e0 ea ek eh es ei el ew et er ed ep ex eu : Nat) (hq : Int32) (lf : Int32) (md : Int32) (pn : Int32) (sp : Int32) (rm : Int32) (la : Int32) (al : Nat → Nat) (w : Nat) (hR : RowOK (mR al)) (hw12 : w < 12) : CI l yX6_rulesWith wsX6_rulesWith ({ frames := 0, cells := 0, slots := 0, locals := 0 } : Room) G [.ref e0, .int (nI w)] [(e0, .inr (6, [.ref ea, .ref ek, .ref eh, .int hq, .ref es, .ref ei, .ref el, .ref ew, .ref et, .ref er, .int lf, .int md, .ref ed, .ref ep, .int pn, .int sp, .ref ex, .ref eu, .int rm, .int la])), (ea, .inl (gI G, 42, .inl (nA al)))] 0 0 (fun (r : Int32) (u : Unit) => r = nI (smF (fun j => al (2 + j) >>> w &&& 1) (al 1))) (fun (u : Unit) => [(e0, .inr (6, [.ref ea, .ref ek, .ref eh, .int hq, .ref es, .ref ei, .ref el, .ref ew, .ref et, .ref er, .int lf, .int md, .ref ed, .ref ep, .int pn, .int sp, .ref ex, .ref eu, .int rm, .int la])), (ea, .inl (gI G, 42, .inl (nA al)))]) := by
  refine CI.of (cc := cX6_rulesWith) (maxL := 4) (ret := (some .int)) (by decide +kernel) rfl (Nat.le_of_ble_eq_true rfl) rfl (fun p e s m args below meth c A S hrt hlk hnm K hA hP hD hS ls hl => ?_)
  have hx := S.1
  have hb := S.2.1
  have hl : lv_has ls 4 [(0, .ref e0), (1, .int (nI w))] := hl
  obtain ⟨hc1, hc2, hn3, hf4, hf5, hg6⟩ := mrow hR
  have hp2 := p12 hc2
  have h1s : 1 <<< al 0 = 2 ^ al 0 := Nat.one_shiftLeft _
  refine lv_iconst (v := nI 0) hx hb dX6_rulesWith_0 (by decide +kernel) ?_
  refine lv_istore_n (lv' := [(2, .int (nI 0)), (0, .ref e0), (1, .int (nI w))]) hx hb dX6_rulesWith_1 rfl hl (by decide) rfl (fun ls hl => ?_)
  refine lv_iconst (v := nI 0) hx hb dX6_rulesWith_2 (by decide +kernel) ?_
  refine lv_istore_n (lv' := [(3, .int (nI 0)), (2, .int (nI 0)), (0, .ref e0), (1, .int (nI w))]) hx hb dX6_rulesWith_3 rfl hl (by decide) rfl (fun ls hl => ?_)
  have lp_4 : ∀ (n_4 : Nat) (i y : Nat), al 1 - i < n_4 → (i ≤ al 1) → (y = smF (fun j => al (2 + j) >>> w &&& 1) i) → ∀ (H : Heap) (locs : List Loc), va_P (gD G) vwCl [(e0, .inr (6, [.ref ea, .ref ek, .ref eh, .int hq, .ref es, .ref ei, .ref el, .ref ew, .ref et, .ref er, .int lf, .int md, .ref ed, .ref ep, .int pn, .int sp, .ref ex, .ref eu, .int rm, .int la])), (ea, .inl (gI G, 42, .inl (nA al)))] H → va_D A [(e0, .inr (6, [.ref ea, .ref ek, .ref eh, .int hq, .ref es, .ref ei, .ref el, .ref ew, .ref et, .ref er, .int lf, .int md, .ref ed, .ref ep, .int pn, .int sp, .ref ex, .ref eu, .int rm, .int la])), (ea, .inl (gI G, 42, .inl (nA al)))] → va_S A s.heap H locs → ∀ ls : Array Slot, lv_has ls 4 [(3, .int (nI i)), (2, .int (nI y)), (0, .ref e0), (1, .int (nI w))] → W p l e ({ frames := 0, cells := 0, slots := 0, locals := 0 } : Room) s m args below meth c H locs 0 0 (MQ below (va_Qi (fun (r : Int32) (u : Unit) => r = nI (smF (fun j => al (2 + j) >>> w &&& 1) (al 1))) (cB G A (fun (u : Unit) => [(e0, .inr (6, [.ref ea, .ref ek, .ref eh, .int hq, .ref es, .ref ei, .ref el, .ref ew, .ref et, .ref er, .int lf, .int md, .ref ed, .ref ep, .int pn, .int sp, .ref ex, .ref eu, .int rm, .int la])), (ea, .inl (gI G, 42, .inl (nA al)))])) A) args s 0 0 A) (F0 m 4 ls []) := by
    intro n_4
    induction n_4 with
    | zero =>
      intro i y h0
      exact absurd h0 (Nat.not_lt_zero _)
    | succ n_4 ih_4 =>
      intro i y hm_4 hi hy H locs hP hD hS ls hl
      refine lv_iload_n hx hb dX6_rulesWith_4 rfl (lv_at hl 0 rfl) ?_
      refine lv_aload_n hx hb dX6_rulesWith_5 rfl (lv_at hl 2 rfl) ?_
      refine z_get S K hP hX6_rulesWith_X6 0 rfl rfl 0 (by decide) kX6_rulesWith_1 rfl rfl dX6_rulesWith_6 ?_
      refine lv_iconst (v := nI 1) hx hb dX6_rulesWith_9 (by decide +kernel) ?_
      refine z_iald S K hP 1 rfl (by omega) (by decide) dX6_rulesWith_10 ?_
      refine zb_ge (tgt := 35) S dX6_rulesWith_11 (by decide) (by omega) (by omega) (fun c_11 => ?_) (fun c_11 => ?_)
      · skip
        have hia : i = al 1 := by omega
        refine lv_iload_n hx hb dX6_rulesWith_35 rfl (lv_at hl 1 rfl) ?_
        refine z_top (y := nI (smF (fun j => al (2 + j) >>> w &&& 1) (al 1))) (congrArg nI (by rw [hy, hia])) ?_
        exact z_iret S hrt hlk hP hD hS () rfl rfl dX6_rulesWith_36
      · skip
        refine lv_iload_n hx hb dX6_rulesWith_14 rfl (lv_at hl 1 rfl) ?_
        refine lv_aload_n hx hb dX6_rulesWith_15 rfl (lv_at hl 2 rfl) ?_
        refine z_get S K hP hX6_rulesWith_X6 0 rfl rfl 0 (by decide) kX6_rulesWith_1 rfl rfl dX6_rulesWith_16 ?_
        refine lv_iconst (v := nI 2) hx hb dX6_rulesWith_19 (by decide +kernel) ?_
        refine lv_iload_n hx hb dX6_rulesWith_20 rfl (lv_at hl 0 rfl) ?_
        refine zi_add S dX6_rulesWith_21 ?_
        refine z_iald S K hP 1 rfl (by omega) (by decide) dX6_rulesWith_22 ?_
        refine lv_iload_n hx hb dX6_rulesWith_23 rfl (lv_at hl 3 rfl) ?_
        refine zi_shr S dX6_rulesWith_24 (by have := hf5 i (by omega); omega) (by omega) ?_
        refine lv_iconst (v := nI 1) hx hb dX6_rulesWith_25 (by decide +kernel) ?_
        refine zi_and S dX6_rulesWith_26 ?_
        refine zi_add S dX6_rulesWith_27 ?_
        refine lv_istore_n (lv' := [(2, .int (nI (y + (((al (2 + i)) >>> w) &&& 1)))), (3, .int (nI i)), (0, .ref e0), (1, .int (nI w))]) hx hb dX6_rulesWith_28 rfl hl (by decide) rfl (fun ls hl => ?_)
        refine lv_iinc (v := (nI (i + 1))) (lv' := [(3, .int (nI (i + 1))), (2, .int (nI (y + (((al (2 + i)) >>> w) &&& 1)))), (0, .ref e0), (1, .int (nI w))]) hx hb dX6_rulesWith_29 hl (k := 1) rfl (z_i1 _) (by decide) rfl (fun ls hl => ?_)
        refine lv_goto (tgt := 4) hx hb dX6_rulesWith_32 (by decide) ?_
        exact ih_4 (i + 1) (y + (((al (2 + i)) >>> w) &&& 1)) (by omega) (by omega) (by rw [hy]; rfl) _ _ hP hD hS _ (lv_sub hl [0, 1, 2, 3] rfl)
  exact lp_4 _ 0 0 (Nat.lt_succ_self _) (by omega) rfl _ _ hP hD hS _ (lv_sub hl [0, 1, 2, 3] rfl)
