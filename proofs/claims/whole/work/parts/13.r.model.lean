set_option maxHeartbeats 4000000 in
set_option maxRecDepth 100000 in
theorem c_X6_broken (l : Launch) (G : gT) (e0 ea ek eh es ei el ew et er ed ep ex eu : Nat) (hq : Int32) (lf : Int32) (md : Int32) (pn : Int32) (sp : Int32) (rm : Int32) (la : Int32) (al : Nat → Nat) (w : Nat) (hR : RowOK (mR al)) (hw4 : w < 4096) : CI l yX6_broken wsX6_broken ({ frames := 3, cells := 0, slots := 0, locals := 64 } : Room) G [.ref e0, .int (nI w)] [(e0, .inr (6, [.ref ea, .ref ek, .ref eh, .int hq, .ref es, .ref ei, .ref el, .ref ew, .ref et, .ref er, .int lf, .int md, .ref ed, .ref ep, .int pn, .int sp, .ref ex, .ref eu, .int rm, .int la])), (ea, .inl (gI G, 42, .inl (nA al)))] 0 0 (fun (r : Int32) (u : Unit) => r = nI (brF (fun j => al (2 + j)) (fun j => al (22 + j)) (al 1) w)) (fun (u : Unit) => [(e0, .inr (6, [.ref ea, .ref ek, .ref eh, .int hq, .ref es, .ref ei, .ref el, .ref ew, .ref et, .ref er, .int lf, .int md, .ref ed, .ref ep, .int pn, .int sp, .ref ex, .ref eu, .int rm, .int la])), (ea, .inl (gI G, 42, .inl (nA al)))]) := by
  refine CI.of (cc := cX6_broken) (maxL := 4) (ret := (some .int)) (by decide +kernel) rfl (Nat.le_of_ble_eq_true rfl) rfl (fun p e s m args below meth c A S hrt hlk hnm K hA hP hD hS ls hl => ?_)
  have hx := S.1
  have hb := S.2.1
  have hl : lv_has ls 4 [(0, .ref e0), (1, .int (nI w))] := hl
  obtain ⟨hc1, hc2, hn3, hf4, hf5, hg6⟩ := mrow hR
  have hp2 := p12 hc2
  have h1s : 1 <<< al 0 = 2 ^ al 0 := Nat.one_shiftLeft _
  refine lv_iconst (v := nI 0) hx hb dX6_broken_0 (by decide +kernel) ?_
  refine lv_istore_n (lv' := [(2, .int (nI 0)), (0, .ref e0), (1, .int (nI w))]) hx hb dX6_broken_1 rfl hl (by decide) rfl (fun ls hl => ?_)
  refine lv_iconst (v := nI 0) hx hb dX6_broken_2 (by decide +kernel) ?_
  refine lv_istore_n (lv' := [(3, .int (nI 0)), (2, .int (nI 0)), (0, .ref e0), (1, .int (nI w))]) hx hb dX6_broken_3 rfl hl (by decide) rfl (fun ls hl => ?_)
  have lp_4 : ∀ (n_4 : Nat) (i y : Nat), al 1 - i < n_4 → (i ≤ al 1) → (y = smF (fun j => al (22 + j) ^^^ pty (al (2 + j) &&& w)) i) → ∀ (H : Heap) (locs : List Loc), va_P (gD G) vwCl [(e0, .inr (6, [.ref ea, .ref ek, .ref eh, .int hq, .ref es, .ref ei, .ref el, .ref ew, .ref et, .ref er, .int lf, .int md, .ref ed, .ref ep, .int pn, .int sp, .ref ex, .ref eu, .int rm, .int la])), (ea, .inl (gI G, 42, .inl (nA al)))] H → va_D A [(e0, .inr (6, [.ref ea, .ref ek, .ref eh, .int hq, .ref es, .ref ei, .ref el, .ref ew, .ref et, .ref er, .int lf, .int md, .ref ed, .ref ep, .int pn, .int sp, .ref ex, .ref eu, .int rm, .int la])), (ea, .inl (gI G, 42, .inl (nA al)))] → va_S A s.heap H locs → ∀ ls : Array Slot, lv_has ls 4 [(3, .int (nI i)), (2, .int (nI y)), (0, .ref e0), (1, .int (nI w))] → W p l e ({ frames := 3, cells := 0, slots := 0, locals := 64 } : Room) s m args below meth c H locs 0 0 (MQ below (va_Qi (fun (r : Int32) (u : Unit) => r = nI (brF (fun j => al (2 + j)) (fun j => al (22 + j)) (al 1) w)) (cB G A (fun (u : Unit) => [(e0, .inr (6, [.ref ea, .ref ek, .ref eh, .int hq, .ref es, .ref ei, .ref el, .ref ew, .ref et, .ref er, .int lf, .int md, .ref ed, .ref ep, .int pn, .int sp, .ref ex, .ref eu, .int rm, .int la])), (ea, .inl (gI G, 42, .inl (nA al)))])) A) args s 0 0 A) (F0 m 4 ls []) := by
    intro n_4
    induction n_4 with
    | zero =>
      intro i y h0
      exact absurd h0 (Nat.not_lt_zero _)
    | succ n_4 ih_4 =>
      intro i y hm_4 hi hy H locs hP hD hS ls hl
      refine lv_iload_n hx hb dX6_broken_4 rfl (lv_at hl 0 rfl) ?_
      refine lv_aload_n hx hb dX6_broken_5 rfl (lv_at hl 2 rfl) ?_
      refine z_get S K hP hX6_broken_X6 0 rfl rfl 0 (by decide) kX6_broken_1 rfl rfl dX6_broken_6 ?_
      refine lv_iconst (v := nI 1) hx hb dX6_broken_9 (by decide +kernel) ?_
      refine z_iald S K hP 1 rfl (by omega) (by decide) dX6_broken_10 ?_
      refine zb_ge (tgt := 37) S dX6_broken_11 (by decide) (by omega) (by omega) (fun c_11 => ?_) (fun c_11 => ?_)
      · skip
        have hia : i = al 1 := by omega
        refine lv_iload_n hx hb dX6_broken_37 rfl (lv_at hl 1 rfl) ?_
        refine z_top (y := nI (brF (fun j => al (2 + j)) (fun j => al (22 + j)) (al 1) w)) (congrArg nI (by rw [hy, hia]; rfl)) ?_
        exact z_iret S hrt hlk hP hD hS () rfl rfl dX6_broken_38
      · skip
        refine lv_iload_n hx hb dX6_broken_14 rfl (lv_at hl 1 rfl) ?_
        refine lv_aload_n hx hb dX6_broken_15 rfl (lv_at hl 2 rfl) ?_
        refine lv_iload_n hx hb dX6_broken_16 rfl (lv_at hl 3 rfl) ?_
        refine lv_iload_n hx hb dX6_broken_17 rfl (lv_at hl 0 rfl) ?_
        refine zcVi (rest := [.int (nI y)]) S K hP hD hS hA hl.1 (c_X6_fits l G e0 ea ek eh es ei el ew et er ed ep ex eu hq lf md pn sp rm la al w i (by omega) hw4 (hg6 i (by omega))) rfl rfl gX6_broken_X6_fits rfl eX6_fits [0, 1] (by decide +kernel) rfl (fun _ => rfl) 6 0 rfl rfl rfl rfl rfl (Nat.le_of_ble_eq_true rfl) (Nat.le_of_ble_eq_true rfl) (Nat.le_of_ble_eq_true rfl) ⟨Nat.zero_le _, Nat.zero_le _⟩ dX6_broken_18 (fun r_18 u_18 H locs hw_18 hP hD hS => ?_)
        obtain ⟨hP, hD⟩ := mx_ok [some 0, some 1] (by decide +kernel) rfl rfl hP hD
        replace hw_18 : r_18 = nI (bN (decide (pty (w &&& al (2 + i)) = al (22 + i)))) := hw_18
        obtain rfl := hw_18
        have hP : va_P (gD G) vwCl [(e0, .inr (6, [.ref ea, .ref ek, .ref eh, .int hq, .ref es, .ref ei, .ref el, .ref ew, .ref et, .ref er, .int lf, .int md, .ref ed, .ref ep, .int pn, .int sp, .ref ex, .ref eu, .int rm, .int la])), (ea, .inl (gI G, 42, .inl (nA al)))] H := hP
        have hD : va_D A [(e0, .inr (6, [.ref ea, .ref ek, .ref eh, .int hq, .ref es, .ref ei, .ref el, .ref ew, .ref et, .ref er, .int lf, .int md, .ref ed, .ref ep, .int pn, .int sp, .ref ex, .ref eu, .int rm, .int la])), (ea, .inl (gI G, 42, .inl (nA al)))] := hD
        refine zf_eq (tgt := 28) S dX6_broken_21 (by decide) (bN_31 _) (fun c_21 => ?_) (fun c_21 => ?_)
        · skip
          have c_21 := of_decide_eq_false (bN_eq0 c_21)
          refine lv_iconst (v := nI 1) hx hb dX6_broken_28 (by decide +kernel) ?_
          refine zi_add S dX6_broken_29 ?_
          refine lv_istore_n (lv' := [(2, .int (nI (y + 1))), (3, .int (nI i)), (0, .ref e0), (1, .int (nI w))]) hx hb dX6_broken_30 rfl hl (by decide) rfl (fun ls hl => ?_)
          refine lv_iinc (v := (nI (i + 1))) (lv' := [(3, .int (nI (i + 1))), (2, .int (nI (y + 1))), (0, .ref e0), (1, .int (nI w))]) hx hb dX6_broken_31 hl (k := 1) rfl (z_i1 _) (by decide) rfl (fun ls hl => ?_)
          refine lv_goto (tgt := 4) hx hb dX6_broken_34 (by decide) ?_
          exact ih_4 (i + 1) (y + 1) (by omega) (by omega) (by first | exact br_1 hy c_21 | exact br_0 hy (hg6 i (by omega)) c_21) _ _ hP hD hS _ (lv_sub hl [0, 1, 2, 3] rfl)
        · skip
          have c_21 := of_decide_eq_true (bN_ne0 c_21)
          refine lv_iconst (v := nI 0) hx hb dX6_broken_24 (by decide +kernel) ?_
          refine lv_goto (tgt := 29) hx hb dX6_broken_25 (by decide) ?_
          refine zi_add S dX6_broken_29 ?_
          refine lv_istore_n (lv' := [(2, .int (nI (y + 0))), (3, .int (nI i)), (0, .ref e0), (1, .int (nI w))]) hx hb dX6_broken_30 rfl hl (by decide) rfl (fun ls hl => ?_)
          refine lv_iinc (v := (nI (i + 1))) (lv' := [(3, .int (nI (i + 1))), (2, .int (nI (y + 0))), (0, .ref e0), (1, .int (nI w))]) hx hb dX6_broken_31 hl (k := 1) rfl (z_i1 _) (by decide) rfl (fun ls hl => ?_)
          refine lv_goto (tgt := 4) hx hb dX6_broken_34 (by decide) ?_
          exact ih_4 (i + 1) (y + 0) (by omega) (by omega) (by first | exact br_1 hy c_21 | exact br_0 hy (hg6 i (by omega)) c_21) _ _ hP hD hS _ (lv_sub hl [0, 1, 2, 3] rfl)
  exact lp_4 _ 0 0 (Nat.lt_succ_self _) (by omega) rfl _ _ hP hD hS _ (lv_sub hl [0, 1, 2, 3] rfl)
set_option maxHeartbeats 4000000 in
set_option maxRecDepth 100000 in
theorem c_X6_ifDropped (l : Launch) (G : gT) (e0 ea ek eh es ei el ew et er ed ep ex eu : Nat) (hq : Int32) (lf : Int32) (md : Int32) (pn : Int32) (sp : Int32) (rm : Int32) (la : Int32) (al : Nat → Nat) (ka : Nat → Nat) (le : Nat → Nat) (wh : Nat → Nat) (ms : Nat → Nat) (mr : Nat → Nat) (x : Int32) (hR : RowOK (mR al)) : CI l yX6_ifDropped wsX6_ifDropped ({ frames := 5, cells := 0, slots := 0, locals := 110 } : Room) G [.ref e0, .int x] [(e0, .inr (6, [.ref ea, .ref ek, .ref eh, .int hq, .ref es, .ref ei, .ref el, .ref ew, .ref et, .ref er, .int lf, .int md, .ref ed, .ref ep, .int pn, .int sp, .ref ex, .ref eu, .int rm, .int la])), (ea, .inl (gI G, 42, .inl (nA al))), (ek, .inl (gI G, 42, .inl (nA ka))), (el, .inl (gI G, 12, .inl (nA le))), (ew, .inl (gI G, 12, .inl (nA wh))), (et, .inl (gI G, 20, .inl (nA ms))), (er, .inl (gI G, 20, .inl (nA mr)))] 0 0 (fun (r : Int32) (u : Int32 × Int32 × (Nat → Nat) × (Nat → Nat) × (Nat → Nat) × (Nat → Nat) × (Nat → Nat) × (Nat → Nat)) => r = (r_ifDropped (mR al) x) ∧ mR u.2.2.2.2.2.2.1 = mR al) (fun (u : Int32 × Int32 × (Nat → Nat) × (Nat → Nat) × (Nat → Nat) × (Nat → Nat) × (Nat → Nat) × (Nat → Nat)) => [(e0, .inr (6, [.ref ea, .ref ek, .ref eh, .int hq, .ref es, .ref ei, .ref el, .ref ew, .ref et, .ref er, .int u.1, .int u.2.1, .ref ed, .ref ep, .int pn, .int sp, .ref ex, .ref eu, .int rm, .int la])), (ea, .inl (gI G, 42, .inl (nA u.2.2.2.2.2.2.1))), (ek, .inl (gI G, 42, .inl (nA u.2.2.2.2.2.2.2))), (el, .inl (gI G, 12, .inl (nA u.2.2.1))), (ew, .inl (gI G, 12, .inl (nA u.2.2.2.1))), (et, .inl (gI G, 20, .inl (nA u.2.2.2.2.1))), (er, .inl (gI G, 20, .inl (nA u.2.2.2.2.2.1)))]) := by
  refine CI.of (cc := cX6_ifDropped) (maxL := 3) (ret := (some .int)) (by decide +kernel) rfl (Nat.le_of_ble_eq_true rfl) rfl (fun p e s m args below meth c A S hrt hlk hnm K hA hP hD hS ls hl => ?_)
  have hx := S.1
  have hb := S.2.1
  have hl : lv_has ls 3 [(0, .ref e0), (1, .int x)] := hl
  obtain ⟨hc1, hc2, hn3, hf4, hf5, hg6⟩ := mrow hR
  have hp2 := p12 hc2
  have h1s : 1 <<< al 0 = 2 ^ al 0 := Nat.one_shiftLeft _
  refine lv_aload_n hx hb dX6_ifDropped_0 rfl (lv_at hl 0 rfl) ?_
  refine lv_iload_n hx hb dX6_ifDropped_1 rfl (lv_at hl 1 rfl) ?_
  refine zcVi (rest := []) S K hP hD hS hA hl.1 (c_X6_isRule l G e0 ea ek eh es ei el ew et er ed ep ex eu hq lf md pn sp rm la al x (by first | assumption | omega)) rfl rfl gX6_ifDropped_X6_isRule rfl eX6_isRule [0, 1] (by decide +kernel) rfl (fun _ => rfl) 6 0 rfl rfl rfl rfl rfl (Nat.le_of_ble_eq_true rfl) (Nat.le_of_ble_eq_true rfl) (Nat.le_of_ble_eq_true rfl) ⟨Nat.zero_le _, Nat.zero_le _⟩ dX6_ifDropped_2 (fun r_2 u_2 H locs hw_2 hP hD hS => ?_)
  obtain ⟨hP, hD⟩ := mx_ok [some 0, some 1, none, none, none, none, none] (by decide +kernel) rfl rfl hP hD
  replace hw_2 : r_2 = nI (bN (decide (0 ≤ x.toInt ∧ x.toInt < (al 1 : Int)))) := hw_2
  obtain rfl := hw_2
  have hP : va_P (gD G) vwCl [(e0, .inr (6, [.ref ea, .ref ek, .ref eh, .int hq, .ref es, .ref ei, .ref el, .ref ew, .ref et, .ref er, .int lf, .int md, .ref ed, .ref ep, .int pn, .int sp, .ref ex, .ref eu, .int rm, .int la])), (ea, .inl (gI G, 42, .inl (nA al))), (ek, .inl (gI G, 42, .inl (nA ka))), (el, .inl (gI G, 12, .inl (nA le))), (ew, .inl (gI G, 12, .inl (nA wh))), (et, .inl (gI G, 20, .inl (nA ms))), (er, .inl (gI G, 20, .inl (nA mr)))] H := hP
  have hD : va_D A [(e0, .inr (6, [.ref ea, .ref ek, .ref eh, .int hq, .ref es, .ref ei, .ref el, .ref ew, .ref et, .ref er, .int lf, .int md, .ref ed, .ref ep, .int pn, .int sp, .ref ex, .ref eu, .int rm, .int la])), (ea, .inl (gI G, 42, .inl (nA al))), (ek, .inl (gI G, 42, .inl (nA ka))), (el, .inl (gI G, 12, .inl (nA le))), (ew, .inl (gI G, 12, .inl (nA wh))), (et, .inl (gI G, 20, .inl (nA ms))), (er, .inl (gI G, 20, .inl (nA mr)))] := hD
  refine zf_ne (tgt := 10) S dX6_ifDropped_5 (by decide) (bN_31 _) (fun c_5 => ?_) (fun c_5 => ?_)
  · skip
    have c_5 := of_decide_eq_true (bN_ne0 c_5)
    obtain ⟨i, hi1, hi2, hi3⟩ := z_of (x := x) (by omega)
    have hl : lv_has ls 3 [(0, .ref e0), (1, .int (nI i))] := by rw [hi2] at hl; exact hl
    refine lv_aload_n hx hb dX6_ifDropped_10 rfl (lv_at hl 0 rfl) ?_
    refine zcVv (rest := []) S K hP hD hS hA hl.1 (c_X6_keep l G e0 ea ek eh es ei el ew et er ed ep ex eu hq lf md pn sp rm la al ka ) rfl rfl gX6_ifDropped_X6_keep rfl eX6_keep [0, 1, 2] (by decide +kernel) rfl (fun _ => rfl) 6 0 rfl rfl rfl rfl rfl (Nat.le_of_ble_eq_true rfl) (Nat.le_of_ble_eq_true rfl) (Nat.le_of_ble_eq_true rfl) ⟨Nat.zero_le _, Nat.zero_le _⟩ dX6_ifDropped_11 (fun u_11 H locs hw_11 hP hD hS => ?_)
    obtain ⟨hP, hD⟩ := mx_ok [some 0, some 1, some 2, none, none, none, none] (by decide +kernel) rfl rfl hP hD
    obtain ⟨ka2_11, rfl⟩ : ∃ z, z = u_11 := ⟨_, rfl⟩
    replace hw_11 : ∀ j, j < 42 → ka2_11 j = al j := hw_11
    have hP : va_P (gD G) vwCl [(e0, .inr (6, [.ref ea, .ref ek, .ref eh, .int hq, .ref es, .ref ei, .ref el, .ref ew, .ref et, .ref er, .int lf, .int md, .ref ed, .ref ep, .int pn, .int sp, .ref ex, .ref eu, .int rm, .int la])), (ea, .inl (gI G, 42, .inl (nA al))), (ek, .inl (gI G, 42, .inl (nA ka2_11))), (el, .inl (gI G, 12, .inl (nA le))), (ew, .inl (gI G, 12, .inl (nA wh))), (et, .inl (gI G, 20, .inl (nA ms))), (er, .inl (gI G, 20, .inl (nA mr)))] H := hP
    have hD : va_D A [(e0, .inr (6, [.ref ea, .ref ek, .ref eh, .int hq, .ref es, .ref ei, .ref el, .ref ew, .ref et, .ref er, .int lf, .int md, .ref ed, .ref ep, .int pn, .int sp, .ref ex, .ref eu, .int rm, .int la])), (ea, .inl (gI G, 42, .inl (nA al))), (ek, .inl (gI G, 42, .inl (nA ka2_11))), (el, .inl (gI G, 12, .inl (nA le))), (ew, .inl (gI G, 12, .inl (nA wh))), (et, .inl (gI G, 20, .inl (nA ms))), (er, .inl (gI G, 20, .inl (nA mr)))] := hD
    refine lv_aload_n hx hb dX6_ifDropped_14 rfl (lv_at hl 0 rfl) ?_
    refine lv_iload_n hx hb dX6_ifDropped_15 rfl (lv_at hl 1 rfl) ?_
    refine zcVv (rest := []) S K hP hD hS hA hl.1 (c_X6_takesOut l G e0 ea ek eh es ei el ew et er ed ep ex eu hq lf md pn sp rm la al i (by first | assumption | omega) (by first | assumption | omega)) rfl rfl gX6_ifDropped_X6_takesOut rfl eX6_takesOut [0, 1] (by decide +kernel) rfl (fun _ => rfl) 6 0 rfl rfl rfl rfl rfl (Nat.le_of_ble_eq_true rfl) (Nat.le_of_ble_eq_true rfl) (Nat.le_of_ble_eq_true rfl) ⟨Nat.zero_le _, Nat.zero_le _⟩ dX6_ifDropped_16 (fun u_16 H locs hw_16 hP hD hS => ?_)
    obtain ⟨hP, hD⟩ := mx_ok [some 0, some 1, none, none, none, none, none] (by decide +kernel) rfl rfl hP hD
    obtain ⟨al2_16, rfl⟩ : ∃ z, z = u_16 := ⟨_, rfl⟩
    replace hw_16 : TO al al2_16 i (al 1 - 1) := hw_16
    have hP : va_P (gD G) vwCl [(e0, .inr (6, [.ref ea, .ref ek, .ref eh, .int hq, .ref es, .ref ei, .ref el, .ref ew, .ref et, .ref er, .int lf, .int md, .ref ed, .ref ep, .int pn, .int sp, .ref ex, .ref eu, .int rm, .int la])), (ea, .inl (gI G, 42, .inl (nA al2_16))), (ek, .inl (gI G, 42, .inl (nA ka2_11))), (el, .inl (gI G, 12, .inl (nA le))), (ew, .inl (gI G, 12, .inl (nA wh))), (et, .inl (gI G, 20, .inl (nA ms))), (er, .inl (gI G, 20, .inl (nA mr)))] H := hP
    have hD : va_D A [(e0, .inr (6, [.ref ea, .ref ek, .ref eh, .int hq, .ref es, .ref ei, .ref el, .ref ew, .ref et, .ref er, .int lf, .int md, .ref ed, .ref ep, .int pn, .int sp, .ref ex, .ref eu, .int rm, .int la])), (ea, .inl (gI G, 42, .inl (nA al2_16))), (ek, .inl (gI G, 42, .inl (nA ka2_11))), (el, .inl (gI G, 12, .inl (nA le))), (ew, .inl (gI G, 12, .inl (nA wh))), (et, .inl (gI G, 20, .inl (nA ms))), (er, .inl (gI G, 20, .inl (nA mr)))] := hD
    have hkd := to_R hw_16 (show i < al 1 by omega) hn3
    have hR2 : RowOK (mR al2_16) := by rw [hkd]; exact dr_ok hR (show i < al 1 by omega)
    refine lv_aload_n hx hb dX6_ifDropped_19 rfl (lv_at hl 0 rfl) ?_
    refine zcVi (rest := []) S K hP hD hS hA hl.1 (c_X6_answers l G e0 ea ek eh es ei el ew et er ed ep ex eu hq lf md pn sp rm la al2_16 le wh ms mr hR2) rfl rfl gX6_ifDropped_X6_answers rfl eX6_answers [0, 1, 3, 4, 5, 6] (by decide +kernel) rfl (fun _ => rfl) 6 0 rfl rfl rfl rfl rfl (Nat.le_of_ble_eq_true rfl) (Nat.le_of_ble_eq_true rfl) (Nat.le_of_ble_eq_true rfl) ⟨Nat.zero_le _, Nat.zero_le _⟩ dX6_ifDropped_20 (fun r_20 u_20 H locs hw_20 hP hD hS => ?_)
    obtain ⟨hP, hD⟩ := mx_ok [some 0, some 1, none, some 2, some 3, some 4, some 5] (by decide +kernel) rfl rfl hP hD
    obtain ⟨lf2_20, md2_20, le2_20, wh2_20, ms2_20, mr2_20⟩ := u_20
    replace hw_20 : r_20 = nI (naS (mR al2_16)) ∧ MV (fun j => al2_16 (2 + j)) (fun j => al2_16 (22 + j)) (al2_16 1) ms2_20 mr2_20 le2_20 wh2_20 := hw_20
    obtain ⟨rfl, hw_20⟩ := hw_20
    have hP : va_P (gD G) vwCl [(e0, .inr (6, [.ref ea, .ref ek, .ref eh, .int hq, .ref es, .ref ei, .ref el, .ref ew, .ref et, .ref er, .int lf2_20, .int md2_20, .ref ed, .ref ep, .int pn, .int sp, .ref ex, .ref eu, .int rm, .int la])), (ea, .inl (gI G, 42, .inl (nA al2_16))), (ek, .inl (gI G, 42, .inl (nA ka2_11))), (el, .inl (gI G, 12, .inl (nA le2_20))), (ew, .inl (gI G, 12, .inl (nA wh2_20))), (et, .inl (gI G, 20, .inl (nA ms2_20))), (er, .inl (gI G, 20, .inl (nA mr2_20)))] H := hP
    have hD : va_D A [(e0, .inr (6, [.ref ea, .ref ek, .ref eh, .int hq, .ref es, .ref ei, .ref el, .ref ew, .ref et, .ref er, .int lf2_20, .int md2_20, .ref ed, .ref ep, .int pn, .int sp, .ref ex, .ref eu, .int rm, .int la])), (ea, .inl (gI G, 42, .inl (nA al2_16))), (ek, .inl (gI G, 42, .inl (nA ka2_11))), (el, .inl (gI G, 12, .inl (nA le2_20))), (ew, .inl (gI G, 12, .inl (nA wh2_20))), (et, .inl (gI G, 20, .inl (nA ms2_20))), (er, .inl (gI G, 20, .inl (nA mr2_20)))] := hD
    refine lv_istore_n (lv' := [(2, .int (nI (naS (mR al2_16)))), (0, .ref e0), (1, .int (nI i))]) hx hb dX6_ifDropped_23 rfl hl (by decide) rfl (fun ls hl => ?_)
    refine lv_aload_n hx hb dX6_ifDropped_24 rfl (lv_at hl 1 rfl) ?_
    refine zcVv (rest := []) S K hP hD hS hA hl.1 (c_X6_giveBack l G e0 ea ek eh es ei el ew et er ed ep ex eu hq lf2_20 md2_20 pn sp rm la ka2_11 al2_16 ) rfl rfl gX6_ifDropped_X6_giveBack rfl eX6_giveBack [0, 2, 1] (by decide +kernel) rfl (fun _ => rfl) 6 0 rfl rfl rfl rfl rfl (Nat.le_of_ble_eq_true rfl) (Nat.le_of_ble_eq_true rfl) (Nat.le_of_ble_eq_true rfl) ⟨Nat.zero_le _, Nat.zero_le _⟩ dX6_ifDropped_25 (fun u_25 H locs hw_25 hP hD hS => ?_)
    obtain ⟨hP, hD⟩ := mx_ok [some 0, some 2, some 1, none, none, none, none] (by decide +kernel) rfl rfl hP hD
    obtain ⟨al2_25, rfl⟩ : ∃ z, z = u_25 := ⟨_, rfl⟩
    replace hw_25 : ∀ j, j < 42 → al2_25 j = ka2_11 j := hw_25
    have hP : va_P (gD G) vwCl [(e0, .inr (6, [.ref ea, .ref ek, .ref eh, .int hq, .ref es, .ref ei, .ref el, .ref ew, .ref et, .ref er, .int lf2_20, .int md2_20, .ref ed, .ref ep, .int pn, .int sp, .ref ex, .ref eu, .int rm, .int la])), (ea, .inl (gI G, 42, .inl (nA al2_25))), (ek, .inl (gI G, 42, .inl (nA ka2_11))), (el, .inl (gI G, 12, .inl (nA le2_20))), (ew, .inl (gI G, 12, .inl (nA wh2_20))), (et, .inl (gI G, 20, .inl (nA ms2_20))), (er, .inl (gI G, 20, .inl (nA mr2_20)))] H := hP
    have hD : va_D A [(e0, .inr (6, [.ref ea, .ref ek, .ref eh, .int hq, .ref es, .ref ei, .ref el, .ref ew, .ref et, .ref er, .int lf2_20, .int md2_20, .ref ed, .ref ep, .int pn, .int sp, .ref ex, .ref eu, .int rm, .int la])), (ea, .inl (gI G, 42, .inl (nA al2_25))), (ek, .inl (gI G, 42, .inl (nA ka2_11))), (el, .inl (gI G, 12, .inl (nA le2_20))), (ew, .inl (gI G, 12, .inl (nA wh2_20))), (et, .inl (gI G, 20, .inl (nA ms2_20))), (er, .inl (gI G, 20, .inl (nA mr2_20)))] := hD
    refine lv_iload_n hx hb dX6_ifDropped_28 rfl (lv_at hl 0 rfl) ?_
    refine z_top (y := (r_ifDropped (mR al) x)) (idm_1 hi2 (by omega) hn3 hkd) ?_
    exact z_iret S hrt hlk hP hD hS (lf2_20, md2_20, le2_20, wh2_20, ms2_20, mr2_20, al2_25, ka2_11) rfl ⟨rfl, (keep_R (al := al) (fun j hj => (hw_25 j hj).trans (hw_11 j hj)) hn3).1⟩ dX6_ifDropped_29
  · skip
    have c_5 := of_decide_eq_false (bN_eq0 c_5)
    refine lv_iconst (v := -1) hx hb dX6_ifDropped_8 (by decide +kernel) ?_
    refine z_top (y := (r_ifDropped (mR al) x)) (id_0 (R := mR al) c_5) ?_
    exact z_iret S hrt hlk hP hD hS (lf, md, le, wh, ms, mr, al, ka) rfl ⟨rfl, rfl⟩ dX6_ifDropped_9
