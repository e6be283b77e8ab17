set_option maxHeartbeats 4000000 in
set_option maxRecDepth 100000 in
theorem c_X6_isHere (l : Launch) (G : gT) (e0 ea ek eh es ei el ew et er ed ep ex eu : Nat) (hq : Int32) (lf : Int32) (md : Int32) (rm : Int32) (la : Int32) (mt : Nat → Nat) (pn : Nat) (sp : Nat) (a : Nat) (d : Nat) (hpn : pn ≤ 80) (hch : ∀ j, j < pn → mt j < 127) (hsp : sp ≤ pn) (ha : a < 128) (hd : d < 128) : CI l yX6_isHere wsX6_isHere ({ frames := 1, cells := 0, slots := 0, locals := 25 } : Room) G [.ref e0, .int (nI a), .int (nI d)] [(e0, .inr (6, [.ref ea, .ref ek, .ref eh, .int hq, .ref es, .ref ei, .ref el, .ref ew, .ref et, .ref er, .int lf, .int md, .ref ed, .ref ep, .int (nI pn), .int (nI sp), .ref ex, .ref eu, .int rm, .int la])), (ep, .inl (gI G, 80, .inl (nA mt)))] 0 0 (fun (r : Int32) (u : Unit) => r = nI (bN (decide (sp < pn ∧ a ≤ mt sp ∧ mt sp ≤ d)))) (fun (u : Unit) => [(e0, .inr (6, [.ref ea, .ref ek, .ref eh, .int hq, .ref es, .ref ei, .ref el, .ref ew, .ref et, .ref er, .int lf, .int md, .ref ed, .ref ep, .int (nI pn), .int (nI sp), .ref ex, .ref eu, .int rm, .int la])), (ep, .inl (gI G, 80, .inl (nA mt)))]) := by
  refine CI.of (cc := cX6_isHere) (maxL := 3) (ret := (some .boolean)) (by decide +kernel) rfl (Nat.le_of_ble_eq_true rfl) rfl (fun p e s m args below meth c A S hrt hlk hnm K hA hP hD hS ls hl => ?_)
  have hx := S.1
  have hb := S.2.1
  have hl : lv_has ls 3 [(0, .ref e0), (1, .int (nI a)), (2, .int (nI d))] := hl
  refine lv_aload_n hx hb dX6_isHere_0 rfl (lv_at hl 0 rfl) ?_
  refine z_get S K hP hX6_isHere_X6 0 rfl rfl 15 (by decide) kX6_isHere_1 rfl rfl dX6_isHere_1 ?_
  refine lv_aload_n hx hb dX6_isHere_4 rfl (lv_at hl 0 rfl) ?_
  refine z_get S K hP hX6_isHere_X6 0 rfl rfl 14 (by decide) kX6_isHere_2 rfl rfl dX6_isHere_5 ?_
  refine zb_ge (tgt := 35) S dX6_isHere_8 (by decide) (by omega) (by omega) (fun c_8 => ?_) (fun c_8 => ?_)
  · skip
    refine lv_iconst (v := nI 0) hx hb dX6_isHere_35 (by decide +kernel) ?_
    refine z_top (y := nI (bN (decide (sp < pn ∧ a ≤ mt sp ∧ mt sp ≤ d)))) (bz_f (decide_eq_false (by omega))) ?_
    exact z_zret S hrt hlk hP hD hS () rfl rfl (z_bnar _) dX6_isHere_36
  · skip
    have hcs := hch sp (by omega)
    have hLa := lN_toInt (n := a) (by omega)
    have hLd := lN_toInt (n := d) (by omega)
    have hLs := lN_toInt (n := mt sp) (by omega)
    refine lv_aload_n hx hb dX6_isHere_11 rfl (lv_at hl 0 rfl) ?_
    refine z_get S K hP hX6_isHere_X6 0 rfl rfl 13 (by decide) kX6_isHere_3 rfl rfl dX6_isHere_12 ?_
    refine lv_aload_n hx hb dX6_isHere_15 rfl (lv_at hl 0 rfl) ?_
    refine z_get S K hP hX6_isHere_X6 0 rfl rfl 15 (by decide) kX6_isHere_1 rfl rfl dX6_isHere_16 ?_
    refine z_iald S K hP 1 rfl (by omega) (by decide) dX6_isHere_19 ?_
    refine lv_i2l (v := lN (mt sp)) hx hb dX6_isHere_20 (nI_l (by omega)) ?_
    refine lv_iload_n hx hb dX6_isHere_21 rfl (lv_at hl 1 rfl) ?_
    refine lv_i2l (v := lN a) hx hb dX6_isHere_22 (nI_l (by omega)) ?_
    refine lv_iload_n hx hb dX6_isHere_23 rfl (lv_at hl 2 rfl) ?_
    refine lv_i2l (v := lN d) hx hb dX6_isHere_24 (nI_l (by omega)) ?_
    refine zcSi (rest := []) S K hP hD hS hA hl.1 (c_X6_in l G (lN (mt sp)) (lN a) (lN d) ) rfl rfl gX6_isHere_X6_in rfl eX6_in.2 [] (by decide +kernel) rfl (fun _ => rfl) rfl rfl (Nat.le_of_ble_eq_true rfl) (Nat.le_of_ble_eq_true rfl) (Nat.le_of_ble_eq_true rfl) ⟨Nat.zero_le _, Nat.zero_le _⟩ dX6_isHere_25 (fun r_25 u_25 H locs hw_25 hP hD hS => ?_)
    replace hw_25 : r_25 = nI (bN (decide ((lN a).toInt ≤ (lN (mt sp)).toInt ∧ (lN (mt sp)).toInt ≤ (lN d).toInt))) := hw_25
    obtain rfl := hw_25
    have hP : va_P (gD G) vwCl [(e0, .inr (6, [.ref ea, .ref ek, .ref eh, .int hq, .ref es, .ref ei, .ref el, .ref ew, .ref et, .ref er, .int lf, .int md, .ref ed, .ref ep, .int (nI pn), .int (nI sp), .ref ex, .ref eu, .int rm, .int la])), (ep, .inl (gI G, 80, .inl (nA mt)))] H := hP
    have hD : va_D A [(e0, .inr (6, [.ref ea, .ref ek, .ref eh, .int hq, .ref es, .ref ei, .ref el, .ref ew, .ref et, .ref er, .int lf, .int md, .ref ed, .ref ep, .int (nI pn), .int (nI sp), .ref ex, .ref eu, .int rm, .int la])), (ep, .inl (gI G, 80, .inl (nA mt)))] := hD
    refine zf_eq (tgt := 35) S dX6_isHere_28 (by decide) (bN_31 _) (fun c_28 => ?_) (fun c_28 => ?_)
    · skip
      have c_28 := of_decide_eq_false (bN_eq0 c_28)
      refine lv_iconst (v := nI 0) hx hb dX6_isHere_35 (by decide +kernel) ?_
      refine z_top (y := nI (bN (decide (sp < pn ∧ a ≤ mt sp ∧ mt sp ≤ d)))) (bz_f (decide_eq_false (by omega))) ?_
      exact z_zret S hrt hlk hP hD hS () rfl rfl (z_bnar _) dX6_isHere_36
    · skip
      have c_28 := of_decide_eq_true (bN_ne0 c_28)
      refine lv_iconst (v := nI 1) hx hb dX6_isHere_31 (by decide +kernel) ?_
      refine lv_goto (tgt := 36) hx hb dX6_isHere_32 (by decide) ?_
      refine z_top (y := nI (bN (decide (sp < pn ∧ a ≤ mt sp ∧ mt sp ≤ d)))) (bz_t (decide_eq_true (by omega))) ?_
      exact z_zret S hrt hlk hP hD hS () rfl rfl (z_bnar _) dX6_isHere_36
set_option maxHeartbeats 4000000 in
set_option maxRecDepth 100000 in
theorem c_X6_takes (l : Launch) (G : gT) (e0 ea ek eh es ei el ew et er ed ep ex eu : Nat) (hq : Int32) (lf : Int32) (md : Int32) (rm : Int32) (la : Int32) (mt : Nat → Nat) (pn : Nat) (sp : Nat) (a : Nat) (hpn : pn ≤ 80) (hch : ∀ j, j < pn → mt j < 127) (hsp : sp ≤ pn) (ha : a < 128) : CI l yX6_takes wsX6_takes ({ frames := 2, cells := 0, slots := 0, locals := 47 } : Room) G [.ref e0, .int (nI a)] [(e0, .inr (6, [.ref ea, .ref ek, .ref eh, .int hq, .ref es, .ref ei, .ref el, .ref ew, .ref et, .ref er, .int lf, .int md, .ref ed, .ref ep, .int (nI pn), .int (nI sp), .ref ex, .ref eu, .int rm, .int la])), (ep, .inl (gI G, 80, .inl (nA mt)))] 0 0 (fun (r : Int32) (u : Nat) => r = nI (bN (decide (sp < pn ∧ mt sp = a))) ∧ (sp < pn ∧ mt sp = a → u = sp + 1) ∧ (¬ (sp < pn ∧ mt sp = a) → u = sp)) (fun (u : Nat) => [(e0, .inr (6, [.ref ea, .ref ek, .ref eh, .int hq, .ref es, .ref ei, .ref el, .ref ew, .ref et, .ref er, .int lf, .int md, .ref ed, .ref ep, .int (nI pn), .int (nI u), .ref ex, .ref eu, .int rm, .int la])), (ep, .inl (gI G, 80, .inl (nA mt)))]) := by
  refine CI.of (cc := cX6_takes) (maxL := 3) (ret := (some .boolean)) (by decide +kernel) rfl (Nat.le_of_ble_eq_true rfl) rfl (fun p e s m args below meth c A S hrt hlk hnm K hA hP hD hS ls hl => ?_)
  have hx := S.1
  have hb := S.2.1
  have hl : lv_has ls 3 [(0, .ref e0), (1, .int (nI a))] := hl
  refine lv_aload_n hx hb dX6_takes_0 rfl (lv_at hl 0 rfl) ?_
  refine lv_iload_n hx hb dX6_takes_1 rfl (lv_at hl 1 rfl) ?_
  refine lv_iload_n hx hb dX6_takes_2 rfl (lv_at hl 1 rfl) ?_
  refine zcVi (rest := []) S K hP hD hS hA hl.1 (c_X6_isHere l G e0 ea ek eh es ei el ew et er ed ep ex eu hq lf md rm la mt pn sp a a (by first | assumption | omega) (by first | assumption | omega) (by first | assumption | omega) (by first | assumption | omega) (by first | assumption | omega)) rfl rfl gX6_takes_X6_isHere rfl eX6_isHere [0, 1] (by decide +kernel) rfl (fun _ => rfl) 6 0 rfl rfl rfl rfl rfl (Nat.le_of_ble_eq_true rfl) (Nat.le_of_ble_eq_true rfl) (Nat.le_of_ble_eq_true rfl) ⟨Nat.zero_le _, Nat.zero_le _⟩ dX6_takes_3 (fun r_3 u_3 H locs hw_3 hP hD hS => ?_)
  obtain ⟨hP, hD⟩ := mx_ok [some 0, some 1] (by decide +kernel) rfl rfl hP hD
  replace hw_3 : r_3 = nI (bN (decide (sp < pn ∧ a ≤ mt sp ∧ mt sp ≤ a))) := hw_3
  obtain rfl := hw_3
  have hP : va_P (gD G) vwCl [(e0, .inr (6, [.ref ea, .ref ek, .ref eh, .int hq, .ref es, .ref ei, .ref el, .ref ew, .ref et, .ref er, .int lf, .int md, .ref ed, .ref ep, .int (nI pn), .int (nI sp), .ref ex, .ref eu, .int rm, .int la])), (ep, .inl (gI G, 80, .inl (nA mt)))] H := hP
  have hD : va_D A [(e0, .inr (6, [.ref ea, .ref ek, .ref eh, .int hq, .ref es, .ref ei, .ref el, .ref ew, .ref et, .ref er, .int lf, .int md, .ref ed, .ref ep, .int (nI pn), .int (nI sp), .ref ex, .ref eu, .int rm, .int la])), (ep, .inl (gI G, 80, .inl (nA mt)))] := hD
  refine lv_istore_n (lv' := [(2, .int (nI (bN (decide (sp < pn ∧ a ≤ mt sp ∧ mt sp ≤ a))))), (0, .ref e0), (1, .int (nI a))]) hx hb dX6_takes_6 rfl hl (by decide) rfl (fun ls hl => ?_)
  refine lv_aload_n hx hb dX6_takes_7 rfl (lv_at hl 1 rfl) ?_
  refine lv_dup hx hb dX6_takes_8 rfl ?_
  refine z_get S K hP hX6_takes_X6 0 rfl rfl 15 (by decide) kX6_takes_1 rfl rfl dX6_takes_9 ?_
  refine lv_iload_n hx hb dX6_takes_12 rfl (lv_at hl 0 rfl) ?_
  refine zf_eq (tgt := 20) S dX6_takes_13 (by decide) (bN_31 _) (fun c_13 => ?_) (fun c_13 => ?_)
  · skip
    have c_13 := of_decide_eq_false (bN_eq0 c_13)
    refine lv_iconst (v := nI 0) hx hb dX6_takes_20 (by decide +kernel) ?_
    refine zi_add S dX6_takes_21 ?_
    refine z_put S K hP hD hS (ty0 := tyX6) hX6_takes_X6 tyX6_ok nmX6 0 rfl rfl 15 (by decide) kX6_takes_1 rfl rfl rfl rfl (Nat.le_of_ble_eq_true rfl) dX6_takes_22 (fun H locs hP hD hS => ?_)
    have hP : va_P (gD G) vwCl [(e0, .inr (6, [.ref ea, .ref ek, .ref eh, .int hq, .ref es, .ref ei, .ref el, .ref ew, .ref et, .ref er, .int lf, .int md, .ref ed, .ref ep, .int (nI pn), .int (nI (sp + 0)), .ref ex, .ref eu, .int rm, .int la])), (ep, .inl (gI G, 80, .inl (nA mt)))] H := hP
    have hD : va_D A [(e0, .inr (6, [.ref ea, .ref ek, .ref eh, .int hq, .ref es, .ref ei, .ref el, .ref ew, .ref et, .ref er, .int lf, .int md, .ref ed, .ref ep, .int (nI pn), .int (nI (sp + 0)), .ref ex, .ref eu, .int rm, .int la])), (ep, .inl (gI G, 80, .inl (nA mt)))] := hD
    refine lv_iload_n hx hb dX6_takes_25 rfl (lv_at hl 0 rfl) ?_
    refine z_top (y := nI (bN (decide (sp < pn ∧ mt sp = a)))) (congrArg (fun q => nI (bN q)) (decide_eq_decide.mpr ⟨fun q => by omega, fun q => by omega⟩)) ?_
    exact z_zret S hrt hlk hP hD hS (sp + 0) rfl ⟨rfl, ⟨fun q => by omega, fun q => by omega⟩⟩ (z_bnar _) dX6_takes_26
  · skip
    have c_13 := of_decide_eq_true (bN_ne0 c_13)
    refine lv_iconst (v := nI 1) hx hb dX6_takes_16 (by decide +kernel) ?_
    refine lv_goto (tgt := 21) hx hb dX6_takes_17 (by decide) ?_
    refine zi_add S dX6_takes_21 ?_
    refine z_put S K hP hD hS (ty0 := tyX6) hX6_takes_X6 tyX6_ok nmX6 0 rfl rfl 15 (by decide) kX6_takes_1 rfl rfl rfl rfl (Nat.le_of_ble_eq_true rfl) dX6_takes_22 (fun H locs hP hD hS => ?_)
    have hP : va_P (gD G) vwCl [(e0, .inr (6, [.ref ea, .ref ek, .ref eh, .int hq, .ref es, .ref ei, .ref el, .ref ew, .ref et, .ref er, .int lf, .int md, .ref ed, .ref ep, .int (nI pn), .int (nI (sp + 1)), .ref ex, .ref eu, .int rm, .int la])), (ep, .inl (gI G, 80, .inl (nA mt)))] H := hP
    have hD : va_D A [(e0, .inr (6, [.ref ea, .ref ek, .ref eh, .int hq, .ref es, .ref ei, .ref el, .ref ew, .ref et, .ref er, .int lf, .int md, .ref ed, .ref ep, .int (nI pn), .int (nI (sp + 1)), .ref ex, .ref eu, .int rm, .int la])), (ep, .inl (gI G, 80, .inl (nA mt)))] := hD
    refine lv_iload_n hx hb dX6_takes_25 rfl (lv_at hl 0 rfl) ?_
    refine z_top (y := nI (bN (decide (sp < pn ∧ mt sp = a)))) (congrArg (fun q => nI (bN q)) (decide_eq_decide.mpr ⟨fun q => by omega, fun q => by omega⟩)) ?_
    exact z_zret S hrt hlk hP hD hS (sp + 1) rfl ⟨rfl, ⟨fun q => by omega, fun q => by omega⟩⟩ (z_bnar _) dX6_takes_26
set_option maxHeartbeats 4000000 in
set_option maxRecDepth 100000 in
theorem c_X6_readsChoice (l : Launch) (G : gT) (e0 ea ek eh es ei el ew et er ed ep ex eu : Nat) (hq : Int32) (lf : Int32) (md : Int32) (rm : Int32) (mt : Nat → Nat) (f0 : Nat → Nat) (g0 : Nat → Nat) (pn : Nat) (sp : Nat) (k : Nat) (h : Nat) (set : Nat) (y : Nat × (Nat → Nat) × (Nat → Nat)) (hpn : pn ≤ 80) (hch : ∀ j, j < pn → mt j < 127) (hsp : sp ≤ pn) (hR : runP f0 g0 mt sp = some (0, k, h, set, y)) : CI l yX6_readsChoice wsX6_readsChoice ({ frames := 2, cells := 0, slots := 0, locals := 47 } : Room) G [.ref e0] [(e0, .inr (6, [.ref ea, .ref ek, .ref eh, .int hq, .ref es, .ref ei, .ref el, .ref ew, .ref et, .ref er, .int lf, .int md, .ref ed, .ref ep, .int (nI pn), .int (nI sp), .ref ex, .ref eu, .int rm, .int (dn k)])), (ep, .inl (gI G, 80, .inl (nA mt)))] 0 0 (fun (r : Int32) (u : Bool × Nat × Int32) => r = nI (bN u.1) ∧ u.2.1 ≤ pn ∧ (u.1 = false → FA f0 g0 mt pn u.2.1 y) ∧ (u.1 = true → ∃ h2, u.2.2 = nI h2 ∧ h2 ≤ 11 ∧ k ≤ h2 ∧ runP f0 g0 mt u.2.1 = some (1, k, h2, set, y) ∧ (u.2.1 < pn → ¬ (h2 = 1 ∧ (mt u.2.1 = 48 ∨ mt u.2.1 = 49))) ∧ sp < u.2.1)) (fun (u : Bool × Nat × Int32) => [(e0, .inr (6, [.ref ea, .ref ek, .ref eh, .int hq, .ref es, .ref ei, .ref el, .ref ew, .ref et, .ref er, .int lf, .int md, .ref ed, .ref ep, .int (nI pn), .int (nI u.2.1), .ref ex, .ref eu, .int rm, .int u.2.2])), (ep, .inl (gI G, 80, .inl (nA mt)))]) := by
  refine CI.of (cc := cX6_readsChoice) (maxL := 4) (ret := (some .boolean)) (by decide +kernel) rfl (Nat.le_of_ble_eq_true rfl) rfl (fun p e s m args below meth c A S hrt hlk hnm K hA hP hD hS ls hl => ?_)
  have hx := S.1
  have hb := S.2.1
  have hl : lv_has ls 4 [(0, .ref e0)] := hl
  have hk12 : k ≤ 12 := (pinv_run hR).2.1
  refine lv_aload_n hx hb dX6_readsChoice_0 rfl (lv_at hl 0 rfl) ?_
  refine lv_bipush (v := nI 48) hx hb dX6_readsChoice_1 (by decide +kernel) ?_
  refine lv_bipush (v := nI 57) hx hb dX6_readsChoice_3 (by decide +kernel) ?_
  refine zcVi (rest := []) S K hP hD hS hA hl.1 (c_X6_isHere l G e0 ea ek eh es ei el ew et er ed ep ex eu hq lf md rm (dn k) mt pn sp 48 57 (by first | assumption | omega) (by first | assumption | omega) (by first | assumption | omega) (by first | assumption | omega) (by first | assumption | omega)) rfl rfl gX6_readsChoice_X6_isHere rfl eX6_isHere [0, 1] (by decide +kernel) rfl (fun _ => rfl) 6 0 rfl rfl rfl rfl rfl (Nat.le_of_ble_eq_true rfl) (Nat.le_of_ble_eq_true rfl) (Nat.le_of_ble_eq_true rfl) ⟨Nat.zero_le _, Nat.zero_le _⟩ dX6_readsChoice_5 (fun r_5 u_5 H locs hw_5 hP hD hS => ?_)
  obtain ⟨hP, hD⟩ := mx_ok [some 0, some 1] (by decide +kernel) rfl rfl hP hD
  replace hw_5 : r_5 = nI (bN (decide (sp < pn ∧ 48 ≤ mt sp ∧ mt sp ≤ 57))) := hw_5
  obtain rfl := hw_5
  have hP : va_P (gD G) vwCl [(e0, .inr (6, [.ref ea, .ref ek, .ref eh, .int hq, .ref es, .ref ei, .ref el, .ref ew, .ref et, .ref er, .int lf, .int md, .ref ed, .ref ep, .int (nI pn), .int (nI sp), .ref ex, .ref eu, .int rm, .int (dn k)])), (ep, .inl (gI G, 80, .inl (nA mt)))] H := hP
  have hD : va_D A [(e0, .inr (6, [.ref ea, .ref ek, .ref eh, .int hq, .ref es, .ref ei, .ref el, .ref ew, .ref et, .ref er, .int lf, .int md, .ref ed, .ref ep, .int (nI pn), .int (nI sp), .ref ex, .ref eu, .int rm, .int (dn k)])), (ep, .inl (gI G, 80, .inl (nA mt)))] := hD
  refine zf_ne (tgt := 13) S dX6_readsChoice_8 (by decide) (bN_31 _) (fun c_8 => ?_) (fun c_8 => ?_)
  · skip
    have c_8 := of_decide_eq_true (bN_ne0 c_8)
    have hcs := hch sp (by omega)
    refine lv_aload_n hx hb dX6_readsChoice_13 rfl (lv_at hl 0 rfl) ?_
    refine z_get S K hP hX6_readsChoice_X6 0 rfl rfl 13 (by decide) kX6_readsChoice_1 rfl rfl dX6_readsChoice_14 ?_
    refine lv_aload_n hx hb dX6_readsChoice_17 rfl (lv_at hl 0 rfl) ?_
    refine z_get S K hP hX6_readsChoice_X6 0 rfl rfl 15 (by decide) kX6_readsChoice_2 rfl rfl dX6_readsChoice_18 ?_
    refine z_iald S K hP 1 rfl (by omega) (by decide) dX6_readsChoice_21 ?_
    refine lv_bipush (v := nI 48) hx hb dX6_readsChoice_22 (by decide +kernel) ?_
    refine zi_sub S dX6_readsChoice_24 (by omega) ?_
    refine lv_istore_n (lv' := [(1, .int (nI ((mt sp) - 48))), (0, .ref e0)]) hx hb dX6_readsChoice_25 rfl hl (by decide) rfl (fun ls hl => ?_)
    refine lv_iload_n hx hb dX6_readsChoice_26 rfl (lv_at hl 0 rfl) ?_
    refine lv_iconst (v := nI 1) hx hb dX6_readsChoice_27 (by decide +kernel) ?_
    refine zb_ne (tgt := 44) S dX6_readsChoice_28 (by decide) (by omega) (by decide) (fun c_28 => ?_) (fun c_28 => ?_)
    · skip
      refine lv_iconst (v := nI 0) hx hb dX6_readsChoice_44 (by decide +kernel) ?_
      refine lv_istore_n (lv' := [(2, .int (nI 0)), (1, .int (nI ((mt sp) - 48))), (0, .ref e0)]) hx hb dX6_readsChoice_45 rfl hl (by decide) rfl (fun ls hl => ?_)
      refine lv_iload_n hx hb dX6_readsChoice_46 rfl (lv_at hl 1 rfl) ?_
      refine lv_aload_n hx hb dX6_readsChoice_47 rfl (lv_at hl 2 rfl) ?_
      refine z_get S K hP hX6_readsChoice_X6 0 rfl rfl 19 (by decide) kX6_readsChoice_3 rfl rfl dX6_readsChoice_48 ?_
      refine zr_gt (tgt := 60) S dX6_readsChoice_51 (by decide) (z_toInt (by omega)) (dn_toInt (by omega)) (fun c_51 => ?_) (fun c_51 => ?_)
      · skip
        refine lv_aload_n hx hb dX6_readsChoice_60 rfl (lv_at hl 2 rfl) ?_
        refine lv_dup hx hb dX6_readsChoice_61 rfl ?_
        have hR1 := ch0_t hR (by omega) (show k ≤ topc (mt sp - 48) by by_cases q1 : mt sp - 48 = 1; exact tpc_1 q1 (by omega); exact tpc_2 q1 (by omega))
        refine z_get S K hP hX6_readsChoice_X6 0 rfl rfl 15 (by decide) kX6_readsChoice_2 rfl rfl dX6_readsChoice_62 ?_
        refine lv_iconst (v := nI 1) hx hb dX6_readsChoice_65 (by decide +kernel) ?_
        refine zi_add S dX6_readsChoice_66 ?_
        refine z_put S K hP hD hS (ty0 := tyX6) hX6_readsChoice_X6 tyX6_ok nmX6 0 rfl rfl 15 (by decide) kX6_readsChoice_2 rfl rfl rfl rfl (Nat.le_of_ble_eq_true rfl) dX6_readsChoice_67 (fun H locs hP hD hS => ?_)
        have hP : va_P (gD G) vwCl [(e0, .inr (6, [.ref ea, .ref ek, .ref eh, .int hq, .ref es, .ref ei, .ref el, .ref ew, .ref et, .ref er, .int lf, .int md, .ref ed, .ref ep, .int (nI pn), .int (nI (sp + 1)), .ref ex, .ref eu, .int rm, .int (dn k)])), (ep, .inl (gI G, 80, .inl (nA mt)))] H := hP
        have hD : va_D A [(e0, .inr (6, [.ref ea, .ref ek, .ref eh, .int hq, .ref es, .ref ei, .ref el, .ref ew, .ref et, .ref er, .int lf, .int md, .ref ed, .ref ep, .int (nI pn), .int (nI (sp + 1)), .ref ex, .ref eu, .int rm, .int (dn k)])), (ep, .inl (gI G, 80, .inl (nA mt)))] := hD
        refine lv_iload_n hx hb dX6_readsChoice_70 rfl (lv_at hl 0 rfl) ?_
        refine zf_eq (tgt := 138) S dX6_readsChoice_71 (by decide) (by decide) (fun c_71 => ?_) (fun c_71 => ?_)
        · skip
          refine lv_iload_n hx hb dX6_readsChoice_138 rfl (lv_at hl 1 rfl) ?_
          refine lv_aload_n hx hb dX6_readsChoice_139 rfl (lv_at hl 2 rfl) ?_
          refine z_get S K hP hX6_readsChoice_X6 0 rfl rfl 19 (by decide) kX6_readsChoice_3 rfl rfl dX6_readsChoice_140 ?_
          refine zr_le (tgt := 150) S dX6_readsChoice_143 (by decide) (z_toInt (by omega)) (dn_toInt (by omega)) (fun c_143 => ?_) (fun c_143 => ?_)
          · skip
            refine lv_iconst (v := nI 0) hx hb dX6_readsChoice_150 (by decide +kernel) ?_
            refine lv_istore_n (lv' := [(3, .int (nI 0)), (2, .int (nI 0)), (1, .int (nI ((mt sp) - 48))), (0, .ref e0)]) hx hb dX6_readsChoice_151 rfl hl (by decide) rfl (fun ls hl => ?_)
            refine lv_aload_n hx hb dX6_readsChoice_152 rfl (lv_at hl 3 rfl) ?_
            refine lv_iload_n hx hb dX6_readsChoice_153 rfl (lv_at hl 2 rfl) ?_
            refine z_put S K hP hD hS (ty0 := tyX6) hX6_readsChoice_X6 tyX6_ok nmX6 0 rfl rfl 19 (by decide) kX6_readsChoice_3 rfl rfl rfl rfl (Nat.le_of_ble_eq_true rfl) dX6_readsChoice_154 (fun H locs hP hD hS => ?_)
            have hP : va_P (gD G) vwCl [(e0, .inr (6, [.ref ea, .ref ek, .ref eh, .int hq, .ref es, .ref ei, .ref el, .ref ew, .ref et, .ref er, .int lf, .int md, .ref ed, .ref ep, .int (nI pn), .int (nI (sp + 1)), .ref ex, .ref eu, .int rm, .int (nI ((mt sp) - 48))])), (ep, .inl (gI G, 80, .inl (nA mt)))] H := hP
            have hD : va_D A [(e0, .inr (6, [.ref ea, .ref ek, .ref eh, .int hq, .ref es, .ref ei, .ref el, .ref ew, .ref et, .ref er, .int lf, .int md, .ref ed, .ref ep, .int (nI pn), .int (nI (sp + 1)), .ref ex, .ref eu, .int rm, .int (nI ((mt sp) - 48))])), (ep, .inl (gI G, 80, .inl (nA mt)))] := hD
            refine lv_iload_n hx hb dX6_readsChoice_157 rfl (lv_at hl 0 rfl) ?_
            exact z_zret S hrt hlk hP hD hS (false, sp + 1, nI ((mt sp) - 48)) rfl ⟨rfl, (show (sp + 1) ≤ pn ∧ (false = false → FA f0 g0 mt pn (sp + 1) y) ∧ (false = true → ∃ h2, (nI ((mt sp) - 48)) = nI h2 ∧ h2 ≤ 11 ∧ k ≤ h2 ∧ runP f0 g0 mt (sp + 1) = some (1, k, h2, set, y) ∧ ((sp + 1) < pn → ¬ (h2 = 1 ∧ (mt (sp + 1) = 48 ∨ mt (sp + 1) = 49))) ∧ sp < (sp + 1)) from ⟨by omega, fun _ => (by first | exact ch0_f hR hsp (fun _ => by omega) | exact ch0_f hR hsp (fun _ q => by have := tpc_n q.2.2; omega) | exact ch1_f1 hR1 (by omega) (by omega) (by omega) (by omega) | exact ch1_f2 hR1 (by omega) (fun _ => by omega) (fun _ => by omega)), (fun q => by cases q)⟩)⟩ (z_bnar false) dX6_readsChoice_158
          · skip
            refine lv_iconst (v := nI 1) hx hb dX6_readsChoice_146 (by decide +kernel) ?_
            refine lv_goto (tgt := 151) hx hb dX6_readsChoice_147 (by decide) ?_
            refine lv_istore_n (lv' := [(3, .int (nI 1)), (2, .int (nI 0)), (1, .int (nI ((mt sp) - 48))), (0, .ref e0)]) hx hb dX6_readsChoice_151 rfl hl (by decide) rfl (fun ls hl => ?_)
            refine lv_aload_n hx hb dX6_readsChoice_152 rfl (lv_at hl 3 rfl) ?_
            refine lv_iload_n hx hb dX6_readsChoice_153 rfl (lv_at hl 2 rfl) ?_
            refine z_put S K hP hD hS (ty0 := tyX6) hX6_readsChoice_X6 tyX6_ok nmX6 0 rfl rfl 19 (by decide) kX6_readsChoice_3 rfl rfl rfl rfl (Nat.le_of_ble_eq_true rfl) dX6_readsChoice_154 (fun H locs hP hD hS => ?_)
            have hP : va_P (gD G) vwCl [(e0, .inr (6, [.ref ea, .ref ek, .ref eh, .int hq, .ref es, .ref ei, .ref el, .ref ew, .ref et, .ref er, .int lf, .int md, .ref ed, .ref ep, .int (nI pn), .int (nI (sp + 1)), .ref ex, .ref eu, .int rm, .int (nI ((mt sp) - 48))])), (ep, .inl (gI G, 80, .inl (nA mt)))] H := hP
            have hD : va_D A [(e0, .inr (6, [.ref ea, .ref ek, .ref eh, .int hq, .ref es, .ref ei, .ref el, .ref ew, .ref et, .ref er, .int lf, .int md, .ref ed, .ref ep, .int (nI pn), .int (nI (sp + 1)), .ref ex, .ref eu, .int rm, .int (nI ((mt sp) - 48))])), (ep, .inl (gI G, 80, .inl (nA mt)))] := hD
            refine lv_iload_n hx hb dX6_readsChoice_157 rfl (lv_at hl 0 rfl) ?_
            exact z_zret S hrt hlk hP hD hS (true, sp + 1, nI ((mt sp) - 48)) rfl ⟨rfl, (show (sp + 1) ≤ pn ∧ (true = false → FA f0 g0 mt pn (sp + 1) y) ∧ (true = true → ∃ h2, (nI ((mt sp) - 48)) = nI h2 ∧ h2 ≤ 11 ∧ k ≤ h2 ∧ runP f0 g0 mt (sp + 1) = some (1, k, h2, set, y) ∧ ((sp + 1) < pn → ¬ (h2 = 1 ∧ (mt (sp + 1) = 48 ∨ mt (sp + 1) = 49))) ∧ sp < (sp + 1)) from ⟨by omega, (fun q => by cases q), fun _ => (by first | exact ⟨_, rfl, by omega, by omega, ch1_t hR1 (by omega) (by omega) (by omega), by omega, by omega⟩ | exact ⟨_, rfl, by omega, by omega, hR1, by omega, by omega⟩)⟩)⟩ (z_bnar true) dX6_readsChoice_158
        · skip
          exact (by exfalso; omega)
      · skip
        refine lv_iload_n hx hb dX6_readsChoice_54 rfl (lv_at hl 0 rfl) ?_
        refine zf_ne (tgt := 60) S dX6_readsChoice_55 (by decide) (by decide) (fun c_55 => ?_) (fun c_55 => ?_)
        · skip
          exact (by exfalso; omega)
        · skip
          refine lv_iconst (v := nI 0) hx hb dX6_readsChoice_58 (by decide +kernel) ?_
          exact z_zret S hrt hlk hP hD hS (false, sp, dn k) rfl ⟨rfl, (show sp ≤ pn ∧ (false = false → FA f0 g0 mt pn sp y) ∧ (false = true → ∃ h2, (dn k) = nI h2 ∧ h2 ≤ 11 ∧ k ≤ h2 ∧ runP f0 g0 mt sp = some (1, k, h2, set, y) ∧ (sp < pn → ¬ (h2 = 1 ∧ (mt sp = 48 ∨ mt sp = 49))) ∧ sp < sp) from ⟨by omega, fun _ => (by first | exact ch0_f hR hsp (fun _ => by omega) | exact ch0_f hR hsp (fun _ q => by have := tpc_n q.2.2; omega) | exact ch1_f1 hR1 (by omega) (by omega) (by omega) (by omega) | exact ch1_f2 hR1 (by omega) (fun _ => by omega) (fun _ => by omega)), (fun q => by cases q)⟩)⟩ (z_bnar false) dX6_readsChoice_59
    · skip
      refine lv_aload_n hx hb dX6_readsChoice_31 rfl (lv_at hl 1 rfl) ?_
      refine z_get S K hP hX6_readsChoice_X6 0 rfl rfl 19 (by decide) kX6_readsChoice_3 rfl rfl dX6_readsChoice_32 ?_
      refine lv_bipush (v := nI 11) hx hb dX6_readsChoice_35 (by decide +kernel) ?_
      refine zr_ge (tgt := 44) S dX6_readsChoice_37 (by decide) (dn_toInt (by omega)) (z_toInt (by decide)) (fun c_37 => ?_) (fun c_37 => ?_)
      · skip
        refine lv_iconst (v := nI 0) hx hb dX6_readsChoice_44 (by decide +kernel) ?_
        refine lv_istore_n (lv' := [(2, .int (nI 0)), (1, .int (nI ((mt sp) - 48))), (0, .ref e0)]) hx hb dX6_readsChoice_45 rfl hl (by decide) rfl (fun ls hl => ?_)
        refine lv_iload_n hx hb dX6_readsChoice_46 rfl (lv_at hl 1 rfl) ?_
        refine lv_aload_n hx hb dX6_readsChoice_47 rfl (lv_at hl 2 rfl) ?_
        refine z_get S K hP hX6_readsChoice_X6 0 rfl rfl 19 (by decide) kX6_readsChoice_3 rfl rfl dX6_readsChoice_48 ?_
        refine zr_gt (tgt := 60) S dX6_readsChoice_51 (by decide) (z_toInt (by omega)) (dn_toInt (by omega)) (fun c_51 => ?_) (fun c_51 => ?_)
        · skip
          refine lv_aload_n hx hb dX6_readsChoice_60 rfl (lv_at hl 2 rfl) ?_
          refine lv_dup hx hb dX6_readsChoice_61 rfl ?_
          have hR1 := ch0_t hR (by omega) (show k ≤ topc (mt sp - 48) by by_cases q1 : mt sp - 48 = 1; exact tpc_1 q1 (by omega); exact tpc_2 q1 (by omega))
          refine z_get S K hP hX6_readsChoice_X6 0 rfl rfl 15 (by decide) kX6_readsChoice_2 rfl rfl dX6_readsChoice_62 ?_
          refine lv_iconst (v := nI 1) hx hb dX6_readsChoice_65 (by decide +kernel) ?_
          refine zi_add S dX6_readsChoice_66 ?_
          refine z_put S K hP hD hS (ty0 := tyX6) hX6_readsChoice_X6 tyX6_ok nmX6 0 rfl rfl 15 (by decide) kX6_readsChoice_2 rfl rfl rfl rfl (Nat.le_of_ble_eq_true rfl) dX6_readsChoice_67 (fun H locs hP hD hS => ?_)
          have hP : va_P (gD G) vwCl [(e0, .inr (6, [.ref ea, .ref ek, .ref eh, .int hq, .ref es, .ref ei, .ref el, .ref ew, .ref et, .ref er, .int lf, .int md, .ref ed, .ref ep, .int (nI pn), .int (nI (sp + 1)), .ref ex, .ref eu, .int rm, .int (dn k)])), (ep, .inl (gI G, 80, .inl (nA mt)))] H := hP
          have hD : va_D A [(e0, .inr (6, [.ref ea, .ref ek, .ref eh, .int hq, .ref es, .ref ei, .ref el, .ref ew, .ref et, .ref er, .int lf, .int md, .ref ed, .ref ep, .int (nI pn), .int (nI (sp + 1)), .ref ex, .ref eu, .int rm, .int (dn k)])), (ep, .inl (gI G, 80, .inl (nA mt)))] := hD
          refine lv_iload_n hx hb dX6_readsChoice_70 rfl (lv_at hl 0 rfl) ?_
          refine zf_eq (tgt := 138) S dX6_readsChoice_71 (by decide) (by decide) (fun c_71 => ?_) (fun c_71 => ?_)
          · skip
            refine lv_iload_n hx hb dX6_readsChoice_138 rfl (lv_at hl 1 rfl) ?_
            refine lv_aload_n hx hb dX6_readsChoice_139 rfl (lv_at hl 2 rfl) ?_
            refine z_get S K hP hX6_readsChoice_X6 0 rfl rfl 19 (by decide) kX6_readsChoice_3 rfl rfl dX6_readsChoice_140 ?_
            refine zr_le (tgt := 150) S dX6_readsChoice_143 (by decide) (z_toInt (by omega)) (dn_toInt (by omega)) (fun c_143 => ?_) (fun c_143 => ?_)
            · skip
              refine lv_iconst (v := nI 0) hx hb dX6_readsChoice_150 (by decide +kernel) ?_
              refine lv_istore_n (lv' := [(3, .int (nI 0)), (2, .int (nI 0)), (1, .int (nI ((mt sp) - 48))), (0, .ref e0)]) hx hb dX6_readsChoice_151 rfl hl (by decide) rfl (fun ls hl => ?_)
              refine lv_aload_n hx hb dX6_readsChoice_152 rfl (lv_at hl 3 rfl) ?_
              refine lv_iload_n hx hb dX6_readsChoice_153 rfl (lv_at hl 2 rfl) ?_
              refine z_put S K hP hD hS (ty0 := tyX6) hX6_readsChoice_X6 tyX6_ok nmX6 0 rfl rfl 19 (by decide) kX6_readsChoice_3 rfl rfl rfl rfl (Nat.le_of_ble_eq_true rfl) dX6_readsChoice_154 (fun H locs hP hD hS => ?_)
              have hP : va_P (gD G) vwCl [(e0, .inr (6, [.ref ea, .ref ek, .ref eh, .int hq, .ref es, .ref ei, .ref el, .ref ew, .ref et, .ref er, .int lf, .int md, .ref ed, .ref ep, .int (nI pn), .int (nI (sp + 1)), .ref ex, .ref eu, .int rm, .int (nI ((mt sp) - 48))])), (ep, .inl (gI G, 80, .inl (nA mt)))] H := hP
              have hD : va_D A [(e0, .inr (6, [.ref ea, .ref ek, .ref eh, .int hq, .ref es, .ref ei, .ref el, .ref ew, .ref et, .ref er, .int lf, .int md, .ref ed, .ref ep, .int (nI pn), .int (nI (sp + 1)), .ref ex, .ref eu, .int rm, .int (nI ((mt sp) - 48))])), (ep, .inl (gI G, 80, .inl (nA mt)))] := hD
              refine lv_iload_n hx hb dX6_readsChoice_157 rfl (lv_at hl 0 rfl) ?_
              exact z_zret S hrt hlk hP hD hS (false, sp + 1, nI ((mt sp) - 48)) rfl ⟨rfl, (show (sp + 1) ≤ pn ∧ (false = false → FA f0 g0 mt pn (sp + 1) y) ∧ (false = true → ∃ h2, (nI ((mt sp) - 48)) = nI h2 ∧ h2 ≤ 11 ∧ k ≤ h2 ∧ runP f0 g0 mt (sp + 1) = some (1, k, h2, set, y) ∧ ((sp + 1) < pn → ¬ (h2 = 1 ∧ (mt (sp + 1) = 48 ∨ mt (sp + 1) = 49))) ∧ sp < (sp + 1)) from ⟨by omega, fun _ => (by first | exact ch0_f hR hsp (fun _ => by omega) | exact ch0_f hR hsp (fun _ q => by have := tpc_n q.2.2; omega) | exact ch1_f1 hR1 (by omega) (by omega) (by omega) (by omega) | exact ch1_f2 hR1 (by omega) (fun _ => by omega) (fun _ => by omega)), (fun q => by cases q)⟩)⟩ (z_bnar false) dX6_readsChoice_158
            · skip
              refine lv_iconst (v := nI 1) hx hb dX6_readsChoice_146 (by decide +kernel) ?_
              refine lv_goto (tgt := 151) hx hb dX6_readsChoice_147 (by decide) ?_
              refine lv_istore_n (lv' := [(3, .int (nI 1)), (2, .int (nI 0)), (1, .int (nI ((mt sp) - 48))), (0, .ref e0)]) hx hb dX6_readsChoice_151 rfl hl (by decide) rfl (fun ls hl => ?_)
              refine lv_aload_n hx hb dX6_readsChoice_152 rfl (lv_at hl 3 rfl) ?_
              refine lv_iload_n hx hb dX6_readsChoice_153 rfl (lv_at hl 2 rfl) ?_
              refine z_put S K hP hD hS (ty0 := tyX6) hX6_readsChoice_X6 tyX6_ok nmX6 0 rfl rfl 19 (by decide) kX6_readsChoice_3 rfl rfl rfl rfl (Nat.le_of_ble_eq_true rfl) dX6_readsChoice_154 (fun H locs hP hD hS => ?_)
              have hP : va_P (gD G) vwCl [(e0, .inr (6, [.ref ea, .ref ek, .ref eh, .int hq, .ref es, .ref ei, .ref el, .ref ew, .ref et, .ref er, .int lf, .int md, .ref ed, .ref ep, .int (nI pn), .int (nI (sp + 1)), .ref ex, .ref eu, .int rm, .int (nI ((mt sp) - 48))])), (ep, .inl (gI G, 80, .inl (nA mt)))] H := hP
              have hD : va_D A [(e0, .inr (6, [.ref ea, .ref ek, .ref eh, .int hq, .ref es, .ref ei, .ref el, .ref ew, .ref et, .ref er, .int lf, .int md, .ref ed, .ref ep, .int (nI pn), .int (nI (sp + 1)), .ref ex, .ref eu, .int rm, .int (nI ((mt sp) - 48))])), (ep, .inl (gI G, 80, .inl (nA mt)))] := hD
              refine lv_iload_n hx hb dX6_readsChoice_157 rfl (lv_at hl 0 rfl) ?_
              exact z_zret S hrt hlk hP hD hS (true, sp + 1, nI ((mt sp) - 48)) rfl ⟨rfl, (show (sp + 1) ≤ pn ∧ (true = false → FA f0 g0 mt pn (sp + 1) y) ∧ (true = true → ∃ h2, (nI ((mt sp) - 48)) = nI h2 ∧ h2 ≤ 11 ∧ k ≤ h2 ∧ runP f0 g0 mt (sp + 1) = some (1, k, h2, set, y) ∧ ((sp + 1) < pn → ¬ (h2 = 1 ∧ (mt (sp + 1) = 48 ∨ mt (sp + 1) = 49))) ∧ sp < (sp + 1)) from ⟨by omega, (fun q => by cases q), fun _ => (by first | exact ⟨_, rfl, by omega, by omega, ch1_t hR1 (by omega) (by omega) (by omega), by omega, by omega⟩ | exact ⟨_, rfl, by omega, by omega, hR1, by omega, by omega⟩)⟩)⟩ (z_bnar true) dX6_readsChoice_158
          · skip
            exact (by exfalso; omega)
        · skip
          refine lv_iload_n hx hb dX6_readsChoice_54 rfl (lv_at hl 0 rfl) ?_
          refine zf_ne (tgt := 60) S dX6_readsChoice_55 (by decide) (by decide) (fun c_55 => ?_) (fun c_55 => ?_)
          · skip
            exact (by exfalso; omega)
          · skip
            refine lv_iconst (v := nI 0) hx hb dX6_readsChoice_58 (by decide +kernel) ?_
            exact z_zret S hrt hlk hP hD hS (false, sp, dn k) rfl ⟨rfl, (show sp ≤ pn ∧ (false = false → FA f0 g0 mt pn sp y) ∧ (false = true → ∃ h2, (dn k) = nI h2 ∧ h2 ≤ 11 ∧ k ≤ h2 ∧ runP f0 g0 mt sp = some (1, k, h2, set, y) ∧ (sp < pn → ¬ (h2 = 1 ∧ (mt sp = 48 ∨ mt sp = 49))) ∧ sp < sp) from ⟨by omega, fun _ => (by first | exact ch0_f hR hsp (fun _ => by omega) | exact ch0_f hR hsp (fun _ q => by have := tpc_n q.2.2; omega) | exact ch1_f1 hR1 (by omega) (by omega) (by omega) (by omega) | exact ch1_f2 hR1 (by omega) (fun _ => by omega) (fun _ => by omega)), (fun q => by cases q)⟩)⟩ (z_bnar false) dX6_readsChoice_59
      · skip
        refine lv_iconst (v := nI 1) hx hb dX6_readsChoice_40 (by decide +kernel) ?_
        refine lv_goto (tgt := 45) hx hb dX6_readsChoice_41 (by decide) ?_
        refine lv_istore_n (lv' := [(2, .int (nI 1)), (1, .int (nI ((mt sp) - 48))), (0, .ref e0)]) hx hb dX6_readsChoice_45 rfl hl (by decide) rfl (fun ls hl => ?_)
        refine lv_iload_n hx hb dX6_readsChoice_46 rfl (lv_at hl 1 rfl) ?_
        refine lv_aload_n hx hb dX6_readsChoice_47 rfl (lv_at hl 2 rfl) ?_
        refine z_get S K hP hX6_readsChoice_X6 0 rfl rfl 19 (by decide) kX6_readsChoice_3 rfl rfl dX6_readsChoice_48 ?_
        refine zr_gt (tgt := 60) S dX6_readsChoice_51 (by decide) (z_toInt (by omega)) (dn_toInt (by omega)) (fun c_51 => ?_) (fun c_51 => ?_)
        · skip
          refine lv_aload_n hx hb dX6_readsChoice_60 rfl (lv_at hl 2 rfl) ?_
          refine lv_dup hx hb dX6_readsChoice_61 rfl ?_
          have hR1 := ch0_t hR (by omega) (show k ≤ topc (mt sp - 48) by by_cases q1 : mt sp - 48 = 1; exact tpc_1 q1 (by omega); exact tpc_2 q1 (by omega))
          refine z_get S K hP hX6_readsChoice_X6 0 rfl rfl 15 (by decide) kX6_readsChoice_2 rfl rfl dX6_readsChoice_62 ?_
          refine lv_iconst (v := nI 1) hx hb dX6_readsChoice_65 (by decide +kernel) ?_
          refine zi_add S dX6_readsChoice_66 ?_
          refine z_put S K hP hD hS (ty0 := tyX6) hX6_readsChoice_X6 tyX6_ok nmX6 0 rfl rfl 15 (by decide) kX6_readsChoice_2 rfl rfl rfl rfl (Nat.le_of_ble_eq_true rfl) dX6_readsChoice_67 (fun H locs hP hD hS => ?_)
          have hP : va_P (gD G) vwCl [(e0, .inr (6, [.ref ea, .ref ek, .ref eh, .int hq, .ref es, .ref ei, .ref el, .ref ew, .ref et, .ref er, .int lf, .int md, .ref ed, .ref ep, .int (nI pn), .int (nI (sp + 1)), .ref ex, .ref eu, .int rm, .int (dn k)])), (ep, .inl (gI G, 80, .inl (nA mt)))] H := hP
          have hD : va_D A [(e0, .inr (6, [.ref ea, .ref ek, .ref eh, .int hq, .ref es, .ref ei, .ref el, .ref ew, .ref et, .ref er, .int lf, .int md, .ref ed, .ref ep, .int (nI pn), .int (nI (sp + 1)), .ref ex, .ref eu, .int rm, .int (dn k)])), (ep, .inl (gI G, 80, .inl (nA mt)))] := hD
          refine lv_iload_n hx hb dX6_readsChoice_70 rfl (lv_at hl 0 rfl) ?_
          refine zf_eq (tgt := 138) S dX6_readsChoice_71 (by decide) (by decide) (fun c_71 => ?_) (fun c_71 => ?_)
          · skip
            exact (by exfalso; omega)
          · skip
            refine lv_aload_n hx hb dX6_readsChoice_74 rfl (lv_at hl 2 rfl) ?_
            refine lv_bipush (v := nI 48) hx hb dX6_readsChoice_75 (by decide +kernel) ?_
            refine lv_bipush (v := nI 49) hx hb dX6_readsChoice_77 (by decide +kernel) ?_
            refine zcVi (rest := []) S K hP hD hS hA hl.1 (c_X6_isHere l G e0 ea ek eh es ei el ew et er ed ep ex eu hq lf md rm (dn k) mt pn (sp + 1) 48 49 (by first | assumption | omega) (by first | assumption | omega) (by first | assumption | omega) (by first | assumption | omega) (by first | assumption | omega)) rfl rfl gX6_readsChoice_X6_isHere rfl eX6_isHere [0, 1] (by decide +kernel) rfl (fun _ => rfl) 6 0 rfl rfl rfl rfl rfl (Nat.le_of_ble_eq_true rfl) (Nat.le_of_ble_eq_true rfl) (Nat.le_of_ble_eq_true rfl) ⟨Nat.zero_le _, Nat.zero_le _⟩ dX6_readsChoice_79 (fun r_79 u_79 H locs hw_79 hP hD hS => ?_)
            obtain ⟨hP, hD⟩ := mx_ok [some 0, some 1] (by decide +kernel) rfl rfl hP hD
            replace hw_79 : r_79 = nI (bN (decide ((sp + 1) < pn ∧ 48 ≤ mt (sp + 1) ∧ mt (sp + 1) ≤ 49))) := hw_79
            obtain rfl := hw_79
            have hP : va_P (gD G) vwCl [(e0, .inr (6, [.ref ea, .ref ek, .ref eh, .int hq, .ref es, .ref ei, .ref el, .ref ew, .ref et, .ref er, .int lf, .int md, .ref ed, .ref ep, .int (nI pn), .int (nI (sp + 1)), .ref ex, .ref eu, .int rm, .int (dn k)])), (ep, .inl (gI G, 80, .inl (nA mt)))] H := hP
            have hD : va_D A [(e0, .inr (6, [.ref ea, .ref ek, .ref eh, .int hq, .ref es, .ref ei, .ref el, .ref ew, .ref et, .ref er, .int lf, .int md, .ref ed, .ref ep, .int (nI pn), .int (nI (sp + 1)), .ref ex, .ref eu, .int rm, .int (dn k)])), (ep, .inl (gI G, 80, .inl (nA mt)))] := hD
            refine zf_eq (tgt := 138) S dX6_readsChoice_82 (by decide) (bN_31 _) (fun c_82 => ?_) (fun c_82 => ?_)
            · skip
              have c_82 := of_decide_eq_false (bN_eq0 c_82)
              refine lv_iload_n hx hb dX6_readsChoice_138 rfl (lv_at hl 1 rfl) ?_
              refine lv_aload_n hx hb dX6_readsChoice_139 rfl (lv_at hl 2 rfl) ?_
              refine z_get S K hP hX6_readsChoice_X6 0 rfl rfl 19 (by decide) kX6_readsChoice_3 rfl rfl dX6_readsChoice_140 ?_
              refine zr_le (tgt := 150) S dX6_readsChoice_143 (by decide) (z_toInt (by omega)) (dn_toInt (by omega)) (fun c_143 => ?_) (fun c_143 => ?_)
              · skip
                refine lv_iconst (v := nI 0) hx hb dX6_readsChoice_150 (by decide +kernel) ?_
                refine lv_istore_n (lv' := [(3, .int (nI 0)), (2, .int (nI 1)), (1, .int (nI ((mt sp) - 48))), (0, .ref e0)]) hx hb dX6_readsChoice_151 rfl hl (by decide) rfl (fun ls hl => ?_)
                refine lv_aload_n hx hb dX6_readsChoice_152 rfl (lv_at hl 3 rfl) ?_
                refine lv_iload_n hx hb dX6_readsChoice_153 rfl (lv_at hl 2 rfl) ?_
                refine z_put S K hP hD hS (ty0 := tyX6) hX6_readsChoice_X6 tyX6_ok nmX6 0 rfl rfl 19 (by decide) kX6_readsChoice_3 rfl rfl rfl rfl (Nat.le_of_ble_eq_true rfl) dX6_readsChoice_154 (fun H locs hP hD hS => ?_)
                have hP : va_P (gD G) vwCl [(e0, .inr (6, [.ref ea, .ref ek, .ref eh, .int hq, .ref es, .ref ei, .ref el, .ref ew, .ref et, .ref er, .int lf, .int md, .ref ed, .ref ep, .int (nI pn), .int (nI (sp + 1)), .ref ex, .ref eu, .int rm, .int (nI ((mt sp) - 48))])), (ep, .inl (gI G, 80, .inl (nA mt)))] H := hP
                have hD : va_D A [(e0, .inr (6, [.ref ea, .ref ek, .ref eh, .int hq, .ref es, .ref ei, .ref el, .ref ew, .ref et, .ref er, .int lf, .int md, .ref ed, .ref ep, .int (nI pn), .int (nI (sp + 1)), .ref ex, .ref eu, .int rm, .int (nI ((mt sp) - 48))])), (ep, .inl (gI G, 80, .inl (nA mt)))] := hD
                refine lv_iload_n hx hb dX6_readsChoice_157 rfl (lv_at hl 0 rfl) ?_
                exact z_zret S hrt hlk hP hD hS (false, sp + 1, nI ((mt sp) - 48)) rfl ⟨rfl, (show (sp + 1) ≤ pn ∧ (false = false → FA f0 g0 mt pn (sp + 1) y) ∧ (false = true → ∃ h2, (nI ((mt sp) - 48)) = nI h2 ∧ h2 ≤ 11 ∧ k ≤ h2 ∧ runP f0 g0 mt (sp + 1) = some (1, k, h2, set, y) ∧ ((sp + 1) < pn → ¬ (h2 = 1 ∧ (mt (sp + 1) = 48 ∨ mt (sp + 1) = 49))) ∧ sp < (sp + 1)) from ⟨by omega, fun _ => (by first | exact ch0_f hR hsp (fun _ => by omega) | exact ch0_f hR hsp (fun _ q => by have := tpc_n q.2.2; omega) | exact ch1_f1 hR1 (by omega) (by omega) (by omega) (by omega) | exact ch1_f2 hR1 (by omega) (fun _ => by omega) (fun _ => by omega)), (fun q => by cases q)⟩)⟩ (z_bnar false) dX6_readsChoice_158
              · skip
                refine lv_iconst (v := nI 1) hx hb dX6_readsChoice_146 (by decide +kernel) ?_
                refine lv_goto (tgt := 151) hx hb dX6_readsChoice_147 (by decide) ?_
                refine lv_istore_n (lv' := [(3, .int (nI 1)), (2, .int (nI 1)), (1, .int (nI ((mt sp) - 48))), (0, .ref e0)]) hx hb dX6_readsChoice_151 rfl hl (by decide) rfl (fun ls hl => ?_)
                refine lv_aload_n hx hb dX6_readsChoice_152 rfl (lv_at hl 3 rfl) ?_
                refine lv_iload_n hx hb dX6_readsChoice_153 rfl (lv_at hl 2 rfl) ?_
                refine z_put S K hP hD hS (ty0 := tyX6) hX6_readsChoice_X6 tyX6_ok nmX6 0 rfl rfl 19 (by decide) kX6_readsChoice_3 rfl rfl rfl rfl (Nat.le_of_ble_eq_true rfl) dX6_readsChoice_154 (fun H locs hP hD hS => ?_)
                have hP : va_P (gD G) vwCl [(e0, .inr (6, [.ref ea, .ref ek, .ref eh, .int hq, .ref es, .ref ei, .ref el, .ref ew, .ref et, .ref er, .int lf, .int md, .ref ed, .ref ep, .int (nI pn), .int (nI (sp + 1)), .ref ex, .ref eu, .int rm, .int (nI ((mt sp) - 48))])), (ep, .inl (gI G, 80, .inl (nA mt)))] H := hP
                have hD : va_D A [(e0, .inr (6, [.ref ea, .ref ek, .ref eh, .int hq, .ref es, .ref ei, .ref el, .ref ew, .ref et, .ref er, .int lf, .int md, .ref ed, .ref ep, .int (nI pn), .int (nI (sp + 1)), .ref ex, .ref eu, .int rm, .int (nI ((mt sp) - 48))])), (ep, .inl (gI G, 80, .inl (nA mt)))] := hD
                refine lv_iload_n hx hb dX6_readsChoice_157 rfl (lv_at hl 0 rfl) ?_
                exact z_zret S hrt hlk hP hD hS (true, sp + 1, nI ((mt sp) - 48)) rfl ⟨rfl, (show (sp + 1) ≤ pn ∧ (true = false → FA f0 g0 mt pn (sp + 1) y) ∧ (true = true → ∃ h2, (nI ((mt sp) - 48)) = nI h2 ∧ h2 ≤ 11 ∧ k ≤ h2 ∧ runP f0 g0 mt (sp + 1) = some (1, k, h2, set, y) ∧ ((sp + 1) < pn → ¬ (h2 = 1 ∧ (mt (sp + 1) = 48 ∨ mt (sp + 1) = 49))) ∧ sp < (sp + 1)) from ⟨by omega, (fun q => by cases q), fun _ => (by first | exact ⟨_, rfl, by omega, by omega, ch1_t hR1 (by omega) (by omega) (by omega), by omega, by omega⟩ | exact ⟨_, rfl, by omega, by omega, hR1, by omega, by omega⟩)⟩)⟩ (z_bnar true) dX6_readsChoice_158
            · skip
              have c_82 := of_decide_eq_true (bN_ne0 c_82)
              have hcs2 := hch (sp + 1) (by omega)
              refine lv_bipush (v := nI 10) hx hb dX6_readsChoice_85 (by decide +kernel) ?_
              refine lv_aload_n hx hb dX6_readsChoice_87 rfl (lv_at hl 2 rfl) ?_
              refine z_get S K hP hX6_readsChoice_X6 0 rfl rfl 13 (by decide) kX6_readsChoice_1 rfl rfl dX6_readsChoice_88 ?_
              refine lv_aload_n hx hb dX6_readsChoice_91 rfl (lv_at hl 2 rfl) ?_
              refine z_get S K hP hX6_readsChoice_X6 0 rfl rfl 15 (by decide) kX6_readsChoice_2 rfl rfl dX6_readsChoice_92 ?_
              refine z_iald S K hP 1 rfl (by omega) (by decide) dX6_readsChoice_95 ?_
              refine zi_add S dX6_readsChoice_96 ?_
              refine lv_bipush (v := nI 48) hx hb dX6_readsChoice_97 (by decide +kernel) ?_
              refine zi_sub S dX6_readsChoice_99 (by omega) ?_
              refine lv_aload_n hx hb dX6_readsChoice_100 rfl (lv_at hl 2 rfl) ?_
              refine z_get S K hP hX6_readsChoice_X6 0 rfl rfl 19 (by decide) kX6_readsChoice_3 rfl rfl dX6_readsChoice_101 ?_
              refine zr_le (tgt := 138) S dX6_readsChoice_104 (by decide) (z_toInt (by omega)) (dn_toInt (by omega)) (fun c_104 => ?_) (fun c_104 => ?_)
              · skip
                refine lv_iload_n hx hb dX6_readsChoice_138 rfl (lv_at hl 1 rfl) ?_
                refine lv_aload_n hx hb dX6_readsChoice_139 rfl (lv_at hl 2 rfl) ?_
                refine z_get S K hP hX6_readsChoice_X6 0 rfl rfl 19 (by decide) kX6_readsChoice_3 rfl rfl dX6_readsChoice_140 ?_
                refine zr_le (tgt := 150) S dX6_readsChoice_143 (by decide) (z_toInt (by omega)) (dn_toInt (by omega)) (fun c_143 => ?_) (fun c_143 => ?_)
                · skip
                  refine lv_iconst (v := nI 0) hx hb dX6_readsChoice_150 (by decide +kernel) ?_
                  refine lv_istore_n (lv' := [(3, .int (nI 0)), (2, .int (nI 1)), (1, .int (nI ((mt sp) - 48))), (0, .ref e0)]) hx hb dX6_readsChoice_151 rfl hl (by decide) rfl (fun ls hl => ?_)
                  refine lv_aload_n hx hb dX6_readsChoice_152 rfl (lv_at hl 3 rfl) ?_
                  refine lv_iload_n hx hb dX6_readsChoice_153 rfl (lv_at hl 2 rfl) ?_
                  refine z_put S K hP hD hS (ty0 := tyX6) hX6_readsChoice_X6 tyX6_ok nmX6 0 rfl rfl 19 (by decide) kX6_readsChoice_3 rfl rfl rfl rfl (Nat.le_of_ble_eq_true rfl) dX6_readsChoice_154 (fun H locs hP hD hS => ?_)
                  have hP : va_P (gD G) vwCl [(e0, .inr (6, [.ref ea, .ref ek, .ref eh, .int hq, .ref es, .ref ei, .ref el, .ref ew, .ref et, .ref er, .int lf, .int md, .ref ed, .ref ep, .int (nI pn), .int (nI (sp + 1)), .ref ex, .ref eu, .int rm, .int (nI ((mt sp) - 48))])), (ep, .inl (gI G, 80, .inl (nA mt)))] H := hP
                  have hD : va_D A [(e0, .inr (6, [.ref ea, .ref ek, .ref eh, .int hq, .ref es, .ref ei, .ref el, .ref ew, .ref et, .ref er, .int lf, .int md, .ref ed, .ref ep, .int (nI pn), .int (nI (sp + 1)), .ref ex, .ref eu, .int rm, .int (nI ((mt sp) - 48))])), (ep, .inl (gI G, 80, .inl (nA mt)))] := hD
                  refine lv_iload_n hx hb dX6_readsChoice_157 rfl (lv_at hl 0 rfl) ?_
                  exact z_zret S hrt hlk hP hD hS (false, sp + 1, nI ((mt sp) - 48)) rfl ⟨rfl, (show (sp + 1) ≤ pn ∧ (false = false → FA f0 g0 mt pn (sp + 1) y) ∧ (false = true → ∃ h2, (nI ((mt sp) - 48)) = nI h2 ∧ h2 ≤ 11 ∧ k ≤ h2 ∧ runP f0 g0 mt (sp + 1) = some (1, k, h2, set, y) ∧ ((sp + 1) < pn → ¬ (h2 = 1 ∧ (mt (sp + 1) = 48 ∨ mt (sp + 1) = 49))) ∧ sp < (sp + 1)) from ⟨by omega, fun _ => (by first | exact ch0_f hR hsp (fun _ => by omega) | exact ch0_f hR hsp (fun _ q => by have := tpc_n q.2.2; omega) | exact ch1_f1 hR1 (by omega) (by omega) (by omega) (by omega) | exact ch1_f2 hR1 (by omega) (fun _ => by omega) (fun _ => by omega)), (fun q => by cases q)⟩)⟩ (z_bnar false) dX6_readsChoice_158
                · skip
                  refine lv_iconst (v := nI 1) hx hb dX6_readsChoice_146 (by decide +kernel) ?_
                  refine lv_goto (tgt := 151) hx hb dX6_readsChoice_147 (by decide) ?_
                  refine lv_istore_n (lv' := [(3, .int (nI 1)), (2, .int (nI 1)), (1, .int (nI ((mt sp) - 48))), (0, .ref e0)]) hx hb dX6_readsChoice_151 rfl hl (by decide) rfl (fun ls hl => ?_)
                  refine lv_aload_n hx hb dX6_readsChoice_152 rfl (lv_at hl 3 rfl) ?_
                  refine lv_iload_n hx hb dX6_readsChoice_153 rfl (lv_at hl 2 rfl) ?_
                  refine z_put S K hP hD hS (ty0 := tyX6) hX6_readsChoice_X6 tyX6_ok nmX6 0 rfl rfl 19 (by decide) kX6_readsChoice_3 rfl rfl rfl rfl (Nat.le_of_ble_eq_true rfl) dX6_readsChoice_154 (fun H locs hP hD hS => ?_)
                  have hP : va_P (gD G) vwCl [(e0, .inr (6, [.ref ea, .ref ek, .ref eh, .int hq, .ref es, .ref ei, .ref el, .ref ew, .ref et, .ref er, .int lf, .int md, .ref ed, .ref ep, .int (nI pn), .int (nI (sp + 1)), .ref ex, .ref eu, .int rm, .int (nI ((mt sp) - 48))])), (ep, .inl (gI G, 80, .inl (nA mt)))] H := hP
                  have hD : va_D A [(e0, .inr (6, [.ref ea, .ref ek, .ref eh, .int hq, .ref es, .ref ei, .ref el, .ref ew, .ref et, .ref er, .int lf, .int md, .ref ed, .ref ep, .int (nI pn), .int (nI (sp + 1)), .ref ex, .ref eu, .int rm, .int (nI ((mt sp) - 48))])), (ep, .inl (gI G, 80, .inl (nA mt)))] := hD
                  refine lv_iload_n hx hb dX6_readsChoice_157 rfl (lv_at hl 0 rfl) ?_
                  exact z_zret S hrt hlk hP hD hS (true, sp + 1, nI ((mt sp) - 48)) rfl ⟨rfl, (show (sp + 1) ≤ pn ∧ (true = false → FA f0 g0 mt pn (sp + 1) y) ∧ (true = true → ∃ h2, (nI ((mt sp) - 48)) = nI h2 ∧ h2 ≤ 11 ∧ k ≤ h2 ∧ runP f0 g0 mt (sp + 1) = some (1, k, h2, set, y) ∧ ((sp + 1) < pn → ¬ (h2 = 1 ∧ (mt (sp + 1) = 48 ∨ mt (sp + 1) = 49))) ∧ sp < (sp + 1)) from ⟨by omega, (fun q => by cases q), fun _ => (by first | exact ⟨_, rfl, by omega, by omega, ch1_t hR1 (by omega) (by omega) (by omega), by omega, by omega⟩ | exact ⟨_, rfl, by omega, by omega, hR1, by omega, by omega⟩)⟩)⟩ (z_bnar true) dX6_readsChoice_158
              · skip
                refine lv_aload_n hx hb dX6_readsChoice_107 rfl (lv_at hl 2 rfl) ?_
                refine lv_bipush (v := nI 10) hx hb dX6_readsChoice_108 (by decide +kernel) ?_
                refine lv_aload_n hx hb dX6_readsChoice_110 rfl (lv_at hl 2 rfl) ?_
                refine z_get S K hP hX6_readsChoice_X6 0 rfl rfl 13 (by decide) kX6_readsChoice_1 rfl rfl dX6_readsChoice_111 ?_
                refine lv_aload_n hx hb dX6_readsChoice_114 rfl (lv_at hl 2 rfl) ?_
                refine z_get S K hP hX6_readsChoice_X6 0 rfl rfl 15 (by decide) kX6_readsChoice_2 rfl rfl dX6_readsChoice_115 ?_
                refine z_iald S K hP 1 rfl (by omega) (by decide) dX6_readsChoice_118 ?_
                refine zi_add S dX6_readsChoice_119 ?_
                refine lv_bipush (v := nI 48) hx hb dX6_readsChoice_120 (by decide +kernel) ?_
                refine zi_sub S dX6_readsChoice_122 (by omega) ?_
                refine z_put S K hP hD hS (ty0 := tyX6) hX6_readsChoice_X6 tyX6_ok nmX6 0 rfl rfl 19 (by decide) kX6_readsChoice_3 rfl rfl rfl rfl (Nat.le_of_ble_eq_true rfl) dX6_readsChoice_123 (fun H locs hP hD hS => ?_)
                have hP : va_P (gD G) vwCl [(e0, .inr (6, [.ref ea, .ref ek, .ref eh, .int hq, .ref es, .ref ei, .ref el, .ref ew, .ref et, .ref er, .int lf, .int md, .ref ed, .ref ep, .int (nI pn), .int (nI (sp + 1)), .ref ex, .ref eu, .int rm, .int (nI ((10 + (mt (sp + 1))) - 48))])), (ep, .inl (gI G, 80, .inl (nA mt)))] H := hP
                have hD : va_D A [(e0, .inr (6, [.ref ea, .ref ek, .ref eh, .int hq, .ref es, .ref ei, .ref el, .ref ew, .ref et, .ref er, .int lf, .int md, .ref ed, .ref ep, .int (nI pn), .int (nI (sp + 1)), .ref ex, .ref eu, .int rm, .int (nI ((10 + (mt (sp + 1))) - 48))])), (ep, .inl (gI G, 80, .inl (nA mt)))] := hD
                refine lv_aload_n hx hb dX6_readsChoice_126 rfl (lv_at hl 2 rfl) ?_
                refine lv_dup hx hb dX6_readsChoice_127 rfl ?_
                refine z_get S K hP hX6_readsChoice_X6 0 rfl rfl 15 (by decide) kX6_readsChoice_2 rfl rfl dX6_readsChoice_128 ?_
                refine lv_iconst (v := nI 1) hx hb dX6_readsChoice_131 (by decide +kernel) ?_
                refine zi_add S dX6_readsChoice_132 ?_
                refine z_put S K hP hD hS (ty0 := tyX6) hX6_readsChoice_X6 tyX6_ok nmX6 0 rfl rfl 15 (by decide) kX6_readsChoice_2 rfl rfl rfl rfl (Nat.le_of_ble_eq_true rfl) dX6_readsChoice_133 (fun H locs hP hD hS => ?_)
                have hP : va_P (gD G) vwCl [(e0, .inr (6, [.ref ea, .ref ek, .ref eh, .int hq, .ref es, .ref ei, .ref el, .ref ew, .ref et, .ref er, .int lf, .int md, .ref ed, .ref ep, .int (nI pn), .int (nI ((sp + 1) + 1)), .ref ex, .ref eu, .int rm, .int (nI ((10 + (mt (sp + 1))) - 48))])), (ep, .inl (gI G, 80, .inl (nA mt)))] H := hP
                have hD : va_D A [(e0, .inr (6, [.ref ea, .ref ek, .ref eh, .int hq, .ref es, .ref ei, .ref el, .ref ew, .ref et, .ref er, .int lf, .int md, .ref ed, .ref ep, .int (nI pn), .int (nI ((sp + 1) + 1)), .ref ex, .ref eu, .int rm, .int (nI ((10 + (mt (sp + 1))) - 48))])), (ep, .inl (gI G, 80, .inl (nA mt)))] := hD
                refine lv_iconst (v := nI 1) hx hb dX6_readsChoice_136 (by decide +kernel) ?_
                exact z_zret S hrt hlk hP hD hS (true, (sp + 1) + 1, nI ((10 + (mt (sp + 1))) - 48)) rfl ⟨rfl, (show ((sp + 1) + 1) ≤ pn ∧ (true = false → FA f0 g0 mt pn ((sp + 1) + 1) y) ∧ (true = true → ∃ h2, (nI ((10 + (mt (sp + 1))) - 48)) = nI h2 ∧ h2 ≤ 11 ∧ k ≤ h2 ∧ runP f0 g0 mt ((sp + 1) + 1) = some (1, k, h2, set, y) ∧ (((sp + 1) + 1) < pn → ¬ (h2 = 1 ∧ (mt ((sp + 1) + 1) = 48 ∨ mt ((sp + 1) + 1) = 49))) ∧ sp < ((sp + 1) + 1)) from ⟨by omega, (fun q => by cases q), fun _ => (by first | exact ⟨_, rfl, by omega, by omega, ch1_t hR1 (by omega) (by omega) (by omega), by omega, by omega⟩ | exact ⟨_, rfl, by omega, by omega, hR1, by omega, by omega⟩)⟩)⟩ (z_bnar true) dX6_readsChoice_137
        · skip
          refine lv_iload_n hx hb dX6_readsChoice_54 rfl (lv_at hl 0 rfl) ?_
          refine zf_ne (tgt := 60) S dX6_readsChoice_55 (by decide) (by decide) (fun c_55 => ?_) (fun c_55 => ?_)
          · skip
            refine lv_aload_n hx hb dX6_readsChoice_60 rfl (lv_at hl 2 rfl) ?_
            refine lv_dup hx hb dX6_readsChoice_61 rfl ?_
            have hR1 := ch0_t hR (by omega) (show k ≤ topc (mt sp - 48) by by_cases q1 : mt sp - 48 = 1; exact tpc_1 q1 (by omega); exact tpc_2 q1 (by omega))
            refine z_get S K hP hX6_readsChoice_X6 0 rfl rfl 15 (by decide) kX6_readsChoice_2 rfl rfl dX6_readsChoice_62 ?_
            refine lv_iconst (v := nI 1) hx hb dX6_readsChoice_65 (by decide +kernel) ?_
            refine zi_add S dX6_readsChoice_66 ?_
            refine z_put S K hP hD hS (ty0 := tyX6) hX6_readsChoice_X6 tyX6_ok nmX6 0 rfl rfl 15 (by decide) kX6_readsChoice_2 rfl rfl rfl rfl (Nat.le_of_ble_eq_true rfl) dX6_readsChoice_67 (fun H locs hP hD hS => ?_)
            have hP : va_P (gD G) vwCl [(e0, .inr (6, [.ref ea, .ref ek, .ref eh, .int hq, .ref es, .ref ei, .ref el, .ref ew, .ref et, .ref er, .int lf, .int md, .ref ed, .ref ep, .int (nI pn), .int (nI (sp + 1)), .ref ex, .ref eu, .int rm, .int (dn k)])), (ep, .inl (gI G, 80, .inl (nA mt)))] H := hP
            have hD : va_D A [(e0, .inr (6, [.ref ea, .ref ek, .ref eh, .int hq, .ref es, .ref ei, .ref el, .ref ew, .ref et, .ref er, .int lf, .int md, .ref ed, .ref ep, .int (nI pn), .int (nI (sp + 1)), .ref ex, .ref eu, .int rm, .int (dn k)])), (ep, .inl (gI G, 80, .inl (nA mt)))] := hD
            refine lv_iload_n hx hb dX6_readsChoice_70 rfl (lv_at hl 0 rfl) ?_
            refine zf_eq (tgt := 138) S dX6_readsChoice_71 (by decide) (by decide) (fun c_71 => ?_) (fun c_71 => ?_)
            · skip
              exact (by exfalso; omega)
            · skip
              refine lv_aload_n hx hb dX6_readsChoice_74 rfl (lv_at hl 2 rfl) ?_
              refine lv_bipush (v := nI 48) hx hb dX6_readsChoice_75 (by decide +kernel) ?_
              refine lv_bipush (v := nI 49) hx hb dX6_readsChoice_77 (by decide +kernel) ?_
              refine zcVi (rest := []) S K hP hD hS hA hl.1 (c_X6_isHere l G e0 ea ek eh es ei el ew et er ed ep ex eu hq lf md rm (dn k) mt pn (sp + 1) 48 49 (by first | assumption | omega) (by first | assumption | omega) (by first | assumption | omega) (by first | assumption | omega) (by first | assumption | omega)) rfl rfl gX6_readsChoice_X6_isHere rfl eX6_isHere [0, 1] (by decide +kernel) rfl (fun _ => rfl) 6 0 rfl rfl rfl rfl rfl (Nat.le_of_ble_eq_true rfl) (Nat.le_of_ble_eq_true rfl) (Nat.le_of_ble_eq_true rfl) ⟨Nat.zero_le _, Nat.zero_le _⟩ dX6_readsChoice_79 (fun r_79 u_79 H locs hw_79 hP hD hS => ?_)
              obtain ⟨hP, hD⟩ := mx_ok [some 0, some 1] (by decide +kernel) rfl rfl hP hD
              replace hw_79 : r_79 = nI (bN (decide ((sp + 1) < pn ∧ 48 ≤ mt (sp + 1) ∧ mt (sp + 1) ≤ 49))) := hw_79
              obtain rfl := hw_79
              have hP : va_P (gD G) vwCl [(e0, .inr (6, [.ref ea, .ref ek, .ref eh, .int hq, .ref es, .ref ei, .ref el, .ref ew, .ref et, .ref er, .int lf, .int md, .ref ed, .ref ep, .int (nI pn), .int (nI (sp + 1)), .ref ex, .ref eu, .int rm, .int (dn k)])), (ep, .inl (gI G, 80, .inl (nA mt)))] H := hP
              have hD : va_D A [(e0, .inr (6, [.ref ea, .ref ek, .ref eh, .int hq, .ref es, .ref ei, .ref el, .ref ew, .ref et, .ref er, .int lf, .int md, .ref ed, .ref ep, .int (nI pn), .int (nI (sp + 1)), .ref ex, .ref eu, .int rm, .int (dn k)])), (ep, .inl (gI G, 80, .inl (nA mt)))] := hD
              refine zf_eq (tgt := 138) S dX6_readsChoice_82 (by decide) (bN_31 _) (fun c_82 => ?_) (fun c_82 => ?_)
              · skip
                have c_82 := of_decide_eq_false (bN_eq0 c_82)
                refine lv_iload_n hx hb dX6_readsChoice_138 rfl (lv_at hl 1 rfl) ?_
                refine lv_aload_n hx hb dX6_readsChoice_139 rfl (lv_at hl 2 rfl) ?_
                refine z_get S K hP hX6_readsChoice_X6 0 rfl rfl 19 (by decide) kX6_readsChoice_3 rfl rfl dX6_readsChoice_140 ?_
                refine zr_le (tgt := 150) S dX6_readsChoice_143 (by decide) (z_toInt (by omega)) (dn_toInt (by omega)) (fun c_143 => ?_) (fun c_143 => ?_)
                · skip
                  refine lv_iconst (v := nI 0) hx hb dX6_readsChoice_150 (by decide +kernel) ?_
                  refine lv_istore_n (lv' := [(3, .int (nI 0)), (2, .int (nI 1)), (1, .int (nI ((mt sp) - 48))), (0, .ref e0)]) hx hb dX6_readsChoice_151 rfl hl (by decide) rfl (fun ls hl => ?_)
                  refine lv_aload_n hx hb dX6_readsChoice_152 rfl (lv_at hl 3 rfl) ?_
                  refine lv_iload_n hx hb dX6_readsChoice_153 rfl (lv_at hl 2 rfl) ?_
                  refine z_put S K hP hD hS (ty0 := tyX6) hX6_readsChoice_X6 tyX6_ok nmX6 0 rfl rfl 19 (by decide) kX6_readsChoice_3 rfl rfl rfl rfl (Nat.le_of_ble_eq_true rfl) dX6_readsChoice_154 (fun H locs hP hD hS => ?_)
                  have hP : va_P (gD G) vwCl [(e0, .inr (6, [.ref ea, .ref ek, .ref eh, .int hq, .ref es, .ref ei, .ref el, .ref ew, .ref et, .ref er, .int lf, .int md, .ref ed, .ref ep, .int (nI pn), .int (nI (sp + 1)), .ref ex, .ref eu, .int rm, .int (nI ((mt sp) - 48))])), (ep, .inl (gI G, 80, .inl (nA mt)))] H := hP
                  have hD : va_D A [(e0, .inr (6, [.ref ea, .ref ek, .ref eh, .int hq, .ref es, .ref ei, .ref el, .ref ew, .ref et, .ref er, .int lf, .int md, .ref ed, .ref ep, .int (nI pn), .int (nI (sp + 1)), .ref ex, .ref eu, .int rm, .int (nI ((mt sp) - 48))])), (ep, .inl (gI G, 80, .inl (nA mt)))] := hD
                  refine lv_iload_n hx hb dX6_readsChoice_157 rfl (lv_at hl 0 rfl) ?_
                  exact z_zret S hrt hlk hP hD hS (false, sp + 1, nI ((mt sp) - 48)) rfl ⟨rfl, (show (sp + 1) ≤ pn ∧ (false = false → FA f0 g0 mt pn (sp + 1) y) ∧ (false = true → ∃ h2, (nI ((mt sp) - 48)) = nI h2 ∧ h2 ≤ 11 ∧ k ≤ h2 ∧ runP f0 g0 mt (sp + 1) = some (1, k, h2, set, y) ∧ ((sp + 1) < pn → ¬ (h2 = 1 ∧ (mt (sp + 1) = 48 ∨ mt (sp + 1) = 49))) ∧ sp < (sp + 1)) from ⟨by omega, fun _ => (by first | exact ch0_f hR hsp (fun _ => by omega) | exact ch0_f hR hsp (fun _ q => by have := tpc_n q.2.2; omega) | exact ch1_f1 hR1 (by omega) (by omega) (by omega) (by omega) | exact ch1_f2 hR1 (by omega) (fun _ => by omega) (fun _ => by omega)), (fun q => by cases q)⟩)⟩ (z_bnar false) dX6_readsChoice_158
                · skip
                  refine lv_iconst (v := nI 1) hx hb dX6_readsChoice_146 (by decide +kernel) ?_
                  refine lv_goto (tgt := 151) hx hb dX6_readsChoice_147 (by decide) ?_
                  refine lv_istore_n (lv' := [(3, .int (nI 1)), (2, .int (nI 1)), (1, .int (nI ((mt sp) - 48))), (0, .ref e0)]) hx hb dX6_readsChoice_151 rfl hl (by decide) rfl (fun ls hl => ?_)
                  refine lv_aload_n hx hb dX6_readsChoice_152 rfl (lv_at hl 3 rfl) ?_
                  refine lv_iload_n hx hb dX6_readsChoice_153 rfl (lv_at hl 2 rfl) ?_
                  refine z_put S K hP hD hS (ty0 := tyX6) hX6_readsChoice_X6 tyX6_ok nmX6 0 rfl rfl 19 (by decide) kX6_readsChoice_3 rfl rfl rfl rfl (Nat.le_of_ble_eq_true rfl) dX6_readsChoice_154 (fun H locs hP hD hS => ?_)
                  have hP : va_P (gD G) vwCl [(e0, .inr (6, [.ref ea, .ref ek, .ref eh, .int hq, .ref es, .ref ei, .ref el, .ref ew, .ref et, .ref er, .int lf, .int md, .ref ed, .ref ep, .int (nI pn), .int (nI (sp + 1)), .ref ex, .ref eu, .int rm, .int (nI ((mt sp) - 48))])), (ep, .inl (gI G, 80, .inl (nA mt)))] H := hP
                  have hD : va_D A [(e0, .inr (6, [.ref ea, .ref ek, .ref eh, .int hq, .ref es, .ref ei, .ref el, .ref ew, .ref et, .ref er, .int lf, .int md, .ref ed, .ref ep, .int (nI pn), .int (nI (sp + 1)), .ref ex, .ref eu, .int rm, .int (nI ((mt sp) - 48))])), (ep, .inl (gI G, 80, .inl (nA mt)))] := hD
                  refine lv_iload_n hx hb dX6_readsChoice_157 rfl (lv_at hl 0 rfl) ?_
                  exact z_zret S hrt hlk hP hD hS (true, sp + 1, nI ((mt sp) - 48)) rfl ⟨rfl, (show (sp + 1) ≤ pn ∧ (true = false → FA f0 g0 mt pn (sp + 1) y) ∧ (true = true → ∃ h2, (nI ((mt sp) - 48)) = nI h2 ∧ h2 ≤ 11 ∧ k ≤ h2 ∧ runP f0 g0 mt (sp + 1) = some (1, k, h2, set, y) ∧ ((sp + 1) < pn → ¬ (h2 = 1 ∧ (mt (sp + 1) = 48 ∨ mt (sp + 1) = 49))) ∧ sp < (sp + 1)) from ⟨by omega, (fun q => by cases q), fun _ => (by first | exact ⟨_, rfl, by omega, by omega, ch1_t hR1 (by omega) (by omega) (by omega), by omega, by omega⟩ | exact ⟨_, rfl, by omega, by omega, hR1, by omega, by omega⟩)⟩)⟩ (z_bnar true) dX6_readsChoice_158
              · skip
                have c_82 := of_decide_eq_true (bN_ne0 c_82)
                have hcs2 := hch (sp + 1) (by omega)
                refine lv_bipush (v := nI 10) hx hb dX6_readsChoice_85 (by decide +kernel) ?_
                refine lv_aload_n hx hb dX6_readsChoice_87 rfl (lv_at hl 2 rfl) ?_
                refine z_get S K hP hX6_readsChoice_X6 0 rfl rfl 13 (by decide) kX6_readsChoice_1 rfl rfl dX6_readsChoice_88 ?_
                refine lv_aload_n hx hb dX6_readsChoice_91 rfl (lv_at hl 2 rfl) ?_
                refine z_get S K hP hX6_readsChoice_X6 0 rfl rfl 15 (by decide) kX6_readsChoice_2 rfl rfl dX6_readsChoice_92 ?_
                refine z_iald S K hP 1 rfl (by omega) (by decide) dX6_readsChoice_95 ?_
                refine zi_add S dX6_readsChoice_96 ?_
                refine lv_bipush (v := nI 48) hx hb dX6_readsChoice_97 (by decide +kernel) ?_
                refine zi_sub S dX6_readsChoice_99 (by omega) ?_
                refine lv_aload_n hx hb dX6_readsChoice_100 rfl (lv_at hl 2 rfl) ?_
                refine z_get S K hP hX6_readsChoice_X6 0 rfl rfl 19 (by decide) kX6_readsChoice_3 rfl rfl dX6_readsChoice_101 ?_
                refine zr_le (tgt := 138) S dX6_readsChoice_104 (by decide) (z_toInt (by omega)) (dn_toInt (by omega)) (fun c_104 => ?_) (fun c_104 => ?_)
                · skip
                  refine lv_iload_n hx hb dX6_readsChoice_138 rfl (lv_at hl 1 rfl) ?_
                  refine lv_aload_n hx hb dX6_readsChoice_139 rfl (lv_at hl 2 rfl) ?_
                  refine z_get S K hP hX6_readsChoice_X6 0 rfl rfl 19 (by decide) kX6_readsChoice_3 rfl rfl dX6_readsChoice_140 ?_
                  refine zr_le (tgt := 150) S dX6_readsChoice_143 (by decide) (z_toInt (by omega)) (dn_toInt (by omega)) (fun c_143 => ?_) (fun c_143 => ?_)
                  · skip
                    refine lv_iconst (v := nI 0) hx hb dX6_readsChoice_150 (by decide +kernel) ?_
                    refine lv_istore_n (lv' := [(3, .int (nI 0)), (2, .int (nI 1)), (1, .int (nI ((mt sp) - 48))), (0, .ref e0)]) hx hb dX6_readsChoice_151 rfl hl (by decide) rfl (fun ls hl => ?_)
                    refine lv_aload_n hx hb dX6_readsChoice_152 rfl (lv_at hl 3 rfl) ?_
                    refine lv_iload_n hx hb dX6_readsChoice_153 rfl (lv_at hl 2 rfl) ?_
                    refine z_put S K hP hD hS (ty0 := tyX6) hX6_readsChoice_X6 tyX6_ok nmX6 0 rfl rfl 19 (by decide) kX6_readsChoice_3 rfl rfl rfl rfl (Nat.le_of_ble_eq_true rfl) dX6_readsChoice_154 (fun H locs hP hD hS => ?_)
                    have hP : va_P (gD G) vwCl [(e0, .inr (6, [.ref ea, .ref ek, .ref eh, .int hq, .ref es, .ref ei, .ref el, .ref ew, .ref et, .ref er, .int lf, .int md, .ref ed, .ref ep, .int (nI pn), .int (nI (sp + 1)), .ref ex, .ref eu, .int rm, .int (nI ((mt sp) - 48))])), (ep, .inl (gI G, 80, .inl (nA mt)))] H := hP
                    have hD : va_D A [(e0, .inr (6, [.ref ea, .ref ek, .ref eh, .int hq, .ref es, .ref ei, .ref el, .ref ew, .ref et, .ref er, .int lf, .int md, .ref ed, .ref ep, .int (nI pn), .int (nI (sp + 1)), .ref ex, .ref eu, .int rm, .int (nI ((mt sp) - 48))])), (ep, .inl (gI G, 80, .inl (nA mt)))] := hD
                    refine lv_iload_n hx hb dX6_readsChoice_157 rfl (lv_at hl 0 rfl) ?_
                    exact z_zret S hrt hlk hP hD hS (false, sp + 1, nI ((mt sp) - 48)) rfl ⟨rfl, (show (sp + 1) ≤ pn ∧ (false = false → FA f0 g0 mt pn (sp + 1) y) ∧ (false = true → ∃ h2, (nI ((mt sp) - 48)) = nI h2 ∧ h2 ≤ 11 ∧ k ≤ h2 ∧ runP f0 g0 mt (sp + 1) = some (1, k, h2, set, y) ∧ ((sp + 1) < pn → ¬ (h2 = 1 ∧ (mt (sp + 1) = 48 ∨ mt (sp + 1) = 49))) ∧ sp < (sp + 1)) from ⟨by omega, fun _ => (by first | exact ch0_f hR hsp (fun _ => by omega) | exact ch0_f hR hsp (fun _ q => by have := tpc_n q.2.2; omega) | exact ch1_f1 hR1 (by omega) (by omega) (by omega) (by omega) | exact ch1_f2 hR1 (by omega) (fun _ => by omega) (fun _ => by omega)), (fun q => by cases q)⟩)⟩ (z_bnar false) dX6_readsChoice_158
                  · skip
                    refine lv_iconst (v := nI 1) hx hb dX6_readsChoice_146 (by decide +kernel) ?_
                    refine lv_goto (tgt := 151) hx hb dX6_readsChoice_147 (by decide) ?_
                    refine lv_istore_n (lv' := [(3, .int (nI 1)), (2, .int (nI 1)), (1, .int (nI ((mt sp) - 48))), (0, .ref e0)]) hx hb dX6_readsChoice_151 rfl hl (by decide) rfl (fun ls hl => ?_)
                    refine lv_aload_n hx hb dX6_readsChoice_152 rfl (lv_at hl 3 rfl) ?_
                    refine lv_iload_n hx hb dX6_readsChoice_153 rfl (lv_at hl 2 rfl) ?_
                    refine z_put S K hP hD hS (ty0 := tyX6) hX6_readsChoice_X6 tyX6_ok nmX6 0 rfl rfl 19 (by decide) kX6_readsChoice_3 rfl rfl rfl rfl (Nat.le_of_ble_eq_true rfl) dX6_readsChoice_154 (fun H locs hP hD hS => ?_)
                    have hP : va_P (gD G) vwCl [(e0, .inr (6, [.ref ea, .ref ek, .ref eh, .int hq, .ref es, .ref ei, .ref el, .ref ew, .ref et, .ref er, .int lf, .int md, .ref ed, .ref ep, .int (nI pn), .int (nI (sp + 1)), .ref ex, .ref eu, .int rm, .int (nI ((mt sp) - 48))])), (ep, .inl (gI G, 80, .inl (nA mt)))] H := hP
                    have hD : va_D A [(e0, .inr (6, [.ref ea, .ref ek, .ref eh, .int hq, .ref es, .ref ei, .ref el, .ref ew, .ref et, .ref er, .int lf, .int md, .ref ed, .ref ep, .int (nI pn), .int (nI (sp + 1)), .ref ex, .ref eu, .int rm, .int (nI ((mt sp) - 48))])), (ep, .inl (gI G, 80, .inl (nA mt)))] := hD
                    refine lv_iload_n hx hb dX6_readsChoice_157 rfl (lv_at hl 0 rfl) ?_
                    exact z_zret S hrt hlk hP hD hS (true, sp + 1, nI ((mt sp) - 48)) rfl ⟨rfl, (show (sp + 1) ≤ pn ∧ (true = false → FA f0 g0 mt pn (sp + 1) y) ∧ (true = true → ∃ h2, (nI ((mt sp) - 48)) = nI h2 ∧ h2 ≤ 11 ∧ k ≤ h2 ∧ runP f0 g0 mt (sp + 1) = some (1, k, h2, set, y) ∧ ((sp + 1) < pn → ¬ (h2 = 1 ∧ (mt (sp + 1) = 48 ∨ mt (sp + 1) = 49))) ∧ sp < (sp + 1)) from ⟨by omega, (fun q => by cases q), fun _ => (by first | exact ⟨_, rfl, by omega, by omega, ch1_t hR1 (by omega) (by omega) (by omega), by omega, by omega⟩ | exact ⟨_, rfl, by omega, by omega, hR1, by omega, by omega⟩)⟩)⟩ (z_bnar true) dX6_readsChoice_158
                · skip
                  refine lv_aload_n hx hb dX6_readsChoice_107 rfl (lv_at hl 2 rfl) ?_
                  refine lv_bipush (v := nI 10) hx hb dX6_readsChoice_108 (by decide +kernel) ?_
                  refine lv_aload_n hx hb dX6_readsChoice_110 rfl (lv_at hl 2 rfl) ?_
                  refine z_get S K hP hX6_readsChoice_X6 0 rfl rfl 13 (by decide) kX6_readsChoice_1 rfl rfl dX6_readsChoice_111 ?_
                  refine lv_aload_n hx hb dX6_readsChoice_114 rfl (lv_at hl 2 rfl) ?_
                  refine z_get S K hP hX6_readsChoice_X6 0 rfl rfl 15 (by decide) kX6_readsChoice_2 rfl rfl dX6_readsChoice_115 ?_
                  refine z_iald S K hP 1 rfl (by omega) (by decide) dX6_readsChoice_118 ?_
                  refine zi_add S dX6_readsChoice_119 ?_
                  refine lv_bipush (v := nI 48) hx hb dX6_readsChoice_120 (by decide +kernel) ?_
                  refine zi_sub S dX6_readsChoice_122 (by omega) ?_
                  refine z_put S K hP hD hS (ty0 := tyX6) hX6_readsChoice_X6 tyX6_ok nmX6 0 rfl rfl 19 (by decide) kX6_readsChoice_3 rfl rfl rfl rfl (Nat.le_of_ble_eq_true rfl) dX6_readsChoice_123 (fun H locs hP hD hS => ?_)
                  have hP : va_P (gD G) vwCl [(e0, .inr (6, [.ref ea, .ref ek, .ref eh, .int hq, .ref es, .ref ei, .ref el, .ref ew, .ref et, .ref er, .int lf, .int md, .ref ed, .ref ep, .int (nI pn), .int (nI (sp + 1)), .ref ex, .ref eu, .int rm, .int (nI ((10 + (mt (sp + 1))) - 48))])), (ep, .inl (gI G, 80, .inl (nA mt)))] H := hP
                  have hD : va_D A [(e0, .inr (6, [.ref ea, .ref ek, .ref eh, .int hq, .ref es, .ref ei, .ref el, .ref ew, .ref et, .ref er, .int lf, .int md, .ref ed, .ref ep, .int (nI pn), .int (nI (sp + 1)), .ref ex, .ref eu, .int rm, .int (nI ((10 + (mt (sp + 1))) - 48))])), (ep, .inl (gI G, 80, .inl (nA mt)))] := hD
                  refine lv_aload_n hx hb dX6_readsChoice_126 rfl (lv_at hl 2 rfl) ?_
                  refine lv_dup hx hb dX6_readsChoice_127 rfl ?_
                  refine z_get S K hP hX6_readsChoice_X6 0 rfl rfl 15 (by decide) kX6_readsChoice_2 rfl rfl dX6_readsChoice_128 ?_
                  refine lv_iconst (v := nI 1) hx hb dX6_readsChoice_131 (by decide +kernel) ?_
                  refine zi_add S dX6_readsChoice_132 ?_
                  refine z_put S K hP hD hS (ty0 := tyX6) hX6_readsChoice_X6 tyX6_ok nmX6 0 rfl rfl 15 (by decide) kX6_readsChoice_2 rfl rfl rfl rfl (Nat.le_of_ble_eq_true rfl) dX6_readsChoice_133 (fun H locs hP hD hS => ?_)
                  have hP : va_P (gD G) vwCl [(e0, .inr (6, [.ref ea, .ref ek, .ref eh, .int hq, .ref es, .ref ei, .ref el, .ref ew, .ref et, .ref er, .int lf, .int md, .ref ed, .ref ep, .int (nI pn), .int (nI ((sp + 1) + 1)), .ref ex, .ref eu, .int rm, .int (nI ((10 + (mt (sp + 1))) - 48))])), (ep, .inl (gI G, 80, .inl (nA mt)))] H := hP
                  have hD : va_D A [(e0, .inr (6, [.ref ea, .ref ek, .ref eh, .int hq, .ref es, .ref ei, .ref el, .ref ew, .ref et, .ref er, .int lf, .int md, .ref ed, .ref ep, .int (nI pn), .int (nI ((sp + 1) + 1)), .ref ex, .ref eu, .int rm, .int (nI ((10 + (mt (sp + 1))) - 48))])), (ep, .inl (gI G, 80, .inl (nA mt)))] := hD
                  refine lv_iconst (v := nI 1) hx hb dX6_readsChoice_136 (by decide +kernel) ?_
                  exact z_zret S hrt hlk hP hD hS (true, (sp + 1) + 1, nI ((10 + (mt (sp + 1))) - 48)) rfl ⟨rfl, (show ((sp + 1) + 1) ≤ pn ∧ (true = false → FA f0 g0 mt pn ((sp + 1) + 1) y) ∧ (true = true → ∃ h2, (nI ((10 + (mt (sp + 1))) - 48)) = nI h2 ∧ h2 ≤ 11 ∧ k ≤ h2 ∧ runP f0 g0 mt ((sp + 1) + 1) = some (1, k, h2, set, y) ∧ (((sp + 1) + 1) < pn → ¬ (h2 = 1 ∧ (mt ((sp + 1) + 1) = 48 ∨ mt ((sp + 1) + 1) = 49))) ∧ sp < ((sp + 1) + 1)) from ⟨by omega, (fun q => by cases q), fun _ => (by first | exact ⟨_, rfl, by omega, by omega, ch1_t hR1 (by omega) (by omega) (by omega), by omega, by omega⟩ | exact ⟨_, rfl, by omega, by omega, hR1, by omega, by omega⟩)⟩)⟩ (z_bnar true) dX6_readsChoice_137
          · skip
            exact (by exfalso; omega)
  · skip
    have c_8 := of_decide_eq_false (bN_eq0 c_8)
    refine lv_iconst (v := nI 0) hx hb dX6_readsChoice_11 (by decide +kernel) ?_
    exact z_zret S hrt hlk hP hD hS (false, sp, dn k) rfl ⟨rfl, (show sp ≤ pn ∧ (false = false → FA f0 g0 mt pn sp y) ∧ (false = true → ∃ h2, (dn k) = nI h2 ∧ h2 ≤ 11 ∧ k ≤ h2 ∧ runP f0 g0 mt sp = some (1, k, h2, set, y) ∧ (sp < pn → ¬ (h2 = 1 ∧ (mt sp = 48 ∨ mt sp = 49))) ∧ sp < sp) from ⟨by omega, fun _ => (by first | exact ch0_f hR hsp (fun _ => by omega) | exact ch0_f hR hsp (fun _ q => by have := tpc_n q.2.2; omega) | exact ch1_f1 hR1 (by omega) (by omega) (by omega) (by omega) | exact ch1_f2 hR1 (by omega) (fun _ => by omega) (fun _ => by omega)), (fun q => by cases q)⟩)⟩ (z_bnar false) dX6_readsChoice_12
set_option maxHeartbeats 4000000 in
set_option maxRecDepth 100000 in
theorem c_X6_readsRule (l : Launch) (G : gT) (e0 ea ek eh es ei el ew et er ed ep ex eu : Nat) (hq : Int32) (lf : Int32) (md : Int32) (la : Int32) (mt : Nat → Nat) (f0 : Nat → Nat) (g0 : Nat → Nat) (mq : Nat → Nat) (mv : Nat → Nat) (pn : Nat) (sp : Nat) (h : Nat) (rn : Nat) (hpn : pn ≤ 80) (hch : ∀ j, j < pn → mt j < 127) (hsp : sp ≤ pn) (hR : runP f0 g0 mt sp = some (0, 0, h, 0, rn, mq, mv)) : CI l yX6_readsRule wsX6_readsRule ({ frames := 3, cells := 0, slots := 0, locals := 70 } : Room) G [.ref e0] [(e0, .inr (6, [.ref ea, .ref ek, .ref eh, .int hq, .ref es, .ref ei, .ref el, .ref ew, .ref et, .ref er, .int lf, .int md, .ref ed, .ref ep, .int (nI pn), .int (nI sp), .ref ex, .ref eu, .int (nI rn), .int la])), (ep, .inl (gI G, 80, .inl (nA mt))), (ex, .inl (gI G, 40, .inl (nA mq))), (eu, .inl (gI G, 40, .inl (nA mv)))] 0 0 (fun (r : Int32) (u : Bool × Nat × Nat × Int32 × (Nat → Nat) × (Nat → Nat)) => r = nI (bN u.1) ∧ u.2.1 ≤ pn ∧ (u.1 = false → FA f0 g0 mt pn u.2.1 (u.2.2.1, u.2.2.2.2.1, u.2.2.2.2.2)) ∧ (u.1 = true → (∃ k2 h2 s2, runP f0 g0 mt u.2.1 = some (3, k2, h2, s2, u.2.2.1, u.2.2.2.2.1, u.2.2.2.2.2)) ∧ sp < u.2.1)) (fun (u : Bool × Nat × Nat × Int32 × (Nat → Nat) × (Nat → Nat)) => [(e0, .inr (6, [.ref ea, .ref ek, .ref eh, .int hq, .ref es, .ref ei, .ref el, .ref ew, .ref et, .ref er, .int lf, .int md, .ref ed, .ref ep, .int (nI pn), .int (nI u.2.1), .ref ex, .ref eu, .int (nI u.2.2.1), .int u.2.2.2.1])), (ep, .inl (gI G, 80, .inl (nA mt))), (ex, .inl (gI G, 40, .inl (nA u.2.2.2.2.1))), (eu, .inl (gI G, 40, .inl (nA u.2.2.2.2.2)))]) := by
  refine CI.of (cc := cX6_readsRule) (maxL := 3) (ret := (some .boolean)) (by decide +kernel) rfl (Nat.le_of_ble_eq_true rfl) rfl (fun p e s m args below meth c A S hrt hlk hnm K hA hP hD hS ls hl => ?_)
  have hx := S.1
  have hb := S.2.1
  have hl : lv_has ls 3 [(0, .ref e0)] := hl
  refine lv_aload_n hx hb dX6_readsRule_0 rfl (lv_at hl 0 rfl) ?_
  refine lv_iconst (v := -1) hx hb dX6_readsRule_1 (by decide +kernel) ?_
  refine z_put S K hP hD hS (ty0 := tyX6) hX6_readsRule_X6 tyX6_ok nmX6 0 rfl rfl 19 (by decide) kX6_readsRule_1 rfl rfl rfl rfl (Nat.le_of_ble_eq_true rfl) dX6_readsRule_2 (fun H locs hP hD hS => ?_)
  have hP : va_P (gD G) vwCl [(e0, .inr (6, [.ref ea, .ref ek, .ref eh, .int hq, .ref es, .ref ei, .ref el, .ref ew, .ref et, .ref er, .int lf, .int md, .ref ed, .ref ep, .int (nI pn), .int (nI sp), .ref ex, .ref eu, .int (nI rn), .int (-1)])), (ep, .inl (gI G, 80, .inl (nA mt))), (ex, .inl (gI G, 40, .inl (nA mq))), (eu, .inl (gI G, 40, .inl (nA mv)))] H := hP
  have hD : va_D A [(e0, .inr (6, [.ref ea, .ref ek, .ref eh, .int hq, .ref es, .ref ei, .ref el, .ref ew, .ref et, .ref er, .int lf, .int md, .ref ed, .ref ep, .int (nI pn), .int (nI sp), .ref ex, .ref eu, .int (nI rn), .int (-1)])), (ep, .inl (gI G, 80, .inl (nA mt))), (ex, .inl (gI G, 40, .inl (nA mq))), (eu, .inl (gI G, 40, .inl (nA mv)))] := hD
  refine lv_iconst (v := nI 0) hx hb dX6_readsRule_5 (by decide +kernel) ?_
  refine lv_istore_n (lv' := [(1, .int (nI 0)), (0, .ref e0)]) hx hb dX6_readsRule_6 rfl hl (by decide) rfl (fun ls hl => ?_)
  refine lv_iconst (v := nI 1) hx hb dX6_readsRule_7 (by decide +kernel) ?_
  refine lv_istore_n (lv' := [(2, .int (nI 1)), (1, .int (nI 0)), (0, .ref e0)]) hx hb dX6_readsRule_8 rfl hl (by decide) rfl (fun ls hl => ?_)
  have lp_9 : ∀ (n_9 : Nat) (sp1 : Nat) (k : Nat) (h1 : Nat) (set : Nat) (mo : Nat), pn - sp1 < n_9 → (mo ≤ 1) → (sp ≤ sp1 ∧ sp1 ≤ pn) → ((mo = 1 ∧ runP f0 g0 mt sp1 = some (0, k, h1, set, rn, mq, mv)) ∨ (mo = 0 ∧ ∃ k1 s1, runP f0 g0 mt sp1 = some (1, k1, h1, s1, rn, mq, mv) ∧ k1 ≤ h1 ∧ set = s1 ||| 1 <<< h1 ∧ h1 ≤ 11 ∧ k = h1 + 1 ∧ (sp1 < pn → ¬ (h1 = 1 ∧ (mt sp1 = 48 ∨ mt sp1 = 49))) ∧ (sp1 < pn → ¬ (mt sp1 = 43 ∧ h1 < 11)))) → ∀ (H : Heap) (locs : List Loc), va_P (gD G) vwCl [(e0, .inr (6, [.ref ea, .ref ek, .ref eh, .int hq, .ref es, .ref ei, .ref el, .ref ew, .ref et, .ref er, .int lf, .int md, .ref ed, .ref ep, .int (nI pn), .int (nI sp1), .ref ex, .ref eu, .int (nI rn), .int (dn k)])), (ep, .inl (gI G, 80, .inl (nA mt))), (ex, .inl (gI G, 40, .inl (nA mq))), (eu, .inl (gI G, 40, .inl (nA mv)))] H → va_D A [(e0, .inr (6, [.ref ea, .ref ek, .ref eh, .int hq, .ref es, .ref ei, .ref el, .ref ew, .ref et, .ref er, .int lf, .int md, .ref ed, .ref ep, .int (nI pn), .int (nI sp1), .ref ex, .ref eu, .int (nI rn), .int (dn k)])), (ep, .inl (gI G, 80, .inl (nA mt))), (ex, .inl (gI G, 40, .inl (nA mq))), (eu, .inl (gI G, 40, .inl (nA mv)))] → va_S A s.heap H locs → ∀ ls : Array Slot, lv_has ls 3 [(2, .int (nI mo)), (1, .int (nI set)), (0, .ref e0)] → W p l e ({ frames := 3, cells := 0, slots := 0, locals := 70 } : Room) s m args below meth c H locs 0 0 (MQ below (va_Qi (fun (r : Int32) (u : Bool × Nat × Nat × Int32 × (Nat → Nat) × (Nat → Nat)) => r = nI (bN u.1) ∧ u.2.1 ≤ pn ∧ (u.1 = false → FA f0 g0 mt pn u.2.1 (u.2.2.1, u.2.2.2.2.1, u.2.2.2.2.2)) ∧ (u.1 = true → (∃ k2 h2 s2, runP f0 g0 mt u.2.1 = some (3, k2, h2, s2, u.2.2.1, u.2.2.2.2.1, u.2.2.2.2.2)) ∧ sp < u.2.1)) (cB G A (fun (u : Bool × Nat × Nat × Int32 × (Nat → Nat) × (Nat → Nat)) => [(e0, .inr (6, [.ref ea, .ref ek, .ref eh, .int hq, .ref es, .ref ei, .ref el, .ref ew, .ref et, .ref er, .int lf, .int md, .ref ed, .ref ep, .int (nI pn), .int (nI u.2.1), .ref ex, .ref eu, .int (nI u.2.2.1), .int u.2.2.2.1])), (ep, .inl (gI G, 80, .inl (nA mt))), (ex, .inl (gI G, 40, .inl (nA u.2.2.2.2.1))), (eu, .inl (gI G, 40, .inl (nA u.2.2.2.2.2)))])) A) args s 0 0 A) (F0 m 9 ls []) := by
    intro n_9
    induction n_9 with
    | zero =>
      intro sp1 k h1 set mo h0
      exact absurd h0 (Nat.not_lt_zero _)
    | succ n_9 ih_9 =>
      intro sp1 k h1 set mo hm_9 hmo hs1 hI H locs hP hD hS ls hl
      refine lv_iload_n hx hb dX6_readsRule_9 rfl (lv_at hl 0 rfl) ?_
      refine zf_eq (tgt := 58) S dX6_readsRule_10 (by decide) (by omega) (fun c_10 => ?_) (fun c_10 => ?_)
      · skip
        obtain ⟨k1, s1, hR1, hk1, rfl, hh11, rfl, hn2, hn3⟩ : ∃ k1 s1, runP f0 g0 mt sp1 = some (1, k1, h1, s1, rn, mq, mv) ∧ k1 ≤ h1 ∧ set = s1 ||| 1 <<< h1 ∧ h1 ≤ 11 ∧ k = h1 + 1 ∧ (sp1 < pn → ¬ (h1 = 1 ∧ (mt sp1 = 48 ∨ mt sp1 = 49))) ∧ (sp1 < pn → ¬ (mt sp1 = 43 ∧ h1 < 11)) := by rcases hI with ⟨q, -⟩ | ⟨-, q⟩; exact absurd (q.symm.trans c_10) (by decide); exact q
        refine lv_aload_n hx hb dX6_readsRule_58 rfl (lv_at hl 2 rfl) ?_
        refine lv_bipush (v := nI 61) hx hb dX6_readsRule_59 (by decide +kernel) ?_
        refine zcVi (rest := []) S K hP hD hS hA hl.1 (c_X6_takes l G e0 ea ek eh es ei el ew et er ed ep ex eu hq lf md (nI rn) (dn (h1 + 1)) mt pn sp1 61 (by first | assumption | omega) (by first | assumption | omega) hs1.2 (by decide)) rfl rfl gX6_readsRule_X6_takes rfl eX6_takes [0, 1] (by decide +kernel) rfl (fun _ => rfl) 6 0 rfl rfl rfl rfl rfl (Nat.le_of_ble_eq_true rfl) (Nat.le_of_ble_eq_true rfl) (Nat.le_of_ble_eq_true rfl) ⟨Nat.zero_le _, Nat.zero_le _⟩ dX6_readsRule_61 (fun r_61 u_61 H locs hw_61 hP hD hS => ?_)
        obtain ⟨hP, hD⟩ := mx_ok [some 0, some 1, none, none] (by decide +kernel) rfl rfl hP hD
        obtain ⟨sp2_61, rfl⟩ : ∃ z, z = u_61 := ⟨_, rfl⟩
        replace hw_61 : r_61 = nI (bN (decide (sp1 < pn ∧ mt sp1 = 61))) ∧ (sp1 < pn ∧ mt sp1 = 61 → sp2_61 = sp1 + 1) ∧ (¬ (sp1 < pn ∧ mt sp1 = 61) → sp2_61 = sp1) := hw_61
        obtain ⟨rfl, hw_61⟩ := hw_61
        have hP : va_P (gD G) vwCl [(e0, .inr (6, [.ref ea, .ref ek, .ref eh, .int hq, .ref es, .ref ei, .ref el, .ref ew, .ref et, .ref er, .int lf, .int md, .ref ed, .ref ep, .int (nI pn), .int (nI sp2_61), .ref ex, .ref eu, .int (nI rn), .int (dn (h1 + 1))])), (ep, .inl (gI G, 80, .inl (nA mt))), (ex, .inl (gI G, 40, .inl (nA mq))), (eu, .inl (gI G, 40, .inl (nA mv)))] H := hP
        have hD : va_D A [(e0, .inr (6, [.ref ea, .ref ek, .ref eh, .int hq, .ref es, .ref ei, .ref el, .ref ew, .ref et, .ref er, .int lf, .int md, .ref ed, .ref ep, .int (nI pn), .int (nI sp2_61), .ref ex, .ref eu, .int (nI rn), .int (dn (h1 + 1))])), (ep, .inl (gI G, 80, .inl (nA mt))), (ex, .inl (gI G, 40, .inl (nA mq))), (eu, .inl (gI G, 40, .inl (nA mv)))] := hD
        refine zf_eq (tgt := 78) S dX6_readsRule_64 (by decide) (bN_31 _) (fun c_64 => ?_) (fun c_64 => ?_)
        · skip
          have c_64 := of_decide_eq_false (bN_eq0 c_64)
          obtain rfl : sp1 = sp2_61 := Eq.symm (hw_61.2 c_64)
          refine lv_iconst (v := nI 0) hx hb dX6_readsRule_78 (by decide +kernel) ?_
          exact z_zret S hrt hlk hP hD hS (false, sp1, rn, dn (h1 + 1), mq, mv) rfl ⟨rfl, (show sp1 ≤ pn ∧ (false = false → FA f0 g0 mt pn sp1 (rn, mq, mv)) ∧ (false = true → (∃ k2 h2 s2, runP f0 g0 mt sp1 = some (3, k2, h2, s2, rn, mq, mv)) ∧ sp < sp1) from ⟨by first | exact hw_14.1 | omega, fun _ => (by first | exact hw_14.2.1 c_17 | exact ch2_f hR2 (by omega) (fun _ => by omega) | exact ch1_f2 hR1 hs1.2 hn2 (fun q z => by have := hn3 q; omega)), (fun q => by cases q)⟩)⟩ (z_bnar false) dX6_readsRule_79
        · skip
          have c_64 := of_decide_eq_true (bN_ne0 c_64)
          obtain rfl : sp2_61 = sp1 + 1 := hw_61.1 c_64
          have hR2 := ch1_q hR1 c_64.2 hk1
          refine lv_aload_n hx hb dX6_readsRule_67 rfl (lv_at hl 2 rfl) ?_
          refine lv_bipush (v := nI 48) hx hb dX6_readsRule_68 (by decide +kernel) ?_
          refine lv_bipush (v := nI 49) hx hb dX6_readsRule_70 (by decide +kernel) ?_
          refine zcVi (rest := []) S K hP hD hS hA hl.1 (c_X6_isHere l G e0 ea ek eh es ei el ew et er ed ep ex eu hq lf md (nI rn) (dn (h1 + 1)) mt pn (sp1 + 1) 48 49 (by first | assumption | omega) (by first | assumption | omega) (by omega) (by decide) (by decide)) rfl rfl gX6_readsRule_X6_isHere rfl eX6_isHere [0, 1] (by decide +kernel) rfl (fun _ => rfl) 6 0 rfl rfl rfl rfl rfl (Nat.le_of_ble_eq_true rfl) (Nat.le_of_ble_eq_true rfl) (Nat.le_of_ble_eq_true rfl) ⟨Nat.zero_le _, Nat.zero_le _⟩ dX6_readsRule_72 (fun r_72 u_72 H locs hw_72 hP hD hS => ?_)
          obtain ⟨hP, hD⟩ := mx_ok [some 0, some 1, none, none] (by decide +kernel) rfl rfl hP hD
          replace hw_72 : r_72 = nI (bN (decide ((sp1 + 1) < pn ∧ 48 ≤ mt (sp1 + 1) ∧ mt (sp1 + 1) ≤ 49))) := hw_72
          obtain rfl := hw_72
          have hP : va_P (gD G) vwCl [(e0, .inr (6, [.ref ea, .ref ek, .ref eh, .int hq, .ref es, .ref ei, .ref el, .ref ew, .ref et, .ref er, .int lf, .int md, .ref ed, .ref ep, .int (nI pn), .int (nI (sp1 + 1)), .ref ex, .ref eu, .int (nI rn), .int (dn (h1 + 1))])), (ep, .inl (gI G, 80, .inl (nA mt))), (ex, .inl (gI G, 40, .inl (nA mq))), (eu, .inl (gI G, 40, .inl (nA mv)))] H := hP
          have hD : va_D A [(e0, .inr (6, [.ref ea, .ref ek, .ref eh, .int hq, .ref es, .ref ei, .ref el, .ref ew, .ref et, .ref er, .int lf, .int md, .ref ed, .ref ep, .int (nI pn), .int (nI (sp1 + 1)), .ref ex, .ref eu, .int (nI rn), .int (dn (h1 + 1))])), (ep, .inl (gI G, 80, .inl (nA mt))), (ex, .inl (gI G, 40, .inl (nA mq))), (eu, .inl (gI G, 40, .inl (nA mv)))] := hD
          refine zf_ne (tgt := 80) S dX6_readsRule_75 (by decide) (bN_31 _) (fun c_75 => ?_) (fun c_75 => ?_)
          · skip
            have c_75 := of_decide_eq_true (bN_ne0 c_75)
            have hcs := hch (sp1 + 1) (by omega)
            obtain ⟨hm20, hs4⟩ := hm_20 hR2 (by omega)
            refine lv_aload_n hx hb dX6_readsRule_80 rfl (lv_at hl 2 rfl) ?_
            refine z_get S K hP hX6_readsRule_X6 0 rfl rfl 16 (by decide) kX6_readsRule_2 rfl rfl dX6_readsRule_81 ?_
            refine lv_aload_n hx hb dX6_readsRule_84 rfl (lv_at hl 2 rfl) ?_
            refine z_get S K hP hX6_readsRule_X6 0 rfl rfl 18 (by decide) kX6_readsRule_3 rfl rfl dX6_readsRule_85 ?_
            refine lv_iload_n hx hb dX6_readsRule_88 rfl (lv_at hl 1 rfl) ?_
            refine z_iast S K hP hD hS 2 rfl (by omega) (by decide) dX6_readsRule_89 (fun H locs hP hD hS => ?_)
            have hP : va_P (gD G) vwCl [(e0, .inr (6, [.ref ea, .ref ek, .ref eh, .int hq, .ref es, .ref ei, .ref el, .ref ew, .ref et, .ref er, .int lf, .int md, .ref ed, .ref ep, .int (nI pn), .int (nI (sp1 + 1)), .ref ex, .ref eu, .int (nI rn), .int (dn (h1 + 1))])), (ep, .inl (gI G, 80, .inl (nA mt))), (ex, .inl (gI G, 40, .inl (nA (pu mq rn (s1 ||| 1 <<< h1))))), (eu, .inl (gI G, 40, .inl (nA mv)))] H := hP
            have hD : va_D A [(e0, .inr (6, [.ref ea, .ref ek, .ref eh, .int hq, .ref es, .ref ei, .ref el, .ref ew, .ref et, .ref er, .int lf, .int md, .ref ed, .ref ep, .int (nI pn), .int (nI (sp1 + 1)), .ref ex, .ref eu, .int (nI rn), .int (dn (h1 + 1))])), (ep, .inl (gI G, 80, .inl (nA mt))), (ex, .inl (gI G, 40, .inl (nA (pu mq rn (s1 ||| 1 <<< h1))))), (eu, .inl (gI G, 40, .inl (nA mv)))] := hD
            refine lv_aload_n hx hb dX6_readsRule_90 rfl (lv_at hl 2 rfl) ?_
            refine z_get S K hP hX6_readsRule_X6 0 rfl rfl 17 (by decide) kX6_readsRule_4 rfl rfl dX6_readsRule_91 ?_
            refine lv_aload_n hx hb dX6_readsRule_94 rfl (lv_at hl 2 rfl) ?_
            refine z_get S K hP hX6_readsRule_X6 0 rfl rfl 18 (by decide) kX6_readsRule_3 rfl rfl dX6_readsRule_95 ?_
            refine lv_aload_n hx hb dX6_readsRule_98 rfl (lv_at hl 2 rfl) ?_
            refine z_get S K hP hX6_readsRule_X6 0 rfl rfl 13 (by decide) kX6_readsRule_5 rfl rfl dX6_readsRule_99 ?_
            refine lv_aload_n hx hb dX6_readsRule_102 rfl (lv_at hl 2 rfl) ?_
            refine z_get S K hP hX6_readsRule_X6 0 rfl rfl 15 (by decide) kX6_readsRule_6 rfl rfl dX6_readsRule_103 ?_
            refine z_iald S K hP 1 rfl (by omega) (by decide) dX6_readsRule_106 ?_
            refine lv_bipush (v := nI 48) hx hb dX6_readsRule_107 (by decide +kernel) ?_
            refine zi_sub S dX6_readsRule_109 (by omega) ?_
            refine z_iast S K hP hD hS 3 rfl (by omega) (by decide) dX6_readsRule_110 (fun H locs hP hD hS => ?_)
            have hP : va_P (gD G) vwCl [(e0, .inr (6, [.ref ea, .ref ek, .ref eh, .int hq, .ref es, .ref ei, .ref el, .ref ew, .ref et, .ref er, .int lf, .int md, .ref ed, .ref ep, .int (nI pn), .int (nI (sp1 + 1)), .ref ex, .ref eu, .int (nI rn), .int (dn (h1 + 1))])), (ep, .inl (gI G, 80, .inl (nA mt))), (ex, .inl (gI G, 40, .inl (nA (pu mq rn (s1 ||| 1 <<< h1))))), (eu, .inl (gI G, 40, .inl (nA (pu mv rn ((mt (sp1 + 1)) - 48)))))] H := hP
            have hD : va_D A [(e0, .inr (6, [.ref ea, .ref ek, .ref eh, .int hq, .ref es, .ref ei, .ref el, .ref ew, .ref et, .ref er, .int lf, .int md, .ref ed, .ref ep, .int (nI pn), .int (nI (sp1 + 1)), .ref ex, .ref eu, .int (nI rn), .int (dn (h1 + 1))])), (ep, .inl (gI G, 80, .inl (nA mt))), (ex, .inl (gI G, 40, .inl (nA (pu mq rn (s1 ||| 1 <<< h1))))), (eu, .inl (gI G, 40, .inl (nA (pu mv rn ((mt (sp1 + 1)) - 48)))))] := hD
            refine lv_aload_n hx hb dX6_readsRule_111 rfl (lv_at hl 2 rfl) ?_
            refine lv_dup hx hb dX6_readsRule_112 rfl ?_
            refine z_get S K hP hX6_readsRule_X6 0 rfl rfl 18 (by decide) kX6_readsRule_3 rfl rfl dX6_readsRule_113 ?_
            refine lv_iconst (v := nI 1) hx hb dX6_readsRule_116 (by decide +kernel) ?_
            refine zi_add S dX6_readsRule_117 ?_
            refine z_put S K hP hD hS (ty0 := tyX6) hX6_readsRule_X6 tyX6_ok nmX6 0 rfl rfl 18 (by decide) kX6_readsRule_3 rfl rfl rfl rfl (Nat.le_of_ble_eq_true rfl) dX6_readsRule_118 (fun H locs hP hD hS => ?_)
            have hP : va_P (gD G) vwCl [(e0, .inr (6, [.ref ea, .ref ek, .ref eh, .int hq, .ref es, .ref ei, .ref el, .ref ew, .ref et, .ref er, .int lf, .int md, .ref ed, .ref ep, .int (nI pn), .int (nI (sp1 + 1)), .ref ex, .ref eu, .int (nI (rn + 1)), .int (dn (h1 + 1))])), (ep, .inl (gI G, 80, .inl (nA mt))), (ex, .inl (gI G, 40, .inl (nA (pu mq rn (s1 ||| 1 <<< h1))))), (eu, .inl (gI G, 40, .inl (nA (pu mv rn ((mt (sp1 + 1)) - 48)))))] H := hP
            have hD : va_D A [(e0, .inr (6, [.ref ea, .ref ek, .ref eh, .int hq, .ref es, .ref ei, .ref el, .ref ew, .ref et, .ref er, .int lf, .int md, .ref ed, .ref ep, .int (nI pn), .int (nI (sp1 + 1)), .ref ex, .ref eu, .int (nI (rn + 1)), .int (dn (h1 + 1))])), (ep, .inl (gI G, 80, .inl (nA mt))), (ex, .inl (gI G, 40, .inl (nA (pu mq rn (s1 ||| 1 <<< h1))))), (eu, .inl (gI G, 40, .inl (nA (pu mv rn ((mt (sp1 + 1)) - 48)))))] := hD
            refine lv_aload_n hx hb dX6_readsRule_121 rfl (lv_at hl 2 rfl) ?_
            refine lv_dup hx hb dX6_readsRule_122 rfl ?_
            refine z_get S K hP hX6_readsRule_X6 0 rfl rfl 15 (by decide) kX6_readsRule_6 rfl rfl dX6_readsRule_123 ?_
            refine lv_iconst (v := nI 1) hx hb dX6_readsRule_126 (by decide +kernel) ?_
            refine zi_add S dX6_readsRule_127 ?_
            refine z_put S K hP hD hS (ty0 := tyX6) hX6_readsRule_X6 tyX6_ok nmX6 0 rfl rfl 15 (by decide) kX6_readsRule_6 rfl rfl rfl rfl (Nat.le_of_ble_eq_true rfl) dX6_readsRule_128 (fun H locs hP hD hS => ?_)
            have hP : va_P (gD G) vwCl [(e0, .inr (6, [.ref ea, .ref ek, .ref eh, .int hq, .ref es, .ref ei, .ref el, .ref ew, .ref et, .ref er, .int lf, .int md, .ref ed, .ref ep, .int (nI pn), .int (nI ((sp1 + 1) + 1)), .ref ex, .ref eu, .int (nI (rn + 1)), .int (dn (h1 + 1))])), (ep, .inl (gI G, 80, .inl (nA mt))), (ex, .inl (gI G, 40, .inl (nA (pu mq rn (s1 ||| 1 <<< h1))))), (eu, .inl (gI G, 40, .inl (nA (pu mv rn ((mt (sp1 + 1)) - 48)))))] H := hP
            have hD : va_D A [(e0, .inr (6, [.ref ea, .ref ek, .ref eh, .int hq, .ref es, .ref ei, .ref el, .ref ew, .ref et, .ref er, .int lf, .int md, .ref ed, .ref ep, .int (nI pn), .int (nI ((sp1 + 1) + 1)), .ref ex, .ref eu, .int (nI (rn + 1)), .int (dn (h1 + 1))])), (ep, .inl (gI G, 80, .inl (nA mt))), (ex, .inl (gI G, 40, .inl (nA (pu mq rn (s1 ||| 1 <<< h1))))), (eu, .inl (gI G, 40, .inl (nA (pu mv rn ((mt (sp1 + 1)) - 48)))))] := hD
            refine lv_iconst (v := nI 1) hx hb dX6_readsRule_131 (by decide +kernel) ?_
            exact z_zret S hrt hlk hP hD hS (true, (sp1 + 1) + 1, rn + 1, dn (h1 + 1), pu mq rn (s1 ||| 1 <<< h1), pu mv rn ((mt (sp1 + 1)) - 48)) rfl ⟨rfl, (show ((sp1 + 1) + 1) ≤ pn ∧ (true = false → FA f0 g0 mt pn ((sp1 + 1) + 1) ((rn + 1), (pu mq rn (s1 ||| 1 <<< h1)), (pu mv rn ((mt (sp1 + 1)) - 48)))) ∧ (true = true → (∃ k2 h2 s2, runP f0 g0 mt ((sp1 + 1) + 1) = some (3, k2, h2, s2, (rn + 1), (pu mq rn (s1 ||| 1 <<< h1)), (pu mv rn ((mt (sp1 + 1)) - 48)))) ∧ sp < ((sp1 + 1) + 1)) from ⟨by omega, (fun q => by cases q), fun _ => ⟨⟨_, _, _, ch2_t hR2 (by omega)⟩, by omega⟩⟩)⟩ (z_bnar true) dX6_readsRule_132
          · skip
            have c_75 := of_decide_eq_false (bN_eq0 c_75)
            refine lv_iconst (v := nI 0) hx hb dX6_readsRule_78 (by decide +kernel) ?_
            exact z_zret S hrt hlk hP hD hS (false, sp1 + 1, rn, dn (h1 + 1), mq, mv) rfl ⟨rfl, (show (sp1 + 1) ≤ pn ∧ (false = false → FA f0 g0 mt pn (sp1 + 1) (rn, mq, mv)) ∧ (false = true → (∃ k2 h2 s2, runP f0 g0 mt (sp1 + 1) = some (3, k2, h2, s2, rn, mq, mv)) ∧ sp < (sp1 + 1)) from ⟨by first | exact hw_14.1 | omega, fun _ => (by first | exact hw_14.2.1 c_17 | exact ch2_f hR2 (by omega) (fun _ => by omega) | exact ch1_f2 hR1 hs1.2 hn2 (fun q z => by have := hn3 q; omega)), (fun q => by cases q)⟩)⟩ (z_bnar false) dX6_readsRule_79
      · skip
        have hR1 : runP f0 g0 mt sp1 = some (0, k, h1, set, rn, mq, mv) := by rcases hI with ⟨-, q⟩ | ⟨q, -⟩; exact q; exact absurd q c_10
        refine lv_aload_n hx hb dX6_readsRule_13 rfl (lv_at hl 2 rfl) ?_
        refine zcVi (rest := []) S K hP hD hS hA hl.1 (c_X6_readsChoice l G e0 ea ek eh es ei el ew et er ed ep ex eu hq lf md (nI rn) mt f0 g0 pn sp1 k h1 set (rn, mq, mv) (by first | assumption | omega) (by first | assumption | omega) (by omega) hR1) rfl rfl gX6_readsRule_X6_readsChoice rfl eX6_readsChoice [0, 1] (by decide +kernel) rfl (fun _ => rfl) 6 0 rfl rfl rfl rfl rfl (Nat.le_of_ble_eq_true rfl) (Nat.le_of_ble_eq_true rfl) (Nat.le_of_ble_eq_true rfl) ⟨Nat.zero_le _, Nat.zero_le _⟩ dX6_readsRule_14 (fun r_14 u_14 H locs hw_14 hP hD hS => ?_)
        obtain ⟨hP, hD⟩ := mx_ok [some 0, some 1, none, none] (by decide +kernel) rfl rfl hP hD
        obtain ⟨b_14, sp2_14, la2_14⟩ := u_14
        replace hw_14 : r_14 = nI (bN b_14) ∧ sp2_14 ≤ pn ∧ (b_14 = false → FA f0 g0 mt pn sp2_14 (rn, mq, mv)) ∧ (b_14 = true → ∃ h2, la2_14 = nI h2 ∧ h2 ≤ 11 ∧ k ≤ h2 ∧ runP f0 g0 mt sp2_14 = some (1, k, h2, set, (rn, mq, mv)) ∧ (sp2_14 < pn → ¬ (h2 = 1 ∧ (mt sp2_14 = 48 ∨ mt sp2_14 = 49))) ∧ sp1 < sp2_14) := hw_14
        obtain ⟨rfl, hw_14⟩ := hw_14
        have hP : va_P (gD G) vwCl [(e0, .inr (6, [.ref ea, .ref ek, .ref eh, .int hq, .ref es, .ref ei, .ref el, .ref ew, .ref et, .ref er, .int lf, .int md, .ref ed, .ref ep, .int (nI pn), .int (nI sp2_14), .ref ex, .ref eu, .int (nI rn), .int la2_14])), (ep, .inl (gI G, 80, .inl (nA mt))), (ex, .inl (gI G, 40, .inl (nA mq))), (eu, .inl (gI G, 40, .inl (nA mv)))] H := hP
        have hD : va_D A [(e0, .inr (6, [.ref ea, .ref ek, .ref eh, .int hq, .ref es, .ref ei, .ref el, .ref ew, .ref et, .ref er, .int lf, .int md, .ref ed, .ref ep, .int (nI pn), .int (nI sp2_14), .ref ex, .ref eu, .int (nI rn), .int la2_14])), (ep, .inl (gI G, 80, .inl (nA mt))), (ex, .inl (gI G, 40, .inl (nA mq))), (eu, .inl (gI G, 40, .inl (nA mv)))] := hD
        refine zf_ne (tgt := 22) S dX6_readsRule_17 (by decide) (bN_31 _) (fun c_17 => ?_) (fun c_17 => ?_)
        · skip
          have c_17 := bN_ne0 c_17
          obtain ⟨h2, hla, hh2, hkh, hR2, hn2, hlt⟩ := hw_14.2.2 c_17
          obtain rfl : la2_14 = nI h2 := hla
          refine lv_iload_n hx hb dX6_readsRule_22 rfl (lv_at hl 1 rfl) ?_
          refine lv_iconst (v := nI 1) hx hb dX6_readsRule_23 (by decide +kernel) ?_
          refine lv_aload_n hx hb dX6_readsRule_24 rfl (lv_at hl 2 rfl) ?_
          refine z_get S K hP hX6_readsRule_X6 0 rfl rfl 19 (by decide) kX6_readsRule_1 rfl rfl dX6_readsRule_25 ?_
          refine zi_shl S dX6_readsRule_28 (by omega) ?_
          refine zi_or S dX6_readsRule_29 ?_
          refine lv_istore_n (lv' := [(1, .int (nI (set ||| (1 <<< h2)))), (2, .int (nI mo)), (0, .ref e0)]) hx hb dX6_readsRule_30 rfl hl (by decide) rfl (fun ls hl => ?_)
          refine lv_aload_n hx hb dX6_readsRule_31 rfl (lv_at hl 2 rfl) ?_
          refine z_get S K hP hX6_readsRule_X6 0 rfl rfl 19 (by decide) kX6_readsRule_1 rfl rfl dX6_readsRule_32 ?_
          refine lv_bipush (v := nI 11) hx hb dX6_readsRule_35 (by decide +kernel) ?_
          refine zb_ge (tgt := 53) S dX6_readsRule_37 (by decide) (by omega) (by decide) (fun c_37 => ?_) (fun c_37 => ?_)
          · skip
            refine lv_iconst (v := nI 0) hx hb dX6_readsRule_53 (by decide +kernel) ?_
            refine lv_istore_n (lv' := [(2, .int (nI 0)), (1, .int (nI (set ||| (1 <<< h2)))), (0, .ref e0)]) hx hb dX6_readsRule_54 rfl hl (by decide) rfl (fun ls hl => ?_)
            refine lv_goto (tgt := 9) hx hb dX6_readsRule_55 (by decide) ?_
            exact ih_9 sp2_14 (h2 + 1) h2 (set ||| (1 <<< h2)) 0 (by omega) (by omega) (by omega) (by first | exact Or.inl ⟨rfl, ch1_p hR2 (by omega) (by omega) (by omega)⟩ | exact Or.inr ⟨rfl, _, _, hR2, by omega, rfl, by omega, rfl, hn2, fun _ => by omega⟩) _ _ hP hD hS _ (lv_sub hl [0, 1, 2] rfl)
          · skip
            refine lv_aload_n hx hb dX6_readsRule_40 rfl (lv_at hl 2 rfl) ?_
            refine lv_bipush (v := nI 43) hx hb dX6_readsRule_41 (by decide +kernel) ?_
            refine zcVi (rest := []) S K hP hD hS hA hl.1 (c_X6_takes l G e0 ea ek eh es ei el ew et er ed ep ex eu hq lf md (nI rn) (nI h2) mt pn sp2_14 43 (by first | assumption | omega) (by first | assumption | omega) hw_14.1 (by decide)) rfl rfl gX6_readsRule_X6_takes rfl eX6_takes [0, 1] (by decide +kernel) rfl (fun _ => rfl) 6 0 rfl rfl rfl rfl rfl (Nat.le_of_ble_eq_true rfl) (Nat.le_of_ble_eq_true rfl) (Nat.le_of_ble_eq_true rfl) ⟨Nat.zero_le _, Nat.zero_le _⟩ dX6_readsRule_43 (fun r_43 u_43 H locs hw_43 hP hD hS => ?_)
            obtain ⟨hP, hD⟩ := mx_ok [some 0, some 1, none, none] (by decide +kernel) rfl rfl hP hD
            obtain ⟨sp2_43, rfl⟩ : ∃ z, z = u_43 := ⟨_, rfl⟩
            replace hw_43 : r_43 = nI (bN (decide (sp2_14 < pn ∧ mt sp2_14 = 43))) ∧ (sp2_14 < pn ∧ mt sp2_14 = 43 → sp2_43 = sp2_14 + 1) ∧ (¬ (sp2_14 < pn ∧ mt sp2_14 = 43) → sp2_43 = sp2_14) := hw_43
            obtain ⟨rfl, hw_43⟩ := hw_43
            have hP : va_P (gD G) vwCl [(e0, .inr (6, [.ref ea, .ref ek, .ref eh, .int hq, .ref es, .ref ei, .ref el, .ref ew, .ref et, .ref er, .int lf, .int md, .ref ed, .ref ep, .int (nI pn), .int (nI sp2_43), .ref ex, .ref eu, .int (nI rn), .int (nI h2)])), (ep, .inl (gI G, 80, .inl (nA mt))), (ex, .inl (gI G, 40, .inl (nA mq))), (eu, .inl (gI G, 40, .inl (nA mv)))] H := hP
            have hD : va_D A [(e0, .inr (6, [.ref ea, .ref ek, .ref eh, .int hq, .ref es, .ref ei, .ref el, .ref ew, .ref et, .ref er, .int lf, .int md, .ref ed, .ref ep, .int (nI pn), .int (nI sp2_43), .ref ex, .ref eu, .int (nI rn), .int (nI h2)])), (ep, .inl (gI G, 80, .inl (nA mt))), (ex, .inl (gI G, 40, .inl (nA mq))), (eu, .inl (gI G, 40, .inl (nA mv)))] := hD
            refine zf_eq (tgt := 53) S dX6_readsRule_46 (by decide) (bN_31 _) (fun c_46 => ?_) (fun c_46 => ?_)
            · skip
              have c_46 := of_decide_eq_false (bN_eq0 c_46)
              obtain rfl : sp2_14 = sp2_43 := Eq.symm (hw_43.2 c_46)
              refine lv_iconst (v := nI 0) hx hb dX6_readsRule_53 (by decide +kernel) ?_
              refine lv_istore_n (lv' := [(2, .int (nI 0)), (1, .int (nI (set ||| (1 <<< h2)))), (0, .ref e0)]) hx hb dX6_readsRule_54 rfl hl (by decide) rfl (fun ls hl => ?_)
              refine lv_goto (tgt := 9) hx hb dX6_readsRule_55 (by decide) ?_
              exact ih_9 sp2_14 (h2 + 1) h2 (set ||| (1 <<< h2)) 0 (by omega) (by omega) (by omega) (by first | exact Or.inl ⟨rfl, ch1_p hR2 (by omega) (by omega) (by omega)⟩ | exact Or.inr ⟨rfl, _, _, hR2, by omega, rfl, by omega, rfl, hn2, fun _ => by omega⟩) _ _ hP hD hS _ (lv_sub hl [0, 1, 2] rfl)
            · skip
              have c_46 := of_decide_eq_true (bN_ne0 c_46)
              obtain rfl : sp2_43 = sp2_14 + 1 := hw_43.1 c_46
              refine lv_iconst (v := nI 1) hx hb dX6_readsRule_49 (by decide +kernel) ?_
              refine lv_goto (tgt := 54) hx hb dX6_readsRule_50 (by decide) ?_
              refine lv_istore_n (lv' := [(2, .int (nI 1)), (1, .int (nI (set ||| (1 <<< h2)))), (0, .ref e0)]) hx hb dX6_readsRule_54 rfl hl (by decide) rfl (fun ls hl => ?_)
              refine lv_goto (tgt := 9) hx hb dX6_readsRule_55 (by decide) ?_
              exact ih_9 (sp2_14 + 1) (h2 + 1) h2 (set ||| (1 <<< h2)) 1 (by omega) (by omega) (by omega) (by first | exact Or.inl ⟨rfl, ch1_p hR2 (by omega) (by omega) (by omega)⟩ | exact Or.inr ⟨rfl, _, _, hR2, by omega, rfl, by omega, rfl, hn2, fun _ => by omega⟩) _ _ hP hD hS _ (lv_sub hl [0, 1, 2] rfl)
        · skip
          have c_17 := bN_eq0 c_17
          refine lv_iconst (v := nI 0) hx hb dX6_readsRule_20 (by decide +kernel) ?_
          exact z_zret S hrt hlk hP hD hS (false, sp2_14, rn, la2_14, mq, mv) rfl ⟨rfl, (show sp2_14 ≤ pn ∧ (false = false → FA f0 g0 mt pn sp2_14 (rn, mq, mv)) ∧ (false = true → (∃ k2 h2 s2, runP f0 g0 mt sp2_14 = some (3, k2, h2, s2, rn, mq, mv)) ∧ sp < sp2_14) from ⟨by first | exact hw_14.1 | omega, fun _ => (by first | exact hw_14.2.1 c_17 | exact ch2_f hR2 (by omega) (fun _ => by omega) | exact ch1_f2 hR1 hs1.2 hn2 (fun q z => by have := hn3 q; omega)), (fun q => by cases q)⟩)⟩ (z_bnar false) dX6_readsRule_21
  exact lp_9 _ sp 0 h 0 1 (Nat.lt_succ_self _) (by omega) (by omega) (Or.inl ⟨rfl, hR⟩) _ _ hP hD hS _ (lv_sub hl [0, 1, 2] rfl)
set_option maxHeartbeats 4000000 in
set_option maxRecDepth 100000 in
theorem c_X6_fault (l : Launch) (G : gT) (e0 ea ek eh es ei el ew et er ed ep ex eu : Nat) (hq : Int32) (lf : Int32) (md : Int32) (sp : Int32) (rm : Int32) (la : Int32) (mt : Nat → Nat) (mq : Nat → Nat) (mv : Nat → Nat) (pn : Nat) (hpn : pn ≤ 80) (hch : ∀ j, j < pn → mt j < 127) : CI l yX6_fault wsX6_fault ({ frames := 4, cells := 0, slots := 0, locals := 92 } : Room) G [.ref e0] [(e0, .inr (6, [.ref ea, .ref ek, .ref eh, .int hq, .ref es, .ref ei, .ref el, .ref ew, .ref et, .ref er, .int lf, .int md, .ref ed, .ref ep, .int (nI pn), .int sp, .ref ex, .ref eu, .int rm, .int la])), (ep, .inl (gI G, 80, .inl (nA mt))), (ex, .inl (gI G, 40, .inl (nA mq))), (eu, .inl (gI G, 40, .inl (nA mv)))] 0 0 (fun (r : Int32) (u : Nat × Nat × Int32 × (Nat → Nat) × (Nat → Nat)) => FT mq mv mt pn r u.2.1 u.2.2.2.1 u.2.2.2.2) (fun (u : Nat × Nat × Int32 × (Nat → Nat) × (Nat → Nat)) => [(e0, .inr (6, [.ref ea, .ref ek, .ref eh, .int hq, .ref es, .ref ei, .ref el, .ref ew, .ref et, .ref er, .int lf, .int md, .ref ed, .ref ep, .int (nI pn), .int (nI u.1), .ref ex, .ref eu, .int (nI u.2.1), .int u.2.2.1])), (ep, .inl (gI G, 80, .inl (nA mt))), (ex, .inl (gI G, 40, .inl (nA u.2.2.2.1))), (eu, .inl (gI G, 40, .inl (nA u.2.2.2.2)))]) := by
  refine CI.of (cc := cX6_fault) (maxL := 2) (ret := (some .int)) (by decide +kernel) rfl (Nat.le_of_ble_eq_true rfl) rfl (fun p e s m args below meth c A S hrt hlk hnm K hA hP hD hS ls hl => ?_)
  have hx := S.1
  have hb := S.2.1
  have hl : lv_has ls 2 [(0, .ref e0)] := hl
  refine lv_aload_n hx hb dX6_fault_0 rfl (lv_at hl 0 rfl) ?_
  refine lv_iconst (v := nI 0) hx hb dX6_fault_1 (by decide +kernel) ?_
  refine z_put S K hP hD hS (ty0 := tyX6) hX6_fault_X6 tyX6_ok nmX6 0 rfl rfl 15 (by decide) kX6_fault_1 rfl rfl rfl rfl (Nat.le_of_ble_eq_true rfl) dX6_fault_2 (fun H locs hP hD hS => ?_)
  have hP : va_P (gD G) vwCl [(e0, .inr (6, [.ref ea, .ref ek, .ref eh, .int hq, .ref es, .ref ei, .ref el, .ref ew, .ref et, .ref er, .int lf, .int md, .ref ed, .ref ep, .int (nI pn), .int (nI 0), .ref ex, .ref eu, .int rm, .int la])), (ep, .inl (gI G, 80, .inl (nA mt))), (ex, .inl (gI G, 40, .inl (nA mq))), (eu, .inl (gI G, 40, .inl (nA mv)))] H := hP
  have hD : va_D A [(e0, .inr (6, [.ref ea, .ref ek, .ref eh, .int hq, .ref es, .ref ei, .ref el, .ref ew, .ref et, .ref er, .int lf, .int md, .ref ed, .ref ep, .int (nI pn), .int (nI 0), .ref ex, .ref eu, .int rm, .int la])), (ep, .inl (gI G, 80, .inl (nA mt))), (ex, .inl (gI G, 40, .inl (nA mq))), (eu, .inl (gI G, 40, .inl (nA mv)))] := hD
  refine lv_aload_n hx hb dX6_fault_5 rfl (lv_at hl 0 rfl) ?_
  refine lv_iconst (v := nI 0) hx hb dX6_fault_6 (by decide +kernel) ?_
  refine z_put S K hP hD hS (ty0 := tyX6) hX6_fault_X6 tyX6_ok nmX6 0 rfl rfl 18 (by decide) kX6_fault_2 rfl rfl rfl rfl (Nat.le_of_ble_eq_true rfl) dX6_fault_7 (fun H locs hP hD hS => ?_)
  have hP : va_P (gD G) vwCl [(e0, .inr (6, [.ref ea, .ref ek, .ref eh, .int hq, .ref es, .ref ei, .ref el, .ref ew, .ref et, .ref er, .int lf, .int md, .ref ed, .ref ep, .int (nI pn), .int (nI 0), .ref ex, .ref eu, .int (nI 0), .int la])), (ep, .inl (gI G, 80, .inl (nA mt))), (ex, .inl (gI G, 40, .inl (nA mq))), (eu, .inl (gI G, 40, .inl (nA mv)))] H := hP
  have hD : va_D A [(e0, .inr (6, [.ref ea, .ref ek, .ref eh, .int hq, .ref es, .ref ei, .ref el, .ref ew, .ref et, .ref er, .int lf, .int md, .ref ed, .ref ep, .int (nI pn), .int (nI 0), .ref ex, .ref eu, .int (nI 0), .int la])), (ep, .inl (gI G, 80, .inl (nA mt))), (ex, .inl (gI G, 40, .inl (nA mq))), (eu, .inl (gI G, 40, .inl (nA mv)))] := hD
  refine lv_iconst (v := nI 1) hx hb dX6_fault_10 (by decide +kernel) ?_
  refine lv_istore_n (lv' := [(1, .int (nI 1)), (0, .ref e0)]) hx hb dX6_fault_11 rfl hl (by decide) rfl (fun ls hl => ?_)
  have lp_12 : ∀ (n_12 : Nat) (sp1 : Nat) (h : Nat) (rn : Nat) (mo : Nat) (la1 : Int32) (mq1 : Nat → Nat) (mv1 : Nat → Nat), pn - sp1 < n_12 → (mo ≤ 1) → (sp1 ≤ pn) → ((mo = 1 ∧ runP mq mv mt sp1 = some (0, 0, h, 0, rn, mq1, mv1)) ∨ (mo = 0 ∧ (∃ k2 s2, runP mq mv mt sp1 = some (3, k2, h, s2, rn, mq1, mv1)) ∧ ¬ (sp1 < pn ∧ mt sp1 = 59))) → ∀ (H : Heap) (locs : List Loc), va_P (gD G) vwCl [(e0, .inr (6, [.ref ea, .ref ek, .ref eh, .int hq, .ref es, .ref ei, .ref el, .ref ew, .ref et, .ref er, .int lf, .int md, .ref ed, .ref ep, .int (nI pn), .int (nI sp1), .ref ex, .ref eu, .int (nI rn), .int la1])), (ep, .inl (gI G, 80, .inl (nA mt))), (ex, .inl (gI G, 40, .inl (nA mq1))), (eu, .inl (gI G, 40, .inl (nA mv1)))] H → va_D A [(e0, .inr (6, [.ref ea, .ref ek, .ref eh, .int hq, .ref es, .ref ei, .ref el, .ref ew, .ref et, .ref er, .int lf, .int md, .ref ed, .ref ep, .int (nI pn), .int (nI sp1), .ref ex, .ref eu, .int (nI rn), .int la1])), (ep, .inl (gI G, 80, .inl (nA mt))), (ex, .inl (gI G, 40, .inl (nA mq1))), (eu, .inl (gI G, 40, .inl (nA mv1)))] → va_S A s.heap H locs → ∀ ls : Array Slot, lv_has ls 2 [(1, .int (nI mo)), (0, .ref e0)] → W p l e ({ frames := 4, cells := 0, slots := 0, locals := 92 } : Room) s m args below meth c H locs 0 0 (MQ below (va_Qi (fun (r : Int32) (u : Nat × Nat × Int32 × (Nat → Nat) × (Nat → Nat)) => FT mq mv mt pn r u.2.1 u.2.2.2.1 u.2.2.2.2) (cB G A (fun (u : Nat × Nat × Int32 × (Nat → Nat) × (Nat → Nat)) => [(e0, .inr (6, [.ref ea, .ref ek, .ref eh, .int hq, .ref es, .ref ei, .ref el, .ref ew, .ref et, .ref er, .int lf, .int md, .ref ed, .ref ep, .int (nI pn), .int (nI u.1), .ref ex, .ref eu, .int (nI u.2.1), .int u.2.2.1])), (ep, .inl (gI G, 80, .inl (nA mt))), (ex, .inl (gI G, 40, .inl (nA u.2.2.2.1))), (eu, .inl (gI G, 40, .inl (nA u.2.2.2.2)))])) A) args s 0 0 A) (F0 m 12 ls []) := by
    intro n_12
    induction n_12 with
    | zero =>
      intro sp1 h rn mo la1 mq1 mv1 h0
      exact absurd h0 (Nat.not_lt_zero _)
    | succ n_12 ih_12 =>
      intro sp1 h rn mo la1 mq1 mv1 hm_12 hmo hs1 hI H locs hP hD hS ls hl
      refine lv_iload_n hx hb dX6_fault_12 rfl (lv_at hl 0 rfl) ?_
      refine zf_eq (tgt := 38) S dX6_fault_13 (by decide) (by omega) (fun c_13 => ?_) (fun c_13 => ?_)
      · skip
        obtain ⟨⟨k2, s2, hR1⟩, hn2⟩ : (∃ k2 s2, runP mq mv mt sp1 = some (3, k2, h, s2, rn, mq1, mv1)) ∧ ¬ (sp1 < pn ∧ mt sp1 = 59) := by rcases hI with ⟨q, -⟩ | ⟨-, q⟩; exact absurd (q.symm.trans c_13) (by decide); exact q
        refine lv_aload_n hx hb dX6_fault_38 rfl (lv_at hl 1 rfl) ?_
        refine z_get S K hP hX6_fault_X6 0 rfl rfl 15 (by decide) kX6_fault_1 rfl rfl dX6_fault_39 ?_
        refine lv_aload_n hx hb dX6_fault_42 rfl (lv_at hl 1 rfl) ?_
        refine z_get S K hP hX6_fault_X6 0 rfl rfl 14 (by decide) kX6_fault_3 rfl rfl dX6_fault_43 ?_
        refine zb_ne (tgt := 54) S dX6_fault_46 (by decide) (by omega) (by omega) (fun c_46 => ?_) (fun c_46 => ?_)
        · skip
          refine lv_aload_n hx hb dX6_fault_54 rfl (lv_at hl 1 rfl) ?_
          refine z_get S K hP hX6_fault_X6 0 rfl rfl 15 (by decide) kX6_fault_1 rfl rfl dX6_fault_55 ?_
          exact z_iret S hrt hlk hP hD hS (sp1, rn, la1, mq1, mv1) rfl (ch3_n hR1 (by omega) (fun q => hn2 ⟨by omega, q⟩)) dX6_fault_58
        · skip
          refine lv_bipush (v := -6) hx hb dX6_fault_49 (by decide +kernel) ?_
          refine lv_goto (tgt := 58) hx hb dX6_fault_51 (by decide) ?_
          exact z_iret S hrt hlk hP hD hS (sp1, rn, la1, mq1, mv1) rfl (ch3_e hR1 c_46) dX6_fault_58
      · skip
        have hR1 : runP mq mv mt sp1 = some (0, 0, h, 0, rn, mq1, mv1) := by rcases hI with ⟨-, q⟩ | ⟨q, -⟩; exact q; exact absurd q c_13
        refine lv_aload_n hx hb dX6_fault_16 rfl (lv_at hl 1 rfl) ?_
        refine zcVi (rest := []) S K hP hD hS hA hl.1 (c_X6_readsRule l G e0 ea ek eh es ei el ew et er ed ep ex eu hq lf md la1 mt mq mv mq1 mv1 pn sp1 h rn (by first | assumption | omega) (by first | assumption | omega) hs1 hR1) rfl rfl gX6_fault_X6_readsRule rfl eX6_readsRule [0, 1, 2, 3] (by decide +kernel) rfl (fun _ => rfl) 6 0 rfl rfl rfl rfl rfl (Nat.le_of_ble_eq_true rfl) (Nat.le_of_ble_eq_true rfl) (Nat.le_of_ble_eq_true rfl) ⟨Nat.zero_le _, Nat.zero_le _⟩ dX6_fault_17 (fun r_17 u_17 H locs hw_17 hP hD hS => ?_)
        obtain ⟨hP, hD⟩ := mx_ok [some 0, some 1, some 2, some 3] (by decide +kernel) rfl rfl hP hD
        obtain ⟨b_17, sp2_17, m2_17, la2_17, mq2_17, mv2_17⟩ := u_17
        replace hw_17 : r_17 = nI (bN b_17) ∧ sp2_17 ≤ pn ∧ (b_17 = false → FA mq mv mt pn sp2_17 (m2_17, mq2_17, mv2_17)) ∧ (b_17 = true → (∃ k2 h2 s2, runP mq mv mt sp2_17 = some (3, k2, h2, s2, m2_17, mq2_17, mv2_17)) ∧ sp1 < sp2_17) := hw_17
        obtain ⟨rfl, hw_17⟩ := hw_17
        have hP : va_P (gD G) vwCl [(e0, .inr (6, [.ref ea, .ref ek, .ref eh, .int hq, .ref es, .ref ei, .ref el, .ref ew, .ref et, .ref er, .int lf, .int md, .ref ed, .ref ep, .int (nI pn), .int (nI sp2_17), .ref ex, .ref eu, .int (nI m2_17), .int la2_17])), (ep, .inl (gI G, 80, .inl (nA mt))), (ex, .inl (gI G, 40, .inl (nA mq2_17))), (eu, .inl (gI G, 40, .inl (nA mv2_17)))] H := hP
        have hD : va_D A [(e0, .inr (6, [.ref ea, .ref ek, .ref eh, .int hq, .ref es, .ref ei, .ref el, .ref ew, .ref et, .ref er, .int lf, .int md, .ref ed, .ref ep, .int (nI pn), .int (nI sp2_17), .ref ex, .ref eu, .int (nI m2_17), .int la2_17])), (ep, .inl (gI G, 80, .inl (nA mt))), (ex, .inl (gI G, 40, .inl (nA mq2_17))), (eu, .inl (gI G, 40, .inl (nA mv2_17)))] := hD
        refine zf_ne (tgt := 28) S dX6_fault_20 (by decide) (bN_31 _) (fun c_20 => ?_) (fun c_20 => ?_)
        · skip
          have c_20 := bN_ne0 c_20
          obtain ⟨⟨k2, h2, s2, hR2⟩, hlt⟩ := hw_17.2.2 c_20
          refine lv_aload_n hx hb dX6_fault_28 rfl (lv_at hl 1 rfl) ?_
          refine lv_bipush (v := nI 59) hx hb dX6_fault_29 (by decide +kernel) ?_
          refine zcVi (rest := []) S K hP hD hS hA hl.1 (c_X6_takes l G e0 ea ek eh es ei el ew et er ed ep ex eu hq lf md (nI m2_17) la2_17 mt pn sp2_17 59 (by first | assumption | omega) (by first | assumption | omega) hw_17.1 (by decide)) rfl rfl gX6_fault_X6_takes rfl eX6_takes [0, 1] (by decide +kernel) rfl (fun _ => rfl) 6 0 rfl rfl rfl rfl rfl (Nat.le_of_ble_eq_true rfl) (Nat.le_of_ble_eq_true rfl) (Nat.le_of_ble_eq_true rfl) ⟨Nat.zero_le _, Nat.zero_le _⟩ dX6_fault_31 (fun r_31 u_31 H locs hw_31 hP hD hS => ?_)
          obtain ⟨hP, hD⟩ := mx_ok [some 0, some 1, none, none] (by decide +kernel) rfl rfl hP hD
          obtain ⟨sp2_31, rfl⟩ : ∃ z, z = u_31 := ⟨_, rfl⟩
          replace hw_31 : r_31 = nI (bN (decide (sp2_17 < pn ∧ mt sp2_17 = 59))) ∧ (sp2_17 < pn ∧ mt sp2_17 = 59 → sp2_31 = sp2_17 + 1) ∧ (¬ (sp2_17 < pn ∧ mt sp2_17 = 59) → sp2_31 = sp2_17) := hw_31
          obtain ⟨rfl, hw_31⟩ := hw_31
          have hP : va_P (gD G) vwCl [(e0, .inr (6, [.ref ea, .ref ek, .ref eh, .int hq, .ref es, .ref ei, .ref el, .ref ew, .ref et, .ref er, .int lf, .int md, .ref ed, .ref ep, .int (nI pn), .int (nI sp2_31), .ref ex, .ref eu, .int (nI m2_17), .int la2_17])), (ep, .inl (gI G, 80, .inl (nA mt))), (ex, .inl (gI G, 40, .inl (nA mq2_17))), (eu, .inl (gI G, 40, .inl (nA mv2_17)))] H := hP
          have hD : va_D A [(e0, .inr (6, [.ref ea, .ref ek, .ref eh, .int hq, .ref es, .ref ei, .ref el, .ref ew, .ref et, .ref er, .int lf, .int md, .ref ed, .ref ep, .int (nI pn), .int (nI sp2_31), .ref ex, .ref eu, .int (nI m2_17), .int la2_17])), (ep, .inl (gI G, 80, .inl (nA mt))), (ex, .inl (gI G, 40, .inl (nA mq2_17))), (eu, .inl (gI G, 40, .inl (nA mv2_17)))] := hD
          refine lv_istore_n (lv' := [(1, .int (nI (bN (decide (sp2_17 < pn ∧ mt sp2_17 = 59))))), (0, .ref e0)]) hx hb dX6_fault_34 rfl hl (by decide) rfl (fun ls hl => ?_)
          refine lv_goto (tgt := 12) hx hb dX6_fault_35 (by decide) ?_
          exact ih_12 sp2_31 h2 m2_17 (bN (decide (sp2_17 < pn ∧ mt sp2_17 = 59))) la2_17 mq2_17 mv2_17 (by by_cases q : sp2_17 < pn ∧ mt sp2_17 = 59; rw [hw_31.1 q]; omega; rw [hw_31.2 q]; omega) (bN_le _) (by by_cases q : sp2_17 < pn ∧ mt sp2_17 = 59; rw [hw_31.1 q]; omega; rw [hw_31.2 q]; exact hw_17.1) (ch3_b hR2 hw_31) _ _ hP hD hS _ (lv_sub hl [0, 1] rfl)
        · skip
          have c_20 := bN_eq0 c_20
          refine lv_aload_n hx hb dX6_fault_23 rfl (lv_at hl 1 rfl) ?_
          refine z_get S K hP hX6_fault_X6 0 rfl rfl 15 (by decide) kX6_fault_1 rfl rfl dX6_fault_24 ?_
          exact z_iret S hrt hlk hP hD hS (sp2_17, m2_17, la2_17, mq2_17, mv2_17) rfl (fa_ft (hw_17.2.1 c_20)) dX6_fault_27
  exact lp_12 _ 0 0 0 1 la mq mv (Nat.lt_succ_self _) (by omega) (by omega) (Or.inl ⟨rfl, rfl⟩) _ _ hP hD hS _ (lv_sub hl [0, 1] rfl)
