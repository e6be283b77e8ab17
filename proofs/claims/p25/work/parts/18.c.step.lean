set_option maxHeartbeats 4000000 in
set_option maxRecDepth 100000 in
theorem k_isStep (l : Launch) (G : gT) (x0 y0 wp wq ot : Nat) (wa wb : va_W) (x : Int32) (hw9 : 2 ≤ wp + wq ∧ wp + wq ≤ 9) (hot : ot < 2 ^ (wp + wq)) (hW : LW G wp wq ot x0 y0 wa wb) : CI l yL_isStep wsL_isStep ({ frames := 5, cells := 0, slots := 0, locals := 115 } : Room) G [.ref x0, .ref y0, .int (nI (wp + wq)), .int (nI wp), .int (nI ot), .int x] (wa ++ wb) 0 0 (fun (r : Int32) (u : WU × WU) => r = nI 1 ∧ LW G wp wq ot x0 y0 u.1.1 u.2.1) (fun (u : WU × WU) => u.1.1 ++ u.2.1) := by
  refine CI.of (cc := cL_isStep) (maxL := 13) (ret := (some .boolean)) (by decide +kernel) rfl (Nat.le_of_ble_eq_true rfl) rfl (fun p e s m args below meth c A S hrt hlk hnm K hA hP hD hS ls hl => ?_)
  have hx := S.1
  have hb := S.2.1
  have hl : lv_has ls 13 [(0, .ref x0), (1, .ref y0), (2, .int (nI (wp + wq))), (3, .int (nI wp)), (4, .int (nI ot)), (5, .int x)] := hl
  obtain ⟨R, h, hOa, hOb, hL⟩ := hW
  have hT := hOa.tab
  have hR := hT.1
  have hc : R.1 = wp + wq := hL.1
  have hn20 : R.2.1 ≤ 20 := hR.2.2.1
  have h6 : h.1 ≤ 6 := hT.2.1
  have h1s : 1 <<< (wp + wq) = 2 ^ (wp + wq) := Nat.one_shiftLeft _
  have hp9 : 2 ^ (wp + wq) ≤ 2 ^ 9 := Nat.pow_le_pow_right (by decide) hw9.2
  have hp9 : 2 ^ (wp + wq) ≤ 512 := hp9
  have hp4 : 2 ^ 2 ≤ 2 ^ (wp + wq) := Nat.pow_le_pow_right (by decide) hw9.1
  have hp4 : 4 ≤ 2 ^ (wp + wq) := hp4
  refine lv_iload hx hb dL_isStep_0 (lv_at hl 5 rfl) ?_
  refine lv_iconst (v := nI 4) hx hb dL_isStep_2 (by decide +kernel) ?_
  refine lv_ishr hx hb dL_isStep_3 ?_
  obtain ⟨xy, hxy⟩ : ∃ z, z = x >>> (nI 4 &&& 31) := ⟨_, rfl⟩
  refine z_top (y := xy) hxy.symm ?_
  refine lv_istore (lv' := [(6, .int xy), (0, .ref x0), (1, .ref y0), (2, .int (nI (wp + wq))), (3, .int (nI wp)), (4, .int (nI ot)), (5, .int x)]) hx hb dL_isStep_4 hl (by decide) rfl (fun ls hl => ?_)
  refine lv_aload_n hx hb dL_isStep_6 rfl (lv_at hl 1 rfl) ?_
  refine lv_iconst (v := nI 0) hx hb dL_isStep_7 (by decide +kernel) ?_
  refine zoa (rest := []) S K hP hD hS hA hl.1 (F_X5_count l G x0 R h wa (nI 0) hOa) rfl rfl gL_isStep_X5_count rfl eX5_count hOa.len hOa.hd rfl rfl (Nat.le_of_ble_eq_true rfl) (Nat.le_of_ble_eq_true rfl) (Nat.le_of_ble_eq_true rfl) ⟨Nat.zero_le _, Nat.zero_le _⟩ dL_isStep_8 (fun r u H locs hw hP hD hS => ?_)
  obtain ⟨wa, hz_⟩ := u
  obtain ⟨rfl, hOa⟩ := hw
  have hOa : OI G x0 R h wa := hOa
  have hP : va_P (gD G) vwCl (wa ++ wb) H := hP
  have hD : va_D A (wa ++ wb) := hD
  refine z_top (y := (nI R.2.1)) vc_0 ?_
  refine lv_istore (lv' := [(7, .int (nI R.2.1)), (6, .int xy), (0, .ref x0), (1, .ref y0), (2, .int (nI (wp + wq))), (3, .int (nI wp)), (4, .int (nI ot)), (5, .int x)]) hx hb dL_isStep_11 hl (by decide) rfl (fun ls hl => ?_)
  refine lv_iload hx hb dL_isStep_13 (lv_at hl 7 rfl) ?_
  refine lv_bipush (v := nI 14) hx hb dL_isStep_15 (by decide +kernel) ?_
  refine zos (rest := []) S K hP hD hS hA hl.1 (k_up l G x 14 (by omega) (by omega)) rfl rfl gL_isStep_L_up rfl eL_up.2 rfl rfl (Nat.le_of_ble_eq_true rfl) (Nat.le_of_ble_eq_true rfl) (Nat.le_of_ble_eq_true rfl) ⟨Nat.zero_le _, Nat.zero_le _⟩ dL_isStep_17 (fun r H locs hw hP hD hS => ?_)
  obtain ⟨_, rfl⟩ := hw
  obtain ⟨of, hof⟩ : ∃ z, z = upN x 14 := ⟨_, rfl⟩
  refine z_top (y := nI of) (congrArg nI hof.symm) ?_
  have hof1 : of < 14 := by rw [hof]; exact up_lt _ (by decide)
  refine lv_istore (lv' := [(8, .int (nI of)), (7, .int (nI R.2.1)), (6, .int xy), (0, .ref x0), (1, .ref y0), (2, .int (nI (wp + wq))), (3, .int (nI wp)), (4, .int (nI ot)), (5, .int x)]) hx hb dL_isStep_20 hl (by decide) rfl (fun ls hl => ?_)
  refine lv_iload hx hb dL_isStep_22 (lv_at hl 0 rfl) ?_
  refine lv_bipush (v := nI 7) hx hb dL_isStep_24 (by decide +kernel) ?_
  refine zb_ge (tgt := 128) S dL_isStep_26 (by decide) (by omega) (by decide) (fun c_26 => ?_) (fun c_26 => ?_)
  · skip
    refine lv_iload hx hb dL_isStep_128 (lv_at hl 2 rfl) ?_
    refine lv_iload hx hb dL_isStep_130 (lv_at hl 1 rfl) ?_
    refine lv_iconst (v := nI 1) hx hb dL_isStep_132 (by decide +kernel) ?_
    refine zi_add S dL_isStep_133 ?_
    refine zos (rest := []) S K hP hD hS hA hl.1 (k_up l G xy (R.2.1 + 1) (by omega) (by omega)) rfl rfl gL_isStep_L_up rfl eL_up.2 rfl rfl (Nat.le_of_ble_eq_true rfl) (Nat.le_of_ble_eq_true rfl) (Nat.le_of_ble_eq_true rfl) ⟨Nat.zero_le _, Nat.zero_le _⟩ dL_isStep_134 (fun r H locs hw hP hD hS => ?_)
    obtain ⟨_, rfl⟩ := hw
    obtain ⟨ii, hii⟩ : ∃ z, z = upN xy (R.2.1 + 1) := ⟨_, rfl⟩
    refine z_top (y := nI ii) (congrArg nI hii.symm) ?_
    have hii : ii ≤ R.2.1 := by have := up_lt xy (n := R.2.1 + 1) (by omega); omega
    refine lv_istore (lv' := [(9, .int (nI ii)), (8, .int (nI of)), (7, .int (nI R.2.1)), (6, .int xy), (0, .ref x0), (1, .ref y0), (2, .int (nI (wp + wq))), (3, .int (nI wp)), (4, .int (nI ot)), (5, .int x)]) hx hb dL_isStep_137 hl (by decide) rfl (fun ls hl => ?_)
    refine lv_iload hx hb dL_isStep_139 (lv_at hl 3 rfl) ?_
    refine lv_iconst (v := nI 5) hx hb dL_isStep_141 (by decide +kernel) ?_
    refine lv_ishr hx hb dL_isStep_142 ?_
    obtain ⟨xz, hxz⟩ : ∃ z, z = xy >>> (nI 5 &&& 31) := ⟨_, rfl⟩
    refine z_top (y := xz) hxz.symm ?_
    refine lv_iload hx hb dL_isStep_143 (lv_at hl 2 rfl) ?_
    refine lv_iconst (v := nI 1) hx hb dL_isStep_145 (by decide +kernel) ?_
    refine zi_add S dL_isStep_146 ?_
    refine zos (rest := []) S K hP hD hS hA hl.1 (k_up l G xz (R.2.1 + 1) (by omega) (by omega)) rfl rfl gL_isStep_L_up rfl eL_up.2 rfl rfl (Nat.le_of_ble_eq_true rfl) (Nat.le_of_ble_eq_true rfl) (Nat.le_of_ble_eq_true rfl) ⟨Nat.zero_le _, Nat.zero_le _⟩ dL_isStep_147 (fun r H locs hw hP hD hS => ?_)
    obtain ⟨_, rfl⟩ := hw
    obtain ⟨kk, hkk⟩ : ∃ z, z = upN xz (R.2.1 + 1) := ⟨_, rfl⟩
    refine z_top (y := nI kk) (congrArg nI hkk.symm) ?_
    have hkk : kk ≤ R.2.1 := by have := up_lt xz (n := R.2.1 + 1) (by omega); omega
    refine lv_istore (lv' := [(10, .int (nI kk)), (9, .int (nI ii)), (8, .int (nI of)), (7, .int (nI R.2.1)), (6, .int xy), (0, .ref x0), (1, .ref y0), (2, .int (nI (wp + wq))), (3, .int (nI wp)), (4, .int (nI ot)), (5, .int x)]) hx hb dL_isStep_150 hl (by decide) rfl (fun ls hl => ?_)
    refine lv_iload hx hb dL_isStep_152 (lv_at hl 2 rfl) ?_
    refine lv_bipush (v := nI 9) hx hb dL_isStep_154 (by decide +kernel) ?_
    refine zb_ge (tgt := 180) S dL_isStep_156 (by decide) (by omega) (by decide) (fun c_156 => ?_) (fun c_156 => ?_)
    · skip
      refine lv_iload hx hb dL_isStep_180 (lv_at hl 2 rfl) ?_
      refine lv_bipush (v := nI 12) hx hb dL_isStep_182 (by decide +kernel) ?_
      refine zb_ge (tgt := 251) S dL_isStep_184 (by decide) (by omega) (by decide) (fun c_184 => ?_) (fun c_184 => ?_)
      · skip
        refine lv_iload hx hb dL_isStep_251 (lv_at hl 2 rfl) ?_
        refine lv_bipush (v := nI 13) hx hb dL_isStep_253 (by decide +kernel) ?_
        refine zb_ge (tgt := 341) S dL_isStep_255 (by decide) (by omega) (by decide) (fun c_255 => ?_) (fun c_255 => ?_)
        · skip
          refine lv_aload_n hx hb dL_isStep_341 rfl (lv_at hl 5 rfl) ?_
          refine lv_bipush (v := nI 8) hx hb dL_isStep_342 (by decide +kernel) ?_
          refine zoa (rest := []) S K hP hD hS hA hl.1 (F_X5_count l G x0 R h wa (nI 8) hOa) rfl rfl gL_isStep_X5_count rfl eX5_count hOa.len hOa.hd rfl rfl (Nat.le_of_ble_eq_true rfl) (Nat.le_of_ble_eq_true rfl) (Nat.le_of_ble_eq_true rfl) ⟨Nat.zero_le _, Nat.zero_le _⟩ dL_isStep_344 (fun r u H locs hw hP hD hS => ?_)
          obtain ⟨wa, hz_⟩ := u
          obtain ⟨rfl, hOa⟩ := hw
          have hOa : OI G x0 R h wa := hOa
          have hP : va_P (gD G) vwCl (wa ++ wb) H := hP
          have hD : va_D A (wa ++ wb) := hD
          refine z_top (y := (nI h.1)) cnt_8.symm ?_
          refine lv_iconst (v := nI 2) hx hb dL_isStep_347 (by decide +kernel) ?_
          refine zb_lt (tgt := 362) S dL_isStep_348 (by decide) (by omega) (by decide) (fun c_348 => ?_) (fun c_348 => ?_)
          · skip
            refine lv_iconst (v := nI 1) hx hb dL_isStep_362 (by decide +kernel) ?_
            refine lv_goto (tgt := 367) hx hb dL_isStep_363 (by decide) ?_
            exact z_zret S hrt hlk hP hD hS (⟨wa, hOa.len⟩, ⟨wb, hOb.len⟩) rfl ⟨rfl, ⟨_, _, hOa, hOb, hL⟩⟩ (z_bnar true) dL_isStep_367
          · skip
            refine lv_aload_n hx hb dL_isStep_351 rfl (lv_at hl 5 rfl) ?_
            refine zoa (rest := []) S K hP hD hS hA hl.1 (F_X5_undo l G x0 R h wa hOa) rfl rfl gL_isStep_X5_undo rfl eX5_undo hOa.len hOa.hd rfl rfl (Nat.le_of_ble_eq_true rfl) (Nat.le_of_ble_eq_true rfl) (Nat.le_of_ble_eq_true rfl) ⟨Nat.zero_le _, Nat.zero_le _⟩ dL_isStep_352 (fun r u H locs hw hP hD hS => ?_)
            obtain ⟨wa, hz_⟩ := u
            obtain ⟨rfl, hOa⟩ := hw
            have hOa : OI G x0 ((n_undo R h).1) ((n_undo R h).2) wa := hOa
            have hP : va_P (gD G) vwCl (wa ++ wb) H := hP
            have hD : va_D A (wa ++ wb) := hD
            refine lv_aload_n hx hb dL_isStep_355 rfl (lv_at hl 6 rfl) ?_
            refine zob (rest := [.int (r_undo h)]) S K hP hD hS hA hl.1 (F_X5_undo l G y0 (trR wp wq ot R) (trH wp wq ot h) wb hOb) rfl rfl gL_isStep_X5_undo rfl eX5_undo hOb.len hOb.hd rfl rfl (Nat.le_of_ble_eq_true rfl) (Nat.le_of_ble_eq_true rfl) (Nat.le_of_ble_eq_true rfl) ⟨Nat.zero_le _, Nat.zero_le _⟩ dL_isStep_356 (fun r u H locs hw hP hD hS => ?_)
            obtain ⟨wb, hz_⟩ := u
            obtain ⟨rfl, hOb⟩ := hw
            have hOb : OI G y0 ((n_undo (trR wp wq ot R) (trH wp wq ot h)).1) ((n_undo (trR wp wq ot R) (trH wp wq ot h)).2) wb := hOb
            have hP : va_P (gD G) vwCl (wa ++ wb) H := hP
            have hD : va_D A (wa ++ wb) := hD
            obtain ⟨e1, e2⟩ := a_undo (p := wp) (q := wq) (o := ot) (R := R) (h := h)
            refine zd_ne (tgt := 366) S dL_isStep_359 (by decide) e1.symm ?_
            refine lv_iconst (v := nI 1) hx hb dL_isStep_362 (by decide +kernel) ?_
            refine lv_goto (tgt := 367) hx hb dL_isStep_363 (by decide) ?_
            rw [e2] at hOb
            exact z_zret S hrt hlk hP hD hS (⟨wa, hOa.len⟩, ⟨wb, hOb.len⟩) rfl ⟨rfl, ⟨_, _, hOa, hOb, lm_undo hL c_348⟩⟩ (z_bnar true) dL_isStep_367
        · skip
          refine lv_iload hx hb dL_isStep_258 (lv_at hl 1 rfl) ?_
          refine lv_iload hx hb dL_isStep_260 (lv_at hl 3 rfl) ?_
          refine zb_ge (tgt := 275) S dL_isStep_262 (by decide) (by omega) (by omega) (fun c_262 => ?_) (fun c_262 => ?_)
          · skip
            refine lv_iconst (v := nI 0) hx hb dL_isStep_275 (by decide +kernel) ?_
            refine lv_istore (lv' := [(11, .int (nI 0)), (10, .int (nI kk)), (9, .int (nI ii)), (8, .int (nI of)), (7, .int (nI R.2.1)), (6, .int xy), (0, .ref x0), (1, .ref y0), (2, .int (nI (wp + wq))), (3, .int (nI wp)), (4, .int (nI ot)), (5, .int x)]) hx hb dL_isStep_276 hl (by decide) rfl (fun ls hl => ?_)
            refine lv_aload_n hx hb dL_isStep_278 rfl (lv_at hl 6 rfl) ?_
            refine lv_iload hx hb dL_isStep_279 (lv_at hl 2 rfl) ?_
            refine zoa (rest := []) S K hP hD hS hA hl.1 (F_X5_turn l G x0 R h wa (nI ii) hOa) rfl rfl gL_isStep_X5_turn rfl eX5_turn hOa.len hOa.hd rfl rfl (Nat.le_of_ble_eq_true rfl) (Nat.le_of_ble_eq_true rfl) (Nat.le_of_ble_eq_true rfl) ⟨Nat.zero_le _, Nat.zero_le _⟩ dL_isStep_281 (fun r u H locs hw hP hD hS => ?_)
            obtain ⟨wa, hz_⟩ := u
            obtain ⟨rfl, hOa⟩ := hw
            have hOa : OI G x0 ((n_turn R h (nI ii)).1) ((n_turn R h (nI ii)).2) wa := hOa
            have hP : va_P (gD G) vwCl (wa ++ wb) H := hP
            have hD : va_D A (wa ++ wb) := hD
            refine lv_istore (lv' := [(12, .int (r_turn R (nI ii))), (11, .int (nI 0)), (10, .int (nI kk)), (9, .int (nI ii)), (8, .int (nI of)), (7, .int (nI R.2.1)), (6, .int xy), (0, .ref x0), (1, .ref y0), (2, .int (nI (wp + wq))), (3, .int (nI wp)), (4, .int (nI ot)), (5, .int x)]) hx hb dL_isStep_284 hl (by decide) rfl (fun ls hl => ?_)
            refine lv_iload hx hb dL_isStep_286 (lv_at hl 0 rfl) ?_
            refine lv_aload_n hx hb dL_isStep_288 rfl (lv_at hl 8 rfl) ?_
            refine lv_iload hx hb dL_isStep_289 (lv_at hl 3 rfl) ?_
            refine zob (rest := [.int (r_turn R (nI ii))]) S K hP hD hS hA hl.1 (F_X5_turn l G y0 (trR wp wq ot R) (trH wp wq ot h) wb (nI ii) hOb) rfl rfl gL_isStep_X5_turn rfl eX5_turn hOb.len hOb.hd rfl rfl (Nat.le_of_ble_eq_true rfl) (Nat.le_of_ble_eq_true rfl) (Nat.le_of_ble_eq_true rfl) ⟨Nat.zero_le _, Nat.zero_le _⟩ dL_isStep_291 (fun r u H locs hw hP hD hS => ?_)
            obtain ⟨wb, hz_⟩ := u
            obtain ⟨rfl, hOb⟩ := hw
            have hOb : OI G y0 ((n_turn (trR wp wq ot R) (trH wp wq ot h) (nI ii)).1) ((n_turn (trR wp wq ot R) (trH wp wq ot h) (nI ii)).2) wb := hOb
            have hP : va_P (gD G) vwCl (wa ++ wb) H := hP
            have hD : va_D A (wa ++ wb) := hD
            obtain ⟨e1, e2⟩ := a_turn (o := ot) (h := h) hR hc hii
            refine zd_ne (tgt := 339) S dL_isStep_294 (by decide) e1.symm ?_
            rw [e2] at hOb
            refine lv_iload hx hb dL_isStep_297 (lv_at hl 3 rfl) ?_
            refine lv_iload hx hb dL_isStep_299 (lv_at hl 5 rfl) ?_
            refine zb_ne (tgt := 313) S dL_isStep_301 (by decide) (by omega) (by omega) (fun c_301 => ?_) (fun c_301 => ?_)
            · skip
              exact absurd c_262 (by omega)
            · skip
              have e3 : r_turn R (nI ii) = -1 := by rw [c_301]; exact v_turnn hR
              refine lv_iload hx hb dL_isStep_304 (lv_at hl 0 rfl) ?_
              refine lv_iconst (v := -1) hx hb dL_isStep_306 (by decide +kernel) ?_
              refine zd_ne (tgt := 339) S dL_isStep_307 (by decide) e3 ?_
              refine lv_goto (tgt := 335) hx hb dL_isStep_310 (by decide) ?_
              refine lv_iconst (v := nI 1) hx hb dL_isStep_335 (by decide +kernel) ?_
              refine lv_goto (tgt := 340) hx hb dL_isStep_336 (by decide) ?_
              exact z_zret S hrt hlk hP hD hS (⟨wa, hOa.len⟩, ⟨wb, hOb.len⟩) rfl ⟨rfl, ⟨_, _, hOa, hOb, lm_turn hL⟩⟩ (z_bnar true) dL_isStep_340
          · skip
            refine lv_aload_n hx hb dL_isStep_265 rfl (lv_at hl 5 rfl) ?_
            refine lv_iload hx hb dL_isStep_266 (lv_at hl 1 rfl) ?_
            refine lv_iconst (v := nI 2) hx hb dL_isStep_268 (by decide +kernel) ?_
            refine zoa (rest := []) S K hP hD hS hA hl.1 (F_X5_rule l G x0 R h wa (nI ii) (nI 2) hOa) rfl rfl gL_isStep_X5_rule rfl eX5_rule hOa.len hOa.hd rfl rfl (Nat.le_of_ble_eq_true rfl) (Nat.le_of_ble_eq_true rfl) (Nat.le_of_ble_eq_true rfl) ⟨Nat.zero_le _, Nat.zero_le _⟩ dL_isStep_269 (fun r u H locs hw hP hD hS => ?_)
            obtain ⟨wa, hz_⟩ := u
            obtain ⟨rfl, hOa⟩ := hw
            have hOa : OI G x0 R h wa := hOa
            have hP : va_P (gD G) vwCl (wa ++ wb) H := hP
            have hD : va_D A (wa ++ wb) := hD
            refine z_top (y := (nI (stS R ii))) (v_rule2 hR c_262) ?_
            have hsl := st_le (R := R) ii
            refine lv_goto (tgt := 276) hx hb dL_isStep_272 (by decide) ?_
            refine lv_istore (lv' := [(11, .int (nI (stS R ii))), (10, .int (nI kk)), (9, .int (nI ii)), (8, .int (nI of)), (7, .int (nI R.2.1)), (6, .int xy), (0, .ref x0), (1, .ref y0), (2, .int (nI (wp + wq))), (3, .int (nI wp)), (4, .int (nI ot)), (5, .int x)]) hx hb dL_isStep_276 hl (by decide) rfl (fun ls hl => ?_)
            refine lv_aload_n hx hb dL_isStep_278 rfl (lv_at hl 6 rfl) ?_
            refine lv_iload hx hb dL_isStep_279 (lv_at hl 2 rfl) ?_
            refine zoa (rest := []) S K hP hD hS hA hl.1 (F_X5_turn l G x0 R h wa (nI ii) hOa) rfl rfl gL_isStep_X5_turn rfl eX5_turn hOa.len hOa.hd rfl rfl (Nat.le_of_ble_eq_true rfl) (Nat.le_of_ble_eq_true rfl) (Nat.le_of_ble_eq_true rfl) ⟨Nat.zero_le _, Nat.zero_le _⟩ dL_isStep_281 (fun r u H locs hw hP hD hS => ?_)
            obtain ⟨wa, hz_⟩ := u
            obtain ⟨rfl, hOa⟩ := hw
            have hOa : OI G x0 ((n_turn R h (nI ii)).1) ((n_turn R h (nI ii)).2) wa := hOa
            have hP : va_P (gD G) vwCl (wa ++ wb) H := hP
            have hD : va_D A (wa ++ wb) := hD
            refine lv_istore (lv' := [(12, .int (r_turn R (nI ii))), (11, .int (nI (stS R ii))), (10, .int (nI kk)), (9, .int (nI ii)), (8, .int (nI of)), (7, .int (nI R.2.1)), (6, .int xy), (0, .ref x0), (1, .ref y0), (2, .int (nI (wp + wq))), (3, .int (nI wp)), (4, .int (nI ot)), (5, .int x)]) hx hb dL_isStep_284 hl (by decide) rfl (fun ls hl => ?_)
            refine lv_iload hx hb dL_isStep_286 (lv_at hl 0 rfl) ?_
            refine lv_aload_n hx hb dL_isStep_288 rfl (lv_at hl 8 rfl) ?_
            refine lv_iload hx hb dL_isStep_289 (lv_at hl 3 rfl) ?_
            refine zob (rest := [.int (r_turn R (nI ii))]) S K hP hD hS hA hl.1 (F_X5_turn l G y0 (trR wp wq ot R) (trH wp wq ot h) wb (nI ii) hOb) rfl rfl gL_isStep_X5_turn rfl eX5_turn hOb.len hOb.hd rfl rfl (Nat.le_of_ble_eq_true rfl) (Nat.le_of_ble_eq_true rfl) (Nat.le_of_ble_eq_true rfl) ⟨Nat.zero_le _, Nat.zero_le _⟩ dL_isStep_291 (fun r u H locs hw hP hD hS => ?_)
            obtain ⟨wb, hz_⟩ := u
            obtain ⟨rfl, hOb⟩ := hw
            have hOb : OI G y0 ((n_turn (trR wp wq ot R) (trH wp wq ot h) (nI ii)).1) ((n_turn (trR wp wq ot R) (trH wp wq ot h) (nI ii)).2) wb := hOb
            have hP : va_P (gD G) vwCl (wa ++ wb) H := hP
            have hD : va_D A (wa ++ wb) := hD
            obtain ⟨e1, e2⟩ := a_turn (o := ot) (h := h) hR hc hii
            refine zd_ne (tgt := 339) S dL_isStep_294 (by decide) e1.symm ?_
            rw [e2] at hOb
            refine lv_iload hx hb dL_isStep_297 (lv_at hl 3 rfl) ?_
            refine lv_iload hx hb dL_isStep_299 (lv_at hl 5 rfl) ?_
            refine zb_ne (tgt := 313) S dL_isStep_301 (by decide) (by omega) (by omega) (fun c_301 => ?_) (fun c_301 => ?_)
            · skip
              have e3 := v_turn hR c_262
              refine lv_iload hx hb dL_isStep_313 (lv_at hl 1 rfl) ?_
              refine zf_ne (tgt := 326) S dL_isStep_315 (by decide) (by omega) (fun c_315 => ?_) (fun c_315 => ?_)
              · skip
                refine lv_iload hx hb dL_isStep_326 (lv_at hl 0 rfl) ?_
                refine lv_iconst (v := nI 3) hx hb dL_isStep_328 (by decide +kernel) ?_
                refine lv_iload hx hb dL_isStep_329 (lv_at hl 1 rfl) ?_
                refine zi_sub S dL_isStep_331 (by omega) ?_
                refine zd_ne (tgt := 339) S dL_isStep_332 (by decide) (e3.trans (by rw [if_neg c_315])) ?_
                refine lv_iconst (v := nI 1) hx hb dL_isStep_335 (by decide +kernel) ?_
                refine lv_goto (tgt := 340) hx hb dL_isStep_336 (by decide) ?_
                exact z_zret S hrt hlk hP hD hS (⟨wa, hOa.len⟩, ⟨wb, hOb.len⟩) rfl ⟨rfl, ⟨_, _, hOa, hOb, lm_turn hL⟩⟩ (z_bnar true) dL_isStep_340
              · skip
                refine lv_iload hx hb dL_isStep_318 (lv_at hl 0 rfl) ?_
                refine z_top (y := (nI 0)) (e3.trans (by rw [if_pos c_315])) ?_
                refine zf_ne (tgt := 339) S dL_isStep_320 (by decide) (by decide) (fun c_320 => ?_) (fun c_320 => ?_)
                · skip
                  exact absurd rfl c_320
                · skip
                  refine lv_goto (tgt := 335) hx hb dL_isStep_323 (by decide) ?_
                  refine lv_iconst (v := nI 1) hx hb dL_isStep_335 (by decide +kernel) ?_
                  refine lv_goto (tgt := 340) hx hb dL_isStep_336 (by decide) ?_
                  exact z_zret S hrt hlk hP hD hS (⟨wa, hOa.len⟩, ⟨wb, hOb.len⟩) rfl ⟨rfl, ⟨_, _, hOa, hOb, lm_turn hL⟩⟩ (z_bnar true) dL_isStep_340
            · skip
              exact absurd c_262 (by omega)
      · skip
        refine lv_aload_n hx hb dL_isStep_187 rfl (lv_at hl 5 rfl) ?_
        refine lv_iload hx hb dL_isStep_188 (lv_at hl 1 rfl) ?_
        refine lv_iload hx hb dL_isStep_190 (lv_at hl 0 rfl) ?_
        refine zoa (rest := []) S K hP hD hS hA hl.1 (F_X5_ifMoved l G x0 R h wa (nI ii) (nI kk) hOa) rfl rfl gL_isStep_X5_ifMoved rfl eX5_ifMoved hOa.len hOa.hd rfl rfl (Nat.le_of_ble_eq_true rfl) (Nat.le_of_ble_eq_true rfl) (Nat.le_of_ble_eq_true rfl) ⟨Nat.zero_le _, Nat.zero_le _⟩ dL_isStep_192 (fun r u H locs hw hP hD hS => ?_)
        obtain ⟨wa, hz_⟩ := u
        obtain ⟨rfl, hOa⟩ := hw
        have hOa : OI G x0 R h wa := hOa
        have hP : va_P (gD G) vwCl (wa ++ wb) H := hP
        have hD : va_D A (wa ++ wb) := hD
        refine lv_istore (lv' := [(11, .int (r_ifMoved R (nI ii) (nI kk))), (10, .int (nI kk)), (9, .int (nI ii)), (8, .int (nI of)), (7, .int (nI R.2.1)), (6, .int xy), (0, .ref x0), (1, .ref y0), (2, .int (nI (wp + wq))), (3, .int (nI wp)), (4, .int (nI ot)), (5, .int x)]) hx hb dL_isStep_195 hl (by decide) rfl (fun ls hl => ?_)
        refine lv_aload_n hx hb dL_isStep_197 rfl (lv_at hl 6 rfl) ?_
        refine lv_iload hx hb dL_isStep_198 (lv_at hl 2 rfl) ?_
        refine lv_iload hx hb dL_isStep_200 (lv_at hl 1 rfl) ?_
        refine zoa (rest := []) S K hP hD hS hA hl.1 (F_X5_move l G x0 R h wa (nI ii) (nI kk) hOa) rfl rfl gL_isStep_X5_move rfl eX5_move hOa.len hOa.hd rfl rfl (Nat.le_of_ble_eq_true rfl) (Nat.le_of_ble_eq_true rfl) (Nat.le_of_ble_eq_true rfl) ⟨Nat.zero_le _, Nat.zero_le _⟩ dL_isStep_202 (fun r u H locs hw hP hD hS => ?_)
        obtain ⟨wa, hz_⟩ := u
        obtain ⟨rfl, hOa⟩ := hw
        have hOa : OI G x0 ((n_move R h (nI ii) (nI kk)).1) ((n_move R h (nI ii) (nI kk)).2) wa := hOa
        have hP : va_P (gD G) vwCl (wa ++ wb) H := hP
        have hD : va_D A (wa ++ wb) := hD
        refine lv_istore (lv' := [(12, .int (r_move R (nI ii) (nI kk))), (11, .int (r_ifMoved R (nI ii) (nI kk))), (10, .int (nI kk)), (9, .int (nI ii)), (8, .int (nI of)), (7, .int (nI R.2.1)), (6, .int xy), (0, .ref x0), (1, .ref y0), (2, .int (nI (wp + wq))), (3, .int (nI wp)), (4, .int (nI ot)), (5, .int x)]) hx hb dL_isStep_205 hl (by decide) rfl (fun ls hl => ?_)
        refine lv_iload hx hb dL_isStep_207 (lv_at hl 0 rfl) ?_
        refine lv_aload_n hx hb dL_isStep_209 rfl (lv_at hl 8 rfl) ?_
        refine lv_iload hx hb dL_isStep_210 (lv_at hl 3 rfl) ?_
        refine lv_iload hx hb dL_isStep_212 (lv_at hl 2 rfl) ?_
        refine zob (rest := [.int (r_move R (nI ii) (nI kk))]) S K hP hD hS hA hl.1 (F_X5_move l G y0 (trR wp wq ot R) (trH wp wq ot h) wb (nI ii) (nI kk) hOb) rfl rfl gL_isStep_X5_move rfl eX5_move hOb.len hOb.hd rfl rfl (Nat.le_of_ble_eq_true rfl) (Nat.le_of_ble_eq_true rfl) (Nat.le_of_ble_eq_true rfl) ⟨Nat.zero_le _, Nat.zero_le _⟩ dL_isStep_214 (fun r u H locs hw hP hD hS => ?_)
        obtain ⟨wb, hz_⟩ := u
        obtain ⟨rfl, hOb⟩ := hw
        have hOb : OI G y0 ((n_move (trR wp wq ot R) (trH wp wq ot h) (nI ii) (nI kk)).1) ((n_move (trR wp wq ot R) (trH wp wq ot h) (nI ii) (nI kk)).2) wb := hOb
        have hP : va_P (gD G) vwCl (wa ++ wb) H := hP
        have hD : va_D A (wa ++ wb) := hD
        obtain ⟨e1, e2⟩ := a_move (o := ot) (h := h) hR hc hii hkk
        refine zd_ne (tgt := 249) S dL_isStep_217 (by decide) e1.symm ?_
        rw [e2] at hOb
        refine lv_iload hx hb dL_isStep_220 (lv_at hl 0 rfl) ?_
        by_cases hv : ii < R.2.1 ∧ kk < R.2.1
        · skip
          refine z_top (y := (nI (mcS R ii kk))) (v_move hR hv.1 hv.2) ?_
          have hmc := mc_le (i := ii) (k := kk) hR
          refine zd_ge (tgt := 235) S dL_isStep_222 (by decide) (by rw [nI_toInt (by omega)]; omega) ?_
          refine lv_aload_n hx hb dL_isStep_235 rfl (lv_at hl 7 rfl) ?_
          refine lv_iconst (v := nI 3) hx hb dL_isStep_236 (by decide +kernel) ?_
          refine zoa (rest := []) S K hP hD hS hA hl.1 (F_X5_count l G x0 ((n_move R h (nI ii) (nI kk)).1) ((n_move R h (nI ii) (nI kk)).2) wa (nI 3) hOa) rfl rfl gL_isStep_X5_count rfl eX5_count hOa.len hOa.hd rfl rfl (Nat.le_of_ble_eq_true rfl) (Nat.le_of_ble_eq_true rfl) (Nat.le_of_ble_eq_true rfl) ⟨Nat.zero_le _, Nat.zero_le _⟩ dL_isStep_237 (fun r u H locs hw hP hD hS => ?_)
          obtain ⟨wa, hz_⟩ := u
          obtain ⟨rfl, hOa⟩ := hw
          have hOa : OI G x0 ((n_move R h (nI ii) (nI kk)).1) ((n_move R h (nI ii) (nI kk)).2) wa := hOa
          have hP : va_P (gD G) vwCl (wa ++ wb) H := hP
          have hD : va_D A (wa ++ wb) := hD
          refine lv_iload hx hb dL_isStep_240 (lv_at hl 1 rfl) ?_
          obtain ⟨e3, e4⟩ := v_ifm (h := h) hR hv.1 hv.2
          refine zd_ne (tgt := 249) S dL_isStep_242 (by decide) (by rw [e3, e4, ← cnt_3]) ?_
          refine lv_iconst (v := nI 1) hx hb dL_isStep_245 (by decide +kernel) ?_
          refine lv_goto (tgt := 250) hx hb dL_isStep_246 (by decide) ?_
          exact z_zret S hrt hlk hP hD hS (⟨wa, hOa.len⟩, ⟨wb, hOb.len⟩) rfl ⟨rfl, ⟨_, _, hOa, hOb, lm_move hL⟩⟩ (z_bnar true) dL_isStep_250
        · skip
          obtain ⟨e3, e4⟩ := v_moven hR hii hkk hv
          refine z_top (y := (-1)) e3 ?_
          refine zd_lt (tgt := 235) S dL_isStep_222 (by decide) (by decide) ?_
          refine lv_iload hx hb dL_isStep_225 (lv_at hl 1 rfl) ?_
          refine lv_iload hx hb dL_isStep_227 (lv_at hl 0 rfl) ?_
          refine zd_ne (tgt := 249) S dL_isStep_229 (by decide) (e4.trans e3.symm) ?_
          refine lv_goto (tgt := 245) hx hb dL_isStep_232 (by decide) ?_
          refine lv_iconst (v := nI 1) hx hb dL_isStep_245 (by decide +kernel) ?_
          refine lv_goto (tgt := 250) hx hb dL_isStep_246 (by decide) ?_
          exact z_zret S hrt hlk hP hD hS (⟨wa, hOa.len⟩, ⟨wb, hOb.len⟩) rfl ⟨rfl, ⟨_, _, hOa, hOb, lm_move hL⟩⟩ (z_bnar true) dL_isStep_250
    · skip
      refine lv_aload_n hx hb dL_isStep_159 rfl (lv_at hl 5 rfl) ?_
      refine lv_iload hx hb dL_isStep_160 (lv_at hl 1 rfl) ?_
      refine zoa (rest := []) S K hP hD hS hA hl.1 (F_X5_drop l G x0 R h wa (nI ii) hOa) rfl rfl gL_isStep_X5_drop rfl eX5_drop hOa.len hOa.hd rfl rfl (Nat.le_of_ble_eq_true rfl) (Nat.le_of_ble_eq_true rfl) (Nat.le_of_ble_eq_true rfl) ⟨Nat.zero_le _, Nat.zero_le _⟩ dL_isStep_162 (fun r u H locs hw hP hD hS => ?_)
      obtain ⟨wa, hz_⟩ := u
      obtain ⟨rfl, hOa⟩ := hw
      have hOa : OI G x0 ((n_drop R h (nI ii)).1) ((n_drop R h (nI ii)).2) wa := hOa
      have hP : va_P (gD G) vwCl (wa ++ wb) H := hP
      have hD : va_D A (wa ++ wb) := hD
      refine lv_aload_n hx hb dL_isStep_165 rfl (lv_at hl 6 rfl) ?_
      refine lv_iload hx hb dL_isStep_166 (lv_at hl 1 rfl) ?_
      refine zob (rest := [.int (r_drop R (nI ii))]) S K hP hD hS hA hl.1 (F_X5_drop l G y0 (trR wp wq ot R) (trH wp wq ot h) wb (nI ii) hOb) rfl rfl gL_isStep_X5_drop rfl eX5_drop hOb.len hOb.hd rfl rfl (Nat.le_of_ble_eq_true rfl) (Nat.le_of_ble_eq_true rfl) (Nat.le_of_ble_eq_true rfl) ⟨Nat.zero_le _, Nat.zero_le _⟩ dL_isStep_168 (fun r u H locs hw hP hD hS => ?_)
      obtain ⟨wb, hz_⟩ := u
      obtain ⟨rfl, hOb⟩ := hw
      have hOb : OI G y0 ((n_drop (trR wp wq ot R) (trH wp wq ot h) (nI ii)).1) ((n_drop (trR wp wq ot R) (trH wp wq ot h) (nI ii)).2) wb := hOb
      have hP : va_P (gD G) vwCl (wa ++ wb) H := hP
      have hD : va_D A (wa ++ wb) := hD
      obtain ⟨e1, e2⟩ := a_drop (p := wp) (q := wq) (o := ot) (h := h) hR hii
      refine zd_ne (tgt := 178) S dL_isStep_171 (by decide) e1.symm ?_
      refine lv_iconst (v := nI 1) hx hb dL_isStep_174 (by decide +kernel) ?_
      refine lv_goto (tgt := 179) hx hb dL_isStep_175 (by decide) ?_
      rw [e2] at hOb
      exact z_zret S hrt hlk hP hD hS (⟨wa, hOa.len⟩, ⟨wb, hOb.len⟩) rfl ⟨rfl, ⟨_, _, hOa, hOb, lm_drop hL⟩⟩ (z_bnar true) dL_isStep_179
  · skip
    refine lv_iconst (v := nI 1) hx hb dL_isStep_29 (by decide +kernel) ?_
    refine lv_iload hx hb dL_isStep_30 (lv_at hl 2 rfl) ?_
    refine lv_iconst (v := nI 1) hx hb dL_isStep_32 (by decide +kernel) ?_
    refine lv_iload_n hx hb dL_isStep_33 rfl (lv_at hl 5 rfl) ?_
    refine zi_shl S dL_isStep_34 (by omega) ?_
    refine lv_iconst (v := nI 1) hx hb dL_isStep_35 (by decide +kernel) ?_
    refine zi_sub S dL_isStep_36 (by omega) ?_
    refine zos (rest := [.int (nI 1)]) S K hP hD hS hA hl.1 (k_up l G xy ((1 <<< (wp + wq)) - 1) (by omega) (by omega)) rfl rfl gL_isStep_L_up rfl eL_up.2 rfl rfl (Nat.le_of_ble_eq_true rfl) (Nat.le_of_ble_eq_true rfl) (Nat.le_of_ble_eq_true rfl) ⟨Nat.zero_le _, Nat.zero_le _⟩ dL_isStep_37 (fun r H locs hw hP hD hS => ?_)
    obtain ⟨_, rfl⟩ := hw
    obtain ⟨w1, hw1⟩ : ∃ z, z = upN xy ((1 <<< (wp + wq)) - 1) := ⟨_, rfl⟩
    refine z_top (y := nI w1) (congrArg nI hw1.symm) ?_
    have hw1 : w1 < 1 <<< (wp + wq) - 1 := by rw [hw1]; exact up_lt _ (by omega)
    refine zi_add S dL_isStep_40 ?_
    obtain ⟨sv, hsv⟩ : ∃ z, z = 1 + w1 := ⟨_, rfl⟩
    refine z_top (y := nI sv) (congrArg nI hsv.symm) ?_
    have hsv0 : 0 < sv ∧ sv < 2 ^ (wp + wq) := by omega
    refine lv_istore (lv' := [(9, .int (nI sv)), (8, .int (nI of)), (7, .int (nI R.2.1)), (6, .int xy), (0, .ref x0), (1, .ref y0), (2, .int (nI (wp + wq))), (3, .int (nI wp)), (4, .int (nI ot)), (5, .int x)]) hx hb dL_isStep_41 hl (by decide) rfl (fun ls hl => ?_)
    have jn : ∀ (v : Nat), 0 < v → v < 2 ^ (wp + wq) → ∀ (H : Heap) (locs : List Loc), va_P (gD G) vwCl (wa ++ wb) H → va_D A (wa ++ wb) → va_S A s.heap H locs → ∀ ls : Array Slot, lv_has ls 13 [(9, .int (nI sv)), (8, .int (nI of)), (7, .int (nI R.2.1)), (6, .int xy), (0, .ref x0), (1, .ref y0), (2, .int (nI (wp + wq))), (3, .int (nI wp)), (4, .int (nI ot)), (5, .int x)] → W p l e ({ frames := 5, cells := 0, slots := 0, locals := 115 } : Room) s m args below meth c H locs 0 0 (MQ below (va_Qi (fun (r : Int32) (u : WU × WU) => r = nI 1 ∧ LW G wp wq ot x0 y0 u.1.1 u.2.1) (cB G A (fun (u : WU × WU) => u.1.1 ++ u.2.1)) A) args s 0 0 A) (F0 m 76 ls [.int (nI v)]) := by
      intro v hv0 hv1 H locs hP hD hS ls hl
      refine lv_istore (lv' := [(9, .int (nI v)), (8, .int (nI of)), (7, .int (nI R.2.1)), (6, .int xy), (0, .ref x0), (1, .ref y0), (2, .int (nI (wp + wq))), (3, .int (nI wp)), (4, .int (nI ot)), (5, .int x)]) hx hb dL_isStep_76 hl (by decide) rfl (fun ls hl => ?_)
      refine lv_iload hx hb dL_isStep_78 (lv_at hl 3 rfl) ?_
      refine lv_bipush (v := nI 15) hx hb dL_isStep_80 (by decide +kernel) ?_
      refine lv_ishr hx hb dL_isStep_82 ?_
      obtain ⟨xz, hxz⟩ : ∃ z, z = xy >>> (nI 15 &&& 31) := ⟨_, rfl⟩
      refine z_top (y := xz) hxz.symm ?_
      refine lv_iconst (v := nI 2) hx hb dL_isStep_83 (by decide +kernel) ?_
      refine zos (rest := []) S K hP hD hS hA hl.1 (k_up l G xz 2 (by omega) (by omega)) rfl rfl gL_isStep_L_up rfl eL_up.2 rfl rfl (Nat.le_of_ble_eq_true rfl) (Nat.le_of_ble_eq_true rfl) (Nat.le_of_ble_eq_true rfl) ⟨Nat.zero_le _, Nat.zero_le _⟩ dL_isStep_84 (fun r H locs hw hP hD hS => ?_)
      obtain ⟨_, rfl⟩ := hw
      obtain ⟨bq, hbq⟩ : ∃ z, z = upN xz 2 := ⟨_, rfl⟩
      refine z_top (y := nI bq) (congrArg nI hbq.symm) ?_
      have hbq : bq ≤ 1 := by have := up_lt xz (n := 2) (by decide); omega
      refine lv_istore (lv' := [(10, .int (nI bq)), (9, .int (nI v)), (8, .int (nI of)), (7, .int (nI R.2.1)), (6, .int xy), (0, .ref x0), (1, .ref y0), (2, .int (nI (wp + wq))), (3, .int (nI wp)), (4, .int (nI ot)), (5, .int x)]) hx hb dL_isStep_87 hl (by decide) rfl (fun ls hl => ?_)
      refine lv_aload_n hx hb dL_isStep_89 rfl (lv_at hl 5 rfl) ?_
      refine lv_iload hx hb dL_isStep_90 (lv_at hl 1 rfl) ?_
      refine lv_iload hx hb dL_isStep_92 (lv_at hl 0 rfl) ?_
      refine zoa (rest := []) S K hP hD hS hA hl.1 (F_X5_tell l G x0 R h wa (nI v) (nI bq) hOa) rfl rfl gL_isStep_X5_tell rfl eX5_tell hOa.len hOa.hd rfl rfl (Nat.le_of_ble_eq_true rfl) (Nat.le_of_ble_eq_true rfl) (Nat.le_of_ble_eq_true rfl) ⟨Nat.zero_le _, Nat.zero_le _⟩ dL_isStep_94 (fun r u H locs hw hP hD hS => ?_)
      obtain ⟨wa, hz_⟩ := u
      obtain ⟨rfl, hOa⟩ := hw
      have hOa : OI G x0 ((n_tell R h (nI v) (nI bq)).1) ((n_tell R h (nI v) (nI bq)).2) wa := hOa
      have hP : va_P (gD G) vwCl (wa ++ wb) H := hP
      have hD : va_D A (wa ++ wb) := hD
      refine lv_aload_n hx hb dL_isStep_97 rfl (lv_at hl 6 rfl) ?_
      refine lv_iload hx hb dL_isStep_98 (lv_at hl 1 rfl) ?_
      refine lv_iload_n hx hb dL_isStep_100 rfl (lv_at hl 7 rfl) ?_
      refine lv_iload_n hx hb dL_isStep_101 rfl (lv_at hl 8 rfl) ?_
      refine zos (rest := [.ref y0, .int (r_tell R (nI v) (nI bq))]) S K hP hD hS hA hl.1 (k_there l G v wp wq (by omega) (by omega)) rfl rfl gL_isStep_L_there rfl eL_there.2 rfl rfl (Nat.le_of_ble_eq_true rfl) (Nat.le_of_ble_eq_true rfl) (Nat.le_of_ble_eq_true rfl) ⟨Nat.zero_le _, Nat.zero_le _⟩ dL_isStep_102 (fun r H locs hw hP hD hS => ?_)
      obtain ⟨_, rfl⟩ := hw
      refine lv_iload hx hb dL_isStep_105 (lv_at hl 0 rfl) ?_
      refine lv_iload hx hb dL_isStep_107 (lv_at hl 1 rfl) ?_
      refine lv_iload hx hb dL_isStep_109 (lv_at hl 9 rfl) ?_
      refine zi_and S dL_isStep_111 ?_
      refine zos (rest := [.int (nI bq), .int (nI (thR wp wq v)), .ref y0, .int (r_tell R (nI v) (nI bq))]) S K hP hD hS hA hl.1 (k_odd l G (v &&& ot) (Nat.lt_of_le_of_lt Nat.and_le_left (by omega))) rfl rfl gL_isStep_L_odd rfl eL_odd.2 rfl rfl (Nat.le_of_ble_eq_true rfl) (Nat.le_of_ble_eq_true rfl) (Nat.le_of_ble_eq_true rfl) ⟨Nat.zero_le _, Nat.zero_le _⟩ dL_isStep_112 (fun r H locs hw hP hD hS => ?_)
      obtain ⟨_, rfl⟩ := hw
      refine zi_xor S dL_isStep_115 ?_
      refine zob (rest := [.int (r_tell R (nI v) (nI bq))]) S K hP hD hS hA hl.1 (F_X5_tell l G y0 (trR wp wq ot R) (trH wp wq ot h) wb (nI (thR wp wq v)) (nI (bq ^^^ (pty (v &&& ot)))) hOb) rfl rfl gL_isStep_X5_tell rfl eX5_tell hOb.len hOb.hd rfl rfl (Nat.le_of_ble_eq_true rfl) (Nat.le_of_ble_eq_true rfl) (Nat.le_of_ble_eq_true rfl) ⟨Nat.zero_le _, Nat.zero_le _⟩ dL_isStep_116 (fun r u H locs hw hP hD hS => ?_)
      obtain ⟨wb, hz_⟩ := u
      obtain ⟨rfl, hOb⟩ := hw
      have hOb : OI G y0 ((n_tell (trR wp wq ot R) (trH wp wq ot h) (nI (thR wp wq v)) (nI (bq ^^^ (pty (v &&& ot))))).1) ((n_tell (trR wp wq ot R) (trH wp wq ot h) (nI (thR wp wq v)) (nI (bq ^^^ (pty (v &&& ot))))).2) wb := hOb
      have hP : va_P (gD G) vwCl (wa ++ wb) H := hP
      have hD : va_D A (wa ++ wb) := hD
      obtain ⟨e1, e2⟩ := a_tell (o := ot) (h := h) hR hc hv0 hv1 hbq
      refine zd_ne (tgt := 126) S dL_isStep_119 (by decide) e1.symm ?_
      refine lv_iconst (v := nI 1) hx hb dL_isStep_122 (by decide +kernel) ?_
      refine lv_goto (tgt := 127) hx hb dL_isStep_123 (by decide) ?_
      rw [e2] at hOb
      exact z_zret S hrt hlk hP hD hS (⟨wa, hOa.len⟩, ⟨wb, hOb.len⟩) rfl ⟨rfl, ⟨_, _, hOa, hOb, lm_tell hL⟩⟩ (z_bnar true) dL_isStep_127
    refine lv_iload hx hb dL_isStep_43 (lv_at hl 3 rfl) ?_
    refine lv_bipush (v := nI 13) hx hb dL_isStep_45 (by decide +kernel) ?_
    refine lv_ishr hx hb dL_isStep_47 ?_
    obtain ⟨xz, hxz⟩ : ∃ z, z = xy >>> (nI 13 &&& 31) := ⟨_, rfl⟩
    refine z_top (y := xz) hxz.symm ?_
    refine lv_iconst (v := nI 3) hx hb dL_isStep_48 (by decide +kernel) ?_
    refine zos (rest := []) S K hP hD hS hA hl.1 (k_up l G xz 3 (by omega) (by omega)) rfl rfl gL_isStep_L_up rfl eL_up.2 rfl rfl (Nat.le_of_ble_eq_true rfl) (Nat.le_of_ble_eq_true rfl) (Nat.le_of_ble_eq_true rfl) ⟨Nat.zero_le _, Nat.zero_le _⟩ dL_isStep_49 (fun r H locs hw hP hD hS => ?_)
    obtain ⟨_, rfl⟩ := hw
    obtain ⟨t3, ht3⟩ : ∃ z, z = upN xz 3 := ⟨_, rfl⟩
    refine z_top (y := nI t3) (congrArg nI ht3.symm) ?_
    have ht3 : t3 < 3 := by have := up_lt xz (n := 3) (by decide); omega
    refine zf_eq (tgt := 64) S dL_isStep_52 (by decide) (by omega) (fun c_52 => ?_) (fun c_52 => ?_)
    · skip
      refine lv_iload hx hb dL_isStep_64 (lv_at hl 0 rfl) ?_
      refine lv_goto (tgt := 76) hx hb dL_isStep_66 (by decide) ?_
      exact jn _ hsv0.1 hsv0.2 _ _ hP hD hS _ (lv_sub hl [0, 1, 2, 3, 4, 5, 6, 7, 8, 9] rfl)
    · skip
      refine lv_iload hx hb dL_isStep_55 (lv_at hl 0 rfl) ?_
      refine zos (rest := []) S K hP hD hS hA hl.1 (k_bits l G sv (by omega)) rfl rfl gL_isStep_L_bits rfl eL_bits.2 rfl rfl (Nat.le_of_ble_eq_true rfl) (Nat.le_of_ble_eq_true rfl) (Nat.le_of_ble_eq_true rfl) ⟨Nat.zero_le _, Nat.zero_le _⟩ dL_isStep_57 (fun r H locs hw hP hD hS => ?_)
      obtain ⟨_, rfl⟩ := hw
      refine lv_iconst (v := nI 3) hx hb dL_isStep_60 (by decide +kernel) ?_
      have hpl := pcn_le sv
      refine zb_ge (tgt := 69) S dL_isStep_61 (by decide) (by omega) (by decide) (fun c_61 => ?_) (fun c_61 => ?_)
      · skip
        refine lv_iload hx hb dL_isStep_69 (lv_at hl 0 rfl) ?_
        refine lv_iload hx hb dL_isStep_71 (lv_at hl 0 rfl) ?_
        refine lv_iconst (v := nI 1) hx hb dL_isStep_73 (by decide +kernel) ?_
        refine zi_sub S dL_isStep_74 (by omega) ?_
        refine zi_and S dL_isStep_75 ?_
        exact jn _ (and_up (by omega) c_61) (Nat.lt_of_le_of_lt Nat.and_le_left hsv0.2) _ _ hP hD hS _ (lv_sub hl [0, 1, 2, 3, 4, 5, 6, 7, 8, 9] rfl)
      · skip
        refine lv_iload hx hb dL_isStep_64 (lv_at hl 0 rfl) ?_
        refine lv_goto (tgt := 76) hx hb dL_isStep_66 (by decide) ?_
        exact jn _ hsv0.1 hsv0.2 _ _ hP hD hS _ (lv_sub hl [0, 1, 2, 3, 4, 5, 6, 7, 8, 9] rfl)
