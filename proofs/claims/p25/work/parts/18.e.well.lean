set_option maxHeartbeats 4000000 in
set_option maxRecDepth 100000 in
theorem k_isWell (l : Launch) (G : gT) (x0 wm : Nat) (R : RT) (h : HT) (wa : va_W) (x : Int32) (hc : R.1 = wm) (hOa : OI G x0 R h wa) : CI l yL_isWell wsL_isWell ({ frames := 6, cells := 0, slots := 0, locals := 138 } : Room) G [.ref x0, .int (nI wm), .int x] wa 0 0 (fun (r : Int32) (u : WU) => r = nI 1 ∧ OI G x0 R h u.1) (fun (u : WU) => u.1) := by
  refine CI.of (cc := cL_isWell) (maxL := 16) (ret := (some .boolean)) (by decide +kernel) rfl (Nat.le_of_ble_eq_true rfl) rfl (fun p e s m args below meth c A S hrt hlk hnm K hA hP hD hS ls hl => ?_)
  have hx := S.1
  have hb := S.2.1
  have hl : lv_has ls 16 [(0, .ref x0), (1, .int (nI wm)), (2, .int x)] := hl
  have hT := hOa.tab
  have hR := hT.1
  have hn20 : R.2.1 ≤ 20 := hR.2.2.1
  have hna : naS R ≤ 4096 := na_le hR
  have hn1 : 1 ≤ naS R := na_pos
  have hct := ct0_le hR
  have hall := ct_all (R := R)
  have hwm : wm ≤ 12 := by have := hR.2.1; omega
  have h12 := p12 hR.2.1
  refine lv_aload_n hx hb dL_isWell_0 rfl (lv_at hl 0 rfl) ?_
  refine lv_iconst (v := nI 0) hx hb dL_isWell_1 (by decide +kernel) ?_
  refine zow (rest := []) S K hP hD hS hA hl.1 (F_X5_count l G x0 R h wa (nI 0) hOa) rfl rfl gL_isWell_X5_count rfl eX5_count hOa.len hOa.hd rfl rfl (Nat.le_of_ble_eq_true rfl) (Nat.le_of_ble_eq_true rfl) (Nat.le_of_ble_eq_true rfl) ⟨Nat.zero_le _, Nat.zero_le _⟩ dL_isWell_2 (fun r u H locs hw hP hD hS => ?_)
  obtain ⟨wa, hz_⟩ := u
  obtain ⟨rfl, hOa⟩ := hw
  have hOa : OI G x0 R h wa := hOa
  have hP : va_P (gD G) vwCl wa H := hP
  have hD : va_D A wa := hD
  refine z_top (y := (nI R.2.1)) vc_0 ?_
  refine lv_istore_n (lv' := [(3, .int (nI R.2.1)), (0, .ref x0), (1, .int (nI wm)), (2, .int x)]) hx hb dL_isWell_5 rfl hl (by decide) rfl (fun ls hl => ?_)
  refine lv_aload_n hx hb dL_isWell_6 rfl (lv_at hl 1 rfl) ?_
  refine lv_iconst (v := nI 4) hx hb dL_isWell_7 (by decide +kernel) ?_
  refine zow (rest := []) S K hP hD hS hA hl.1 (F_X5_count l G x0 R h wa (nI 4) hOa) rfl rfl gL_isWell_X5_count rfl eX5_count hOa.len hOa.hd rfl rfl (Nat.le_of_ble_eq_true rfl) (Nat.le_of_ble_eq_true rfl) (Nat.le_of_ble_eq_true rfl) ⟨Nat.zero_le _, Nat.zero_le _⟩ dL_isWell_8 (fun r u H locs hw hP hD hS => ?_)
  obtain ⟨wa, hz_⟩ := u
  obtain ⟨rfl, hOa⟩ := hw
  have hOa : OI G x0 R h wa := hOa
  have hP : va_P (gD G) vwCl wa H := hP
  have hD : va_D A wa := hD
  refine z_top (y := (nI (naS R))) cnt_4.symm ?_
  refine lv_istore (lv' := [(4, .int (nI (naS R))), (3, .int (nI R.2.1)), (0, .ref x0), (1, .int (nI wm)), (2, .int x)]) hx hb dL_isWell_11 hl (by decide) rfl (fun ls hl => ?_)
  refine lv_aload_n hx hb dL_isWell_13 rfl (lv_at hl 2 rfl) ?_
  refine lv_iconst (v := nI 1) hx hb dL_isWell_14 (by decide +kernel) ?_
  refine zow (rest := []) S K hP hD hS hA hl.1 (F_X5_count l G x0 R h wa (nI 1) hOa) rfl rfl gL_isWell_X5_count rfl eX5_count hOa.len hOa.hd rfl rfl (Nat.le_of_ble_eq_true rfl) (Nat.le_of_ble_eq_true rfl) (Nat.le_of_ble_eq_true rfl) ⟨Nat.zero_le _, Nat.zero_le _⟩ dL_isWell_15 (fun r u H locs hw hP hD hS => ?_)
  obtain ⟨wa, hz_⟩ := u
  obtain ⟨rfl, hOa⟩ := hw
  have hOa : OI G x0 R h wa := hOa
  have hP : va_P (gD G) vwCl wa H := hP
  have hD : va_D A wa := hD
  refine z_top (y := (nI (ctS R 0))) cnt_1.symm ?_
  refine lv_aload_n hx hb dL_isWell_18 rfl (lv_at hl 2 rfl) ?_
  refine lv_iconst (v := nI 2) hx hb dL_isWell_19 (by decide +kernel) ?_
  refine zow (rest := [.int (nI (ctS R 0))]) S K hP hD hS hA hl.1 (F_X5_count l G x0 R h wa (nI 2) hOa) rfl rfl gL_isWell_X5_count rfl eX5_count hOa.len hOa.hd rfl rfl (Nat.le_of_ble_eq_true rfl) (Nat.le_of_ble_eq_true rfl) (Nat.le_of_ble_eq_true rfl) ⟨Nat.zero_le _, Nat.zero_le _⟩ dL_isWell_20 (fun r u H locs hw hP hD hS => ?_)
  obtain ⟨wa, hz_⟩ := u
  obtain ⟨rfl, hOa⟩ := hw
  have hOa : OI G x0 R h wa := hOa
  have hP : va_P (gD G) vwCl wa H := hP
  have hD : va_D A wa := hD
  refine z_top (y := (nI (ctS R 1))) cnt_2.symm ?_
  refine zi_add S dL_isWell_23 ?_
  refine lv_aload_n hx hb dL_isWell_24 rfl (lv_at hl 2 rfl) ?_
  refine lv_iconst (v := nI 3) hx hb dL_isWell_25 (by decide +kernel) ?_
  refine zow (rest := [.int (nI ((ctS R 0) + (ctS R 1)))]) S K hP hD hS hA hl.1 (F_X5_count l G x0 R h wa (nI 3) hOa) rfl rfl gL_isWell_X5_count rfl eX5_count hOa.len hOa.hd rfl rfl (Nat.le_of_ble_eq_true rfl) (Nat.le_of_ble_eq_true rfl) (Nat.le_of_ble_eq_true rfl) ⟨Nat.zero_le _, Nat.zero_le _⟩ dL_isWell_26 (fun r u H locs hw hP hD hS => ?_)
  obtain ⟨wa, hz_⟩ := u
  obtain ⟨rfl, hOa⟩ := hw
  have hOa : OI G x0 R h wa := hOa
  have hP : va_P (gD G) vwCl wa H := hP
  have hD : va_D A wa := hD
  refine z_top (y := (nI (ctS R 2))) cnt_3.symm ?_
  refine zi_add S dL_isWell_29 ?_
  refine lv_iload_n hx hb dL_isWell_30 rfl (lv_at hl 1 rfl) ?_
  refine zd_ne (tgt := 62) S dL_isWell_31 (by decide) (congrArg nI hall) ?_
  refine lv_iload hx hb dL_isWell_34 (lv_at hl 0 rfl) ?_
  refine lv_iconst (v := nI 1) hx hb dL_isWell_36 (by decide +kernel) ?_
  refine lv_iload_n hx hb dL_isWell_37 rfl (lv_at hl 3 rfl) ?_
  refine lv_aload_n hx hb dL_isWell_38 rfl (lv_at hl 2 rfl) ?_
  refine lv_iconst (v := nI 1) hx hb dL_isWell_39 (by decide +kernel) ?_
  refine zow (rest := [.int (nI wm), .int (nI 1), .int (nI (naS R))]) S K hP hD hS hA hl.1 (F_X5_count l G x0 R h wa (nI 1) hOa) rfl rfl gL_isWell_X5_count rfl eX5_count hOa.len hOa.hd rfl rfl (Nat.le_of_ble_eq_true rfl) (Nat.le_of_ble_eq_true rfl) (Nat.le_of_ble_eq_true rfl) ⟨Nat.zero_le _, Nat.zero_le _⟩ dL_isWell_40 (fun r u H locs hw hP hD hS => ?_)
  obtain ⟨wa, hz_⟩ := u
  obtain ⟨rfl, hOa⟩ := hw
  have hOa : OI G x0 R h wa := hOa
  have hP : va_P (gD G) vwCl wa H := hP
  have hD : va_D A wa := hD
  refine z_top (y := (nI (ctS R 0))) cnt_1.symm ?_
  refine zi_sub S dL_isWell_43 (by omega) ?_
  refine zi_shl S dL_isWell_44 (by omega) ?_
  refine zd_ne (tgt := 62) S dL_isWell_45 (by decide) (by rw [← hc]; rfl) ?_
  refine lv_aload_n hx hb dL_isWell_48 rfl (lv_at hl 2 rfl) ?_
  refine lv_iload hx hb dL_isWell_49 (lv_at hl 0 rfl) ?_
  refine zow (rest := []) S K hP hD hS hA hl.1 (F_X5_answer l G x0 R h wa (nI (naS R)) hOa) rfl rfl gL_isWell_X5_answer rfl eX5_answer hOa.len hOa.hd rfl rfl (Nat.le_of_ble_eq_true rfl) (Nat.le_of_ble_eq_true rfl) (Nat.le_of_ble_eq_true rfl) ⟨Nat.zero_le _, Nat.zero_le _⟩ dL_isWell_51 (fun r u H locs hw hP hD hS => ?_)
  obtain ⟨wa, hz_⟩ := u
  obtain ⟨rfl, hOa⟩ := hw
  have hOa : OI G x0 R h wa := hOa
  have hP : va_P (gD G) vwCl wa H := hP
  have hD : va_D A wa := hD
  refine lv_iconst (v := -1) hx hb dL_isWell_54 (by decide +kernel) ?_
  refine zd_ne (tgt := 62) S dL_isWell_55 (by decide) (v_an0 hR) ?_
  refine lv_iconst (v := nI 1) hx hb dL_isWell_58 (by decide +kernel) ?_
  refine lv_goto (tgt := 63) hx hb dL_isWell_59 (by decide) ?_
  refine lv_istore (lv' := [(5, .int (nI 1)), (4, .int (nI (naS R))), (3, .int (nI R.2.1)), (0, .ref x0), (1, .int (nI wm)), (2, .int x)]) hx hb dL_isWell_63 hl (by decide) rfl (fun ls hl => ?_)
  refine lv_aload_n hx hb dL_isWell_65 rfl (lv_at hl 3 rfl) ?_
  refine lv_iload_n hx hb dL_isWell_66 rfl (lv_at hl 5 rfl) ?_
  refine lv_iload hx hb dL_isWell_67 (lv_at hl 1 rfl) ?_
  refine zos (rest := [.ref x0]) S K hP hD hS hA hl.1 (k_up l G x (naS R) (by omega) (by omega)) rfl rfl gL_isWell_L_up rfl eL_up.2 rfl rfl (Nat.le_of_ble_eq_true rfl) (Nat.le_of_ble_eq_true rfl) (Nat.le_of_ble_eq_true rfl) ⟨Nat.zero_le _, Nat.zero_le _⟩ dL_isWell_69 (fun r H locs hw hP hD hS => ?_)
  obtain ⟨_, rfl⟩ := hw
  obtain ⟨qa, hqa⟩ : ∃ z, z = upN x (naS R) := ⟨_, rfl⟩
  refine z_top (y := nI qa) (congrArg nI hqa.symm) ?_
  have hqqa : qa < naS R := by rw [hqa]; exact up_lt _ hn1
  refine zow (rest := []) S K hP hD hS hA hl.1 (F_X5_answer l G x0 R h wa (nI qa) hOa) rfl rfl gL_isWell_X5_answer rfl eX5_answer hOa.len hOa.hd rfl rfl (Nat.le_of_ble_eq_true rfl) (Nat.le_of_ble_eq_true rfl) (Nat.le_of_ble_eq_true rfl) ⟨Nat.zero_le _, Nat.zero_le _⟩ dL_isWell_72 (fun r u H locs hw hP hD hS => ?_)
  obtain ⟨wa, hz_⟩ := u
  obtain ⟨rfl, hOa⟩ := hw
  have hOa : OI G x0 R h wa := hOa
  have hP : va_P (gD G) vwCl wa H := hP
  have hD : va_D A wa := hD
  refine z_top (y := (nI (anS R qa))) (v_an hR hqqa) ?_
  obtain ⟨aa1, aa2, -⟩ := an_ok hR hqqa
  obtain ⟨aa, haa⟩ : ∃ z, z = anS R qa := ⟨_, rfl⟩
  refine z_top (y := nI aa) (congrArg nI haa.symm) ?_
  rw [← haa] at aa1 aa2
  have aa3 : aa < 4096 := by omega
  refine lv_istore (lv' := [(6, .int (nI aa)), (5, .int (nI 1)), (4, .int (nI (naS R))), (3, .int (nI R.2.1)), (0, .ref x0), (1, .int (nI wm)), (2, .int x)]) hx hb dL_isWell_75 hl (by decide) rfl (fun ls hl => ?_)
  refine lv_aload_n hx hb dL_isWell_77 rfl (lv_at hl 4 rfl) ?_
  refine lv_iload_n hx hb dL_isWell_78 rfl (lv_at hl 6 rfl) ?_
  refine lv_bipush (v := nI 12) hx hb dL_isWell_79 (by decide +kernel) ?_
  refine lv_ishr hx hb dL_isWell_81 ?_
  obtain ⟨xz, hxz⟩ : ∃ z, z = x >>> (nI 12 &&& 31) := ⟨_, rfl⟩
  refine z_top (y := xz) hxz.symm ?_
  refine lv_iload hx hb dL_isWell_82 (lv_at hl 2 rfl) ?_
  refine zos (rest := [.ref x0]) S K hP hD hS hA hl.1 (k_up l G xz (naS R) (by omega) (by omega)) rfl rfl gL_isWell_L_up rfl eL_up.2 rfl rfl (Nat.le_of_ble_eq_true rfl) (Nat.le_of_ble_eq_true rfl) (Nat.le_of_ble_eq_true rfl) ⟨Nat.zero_le _, Nat.zero_le _⟩ dL_isWell_84 (fun r H locs hw hP hD hS => ?_)
  obtain ⟨_, rfl⟩ := hw
  obtain ⟨qb, hqb⟩ : ∃ z, z = upN xz (naS R) := ⟨_, rfl⟩
  refine z_top (y := nI qb) (congrArg nI hqb.symm) ?_
  have hqqb : qb < naS R := by rw [hqb]; exact up_lt _ hn1
  refine zow (rest := []) S K hP hD hS hA hl.1 (F_X5_answer l G x0 R h wa (nI qb) hOa) rfl rfl gL_isWell_X5_answer rfl eX5_answer hOa.len hOa.hd rfl rfl (Nat.le_of_ble_eq_true rfl) (Nat.le_of_ble_eq_true rfl) (Nat.le_of_ble_eq_true rfl) ⟨Nat.zero_le _, Nat.zero_le _⟩ dL_isWell_87 (fun r u H locs hw hP hD hS => ?_)
  obtain ⟨wa, hz_⟩ := u
  obtain ⟨rfl, hOa⟩ := hw
  have hOa : OI G x0 R h wa := hOa
  have hP : va_P (gD G) vwCl wa H := hP
  have hD : va_D A wa := hD
  refine z_top (y := (nI (anS R qb))) (v_an hR hqqb) ?_
  obtain ⟨bb1, bb2, -⟩ := an_ok hR hqqb
  obtain ⟨bb, hbb⟩ : ∃ z, z = anS R qb := ⟨_, rfl⟩
  refine z_top (y := nI bb) (congrArg nI hbb.symm) ?_
  rw [← hbb] at bb1 bb2
  have bb3 : bb < 4096 := by omega
  refine lv_istore (lv' := [(7, .int (nI bb)), (6, .int (nI aa)), (5, .int (nI 1)), (4, .int (nI (naS R))), (3, .int (nI R.2.1)), (0, .ref x0), (1, .int (nI wm)), (2, .int x)]) hx hb dL_isWell_90 hl (by decide) rfl (fun ls hl => ?_)
  refine lv_iconst (v := nI 0) hx hb dL_isWell_92 (by decide +kernel) ?_
  refine lv_istore (lv' := [(8, .int (nI 0)), (7, .int (nI bb)), (6, .int (nI aa)), (5, .int (nI 1)), (4, .int (nI (naS R))), (3, .int (nI R.2.1)), (0, .ref x0), (1, .int (nI wm)), (2, .int x)]) hx hb dL_isWell_93 hl (by decide) rfl (fun ls hl => ?_)
  have lp_95 : ∀ (n_ : Nat) (i : Nat) (wa : va_W), R.2.1 - i < n_ → (i ≤ R.2.1) → OI G x0 R h wa → ∀ (H : Heap) (locs : List Loc), va_P (gD G) vwCl wa H → va_D A wa → va_S A s.heap H locs → ∀ ls : Array Slot, lv_has ls 16 [(0, .ref x0), (1, .int (nI wm)), (3, .int (nI R.2.1)), (4, .int (nI (naS R))), (5, .int (nI 1)), (6, .int (nI aa)), (7, .int (nI bb)), (8, .int (nI i))] → W p l e ({ frames := 6, cells := 0, slots := 0, locals := 138 } : Room) s m args below meth c H locs 0 0 (MQ below (va_Qi (fun (r : Int32) (u : WU) => r = nI 1 ∧ OI G x0 R h u.1) (cB G A (fun (u : WU) => u.1)) A) args s 0 0 A) (F0 m 95 ls []) := by
    intro n_
    induction n_ with
    | zero =>
      intro i wa h0_
      exact absurd h0_ (Nat.not_lt_zero _)
    | succ n_ ih_95 =>
      intro i wa hm_ hi hOa H locs hP hD hS ls hl
      refine lv_iload hx hb dL_isWell_95 (lv_at hl 7 rfl) ?_
      refine lv_iload_n hx hb dL_isWell_97 rfl (lv_at hl 2 rfl) ?_
      refine zb_ge (tgt := 393) S dL_isWell_98 (by decide) (by omega) (by omega) (fun c_98 => ?_) (fun c_98 => ?_)
      · skip
        have h0q : 0 < naS R := hn1
        obtain ⟨d1, d2, -⟩ := an_ok hR h0q
        have d3 : anS R 0 < 4096 := by omega
        refine lv_iload hx hb dL_isWell_393 (lv_at hl 5 rfl) ?_
        refine lv_iload hx hb dL_isWell_395 (lv_at hl 6 rfl) ?_
        refine zi_xor S dL_isWell_397 ?_
        refine lv_aload_n hx hb dL_isWell_398 rfl (lv_at hl 0 rfl) ?_
        refine lv_iconst (v := nI 0) hx hb dL_isWell_399 (by decide +kernel) ?_
        refine zow (rest := [.int (nI (aa ^^^ bb))]) S K hP hD hS hA hl.1 (F_X5_answer l G x0 R h wa (nI 0) hOa) rfl rfl gL_isWell_X5_answer rfl eX5_answer hOa.len hOa.hd rfl rfl (Nat.le_of_ble_eq_true rfl) (Nat.le_of_ble_eq_true rfl) (Nat.le_of_ble_eq_true rfl) ⟨Nat.zero_le _, Nat.zero_le _⟩ dL_isWell_400 (fun r u H locs hw hP hD hS => ?_)
        obtain ⟨wa, hz_⟩ := u
        obtain ⟨rfl, hOa⟩ := hw
        have hOa : OI G x0 R h wa := hOa
        have hP : va_P (gD G) vwCl wa H := hP
        have hD : va_D A wa := hD
        refine z_top (y := (nI (anS R 0))) (v_an hR h0q) ?_
        refine zi_xor S dL_isWell_403 ?_
        obtain ⟨cc_, hcc_⟩ : ∃ z, z = (aa ^^^ bb) ^^^ (anS R 0) := ⟨_, rfl⟩
        refine z_top (y := nI cc_) (congrArg nI hcc_.symm) ?_
        have cc2 : isS R cc_ = true := by rw [hcc_]; exact is_xor aa2 bb2 d2
        have cc1 : cc_ < 2 ^ R.1 := by rw [hcc_]; exact Nat.xor_lt_two_pow (Nat.xor_lt_two_pow aa1 bb1) d1
        have cc3 := ne_self hR cc1 cc2
        refine lv_istore (lv' := [(8, .int (nI cc_)), (0, .ref x0), (1, .int (nI wm)), (3, .int (nI R.2.1)), (4, .int (nI (naS R))), (5, .int (nI 1)), (6, .int (nI aa)), (7, .int (nI bb))]) hx hb dL_isWell_404 hl (by decide) rfl (fun ls hl => ?_)
        refine lv_iload hx hb dL_isWell_406 (lv_at hl 5 rfl) ?_
        refine zd_zf (tgt := 489) S dL_isWell_408 (by decide) (by decide) ?_
        refine lv_aload_n hx hb dL_isWell_411 rfl (lv_at hl 1 rfl) ?_
        refine lv_iload hx hb dL_isWell_412 (lv_at hl 0 rfl) ?_
        refine lv_iconst (v := nI 1) hx hb dL_isWell_414 (by decide +kernel) ?_
        refine zow (rest := []) S K hP hD hS hA hl.1 (F_X5_nearest l G x0 R h wa (nI cc_) (nI 1) hOa) rfl rfl gL_isWell_X5_nearest rfl eX5_nearest hOa.len hOa.hd rfl rfl (Nat.le_of_ble_eq_true rfl) (Nat.le_of_ble_eq_true rfl) (Nat.le_of_ble_eq_true rfl) ⟨Nat.zero_le _, Nat.zero_le _⟩ dL_isWell_415 (fun r u H locs hw hP hD hS => ?_)
        obtain ⟨wa, hz_⟩ := u
        obtain ⟨rfl, hOa⟩ := hw
        have hOa : OI G x0 R h wa := hOa
        have hP : va_P (gD G) vwCl wa H := hP
        have hD : va_D A wa := hD
        refine z_top (y := (nI 0)) ((v_ne1 hR cc1).trans (by rw [cc3, Nat.xor_self, pcn_eq, pcnt_0])) ?_
        refine zd_nf (tgt := 489) S dL_isWell_418 (by decide) rfl ?_
        refine lv_aload_n hx hb dL_isWell_421 rfl (lv_at hl 1 rfl) ?_
        refine lv_iload hx hb dL_isWell_422 (lv_at hl 0 rfl) ?_
        refine lv_iconst (v := nI 0) hx hb dL_isWell_424 (by decide +kernel) ?_
        refine zow (rest := []) S K hP hD hS hA hl.1 (F_X5_nearest l G x0 R h wa (nI cc_) (nI 0) hOa) rfl rfl gL_isWell_X5_nearest rfl eX5_nearest hOa.len hOa.hd rfl rfl (Nat.le_of_ble_eq_true rfl) (Nat.le_of_ble_eq_true rfl) (Nat.le_of_ble_eq_true rfl) ⟨Nat.zero_le _, Nat.zero_le _⟩ dL_isWell_425 (fun r u H locs hw hP hD hS => ?_)
        obtain ⟨wa, hz_⟩ := u
        obtain ⟨rfl, hOa⟩ := hw
        have hOa : OI G x0 R h wa := hOa
        have hP : va_P (gD G) vwCl wa H := hP
        have hD : va_D A wa := hD
        refine z_top (y := (nI cc_)) ((v_ne0 hR cc1).trans (by rw [cc3])) ?_
        refine lv_iload hx hb dL_isWell_428 (lv_at hl 0 rfl) ?_
        refine zd_ne (tgt := 489) S dL_isWell_430 (by decide) rfl ?_
        refine lv_aload_n hx hb dL_isWell_433 rfl (lv_at hl 1 rfl) ?_
        refine lv_iconst (v := nI 3) hx hb dL_isWell_434 (by decide +kernel) ?_
        refine zow (rest := []) S K hP hD hS hA hl.1 (F_X5_count l G x0 R h wa (nI 3) hOa) rfl rfl gL_isWell_X5_count rfl eX5_count hOa.len hOa.hd rfl rfl (Nat.le_of_ble_eq_true rfl) (Nat.le_of_ble_eq_true rfl) (Nat.le_of_ble_eq_true rfl) ⟨Nat.zero_le _, Nat.zero_le _⟩ dL_isWell_435 (fun r u H locs hw hP hD hS => ?_)
        obtain ⟨wa, hz_⟩ := u
        obtain ⟨rfl, hOa⟩ := hw
        have hOa : OI G x0 R h wa := hOa
        have hP : va_P (gD G) vwCl wa H := hP
        have hD : va_D A wa := hD
        refine z_top (y := (nI (ctS R 2))) cnt_3.symm ?_
        refine zq_gt (tgt := 472) S dL_isWell_438 (by decide) (z_toInt (by omega)) (fun c_438 => ?_) (fun c_438 => ?_)
        · skip
          refine lv_aload_n hx hb dL_isWell_472 rfl (lv_at hl 1 rfl) ?_
          refine lv_iconst (v := nI 1) hx hb dL_isWell_473 (by decide +kernel) ?_
          refine zow (rest := []) S K hP hD hS hA hl.1 (F_X5_best l G x0 R h wa (nI 1) hOa) rfl rfl gL_isWell_X5_best rfl eX5_best hOa.len hOa.hd rfl rfl (Nat.le_of_ble_eq_true rfl) (Nat.le_of_ble_eq_true rfl) (Nat.le_of_ble_eq_true rfl) ⟨Nat.zero_le _, Nat.zero_le _⟩ dL_isWell_474 (fun r u H locs hw hP hD hS => ?_)
          obtain ⟨wa, hz_⟩ := u
          obtain ⟨rfl, hOa⟩ := hw
          have hOa : OI G x0 R h wa := hOa
          have hP : va_P (gD G) vwCl wa H := hP
          have hD : va_D A wa := hD
          refine z_top (y := (nI ((brS R).2.1))) v_b1 ?_
          refine lv_aload_n hx hb dL_isWell_477 rfl (lv_at hl 1 rfl) ?_
          refine lv_iconst (v := nI 3) hx hb dL_isWell_478 (by decide +kernel) ?_
          refine zow (rest := [.int (nI ((brS R).2.1))]) S K hP hD hS hA hl.1 (F_X5_count l G x0 R h wa (nI 3) hOa) rfl rfl gL_isWell_X5_count rfl eX5_count hOa.len hOa.hd rfl rfl (Nat.le_of_ble_eq_true rfl) (Nat.le_of_ble_eq_true rfl) (Nat.le_of_ble_eq_true rfl) ⟨Nat.zero_le _, Nat.zero_le _⟩ dL_isWell_479 (fun r u H locs hw hP hD hS => ?_)
          obtain ⟨wa, hz_⟩ := u
          obtain ⟨rfl, hOa⟩ := hw
          have hOa : OI G x0 R h wa := hOa
          have hP : va_P (gD G) vwCl wa H := hP
          have hD : va_D A wa := hD
          refine z_top (y := (nI (ctS R 2))) cnt_3.symm ?_
          have hbl := br_le hR
          refine zb_gt (tgt := 489) S dL_isWell_482 (by decide) (by omega) (by omega) (fun c_482 => ?_) (fun c_482 => ?_)
          · skip
            exact absurd hbl (by omega)
          · skip
            refine lv_iconst (v := nI 1) hx hb dL_isWell_485 (by decide +kernel) ?_
            refine lv_goto (tgt := 490) hx hb dL_isWell_486 (by decide) ?_
            exact z_zret S hrt hlk hP hD hS ⟨wa, hOa.len⟩ rfl ⟨rfl, hOa⟩ (z_bnar true) dL_isWell_490
        · skip
          obtain ⟨z1, z2, z3⟩ := br_0 hR (show ctS R 2 = 0 by omega)
          refine lv_aload_n hx hb dL_isWell_441 rfl (lv_at hl 1 rfl) ?_
          refine lv_iconst (v := nI 1) hx hb dL_isWell_442 (by decide +kernel) ?_
          refine zow (rest := []) S K hP hD hS hA hl.1 (F_X5_best l G x0 R h wa (nI 1) hOa) rfl rfl gL_isWell_X5_best rfl eX5_best hOa.len hOa.hd rfl rfl (Nat.le_of_ble_eq_true rfl) (Nat.le_of_ble_eq_true rfl) (Nat.le_of_ble_eq_true rfl) ⟨Nat.zero_le _, Nat.zero_le _⟩ dL_isWell_443 (fun r u H locs hw hP hD hS => ?_)
          obtain ⟨wa, hz_⟩ := u
          obtain ⟨rfl, hOa⟩ := hw
          have hOa : OI G x0 R h wa := hOa
          have hP : va_P (gD G) vwCl wa H := hP
          have hD : va_D A wa := hD
          refine z_top (y := (nI 0)) (v_b1.trans (by rw [z1])) ?_
          refine zd_nf (tgt := 489) S dL_isWell_446 (by decide) rfl ?_
          refine lv_aload_n hx hb dL_isWell_449 rfl (lv_at hl 1 rfl) ?_
          refine lv_iconst (v := nI 0) hx hb dL_isWell_450 (by decide +kernel) ?_
          refine zow (rest := []) S K hP hD hS hA hl.1 (F_X5_best l G x0 R h wa (nI 0) hOa) rfl rfl gL_isWell_X5_best rfl eX5_best hOa.len hOa.hd rfl rfl (Nat.le_of_ble_eq_true rfl) (Nat.le_of_ble_eq_true rfl) (Nat.le_of_ble_eq_true rfl) ⟨Nat.zero_le _, Nat.zero_le _⟩ dL_isWell_451 (fun r u H locs hw hP hD hS => ?_)
          obtain ⟨wa, hz_⟩ := u
          obtain ⟨rfl, hOa⟩ := hw
          have hOa : OI G x0 R h wa := hOa
          have hP : va_P (gD G) vwCl wa H := hP
          have hD : va_D A wa := hD
          refine z_top (y := (nI (anS R 0))) (v_b0.trans (by rw [z2])) ?_
          refine lv_aload_n hx hb dL_isWell_454 rfl (lv_at hl 1 rfl) ?_
          refine lv_iconst (v := nI 0) hx hb dL_isWell_455 (by decide +kernel) ?_
          refine zow (rest := [.int (nI (anS R 0))]) S K hP hD hS hA hl.1 (F_X5_answer l G x0 R h wa (nI 0) hOa) rfl rfl gL_isWell_X5_answer rfl eX5_answer hOa.len hOa.hd rfl rfl (Nat.le_of_ble_eq_true rfl) (Nat.le_of_ble_eq_true rfl) (Nat.le_of_ble_eq_true rfl) ⟨Nat.zero_le _, Nat.zero_le _⟩ dL_isWell_456 (fun r u H locs hw hP hD hS => ?_)
          obtain ⟨wa, hz_⟩ := u
          obtain ⟨rfl, hOa⟩ := hw
          have hOa : OI G x0 R h wa := hOa
          have hP : va_P (gD G) vwCl wa H := hP
          have hD : va_D A wa := hD
          refine z_top (y := (nI (anS R 0))) (v_an hR h0q) ?_
          refine zd_ne (tgt := 489) S dL_isWell_459 (by decide) rfl ?_
          refine lv_aload_n hx hb dL_isWell_462 rfl (lv_at hl 1 rfl) ?_
          refine lv_iconst (v := nI 2) hx hb dL_isWell_463 (by decide +kernel) ?_
          refine zow (rest := []) S K hP hD hS hA hl.1 (F_X5_best l G x0 R h wa (nI 2) hOa) rfl rfl gL_isWell_X5_best rfl eX5_best hOa.len hOa.hd rfl rfl (Nat.le_of_ble_eq_true rfl) (Nat.le_of_ble_eq_true rfl) (Nat.le_of_ble_eq_true rfl) ⟨Nat.zero_le _, Nat.zero_le _⟩ dL_isWell_464 (fun r u H locs hw hP hD hS => ?_)
          obtain ⟨wa, hz_⟩ := u
          obtain ⟨rfl, hOa⟩ := hw
          have hOa : OI G x0 R h wa := hOa
          have hP : va_P (gD G) vwCl wa H := hP
          have hD : va_D A wa := hD
          refine z_top (y := (nI (naS R))) (v_b2.trans (by rw [z3])) ?_
          refine lv_iload hx hb dL_isWell_467 (lv_at hl 4 rfl) ?_
          refine zd_ne (tgt := 489) S dL_isWell_469 (by decide) rfl ?_
          refine lv_aload_n hx hb dL_isWell_472 rfl (lv_at hl 1 rfl) ?_
          refine lv_iconst (v := nI 1) hx hb dL_isWell_473 (by decide +kernel) ?_
          refine zow (rest := []) S K hP hD hS hA hl.1 (F_X5_best l G x0 R h wa (nI 1) hOa) rfl rfl gL_isWell_X5_best rfl eX5_best hOa.len hOa.hd rfl rfl (Nat.le_of_ble_eq_true rfl) (Nat.le_of_ble_eq_true rfl) (Nat.le_of_ble_eq_true rfl) ⟨Nat.zero_le _, Nat.zero_le _⟩ dL_isWell_474 (fun r u H locs hw hP hD hS => ?_)
          obtain ⟨wa, hz_⟩ := u
          obtain ⟨rfl, hOa⟩ := hw
          have hOa : OI G x0 R h wa := hOa
          have hP : va_P (gD G) vwCl wa H := hP
          have hD : va_D A wa := hD
          refine z_top (y := (nI ((brS R).2.1))) v_b1 ?_
          refine lv_aload_n hx hb dL_isWell_477 rfl (lv_at hl 1 rfl) ?_
          refine lv_iconst (v := nI 3) hx hb dL_isWell_478 (by decide +kernel) ?_
          refine zow (rest := [.int (nI ((brS R).2.1))]) S K hP hD hS hA hl.1 (F_X5_count l G x0 R h wa (nI 3) hOa) rfl rfl gL_isWell_X5_count rfl eX5_count hOa.len hOa.hd rfl rfl (Nat.le_of_ble_eq_true rfl) (Nat.le_of_ble_eq_true rfl) (Nat.le_of_ble_eq_true rfl) ⟨Nat.zero_le _, Nat.zero_le _⟩ dL_isWell_479 (fun r u H locs hw hP hD hS => ?_)
          obtain ⟨wa, hz_⟩ := u
          obtain ⟨rfl, hOa⟩ := hw
          have hOa : OI G x0 R h wa := hOa
          have hP : va_P (gD G) vwCl wa H := hP
          have hD : va_D A wa := hD
          refine z_top (y := (nI (ctS R 2))) cnt_3.symm ?_
          have hbl := br_le hR
          refine zb_gt (tgt := 489) S dL_isWell_482 (by decide) (by omega) (by omega) (fun c_482 => ?_) (fun c_482 => ?_)
          · skip
            exact absurd hbl (by omega)
          · skip
            refine lv_iconst (v := nI 1) hx hb dL_isWell_485 (by decide +kernel) ?_
            refine lv_goto (tgt := 490) hx hb dL_isWell_486 (by decide) ?_
            exact z_zret S hrt hlk hP hD hS ⟨wa, hOa.len⟩ rfl ⟨rfl, hOa⟩ (z_bnar true) dL_isWell_490
      · skip
        refine lv_iload hx hb dL_isWell_101 (lv_at hl 4 rfl) ?_
        refine zd_zf (tgt := 393) S dL_isWell_103 (by decide) (by decide) ?_
        have hgi := (hR.2.2.2 i c_98).2.2
        have hfl := (hR.2.2.2 i c_98).2.1
        have hfp : R.2.2.1 i < 4096 := by omega
        have hfa := fit_st hR aa2 c_98
        have hfb := fit_st hR bb2 c_98
        have hkn := kn_st hR c_98
        have hsl := st_le (R := R) i
        refine lv_aload_n hx hb dL_isWell_106 rfl (lv_at hl 0 rfl) ?_
        refine lv_iload hx hb dL_isWell_107 (lv_at hl 7 rfl) ?_
        refine lv_iconst (v := nI 0) hx hb dL_isWell_109 (by decide +kernel) ?_
        refine zow (rest := []) S K hP hD hS hA hl.1 (F_X5_rule l G x0 R h wa (nI i) (nI 0) hOa) rfl rfl gL_isWell_X5_rule rfl eX5_rule hOa.len hOa.hd rfl rfl (Nat.le_of_ble_eq_true rfl) (Nat.le_of_ble_eq_true rfl) (Nat.le_of_ble_eq_true rfl) ⟨Nat.zero_le _, Nat.zero_le _⟩ dL_isWell_110 (fun r u H locs hw hP hD hS => ?_)
        obtain ⟨wa, hz_⟩ := u
        obtain ⟨rfl, hOa⟩ := hw
        have hOa : OI G x0 R h wa := hOa
        have hP : va_P (gD G) vwCl wa H := hP
        have hD : va_D A wa := hD
        refine z_top (y := (nI (R.2.2.1 i))) (v_rule0 hR c_98) ?_
        refine lv_istore (lv' := [(9, .int (nI (R.2.2.1 i))), (0, .ref x0), (1, .int (nI wm)), (3, .int (nI R.2.1)), (4, .int (nI (naS R))), (5, .int (nI 1)), (6, .int (nI aa)), (7, .int (nI bb)), (8, .int (nI i))]) hx hb dL_isWell_113 hl (by decide) rfl (fun ls hl => ?_)
        refine lv_aload_n hx hb dL_isWell_115 rfl (lv_at hl 1 rfl) ?_
        refine lv_iload hx hb dL_isWell_116 (lv_at hl 8 rfl) ?_
        refine lv_iconst (v := nI 1) hx hb dL_isWell_118 (by decide +kernel) ?_
        refine zow (rest := []) S K hP hD hS hA hl.1 (F_X5_rule l G x0 R h wa (nI i) (nI 1) hOa) rfl rfl gL_isWell_X5_rule rfl eX5_rule hOa.len hOa.hd rfl rfl (Nat.le_of_ble_eq_true rfl) (Nat.le_of_ble_eq_true rfl) (Nat.le_of_ble_eq_true rfl) ⟨Nat.zero_le _, Nat.zero_le _⟩ dL_isWell_119 (fun r u H locs hw hP hD hS => ?_)
        obtain ⟨wa, hz_⟩ := u
        obtain ⟨rfl, hOa⟩ := hw
        have hOa : OI G x0 R h wa := hOa
        have hP : va_P (gD G) vwCl wa H := hP
        have hD : va_D A wa := hD
        refine z_top (y := (nI (R.2.2.2 i))) (v_rule1 hR c_98) ?_
        refine lv_istore (lv' := [(10, .int (nI (R.2.2.2 i))), (9, .int (nI (R.2.2.1 i))), (0, .ref x0), (1, .int (nI wm)), (3, .int (nI R.2.1)), (4, .int (nI (naS R))), (5, .int (nI 1)), (6, .int (nI aa)), (7, .int (nI bb)), (8, .int (nI i))]) hx hb dL_isWell_122 hl (by decide) rfl (fun ls hl => ?_)
        refine lv_aload_n hx hb dL_isWell_124 rfl (lv_at hl 2 rfl) ?_
        refine lv_iload hx hb dL_isWell_125 (lv_at hl 9 rfl) ?_
        refine lv_iconst (v := nI 2) hx hb dL_isWell_127 (by decide +kernel) ?_
        refine zow (rest := []) S K hP hD hS hA hl.1 (F_X5_rule l G x0 R h wa (nI i) (nI 2) hOa) rfl rfl gL_isWell_X5_rule rfl eX5_rule hOa.len hOa.hd rfl rfl (Nat.le_of_ble_eq_true rfl) (Nat.le_of_ble_eq_true rfl) (Nat.le_of_ble_eq_true rfl) ⟨Nat.zero_le _, Nat.zero_le _⟩ dL_isWell_128 (fun r u H locs hw hP hD hS => ?_)
        obtain ⟨wa, hz_⟩ := u
        obtain ⟨rfl, hOa⟩ := hw
        have hOa : OI G x0 R h wa := hOa
        have hP : va_P (gD G) vwCl wa H := hP
        have hD : va_D A wa := hD
        refine z_top (y := (nI (stS R i))) (v_rule2 hR c_98) ?_
        refine lv_istore (lv' := [(11, .int (nI (stS R i))), (10, .int (nI (R.2.2.2 i))), (9, .int (nI (R.2.2.1 i))), (0, .ref x0), (1, .int (nI wm)), (3, .int (nI R.2.1)), (4, .int (nI (naS R))), (5, .int (nI 1)), (6, .int (nI aa)), (7, .int (nI bb)), (8, .int (nI i))]) hx hb dL_isWell_131 hl (by decide) rfl (fun ls hl => ?_)
        refine lv_aload_n hx hb dL_isWell_133 rfl (lv_at hl 3 rfl) ?_
        refine lv_iload hx hb dL_isWell_134 (lv_at hl 10 rfl) ?_
        refine lv_iconst (v := nI 3) hx hb dL_isWell_136 (by decide +kernel) ?_
        refine zow (rest := []) S K hP hD hS hA hl.1 (F_X5_rule l G x0 R h wa (nI i) (nI 3) hOa) rfl rfl gL_isWell_X5_rule rfl eX5_rule hOa.len hOa.hd rfl rfl (Nat.le_of_ble_eq_true rfl) (Nat.le_of_ble_eq_true rfl) (Nat.le_of_ble_eq_true rfl) ⟨Nat.zero_le _, Nat.zero_le _⟩ dL_isWell_137 (fun r u H locs hw hP hD hS => ?_)
        obtain ⟨wa, hz_⟩ := u
        obtain ⟨rfl, hOa⟩ := hw
        have hOa : OI G x0 R h wa := hOa
        have hP : va_P (gD G) vwCl wa H := hP
        have hD : va_D A wa := hD
        refine z_top (y := (if stS R i = 0 then -6 else nI (rsS R i))) (v_rule3 hR c_98) ?_
        refine lv_istore (lv' := [(12, .int (if stS R i = 0 then -6 else nI (rsS R i))), (11, .int (nI (stS R i))), (10, .int (nI (R.2.2.2 i))), (9, .int (nI (R.2.2.1 i))), (0, .ref x0), (1, .int (nI wm)), (3, .int (nI R.2.1)), (4, .int (nI (naS R))), (5, .int (nI 1)), (6, .int (nI aa)), (7, .int (nI bb)), (8, .int (nI i))]) hx hb dL_isWell_140 hl (by decide) rfl (fun ls hl => ?_)
        have h3 : stS R i = 0 ∨ stS R i = 1 ∨ stS R i = 2 := by omega
        rcases h3 with h3 | h3 | h3
        · skip
          have hl : lv_has ls 16 [(12, .int (if stS R i = 0 then -6 else nI (rsS R i))), (11, .int (nI (stS R i))), (10, .int (nI (R.2.2.2 i))), (9, .int (nI (R.2.2.1 i))), (0, .ref x0), (1, .int (nI wm)), (3, .int (nI R.2.1)), (4, .int (nI (naS R))), (5, .int (nI 1)), (6, .int (nI aa)), (7, .int (nI bb)), (8, .int (nI i))] := hl
          rw [if_pos h3, h3] at hl
          have hl : lv_has ls 16 [(12, .int (-6)), (11, .int (nI 0)), (10, .int (nI (R.2.2.2 i))), (9, .int (nI (R.2.2.1 i))), (0, .ref x0), (1, .int (nI wm)), (3, .int (nI R.2.1)), (4, .int (nI (naS R))), (5, .int (nI 1)), (6, .int (nI aa)), (7, .int (nI bb)), (8, .int (nI i))] := hl
          rw [h3] at hkn
          refine lv_iload hx hb dL_isWell_142 (lv_at hl 3 rfl) ?_
          refine lv_iload hx hb dL_isWell_144 (lv_at hl 9 rfl) ?_
          refine zi_and S dL_isWell_146 ?_
          refine zos (rest := []) S K hP hD hS hA hl.1 (k_odd l G ((R.2.2.1 i) &&& aa) (Nat.lt_of_le_of_lt Nat.and_le_left hfp)) rfl rfl gL_isWell_L_odd rfl eL_odd.2 rfl rfl (Nat.le_of_ble_eq_true rfl) (Nat.le_of_ble_eq_true rfl) (Nat.le_of_ble_eq_true rfl) ⟨Nat.zero_le _, Nat.zero_le _⟩ dL_isWell_147 (fun r H locs hw hP hD hS => ?_)
          obtain ⟨_, rfl⟩ := hw
          refine lv_iload hx hb dL_isWell_150 (lv_at hl 2 rfl) ?_
          refine zd_ne (tgt := 159) S dL_isWell_152 (by decide) (congrArg nI (hfa.mpr (by omega))) ?_
          refine lv_iconst (v := nI 1) hx hb dL_isWell_155 (by decide +kernel) ?_
          refine lv_goto (tgt := 160) hx hb dL_isWell_156 (by decide) ?_
          refine lv_iload hx hb dL_isWell_160 (lv_at hl 1 rfl) ?_
          refine lv_iconst (v := nI 2) hx hb dL_isWell_162 (by decide +kernel) ?_
          refine zd_eqf (tgt := 170) S dL_isWell_163 (by decide) (by decide) ?_
          refine lv_iconst (v := nI 1) hx hb dL_isWell_166 (by decide +kernel) ?_
          refine lv_goto (tgt := 171) hx hb dL_isWell_167 (by decide) ?_
          refine zd_ne (tgt := 234) S dL_isWell_171 (by decide) rfl ?_
          refine lv_iload hx hb dL_isWell_174 (lv_at hl 3 rfl) ?_
          refine lv_iload hx hb dL_isWell_176 (lv_at hl 10 rfl) ?_
          refine zi_and S dL_isWell_178 ?_
          refine zos (rest := []) S K hP hD hS hA hl.1 (k_odd l G ((R.2.2.1 i) &&& bb) (Nat.lt_of_le_of_lt Nat.and_le_left hfp)) rfl rfl gL_isWell_L_odd rfl eL_odd.2 rfl rfl (Nat.le_of_ble_eq_true rfl) (Nat.le_of_ble_eq_true rfl) (Nat.le_of_ble_eq_true rfl) ⟨Nat.zero_le _, Nat.zero_le _⟩ dL_isWell_179 (fun r H locs hw hP hD hS => ?_)
          obtain ⟨_, rfl⟩ := hw
          refine lv_iload hx hb dL_isWell_182 (lv_at hl 2 rfl) ?_
          refine zd_ne (tgt := 191) S dL_isWell_184 (by decide) (congrArg nI (hfb.mpr (by omega))) ?_
          refine lv_iconst (v := nI 1) hx hb dL_isWell_187 (by decide +kernel) ?_
          refine lv_goto (tgt := 192) hx hb dL_isWell_188 (by decide) ?_
          refine lv_iload hx hb dL_isWell_192 (lv_at hl 1 rfl) ?_
          refine lv_iconst (v := nI 2) hx hb dL_isWell_194 (by decide +kernel) ?_
          refine zd_eqf (tgt := 202) S dL_isWell_195 (by decide) (by decide) ?_
          refine lv_iconst (v := nI 1) hx hb dL_isWell_198 (by decide +kernel) ?_
          refine lv_goto (tgt := 203) hx hb dL_isWell_199 (by decide) ?_
          refine zd_ne (tgt := 234) S dL_isWell_203 (by decide) rfl ?_
          refine lv_aload_n hx hb dL_isWell_206 rfl (lv_at hl 4 rfl) ?_
          refine lv_iload hx hb dL_isWell_207 (lv_at hl 3 rfl) ?_
          refine zow (rest := []) S K hP hD hS hA hl.1 (F_X5_known l G x0 R h wa (nI (R.2.2.1 i)) hOa) rfl rfl gL_isWell_X5_known rfl eX5_known hOa.len hOa.hd rfl rfl (Nat.le_of_ble_eq_true rfl) (Nat.le_of_ble_eq_true rfl) (Nat.le_of_ble_eq_true rfl) ⟨Nat.zero_le _, Nat.zero_le _⟩ dL_isWell_209 (fun r u H locs hw hP hD hS => ?_)
          obtain ⟨wa, hz_⟩ := u
          obtain ⟨rfl, hOa⟩ := hw
          have hOa : OI G x0 R h wa := hOa
          have hP : va_P (gD G) vwCl wa H := hP
          have hD : va_D A wa := hD
          refine z_top (y := (nI (R.2.2.2 i))) ((v_kn hR hfl).trans (hkn.trans (congrArg nI (if_neg (by decide))))) ?_
          refine lv_iload hx hb dL_isWell_212 (lv_at hl 1 rfl) ?_
          refine lv_iconst (v := nI 2) hx hb dL_isWell_214 (by decide +kernel) ?_
          refine zd_net (tgt := 225) S dL_isWell_215 (by decide) (by decide) ?_
          refine lv_iload hx hb dL_isWell_225 (lv_at hl 2 rfl) ?_
          refine zd_ne (tgt := 234) S dL_isWell_227 (by decide) rfl ?_
          refine lv_iconst (v := nI 1) hx hb dL_isWell_230 (by decide +kernel) ?_
          refine lv_goto (tgt := 235) hx hb dL_isWell_231 (by decide) ?_
          refine lv_istore (lv' := [(5, .int (nI 1)), (12, .int (-6)), (11, .int (nI 0)), (10, .int (nI (R.2.2.2 i))), (9, .int (nI (R.2.2.1 i))), (0, .ref x0), (1, .int (nI wm)), (3, .int (nI R.2.1)), (4, .int (nI (naS R))), (6, .int (nI aa)), (7, .int (nI bb)), (8, .int (nI i))]) hx hb dL_isWell_235 hl (by decide) rfl (fun ls hl => ?_)
          refine lv_iconst (v := nI 0) hx hb dL_isWell_237 (by decide +kernel) ?_
          refine lv_istore (lv' := [(13, .int (nI 0)), (5, .int (nI 1)), (12, .int (-6)), (11, .int (nI 0)), (10, .int (nI (R.2.2.2 i))), (9, .int (nI (R.2.2.1 i))), (0, .ref x0), (1, .int (nI wm)), (3, .int (nI R.2.1)), (4, .int (nI (naS R))), (6, .int (nI aa)), (7, .int (nI bb)), (8, .int (nI i))]) hx hb dL_isWell_238 hl (by decide) rfl (fun ls hl => ?_)
          refine lv_iconst (v := nI 0) hx hb dL_isWell_240 (by decide +kernel) ?_
          refine lv_istore (lv' := [(14, .int (nI 0)), (13, .int (nI 0)), (5, .int (nI 1)), (12, .int (-6)), (11, .int (nI 0)), (10, .int (nI (R.2.2.2 i))), (9, .int (nI (R.2.2.1 i))), (0, .ref x0), (1, .int (nI wm)), (3, .int (nI R.2.1)), (4, .int (nI (naS R))), (6, .int (nI aa)), (7, .int (nI bb)), (8, .int (nI i))]) hx hb dL_isWell_241 hl (by decide) rfl (fun ls hl => ?_)
          refine lv_iconst (v := nI 0) hx hb dL_isWell_243 (by decide +kernel) ?_
          refine lv_istore (lv' := [(15, .int (nI 0)), (14, .int (nI 0)), (13, .int (nI 0)), (5, .int (nI 1)), (12, .int (-6)), (11, .int (nI 0)), (10, .int (nI (R.2.2.2 i))), (9, .int (nI (R.2.2.1 i))), (0, .ref x0), (1, .int (nI wm)), (3, .int (nI R.2.1)), (4, .int (nI (naS R))), (6, .int (nI aa)), (7, .int (nI bb)), (8, .int (nI i))]) hx hb dL_isWell_244 hl (by decide) rfl (fun ls hl => ?_)
          refine lv_iload hx hb dL_isWell_246 (lv_at hl 0 rfl) ?_
          refine lv_iload_n hx hb dL_isWell_248 rfl (lv_at hl 10 rfl) ?_
          refine zb_ge (tgt := 327) S dL_isWell_249 (by decide) (by decide) (by omega) (fun c_249 => ?_) (fun c_249 => ?_)
          · skip
            exact absurd c_249 (by omega)
          · skip
            refine lv_iload hx hb dL_isWell_252 (lv_at hl 5 rfl) ?_
            refine zd_zt (tgt := 327) S dL_isWell_254 (by decide) rfl ?_
            refine lv_iload hx hb dL_isWell_327 (lv_at hl 3 rfl) ?_
            refine zd_zf (tgt := 384) S dL_isWell_329 (by decide) (by decide) ?_
            refine lv_iload hx hb dL_isWell_332 (lv_at hl 5 rfl) ?_
            refine zd_nf (tgt := 347) S dL_isWell_334 (by decide) rfl ?_
            refine lv_iload hx hb dL_isWell_337 (lv_at hl 4 rfl) ?_
            refine lv_bipush (v := -6) hx hb dL_isWell_339 (by decide +kernel) ?_
            refine zd_ne (tgt := 384) S dL_isWell_341 (by decide) rfl ?_
            refine lv_goto (tgt := 380) hx hb dL_isWell_344 (by decide) ?_
            refine lv_iconst (v := nI 1) hx hb dL_isWell_380 (by decide +kernel) ?_
            refine lv_goto (tgt := 385) hx hb dL_isWell_381 (by decide) ?_
            refine lv_istore (lv' := [(5, .int (nI 1)), (15, .int (nI 0)), (14, .int (nI 0)), (13, .int (nI 0)), (12, .int (-6)), (11, .int (nI 0)), (10, .int (nI (R.2.2.2 i))), (9, .int (nI (R.2.2.1 i))), (0, .ref x0), (1, .int (nI wm)), (3, .int (nI R.2.1)), (4, .int (nI (naS R))), (6, .int (nI aa)), (7, .int (nI bb)), (8, .int (nI i))]) hx hb dL_isWell_385 hl (by decide) rfl (fun ls hl => ?_)
            refine lv_iinc (v := (nI (i + 1))) (lv' := [(8, .int (nI (i + 1))), (5, .int (nI 1)), (15, .int (nI 0)), (14, .int (nI 0)), (13, .int (nI 0)), (12, .int (-6)), (11, .int (nI 0)), (10, .int (nI (R.2.2.2 i))), (9, .int (nI (R.2.2.1 i))), (0, .ref x0), (1, .int (nI wm)), (3, .int (nI R.2.1)), (4, .int (nI (naS R))), (6, .int (nI aa)), (7, .int (nI bb))]) hx hb dL_isWell_387 hl (k := 14) rfl (z_i1 _) (by decide) rfl (fun ls hl => ?_)
            refine lv_goto (tgt := 95) hx hb dL_isWell_390 (by decide) ?_
            exact ih_95 (i + 1) wa (by omega) (by omega) hOa _ _ hP hD hS _ (lv_sub hl [9, 10, 11, 12, 1, 13, 14, 0] rfl)
        · skip
          have hl : lv_has ls 16 [(12, .int (if stS R i = 0 then -6 else nI (rsS R i))), (11, .int (nI (stS R i))), (10, .int (nI (R.2.2.2 i))), (9, .int (nI (R.2.2.1 i))), (0, .ref x0), (1, .int (nI wm)), (3, .int (nI R.2.1)), (4, .int (nI (naS R))), (5, .int (nI 1)), (6, .int (nI aa)), (7, .int (nI bb)), (8, .int (nI i))] := hl
          rw [if_neg (show ¬ stS R i = 0 by omega), h3] at hl
          have hl : lv_has ls 16 [(12, .int (nI (rsS R i))), (11, .int (nI 1)), (10, .int (nI (R.2.2.2 i))), (9, .int (nI (R.2.2.1 i))), (0, .ref x0), (1, .int (nI wm)), (3, .int (nI R.2.1)), (4, .int (nI (naS R))), (5, .int (nI 1)), (6, .int (nI aa)), (7, .int (nI bb)), (8, .int (nI i))] := hl
          rw [h3] at hkn
          refine lv_iload hx hb dL_isWell_142 (lv_at hl 3 rfl) ?_
          refine lv_iload hx hb dL_isWell_144 (lv_at hl 9 rfl) ?_
          refine zi_and S dL_isWell_146 ?_
          refine zos (rest := []) S K hP hD hS hA hl.1 (k_odd l G ((R.2.2.1 i) &&& aa) (Nat.lt_of_le_of_lt Nat.and_le_left hfp)) rfl rfl gL_isWell_L_odd rfl eL_odd.2 rfl rfl (Nat.le_of_ble_eq_true rfl) (Nat.le_of_ble_eq_true rfl) (Nat.le_of_ble_eq_true rfl) ⟨Nat.zero_le _, Nat.zero_le _⟩ dL_isWell_147 (fun r H locs hw hP hD hS => ?_)
          obtain ⟨_, rfl⟩ := hw
          refine lv_iload hx hb dL_isWell_150 (lv_at hl 2 rfl) ?_
          refine zd_ne (tgt := 159) S dL_isWell_152 (by decide) (congrArg nI (hfa.mpr (by omega))) ?_
          refine lv_iconst (v := nI 1) hx hb dL_isWell_155 (by decide +kernel) ?_
          refine lv_goto (tgt := 160) hx hb dL_isWell_156 (by decide) ?_
          refine lv_iload hx hb dL_isWell_160 (lv_at hl 1 rfl) ?_
          refine lv_iconst (v := nI 2) hx hb dL_isWell_162 (by decide +kernel) ?_
          refine zd_eqf (tgt := 170) S dL_isWell_163 (by decide) (by decide) ?_
          refine lv_iconst (v := nI 1) hx hb dL_isWell_166 (by decide +kernel) ?_
          refine lv_goto (tgt := 171) hx hb dL_isWell_167 (by decide) ?_
          refine zd_ne (tgt := 234) S dL_isWell_171 (by decide) rfl ?_
          refine lv_iload hx hb dL_isWell_174 (lv_at hl 3 rfl) ?_
          refine lv_iload hx hb dL_isWell_176 (lv_at hl 10 rfl) ?_
          refine zi_and S dL_isWell_178 ?_
          refine zos (rest := []) S K hP hD hS hA hl.1 (k_odd l G ((R.2.2.1 i) &&& bb) (Nat.lt_of_le_of_lt Nat.and_le_left hfp)) rfl rfl gL_isWell_L_odd rfl eL_odd.2 rfl rfl (Nat.le_of_ble_eq_true rfl) (Nat.le_of_ble_eq_true rfl) (Nat.le_of_ble_eq_true rfl) ⟨Nat.zero_le _, Nat.zero_le _⟩ dL_isWell_179 (fun r H locs hw hP hD hS => ?_)
          obtain ⟨_, rfl⟩ := hw
          refine lv_iload hx hb dL_isWell_182 (lv_at hl 2 rfl) ?_
          refine zd_ne (tgt := 191) S dL_isWell_184 (by decide) (congrArg nI (hfb.mpr (by omega))) ?_
          refine lv_iconst (v := nI 1) hx hb dL_isWell_187 (by decide +kernel) ?_
          refine lv_goto (tgt := 192) hx hb dL_isWell_188 (by decide) ?_
          refine lv_iload hx hb dL_isWell_192 (lv_at hl 1 rfl) ?_
          refine lv_iconst (v := nI 2) hx hb dL_isWell_194 (by decide +kernel) ?_
          refine zd_eqf (tgt := 202) S dL_isWell_195 (by decide) (by decide) ?_
          refine lv_iconst (v := nI 1) hx hb dL_isWell_198 (by decide +kernel) ?_
          refine lv_goto (tgt := 203) hx hb dL_isWell_199 (by decide) ?_
          refine zd_ne (tgt := 234) S dL_isWell_203 (by decide) rfl ?_
          refine lv_aload_n hx hb dL_isWell_206 rfl (lv_at hl 4 rfl) ?_
          refine lv_iload hx hb dL_isWell_207 (lv_at hl 3 rfl) ?_
          refine zow (rest := []) S K hP hD hS hA hl.1 (F_X5_known l G x0 R h wa (nI (R.2.2.1 i)) hOa) rfl rfl gL_isWell_X5_known rfl eX5_known hOa.len hOa.hd rfl rfl (Nat.le_of_ble_eq_true rfl) (Nat.le_of_ble_eq_true rfl) (Nat.le_of_ble_eq_true rfl) ⟨Nat.zero_le _, Nat.zero_le _⟩ dL_isWell_209 (fun r u H locs hw hP hD hS => ?_)
          obtain ⟨wa, hz_⟩ := u
          obtain ⟨rfl, hOa⟩ := hw
          have hOa : OI G x0 R h wa := hOa
          have hP : va_P (gD G) vwCl wa H := hP
          have hD : va_D A wa := hD
          refine z_top (y := (nI (R.2.2.2 i))) ((v_kn hR hfl).trans (hkn.trans (congrArg nI (if_neg (by decide))))) ?_
          refine lv_iload hx hb dL_isWell_212 (lv_at hl 1 rfl) ?_
          refine lv_iconst (v := nI 2) hx hb dL_isWell_214 (by decide +kernel) ?_
          refine zd_net (tgt := 225) S dL_isWell_215 (by decide) (by decide) ?_
          refine lv_iload hx hb dL_isWell_225 (lv_at hl 2 rfl) ?_
          refine zd_ne (tgt := 234) S dL_isWell_227 (by decide) rfl ?_
          refine lv_iconst (v := nI 1) hx hb dL_isWell_230 (by decide +kernel) ?_
          refine lv_goto (tgt := 235) hx hb dL_isWell_231 (by decide) ?_
          refine lv_istore (lv' := [(5, .int (nI 1)), (12, .int (nI (rsS R i))), (11, .int (nI 1)), (10, .int (nI (R.2.2.2 i))), (9, .int (nI (R.2.2.1 i))), (0, .ref x0), (1, .int (nI wm)), (3, .int (nI R.2.1)), (4, .int (nI (naS R))), (6, .int (nI aa)), (7, .int (nI bb)), (8, .int (nI i))]) hx hb dL_isWell_235 hl (by decide) rfl (fun ls hl => ?_)
          refine lv_iconst (v := nI 0) hx hb dL_isWell_237 (by decide +kernel) ?_
          refine lv_istore (lv' := [(13, .int (nI 0)), (5, .int (nI 1)), (12, .int (nI (rsS R i))), (11, .int (nI 1)), (10, .int (nI (R.2.2.2 i))), (9, .int (nI (R.2.2.1 i))), (0, .ref x0), (1, .int (nI wm)), (3, .int (nI R.2.1)), (4, .int (nI (naS R))), (6, .int (nI aa)), (7, .int (nI bb)), (8, .int (nI i))]) hx hb dL_isWell_238 hl (by decide) rfl (fun ls hl => ?_)
          refine lv_iconst (v := nI 0) hx hb dL_isWell_240 (by decide +kernel) ?_
          refine lv_istore (lv' := [(14, .int (nI 0)), (13, .int (nI 0)), (5, .int (nI 1)), (12, .int (nI (rsS R i))), (11, .int (nI 1)), (10, .int (nI (R.2.2.2 i))), (9, .int (nI (R.2.2.1 i))), (0, .ref x0), (1, .int (nI wm)), (3, .int (nI R.2.1)), (4, .int (nI (naS R))), (6, .int (nI aa)), (7, .int (nI bb)), (8, .int (nI i))]) hx hb dL_isWell_241 hl (by decide) rfl (fun ls hl => ?_)
          refine lv_iconst (v := nI 0) hx hb dL_isWell_243 (by decide +kernel) ?_
          refine lv_istore (lv' := [(15, .int (nI 0)), (14, .int (nI 0)), (13, .int (nI 0)), (5, .int (nI 1)), (12, .int (nI (rsS R i))), (11, .int (nI 1)), (10, .int (nI (R.2.2.2 i))), (9, .int (nI (R.2.2.1 i))), (0, .ref x0), (1, .int (nI wm)), (3, .int (nI R.2.1)), (4, .int (nI (naS R))), (6, .int (nI aa)), (7, .int (nI bb)), (8, .int (nI i))]) hx hb dL_isWell_244 hl (by decide) rfl (fun ls hl => ?_)
          have hrs := rs_lt (R := R) (i := i) (by omega) (by omega)
          obtain ⟨ce1, ce2⟩ := cm_e c_98 (show ¬ stS R i = 0 by omega)
          have lp_246 : ∀ (n_ : Nat) (k y1 y2 : Nat) (wa : va_W), R.2.1 - k < n_ → (k ≤ R.2.1) → (y1 = cmb R.2.2.1 k (rsS R i)) → (y2 = cmb R.2.2.2 k (rsS R i)) → OI G x0 R h wa → ∀ (H : Heap) (locs : List Loc), va_P (gD G) vwCl wa H → va_D A wa → va_S A s.heap H locs → ∀ ls : Array Slot, lv_has ls 16 [(0, .ref x0), (1, .int (nI wm)), (3, .int (nI R.2.1)), (4, .int (nI (naS R))), (5, .int (nI 1)), (6, .int (nI aa)), (7, .int (nI bb)), (8, .int (nI i)), (9, .int (nI (R.2.2.1 i))), (10, .int (nI (R.2.2.2 i))), (11, .int (nI 1)), (12, .int (nI (rsS R i))), (13, .int (nI y1)), (14, .int (nI y2)), (15, .int (nI k))] → W p l e ({ frames := 6, cells := 0, slots := 0, locals := 138 } : Room) s m args below meth c H locs 0 0 (MQ below (va_Qi (fun (r : Int32) (u : WU) => r = nI 1 ∧ OI G x0 R h u.1) (cB G A (fun (u : WU) => u.1)) A) args s 0 0 A) (F0 m 246 ls []) := by
            intro n_
            induction n_ with
            | zero =>
              intro k y1 y2 wa h0_
              exact absurd h0_ (Nat.not_lt_zero _)
            | succ n_ ih_246 =>
              intro k y1 y2 wa hm_ hk hy1 hy2 hOa H locs hP hD hS ls hl
              refine lv_iload hx hb dL_isWell_246 (lv_at hl 14 rfl) ?_
              refine lv_iload_n hx hb dL_isWell_248 rfl (lv_at hl 2 rfl) ?_
              refine zb_ge (tgt := 327) S dL_isWell_249 (by decide) (by omega) (by omega) (fun c_249 => ?_) (fun c_249 => ?_)
              · skip
                have hkn2 : k = R.2.1 := by omega
                rw [hkn2] at hy1 hy2
                rw [ce1] at hy1
                refine lv_iload hx hb dL_isWell_327 (lv_at hl 4 rfl) ?_
                refine zd_zf (tgt := 384) S dL_isWell_329 (by decide) (by decide) ?_
                refine lv_iload hx hb dL_isWell_332 (lv_at hl 10 rfl) ?_
                refine zd_nt (tgt := 347) S dL_isWell_334 (by decide) (by decide) ?_
                refine lv_iload hx hb dL_isWell_347 (lv_at hl 12 rfl) ?_
                refine lv_iload hx hb dL_isWell_349 (lv_at hl 8 rfl) ?_
                refine zd_ne (tgt := 384) S dL_isWell_351 (by decide) (congrArg nI hy1) ?_
                refine lv_iload hx hb dL_isWell_354 (lv_at hl 13 rfl) ?_
                refine lv_iload hx hb dL_isWell_356 (lv_at hl 9 rfl) ?_
                refine zd_ne (tgt := 365) S dL_isWell_358 (by decide) (congrArg nI (hy2.trans (ce2.mpr h3))) ?_
                refine lv_iconst (v := nI 1) hx hb dL_isWell_361 (by decide +kernel) ?_
                refine lv_goto (tgt := 366) hx hb dL_isWell_362 (by decide) ?_
                refine lv_iload hx hb dL_isWell_366 (lv_at hl 10 rfl) ?_
                refine lv_iconst (v := nI 1) hx hb dL_isWell_368 (by decide +kernel) ?_
                refine zd_ne (tgt := 376) S dL_isWell_369 (by decide) rfl ?_
                refine lv_iconst (v := nI 1) hx hb dL_isWell_372 (by decide +kernel) ?_
                refine lv_goto (tgt := 377) hx hb dL_isWell_373 (by decide) ?_
                refine zd_ne (tgt := 384) S dL_isWell_377 (by decide) rfl ?_
                refine lv_iconst (v := nI 1) hx hb dL_isWell_380 (by decide +kernel) ?_
                refine lv_goto (tgt := 385) hx hb dL_isWell_381 (by decide) ?_
                refine lv_istore (lv' := [(5, .int (nI 1)), (0, .ref x0), (1, .int (nI wm)), (3, .int (nI R.2.1)), (4, .int (nI (naS R))), (6, .int (nI aa)), (7, .int (nI bb)), (8, .int (nI i)), (9, .int (nI (R.2.2.1 i))), (10, .int (nI (R.2.2.2 i))), (11, .int (nI 1)), (12, .int (nI (rsS R i))), (13, .int (nI y1)), (14, .int (nI y2)), (15, .int (nI k))]) hx hb dL_isWell_385 hl (by decide) rfl (fun ls hl => ?_)
                refine lv_iinc (v := (nI (i + 1))) (lv' := [(8, .int (nI (i + 1))), (5, .int (nI 1)), (0, .ref x0), (1, .int (nI wm)), (3, .int (nI R.2.1)), (4, .int (nI (naS R))), (6, .int (nI aa)), (7, .int (nI bb)), (9, .int (nI (R.2.2.1 i))), (10, .int (nI (R.2.2.2 i))), (11, .int (nI 1)), (12, .int (nI (rsS R i))), (13, .int (nI y1)), (14, .int (nI y2)), (15, .int (nI k))]) hx hb dL_isWell_387 hl (k := 7) rfl (z_i1 _) (by decide) rfl (fun ls hl => ?_)
                refine lv_goto (tgt := 95) hx hb dL_isWell_390 (by decide) ?_
                exact ih_95 (i + 1) wa (by omega) (by omega) hOa _ _ hP hD hS _ (lv_sub hl [2, 3, 4, 5, 1, 6, 7, 0] rfl)
              · skip
                refine lv_iload hx hb dL_isWell_252 (lv_at hl 10 rfl) ?_
                refine zd_zf (tgt := 327) S dL_isWell_254 (by decide) (by decide) ?_
                refine lv_iload hx hb dL_isWell_257 (lv_at hl 11 rfl) ?_
                refine lv_iload hx hb dL_isWell_259 (lv_at hl 14 rfl) ?_
                refine zi_shr S dL_isWell_261 (by omega) (by omega) ?_
                refine lv_iconst (v := nI 1) hx hb dL_isWell_262 (by decide +kernel) ?_
                refine zi_and S dL_isWell_263 ?_
                refine lv_iconst (v := nI 1) hx hb dL_isWell_264 (by decide +kernel) ?_
                have hb1 : rsS R i >>> k &&& 1 < 2147483648 := and1_31
                refine zb_ne (tgt := 321) S dL_isWell_265 (by decide) (by omega) (by decide) (fun c_265 => ?_) (fun c_265 => ?_)
                · skip
                  refine lv_iinc (v := (nI (k + 1))) (lv' := [(15, .int (nI (k + 1))), (0, .ref x0), (1, .int (nI wm)), (3, .int (nI R.2.1)), (4, .int (nI (naS R))), (5, .int (nI 1)), (6, .int (nI aa)), (7, .int (nI bb)), (8, .int (nI i)), (9, .int (nI (R.2.2.1 i))), (10, .int (nI (R.2.2.2 i))), (11, .int (nI 1)), (12, .int (nI (rsS R i))), (13, .int (nI y1)), (14, .int (nI y2))]) hx hb dL_isWell_321 hl (k := 14) rfl (z_i1 _) (by decide) rfl (fun ls hl => ?_)
                  refine lv_goto (tgt := 246) hx hb dL_isWell_324 (by decide) ?_
                  exact ih_246 (k + 1) y1 y2 wa (by omega) (by omega) (cm_0 hy1 c_265) (cm_0 hy2 c_265) hOa _ _ hP hD hS _ (lv_sub hl [1, 2, 3, 4, 5, 6, 7, 8, 9, 10, 11, 12, 13, 14, 0] rfl)
                · skip
                  obtain ⟨hki, hk0⟩ := rs_bit (R := R) (i := i) (k := k) (by omega) c_265
                  refine lv_iload hx hb dL_isWell_268 (lv_at hl 12 rfl) ?_
                  refine lv_aload_n hx hb dL_isWell_270 rfl (lv_at hl 0 rfl) ?_
                  refine lv_iload hx hb dL_isWell_271 (lv_at hl 14 rfl) ?_
                  refine lv_iconst (v := nI 0) hx hb dL_isWell_273 (by decide +kernel) ?_
                  refine zow (rest := [.int (nI y1)]) S K hP hD hS hA hl.1 (F_X5_rule l G x0 R h wa (nI k) (nI 0) hOa) rfl rfl gL_isWell_X5_rule rfl eX5_rule hOa.len hOa.hd rfl rfl (Nat.le_of_ble_eq_true rfl) (Nat.le_of_ble_eq_true rfl) (Nat.le_of_ble_eq_true rfl) ⟨Nat.zero_le _, Nat.zero_le _⟩ dL_isWell_274 (fun r u H locs hw hP hD hS => ?_)
                  obtain ⟨wa, hz_⟩ := u
                  obtain ⟨rfl, hOa⟩ := hw
                  have hOa : OI G x0 R h wa := hOa
                  have hP : va_P (gD G) vwCl wa H := hP
                  have hD : va_D A wa := hD
                  refine z_top (y := (nI (R.2.2.1 k))) (v_rule0 hR c_249) ?_
                  refine zi_xor S dL_isWell_277 ?_
                  refine lv_istore (lv' := [(13, .int (nI (y1 ^^^ (R.2.2.1 k)))), (0, .ref x0), (1, .int (nI wm)), (3, .int (nI R.2.1)), (4, .int (nI (naS R))), (5, .int (nI 1)), (6, .int (nI aa)), (7, .int (nI bb)), (8, .int (nI i)), (9, .int (nI (R.2.2.1 i))), (10, .int (nI (R.2.2.2 i))), (11, .int (nI 1)), (12, .int (nI (rsS R i))), (14, .int (nI y2)), (15, .int (nI k))]) hx hb dL_isWell_278 hl (by decide) rfl (fun ls hl => ?_)
                  refine lv_iload hx hb dL_isWell_280 (lv_at hl 13 rfl) ?_
                  refine lv_aload_n hx hb dL_isWell_282 rfl (lv_at hl 1 rfl) ?_
                  refine lv_iload hx hb dL_isWell_283 (lv_at hl 14 rfl) ?_
                  refine lv_iconst (v := nI 1) hx hb dL_isWell_285 (by decide +kernel) ?_
                  refine zow (rest := [.int (nI y2)]) S K hP hD hS hA hl.1 (F_X5_rule l G x0 R h wa (nI k) (nI 1) hOa) rfl rfl gL_isWell_X5_rule rfl eX5_rule hOa.len hOa.hd rfl rfl (Nat.le_of_ble_eq_true rfl) (Nat.le_of_ble_eq_true rfl) (Nat.le_of_ble_eq_true rfl) ⟨Nat.zero_le _, Nat.zero_le _⟩ dL_isWell_286 (fun r u H locs hw hP hD hS => ?_)
                  obtain ⟨wa, hz_⟩ := u
                  obtain ⟨rfl, hOa⟩ := hw
                  have hOa : OI G x0 R h wa := hOa
                  have hP : va_P (gD G) vwCl wa H := hP
                  have hD : va_D A wa := hD
                  refine z_top (y := (nI (R.2.2.2 k))) (v_rule1 hR c_249) ?_
                  refine zi_xor S dL_isWell_289 ?_
                  refine lv_istore (lv' := [(14, .int (nI (y2 ^^^ (R.2.2.2 k)))), (13, .int (nI (y1 ^^^ (R.2.2.1 k)))), (0, .ref x0), (1, .int (nI wm)), (3, .int (nI R.2.1)), (4, .int (nI (naS R))), (5, .int (nI 1)), (6, .int (nI aa)), (7, .int (nI bb)), (8, .int (nI i)), (9, .int (nI (R.2.2.1 i))), (10, .int (nI (R.2.2.2 i))), (11, .int (nI 1)), (12, .int (nI (rsS R i))), (15, .int (nI k))]) hx hb dL_isWell_290 hl (by decide) rfl (fun ls hl => ?_)
                  refine lv_iload hx hb dL_isWell_292 (lv_at hl 6 rfl) ?_
                  refine zd_zf (tgt := 318) S dL_isWell_294 (by decide) (by decide) ?_
                  refine lv_iload hx hb dL_isWell_297 (lv_at hl 14 rfl) ?_
                  refine lv_iload hx hb dL_isWell_299 (lv_at hl 9 rfl) ?_
                  refine zb_ge (tgt := 318) S dL_isWell_301 (by decide) (by omega) (by omega) (fun c_301 => ?_) (fun c_301 => ?_)
                  · skip
                    exact absurd hki (by omega)
                  · skip
                    refine lv_aload_n hx hb dL_isWell_304 rfl (lv_at hl 2 rfl) ?_
                    refine lv_iload hx hb dL_isWell_305 (lv_at hl 14 rfl) ?_
                    refine lv_iconst (v := nI 2) hx hb dL_isWell_307 (by decide +kernel) ?_
                    refine zow (rest := []) S K hP hD hS hA hl.1 (F_X5_rule l G x0 R h wa (nI k) (nI 2) hOa) rfl rfl gL_isWell_X5_rule rfl eX5_rule hOa.len hOa.hd rfl rfl (Nat.le_of_ble_eq_true rfl) (Nat.le_of_ble_eq_true rfl) (Nat.le_of_ble_eq_true rfl) ⟨Nat.zero_le _, Nat.zero_le _⟩ dL_isWell_308 (fun r u H locs hw hP hD hS => ?_)
                    obtain ⟨wa, hz_⟩ := u
                    obtain ⟨rfl, hOa⟩ := hw
                    have hOa : OI G x0 R h wa := hOa
                    have hP : va_P (gD G) vwCl wa H := hP
                    have hD : va_D A wa := hD
                    refine z_top (y := (nI 0)) ((v_rule2 hR c_249).trans (by rw [hk0])) ?_
                    refine zd_nf (tgt := 318) S dL_isWell_311 (by decide) rfl ?_
                    refine lv_iconst (v := nI 1) hx hb dL_isWell_314 (by decide +kernel) ?_
                    refine lv_goto (tgt := 319) hx hb dL_isWell_315 (by decide) ?_
                    refine lv_istore (lv' := [(5, .int (nI 1)), (14, .int (nI (y2 ^^^ (R.2.2.2 k)))), (13, .int (nI (y1 ^^^ (R.2.2.1 k)))), (0, .ref x0), (1, .int (nI wm)), (3, .int (nI R.2.1)), (4, .int (nI (naS R))), (6, .int (nI aa)), (7, .int (nI bb)), (8, .int (nI i)), (9, .int (nI (R.2.2.1 i))), (10, .int (nI (R.2.2.2 i))), (11, .int (nI 1)), (12, .int (nI (rsS R i))), (15, .int (nI k))]) hx hb dL_isWell_319 hl (by decide) rfl (fun ls hl => ?_)
                    refine lv_iinc (v := (nI (k + 1))) (lv' := [(15, .int (nI (k + 1))), (5, .int (nI 1)), (14, .int (nI (y2 ^^^ (R.2.2.2 k)))), (13, .int (nI (y1 ^^^ (R.2.2.1 k)))), (0, .ref x0), (1, .int (nI wm)), (3, .int (nI R.2.1)), (4, .int (nI (naS R))), (6, .int (nI aa)), (7, .int (nI bb)), (8, .int (nI i)), (9, .int (nI (R.2.2.1 i))), (10, .int (nI (R.2.2.2 i))), (11, .int (nI 1)), (12, .int (nI (rsS R i)))]) hx hb dL_isWell_321 hl (k := 14) rfl (z_i1 _) (by decide) rfl (fun ls hl => ?_)
                    refine lv_goto (tgt := 246) hx hb dL_isWell_324 (by decide) ?_
                    exact ih_246 (k + 1) (y1 ^^^ R.2.2.1 k) (y2 ^^^ R.2.2.2 k) wa (by omega) (by omega) (cm_1 hy1 c_265) (cm_1 hy2 c_265) hOa _ _ hP hD hS _ (lv_sub hl [4, 5, 6, 7, 1, 8, 9, 10, 11, 12, 13, 14, 3, 2, 0] rfl)
          exact lp_246 _ 0 0 0 wa (Nat.lt_succ_self _) (Nat.zero_le _) rfl rfl hOa _ _ hP hD hS _ (lv_sub hl [8, 9, 10, 11, 3, 12, 13, 14, 7, 6, 5, 4, 2, 1, 0] rfl)
        · skip
          have hl : lv_has ls 16 [(12, .int (if stS R i = 0 then -6 else nI (rsS R i))), (11, .int (nI (stS R i))), (10, .int (nI (R.2.2.2 i))), (9, .int (nI (R.2.2.1 i))), (0, .ref x0), (1, .int (nI wm)), (3, .int (nI R.2.1)), (4, .int (nI (naS R))), (5, .int (nI 1)), (6, .int (nI aa)), (7, .int (nI bb)), (8, .int (nI i))] := hl
          rw [if_neg (show ¬ stS R i = 0 by omega), h3] at hl
          have hl : lv_has ls 16 [(12, .int (nI (rsS R i))), (11, .int (nI 2)), (10, .int (nI (R.2.2.2 i))), (9, .int (nI (R.2.2.1 i))), (0, .ref x0), (1, .int (nI wm)), (3, .int (nI R.2.1)), (4, .int (nI (naS R))), (5, .int (nI 1)), (6, .int (nI aa)), (7, .int (nI bb)), (8, .int (nI i))] := hl
          rw [h3] at hkn
          refine lv_iload hx hb dL_isWell_142 (lv_at hl 3 rfl) ?_
          refine lv_iload hx hb dL_isWell_144 (lv_at hl 9 rfl) ?_
          refine zi_and S dL_isWell_146 ?_
          refine zos (rest := []) S K hP hD hS hA hl.1 (k_odd l G ((R.2.2.1 i) &&& aa) (Nat.lt_of_le_of_lt Nat.and_le_left hfp)) rfl rfl gL_isWell_L_odd rfl eL_odd.2 rfl rfl (Nat.le_of_ble_eq_true rfl) (Nat.le_of_ble_eq_true rfl) (Nat.le_of_ble_eq_true rfl) ⟨Nat.zero_le _, Nat.zero_le _⟩ dL_isWell_147 (fun r H locs hw hP hD hS => ?_)
          obtain ⟨_, rfl⟩ := hw
          refine lv_iload hx hb dL_isWell_150 (lv_at hl 2 rfl) ?_
          have hne147 := pty_le (R.2.2.1 i &&& aa)
          refine zd_net (tgt := 159) S dL_isWell_152 (by decide) (fun z => hfa.mp ((z_eq (by omega) (by omega)).mp z) h3) ?_
          refine lv_iconst (v := nI 0) hx hb dL_isWell_159 (by decide +kernel) ?_
          refine lv_iload hx hb dL_isWell_160 (lv_at hl 1 rfl) ?_
          refine lv_iconst (v := nI 2) hx hb dL_isWell_162 (by decide +kernel) ?_
          refine zd_eqt (tgt := 170) S dL_isWell_163 (by decide) rfl ?_
          refine lv_iconst (v := nI 0) hx hb dL_isWell_170 (by decide +kernel) ?_
          refine zd_ne (tgt := 234) S dL_isWell_171 (by decide) rfl ?_
          refine lv_iload hx hb dL_isWell_174 (lv_at hl 3 rfl) ?_
          refine lv_iload hx hb dL_isWell_176 (lv_at hl 10 rfl) ?_
          refine zi_and S dL_isWell_178 ?_
          refine zos (rest := []) S K hP hD hS hA hl.1 (k_odd l G ((R.2.2.1 i) &&& bb) (Nat.lt_of_le_of_lt Nat.and_le_left hfp)) rfl rfl gL_isWell_L_odd rfl eL_odd.2 rfl rfl (Nat.le_of_ble_eq_true rfl) (Nat.le_of_ble_eq_true rfl) (Nat.le_of_ble_eq_true rfl) ⟨Nat.zero_le _, Nat.zero_le _⟩ dL_isWell_179 (fun r H locs hw hP hD hS => ?_)
          obtain ⟨_, rfl⟩ := hw
          refine lv_iload hx hb dL_isWell_182 (lv_at hl 2 rfl) ?_
          have hne179 := pty_le (R.2.2.1 i &&& bb)
          refine zd_net (tgt := 191) S dL_isWell_184 (by decide) (fun z => hfb.mp ((z_eq (by omega) (by omega)).mp z) h3) ?_
          refine lv_iconst (v := nI 0) hx hb dL_isWell_191 (by decide +kernel) ?_
          refine lv_iload hx hb dL_isWell_192 (lv_at hl 1 rfl) ?_
          refine lv_iconst (v := nI 2) hx hb dL_isWell_194 (by decide +kernel) ?_
          refine zd_eqt (tgt := 202) S dL_isWell_195 (by decide) rfl ?_
          refine lv_iconst (v := nI 0) hx hb dL_isWell_202 (by decide +kernel) ?_
          refine zd_ne (tgt := 234) S dL_isWell_203 (by decide) rfl ?_
          refine lv_aload_n hx hb dL_isWell_206 rfl (lv_at hl 4 rfl) ?_
          refine lv_iload hx hb dL_isWell_207 (lv_at hl 3 rfl) ?_
          refine zow (rest := []) S K hP hD hS hA hl.1 (F_X5_known l G x0 R h wa (nI (R.2.2.1 i)) hOa) rfl rfl gL_isWell_X5_known rfl eX5_known hOa.len hOa.hd rfl rfl (Nat.le_of_ble_eq_true rfl) (Nat.le_of_ble_eq_true rfl) (Nat.le_of_ble_eq_true rfl) ⟨Nat.zero_le _, Nat.zero_le _⟩ dL_isWell_209 (fun r u H locs hw hP hD hS => ?_)
          obtain ⟨wa, hz_⟩ := u
          obtain ⟨rfl, hOa⟩ := hw
          have hOa : OI G x0 R h wa := hOa
          have hP : va_P (gD G) vwCl wa H := hP
          have hD : va_D A wa := hD
          refine z_top (y := (nI (1 - R.2.2.2 i))) ((v_kn hR hfl).trans (hkn.trans (congrArg nI (if_pos rfl)))) ?_
          refine lv_iload hx hb dL_isWell_212 (lv_at hl 1 rfl) ?_
          refine lv_iconst (v := nI 2) hx hb dL_isWell_214 (by decide +kernel) ?_
          refine zd_ne (tgt := 225) S dL_isWell_215 (by decide) rfl ?_
          refine lv_iconst (v := nI 1) hx hb dL_isWell_218 (by decide +kernel) ?_
          refine lv_iload hx hb dL_isWell_219 (lv_at hl 2 rfl) ?_
          refine zi_sub S dL_isWell_221 (by omega) ?_
          refine lv_goto (tgt := 227) hx hb dL_isWell_222 (by decide) ?_
          refine zd_ne (tgt := 234) S dL_isWell_227 (by decide) rfl ?_
          refine lv_iconst (v := nI 1) hx hb dL_isWell_230 (by decide +kernel) ?_
          refine lv_goto (tgt := 235) hx hb dL_isWell_231 (by decide) ?_
          refine lv_istore (lv' := [(5, .int (nI 1)), (12, .int (nI (rsS R i))), (11, .int (nI 2)), (10, .int (nI (R.2.2.2 i))), (9, .int (nI (R.2.2.1 i))), (0, .ref x0), (1, .int (nI wm)), (3, .int (nI R.2.1)), (4, .int (nI (naS R))), (6, .int (nI aa)), (7, .int (nI bb)), (8, .int (nI i))]) hx hb dL_isWell_235 hl (by decide) rfl (fun ls hl => ?_)
          refine lv_iconst (v := nI 0) hx hb dL_isWell_237 (by decide +kernel) ?_
          refine lv_istore (lv' := [(13, .int (nI 0)), (5, .int (nI 1)), (12, .int (nI (rsS R i))), (11, .int (nI 2)), (10, .int (nI (R.2.2.2 i))), (9, .int (nI (R.2.2.1 i))), (0, .ref x0), (1, .int (nI wm)), (3, .int (nI R.2.1)), (4, .int (nI (naS R))), (6, .int (nI aa)), (7, .int (nI bb)), (8, .int (nI i))]) hx hb dL_isWell_238 hl (by decide) rfl (fun ls hl => ?_)
          refine lv_iconst (v := nI 0) hx hb dL_isWell_240 (by decide +kernel) ?_
          refine lv_istore (lv' := [(14, .int (nI 0)), (13, .int (nI 0)), (5, .int (nI 1)), (12, .int (nI (rsS R i))), (11, .int (nI 2)), (10, .int (nI (R.2.2.2 i))), (9, .int (nI (R.2.2.1 i))), (0, .ref x0), (1, .int (nI wm)), (3, .int (nI R.2.1)), (4, .int (nI (naS R))), (6, .int (nI aa)), (7, .int (nI bb)), (8, .int (nI i))]) hx hb dL_isWell_241 hl (by decide) rfl (fun ls hl => ?_)
          refine lv_iconst (v := nI 0) hx hb dL_isWell_243 (by decide +kernel) ?_
          refine lv_istore (lv' := [(15, .int (nI 0)), (14, .int (nI 0)), (13, .int (nI 0)), (5, .int (nI 1)), (12, .int (nI (rsS R i))), (11, .int (nI 2)), (10, .int (nI (R.2.2.2 i))), (9, .int (nI (R.2.2.1 i))), (0, .ref x0), (1, .int (nI wm)), (3, .int (nI R.2.1)), (4, .int (nI (naS R))), (6, .int (nI aa)), (7, .int (nI bb)), (8, .int (nI i))]) hx hb dL_isWell_244 hl (by decide) rfl (fun ls hl => ?_)
          have hrs := rs_lt (R := R) (i := i) (by omega) (by omega)
          obtain ⟨ce1, ce2⟩ := cm_e c_98 (show ¬ stS R i = 0 by omega)
          have lp_246 : ∀ (n_ : Nat) (k y1 y2 : Nat) (wa : va_W), R.2.1 - k < n_ → (k ≤ R.2.1) → (y1 = cmb R.2.2.1 k (rsS R i)) → (y2 = cmb R.2.2.2 k (rsS R i)) → OI G x0 R h wa → ∀ (H : Heap) (locs : List Loc), va_P (gD G) vwCl wa H → va_D A wa → va_S A s.heap H locs → ∀ ls : Array Slot, lv_has ls 16 [(0, .ref x0), (1, .int (nI wm)), (3, .int (nI R.2.1)), (4, .int (nI (naS R))), (5, .int (nI 1)), (6, .int (nI aa)), (7, .int (nI bb)), (8, .int (nI i)), (9, .int (nI (R.2.2.1 i))), (10, .int (nI (R.2.2.2 i))), (11, .int (nI 2)), (12, .int (nI (rsS R i))), (13, .int (nI y1)), (14, .int (nI y2)), (15, .int (nI k))] → W p l e ({ frames := 6, cells := 0, slots := 0, locals := 138 } : Room) s m args below meth c H locs 0 0 (MQ below (va_Qi (fun (r : Int32) (u : WU) => r = nI 1 ∧ OI G x0 R h u.1) (cB G A (fun (u : WU) => u.1)) A) args s 0 0 A) (F0 m 246 ls []) := by
            intro n_
            induction n_ with
            | zero =>
              intro k y1 y2 wa h0_
              exact absurd h0_ (Nat.not_lt_zero _)
            | succ n_ ih_246 =>
              intro k y1 y2 wa hm_ hk hy1 hy2 hOa H locs hP hD hS ls hl
              refine lv_iload hx hb dL_isWell_246 (lv_at hl 14 rfl) ?_
              refine lv_iload_n hx hb dL_isWell_248 rfl (lv_at hl 2 rfl) ?_
              refine zb_ge (tgt := 327) S dL_isWell_249 (by decide) (by omega) (by omega) (fun c_249 => ?_) (fun c_249 => ?_)
              · skip
                have hkn2 : k = R.2.1 := by omega
                rw [hkn2] at hy1 hy2
                rw [ce1] at hy1
                refine lv_iload hx hb dL_isWell_327 (lv_at hl 4 rfl) ?_
                refine zd_zf (tgt := 384) S dL_isWell_329 (by decide) (by decide) ?_
                refine lv_iload hx hb dL_isWell_332 (lv_at hl 10 rfl) ?_
                refine zd_nt (tgt := 347) S dL_isWell_334 (by decide) (by decide) ?_
                refine lv_iload hx hb dL_isWell_347 (lv_at hl 12 rfl) ?_
                refine lv_iload hx hb dL_isWell_349 (lv_at hl 8 rfl) ?_
                refine zd_ne (tgt := 384) S dL_isWell_351 (by decide) (congrArg nI hy1) ?_
                refine lv_iload hx hb dL_isWell_354 (lv_at hl 13 rfl) ?_
                refine lv_iload hx hb dL_isWell_356 (lv_at hl 9 rfl) ?_
                have hy3 : y2 ≤ 1 := by rw [hy2]; exact cmb_le1 (fun j hj => (hR.2.2.2 j hj).2.2) _
                refine zd_net (tgt := 365) S dL_isWell_358 (by decide) (fun z => absurd (ce2.mp (hy2.symm.trans ((z_eq (by omega) (by omega)).mp z))) (by omega)) ?_
                refine lv_iconst (v := nI 0) hx hb dL_isWell_365 (by decide +kernel) ?_
                refine lv_iload hx hb dL_isWell_366 (lv_at hl 10 rfl) ?_
                refine lv_iconst (v := nI 1) hx hb dL_isWell_368 (by decide +kernel) ?_
                refine zd_net (tgt := 376) S dL_isWell_369 (by decide) (by decide) ?_
                refine lv_iconst (v := nI 0) hx hb dL_isWell_376 (by decide +kernel) ?_
                refine zd_ne (tgt := 384) S dL_isWell_377 (by decide) rfl ?_
                refine lv_iconst (v := nI 1) hx hb dL_isWell_380 (by decide +kernel) ?_
                refine lv_goto (tgt := 385) hx hb dL_isWell_381 (by decide) ?_
                refine lv_istore (lv' := [(5, .int (nI 1)), (0, .ref x0), (1, .int (nI wm)), (3, .int (nI R.2.1)), (4, .int (nI (naS R))), (6, .int (nI aa)), (7, .int (nI bb)), (8, .int (nI i)), (9, .int (nI (R.2.2.1 i))), (10, .int (nI (R.2.2.2 i))), (11, .int (nI 2)), (12, .int (nI (rsS R i))), (13, .int (nI y1)), (14, .int (nI y2)), (15, .int (nI k))]) hx hb dL_isWell_385 hl (by decide) rfl (fun ls hl => ?_)
                refine lv_iinc (v := (nI (i + 1))) (lv' := [(8, .int (nI (i + 1))), (5, .int (nI 1)), (0, .ref x0), (1, .int (nI wm)), (3, .int (nI R.2.1)), (4, .int (nI (naS R))), (6, .int (nI aa)), (7, .int (nI bb)), (9, .int (nI (R.2.2.1 i))), (10, .int (nI (R.2.2.2 i))), (11, .int (nI 2)), (12, .int (nI (rsS R i))), (13, .int (nI y1)), (14, .int (nI y2)), (15, .int (nI k))]) hx hb dL_isWell_387 hl (k := 7) rfl (z_i1 _) (by decide) rfl (fun ls hl => ?_)
                refine lv_goto (tgt := 95) hx hb dL_isWell_390 (by decide) ?_
                exact ih_95 (i + 1) wa (by omega) (by omega) hOa _ _ hP hD hS _ (lv_sub hl [2, 3, 4, 5, 1, 6, 7, 0] rfl)
              · skip
                refine lv_iload hx hb dL_isWell_252 (lv_at hl 10 rfl) ?_
                refine zd_zf (tgt := 327) S dL_isWell_254 (by decide) (by decide) ?_
                refine lv_iload hx hb dL_isWell_257 (lv_at hl 11 rfl) ?_
                refine lv_iload hx hb dL_isWell_259 (lv_at hl 14 rfl) ?_
                refine zi_shr S dL_isWell_261 (by omega) (by omega) ?_
                refine lv_iconst (v := nI 1) hx hb dL_isWell_262 (by decide +kernel) ?_
                refine zi_and S dL_isWell_263 ?_
                refine lv_iconst (v := nI 1) hx hb dL_isWell_264 (by decide +kernel) ?_
                have hb1 : rsS R i >>> k &&& 1 < 2147483648 := and1_31
                refine zb_ne (tgt := 321) S dL_isWell_265 (by decide) (by omega) (by decide) (fun c_265 => ?_) (fun c_265 => ?_)
                · skip
                  refine lv_iinc (v := (nI (k + 1))) (lv' := [(15, .int (nI (k + 1))), (0, .ref x0), (1, .int (nI wm)), (3, .int (nI R.2.1)), (4, .int (nI (naS R))), (5, .int (nI 1)), (6, .int (nI aa)), (7, .int (nI bb)), (8, .int (nI i)), (9, .int (nI (R.2.2.1 i))), (10, .int (nI (R.2.2.2 i))), (11, .int (nI 2)), (12, .int (nI (rsS R i))), (13, .int (nI y1)), (14, .int (nI y2))]) hx hb dL_isWell_321 hl (k := 14) rfl (z_i1 _) (by decide) rfl (fun ls hl => ?_)
                  refine lv_goto (tgt := 246) hx hb dL_isWell_324 (by decide) ?_
                  exact ih_246 (k + 1) y1 y2 wa (by omega) (by omega) (cm_0 hy1 c_265) (cm_0 hy2 c_265) hOa _ _ hP hD hS _ (lv_sub hl [1, 2, 3, 4, 5, 6, 7, 8, 9, 10, 11, 12, 13, 14, 0] rfl)
                · skip
                  obtain ⟨hki, hk0⟩ := rs_bit (R := R) (i := i) (k := k) (by omega) c_265
                  refine lv_iload hx hb dL_isWell_268 (lv_at hl 12 rfl) ?_
                  refine lv_aload_n hx hb dL_isWell_270 rfl (lv_at hl 0 rfl) ?_
                  refine lv_iload hx hb dL_isWell_271 (lv_at hl 14 rfl) ?_
                  refine lv_iconst (v := nI 0) hx hb dL_isWell_273 (by decide +kernel) ?_
                  refine zow (rest := [.int (nI y1)]) S K hP hD hS hA hl.1 (F_X5_rule l G x0 R h wa (nI k) (nI 0) hOa) rfl rfl gL_isWell_X5_rule rfl eX5_rule hOa.len hOa.hd rfl rfl (Nat.le_of_ble_eq_true rfl) (Nat.le_of_ble_eq_true rfl) (Nat.le_of_ble_eq_true rfl) ⟨Nat.zero_le _, Nat.zero_le _⟩ dL_isWell_274 (fun r u H locs hw hP hD hS => ?_)
                  obtain ⟨wa, hz_⟩ := u
                  obtain ⟨rfl, hOa⟩ := hw
                  have hOa : OI G x0 R h wa := hOa
                  have hP : va_P (gD G) vwCl wa H := hP
                  have hD : va_D A wa := hD
                  refine z_top (y := (nI (R.2.2.1 k))) (v_rule0 hR c_249) ?_
                  refine zi_xor S dL_isWell_277 ?_
                  refine lv_istore (lv' := [(13, .int (nI (y1 ^^^ (R.2.2.1 k)))), (0, .ref x0), (1, .int (nI wm)), (3, .int (nI R.2.1)), (4, .int (nI (naS R))), (5, .int (nI 1)), (6, .int (nI aa)), (7, .int (nI bb)), (8, .int (nI i)), (9, .int (nI (R.2.2.1 i))), (10, .int (nI (R.2.2.2 i))), (11, .int (nI 2)), (12, .int (nI (rsS R i))), (14, .int (nI y2)), (15, .int (nI k))]) hx hb dL_isWell_278 hl (by decide) rfl (fun ls hl => ?_)
                  refine lv_iload hx hb dL_isWell_280 (lv_at hl 13 rfl) ?_
                  refine lv_aload_n hx hb dL_isWell_282 rfl (lv_at hl 1 rfl) ?_
                  refine lv_iload hx hb dL_isWell_283 (lv_at hl 14 rfl) ?_
                  refine lv_iconst (v := nI 1) hx hb dL_isWell_285 (by decide +kernel) ?_
                  refine zow (rest := [.int (nI y2)]) S K hP hD hS hA hl.1 (F_X5_rule l G x0 R h wa (nI k) (nI 1) hOa) rfl rfl gL_isWell_X5_rule rfl eX5_rule hOa.len hOa.hd rfl rfl (Nat.le_of_ble_eq_true rfl) (Nat.le_of_ble_eq_true rfl) (Nat.le_of_ble_eq_true rfl) ⟨Nat.zero_le _, Nat.zero_le _⟩ dL_isWell_286 (fun r u H locs hw hP hD hS => ?_)
                  obtain ⟨wa, hz_⟩ := u
                  obtain ⟨rfl, hOa⟩ := hw
                  have hOa : OI G x0 R h wa := hOa
                  have hP : va_P (gD G) vwCl wa H := hP
                  have hD : va_D A wa := hD
                  refine z_top (y := (nI (R.2.2.2 k))) (v_rule1 hR c_249) ?_
                  refine zi_xor S dL_isWell_289 ?_
                  refine lv_istore (lv' := [(14, .int (nI (y2 ^^^ (R.2.2.2 k)))), (13, .int (nI (y1 ^^^ (R.2.2.1 k)))), (0, .ref x0), (1, .int (nI wm)), (3, .int (nI R.2.1)), (4, .int (nI (naS R))), (5, .int (nI 1)), (6, .int (nI aa)), (7, .int (nI bb)), (8, .int (nI i)), (9, .int (nI (R.2.2.1 i))), (10, .int (nI (R.2.2.2 i))), (11, .int (nI 2)), (12, .int (nI (rsS R i))), (15, .int (nI k))]) hx hb dL_isWell_290 hl (by decide) rfl (fun ls hl => ?_)
                  refine lv_iload hx hb dL_isWell_292 (lv_at hl 6 rfl) ?_
                  refine zd_zf (tgt := 318) S dL_isWell_294 (by decide) (by decide) ?_
                  refine lv_iload hx hb dL_isWell_297 (lv_at hl 14 rfl) ?_
                  refine lv_iload hx hb dL_isWell_299 (lv_at hl 9 rfl) ?_
                  refine zb_ge (tgt := 318) S dL_isWell_301 (by decide) (by omega) (by omega) (fun c_301 => ?_) (fun c_301 => ?_)
                  · skip
                    exact absurd hki (by omega)
                  · skip
                    refine lv_aload_n hx hb dL_isWell_304 rfl (lv_at hl 2 rfl) ?_
                    refine lv_iload hx hb dL_isWell_305 (lv_at hl 14 rfl) ?_
                    refine lv_iconst (v := nI 2) hx hb dL_isWell_307 (by decide +kernel) ?_
                    refine zow (rest := []) S K hP hD hS hA hl.1 (F_X5_rule l G x0 R h wa (nI k) (nI 2) hOa) rfl rfl gL_isWell_X5_rule rfl eX5_rule hOa.len hOa.hd rfl rfl (Nat.le_of_ble_eq_true rfl) (Nat.le_of_ble_eq_true rfl) (Nat.le_of_ble_eq_true rfl) ⟨Nat.zero_le _, Nat.zero_le _⟩ dL_isWell_308 (fun r u H locs hw hP hD hS => ?_)
                    obtain ⟨wa, hz_⟩ := u
                    obtain ⟨rfl, hOa⟩ := hw
                    have hOa : OI G x0 R h wa := hOa
                    have hP : va_P (gD G) vwCl wa H := hP
                    have hD : va_D A wa := hD
                    refine z_top (y := (nI 0)) ((v_rule2 hR c_249).trans (by rw [hk0])) ?_
                    refine zd_nf (tgt := 318) S dL_isWell_311 (by decide) rfl ?_
                    refine lv_iconst (v := nI 1) hx hb dL_isWell_314 (by decide +kernel) ?_
                    refine lv_goto (tgt := 319) hx hb dL_isWell_315 (by decide) ?_
                    refine lv_istore (lv' := [(5, .int (nI 1)), (14, .int (nI (y2 ^^^ (R.2.2.2 k)))), (13, .int (nI (y1 ^^^ (R.2.2.1 k)))), (0, .ref x0), (1, .int (nI wm)), (3, .int (nI R.2.1)), (4, .int (nI (naS R))), (6, .int (nI aa)), (7, .int (nI bb)), (8, .int (nI i)), (9, .int (nI (R.2.2.1 i))), (10, .int (nI (R.2.2.2 i))), (11, .int (nI 2)), (12, .int (nI (rsS R i))), (15, .int (nI k))]) hx hb dL_isWell_319 hl (by decide) rfl (fun ls hl => ?_)
                    refine lv_iinc (v := (nI (k + 1))) (lv' := [(15, .int (nI (k + 1))), (5, .int (nI 1)), (14, .int (nI (y2 ^^^ (R.2.2.2 k)))), (13, .int (nI (y1 ^^^ (R.2.2.1 k)))), (0, .ref x0), (1, .int (nI wm)), (3, .int (nI R.2.1)), (4, .int (nI (naS R))), (6, .int (nI aa)), (7, .int (nI bb)), (8, .int (nI i)), (9, .int (nI (R.2.2.1 i))), (10, .int (nI (R.2.2.2 i))), (11, .int (nI 2)), (12, .int (nI (rsS R i)))]) hx hb dL_isWell_321 hl (k := 14) rfl (z_i1 _) (by decide) rfl (fun ls hl => ?_)
                    refine lv_goto (tgt := 246) hx hb dL_isWell_324 (by decide) ?_
                    exact ih_246 (k + 1) (y1 ^^^ R.2.2.1 k) (y2 ^^^ R.2.2.2 k) wa (by omega) (by omega) (cm_1 hy1 c_265) (cm_1 hy2 c_265) hOa _ _ hP hD hS _ (lv_sub hl [4, 5, 6, 7, 1, 8, 9, 10, 11, 12, 13, 14, 3, 2, 0] rfl)
          exact lp_246 _ 0 0 0 wa (Nat.lt_succ_self _) (Nat.zero_le _) rfl rfl hOa _ _ hP hD hS _ (lv_sub hl [8, 9, 10, 11, 3, 12, 13, 14, 7, 6, 5, 4, 2, 1, 0] rfl)
  exact lp_95 _ 0 wa (Nat.lt_succ_self _) (Nat.zero_le _) hOa _ _ hP hD hS _ (lv_sub hl [6, 7, 5, 4, 3, 2, 1, 0] rfl)
