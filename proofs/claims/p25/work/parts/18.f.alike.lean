set_option maxHeartbeats 4000000 in
set_option maxRecDepth 100000 in
theorem k_areAlike (l : Launch) (G : gT) (x0 y0 wp wq ot : Nat) (wa wb : va_W) (x : Int32) (hw9 : 2 ≤ wp + wq ∧ wp + wq ≤ 9) (hot : ot < 2 ^ (wp + wq)) (hW : LW G wp wq ot x0 y0 wa wb) : CI l yL_areAlike wsL_areAlike ({ frames := 6, cells := 0, slots := 0, locals := 138 } : Room) G [.ref x0, .ref y0, .int (nI (wp + wq)), .int (nI wp), .int (nI ot), .int x] (wa ++ wb) 0 0 (fun (r : Int32) (u : WU × WU) => r = nI 1 ∧ LW G wp wq ot x0 y0 u.1.1 u.2.1) (fun (u : WU × WU) => u.1.1 ++ u.2.1) := by
  refine CI.of (cc := cL_areAlike) (maxL := 10) (ret := (some .boolean)) (by decide +kernel) rfl (Nat.le_of_ble_eq_true rfl) rfl (fun p e s m args below meth c A S hrt hlk hnm K hA hP hD hS ls hl => ?_)
  have hx := S.1
  have hb := S.2.1
  have hl : lv_has ls 10 [(0, .ref x0), (1, .ref y0), (2, .int (nI (wp + wq))), (3, .int (nI wp)), (4, .int (nI ot)), (5, .int x)] := hl
  obtain ⟨R, h, hOa, hOb, hL⟩ := hW
  have hT := hOa.tab
  have hR := hT.1
  have hc : R.1 = wp + wq := hL.1
  have hn20 : R.2.1 ≤ 20 := hR.2.2.1
  have h6 : h.1 ≤ 6 := hT.2.1
  have h1s : 1 <<< (wp + wq) = 2 ^ (wp + wq) := Nat.one_shiftLeft _
  have hp9 : 2 ^ (wp + wq) ≤ 2 ^ 9 := Nat.pow_le_pow_right (by decide) hw9.2
  have hp9 : 2 ^ (wp + wq) ≤ 512 := hp9
  have hp4 : 2 ^ 2 ≤ 2 ^ (wp + wq) := Nat.pow_le_pow_right (by decide) hw9.1
  have hp4 : 4 ≤ 2 ^ (wp + wq) := hp4
  have hR2 := tr_ok (o := ot) hR hc
  have hc9 : wp + wq ≤ 12 := by omega
  have hsh : ∀ j, j < wp + wq → 1 <<< j < 2 ^ (wp + wq) := fun j hj => sh_lt hj
  refine lv_iconst (v := nI 1) hx hb dL_areAlike_0 (by decide +kernel) ?_
  refine lv_istore (lv' := [(6, .int (nI 1)), (0, .ref x0), (1, .ref y0), (2, .int (nI (wp + wq))), (3, .int (nI wp)), (4, .int (nI ot)), (5, .int x)]) hx hb dL_areAlike_1 hl (by decide) rfl (fun ls hl => ?_)
  refine lv_iconst (v := nI 0) hx hb dL_areAlike_3 (by decide +kernel) ?_
  refine lv_istore (lv' := [(7, .int (nI 0)), (6, .int (nI 1)), (0, .ref x0), (1, .ref y0), (2, .int (nI (wp + wq))), (3, .int (nI wp)), (4, .int (nI ot)), (5, .int x)]) hx hb dL_areAlike_4 hl (by decide) rfl (fun ls hl => ?_)
  have lp_6 : ∀ (n_ : Nat) (i : Nat) (wa wb : va_W), 7 - i < n_ → (i ≤ 7) → OI G x0 R h wa → OI G y0 (trR wp wq ot R) (trH wp wq ot h) wb → ∀ (H : Heap) (locs : List Loc), va_P (gD G) vwCl (wa ++ wb) H → va_D A (wa ++ wb) → va_S A s.heap H locs → ∀ ls : Array Slot, lv_has ls 10 [(0, .ref x0), (1, .ref y0), (2, .int (nI (wp + wq))), (3, .int (nI wp)), (4, .int (nI ot)), (5, .int x), (6, .int (nI 1)), (7, .int (nI i))] → W p l e ({ frames := 6, cells := 0, slots := 0, locals := 138 } : Room) s m args below meth c H locs 0 0 (MQ below (va_Qi (fun (r : Int32) (u : WU × WU) => r = nI 1 ∧ LW G wp wq ot x0 y0 u.1.1 u.2.1) (cB G A (fun (u : WU × WU) => u.1.1 ++ u.2.1)) A) args s 0 0 A) (F0 m 6 ls []) := by
    intro n_
    induction n_ with
    | zero =>
      intro i wa wb h0_
      exact absurd h0_ (Nat.not_lt_zero _)
    | succ n_ ih_6 =>
      intro i wa wb hm_ hi hOa hOb H locs hP hD hS ls hl
      refine lv_iload hx hb dL_areAlike_6 (lv_at hl 7 rfl) ?_
      refine lv_bipush (v := nI 7) hx hb dL_areAlike_8 (by decide +kernel) ?_
      refine zb_ge (tgt := 73) S dL_areAlike_10 (by decide) (by omega) (by decide) (fun c_10 => ?_) (fun c_10 => ?_)
      · skip
        refine lv_iconst (v := nI 0) hx hb dL_areAlike_73 (by decide +kernel) ?_
        refine lv_istore (lv' := [(7, .int (nI 0)), (0, .ref x0), (1, .ref y0), (2, .int (nI (wp + wq))), (3, .int (nI wp)), (4, .int (nI ot)), (5, .int x), (6, .int (nI 1))]) hx hb dL_areAlike_74 hl (by decide) rfl (fun ls hl => ?_)
        have lp_76 : ∀ (n_ : Nat) (i : Nat) (wa wb : va_W), R.2.1 - i < n_ → (i ≤ R.2.1) → OI G x0 R h wa → OI G y0 (trR wp wq ot R) (trH wp wq ot h) wb → ∀ (H : Heap) (locs : List Loc), va_P (gD G) vwCl (wa ++ wb) H → va_D A (wa ++ wb) → va_S A s.heap H locs → ∀ ls : Array Slot, lv_has ls 10 [(0, .ref x0), (1, .ref y0), (2, .int (nI (wp + wq))), (3, .int (nI wp)), (4, .int (nI ot)), (5, .int x), (6, .int (nI 1)), (7, .int (nI i))] → W p l e ({ frames := 6, cells := 0, slots := 0, locals := 138 } : Room) s m args below meth c H locs 0 0 (MQ below (va_Qi (fun (r : Int32) (u : WU × WU) => r = nI 1 ∧ LW G wp wq ot x0 y0 u.1.1 u.2.1) (cB G A (fun (u : WU × WU) => u.1.1 ++ u.2.1)) A) args s 0 0 A) (F0 m 76 ls []) := by
          intro n_
          induction n_ with
          | zero =>
            intro i wa wb h0_
            exact absurd h0_ (Nat.not_lt_zero _)
          | succ n_ ih_76 =>
            intro i wa wb hm_ hi hOa hOb H locs hP hD hS ls hl
            refine lv_iload hx hb dL_areAlike_76 (lv_at hl 7 rfl) ?_
            refine lv_aload_n hx hb dL_areAlike_78 rfl (lv_at hl 0 rfl) ?_
            refine lv_iconst (v := nI 0) hx hb dL_areAlike_79 (by decide +kernel) ?_
            refine zoa (rest := [.int (nI i)]) S K hP hD hS hA hl.1 (F_X5_count l G x0 R h wa (nI 0) hOa) rfl rfl gL_areAlike_X5_count rfl eX5_count hOa.len hOa.hd rfl rfl (Nat.le_of_ble_eq_true rfl) (Nat.le_of_ble_eq_true rfl) (Nat.le_of_ble_eq_true rfl) ⟨Nat.zero_le _, Nat.zero_le _⟩ dL_areAlike_80 (fun r u H locs hw hP hD hS => ?_)
            obtain ⟨wa, hz_⟩ := u
            obtain ⟨rfl, hOa⟩ := hw
            have hOa : OI G x0 R h wa := hOa
            have hP : va_P (gD G) vwCl (wa ++ wb) H := hP
            have hD : va_D A (wa ++ wb) := hD
            refine z_top (y := (nI R.2.1)) vc_0 ?_
            refine zb_ge (tgt := 209) S dL_areAlike_83 (by decide) (by omega) (by omega) (fun c_83 => ?_) (fun c_83 => ?_)
            · skip
              refine lv_iconst (v := nI 0) hx hb dL_areAlike_209 (by decide +kernel) ?_
              refine lv_istore (lv' := [(7, .int (nI 0)), (0, .ref x0), (1, .ref y0), (2, .int (nI (wp + wq))), (3, .int (nI wp)), (4, .int (nI ot)), (5, .int x), (6, .int (nI 1))]) hx hb dL_areAlike_210 hl (by decide) rfl (fun ls hl => ?_)
              have lp_212 : ∀ (n_ : Nat) (i : Nat) (wa wb : va_W), wp + wq - i < n_ → (i ≤ wp + wq) → OI G x0 R h wa → OI G y0 (trR wp wq ot R) (trH wp wq ot h) wb → ∀ (H : Heap) (locs : List Loc), va_P (gD G) vwCl (wa ++ wb) H → va_D A (wa ++ wb) → va_S A s.heap H locs → ∀ ls : Array Slot, lv_has ls 10 [(0, .ref x0), (1, .ref y0), (2, .int (nI (wp + wq))), (3, .int (nI wp)), (4, .int (nI ot)), (5, .int x), (6, .int (nI 1)), (7, .int (nI i))] → W p l e ({ frames := 6, cells := 0, slots := 0, locals := 138 } : Room) s m args below meth c H locs 0 0 (MQ below (va_Qi (fun (r : Int32) (u : WU × WU) => r = nI 1 ∧ LW G wp wq ot x0 y0 u.1.1 u.2.1) (cB G A (fun (u : WU × WU) => u.1.1 ++ u.2.1)) A) args s 0 0 A) (F0 m 212 ls []) := by
                intro n_
                induction n_ with
                | zero =>
                  intro i wa wb h0_
                  exact absurd h0_ (Nat.not_lt_zero _)
                | succ n_ ih_212 =>
                  intro i wa wb hm_ hi hOa hOb H locs hP hD hS ls hl
                  refine lv_iload hx hb dL_areAlike_212 (lv_at hl 7 rfl) ?_
                  refine lv_iload_n hx hb dL_areAlike_214 rfl (lv_at hl 2 rfl) ?_
                  refine zb_ge (tgt := 324) S dL_areAlike_215 (by decide) (by omega) (by omega) (fun c_215 => ?_) (fun c_215 => ?_)
                  · skip
                    refine lv_iload hx hb dL_areAlike_324 (lv_at hl 5 rfl) ?_
                    refine lv_iconst (v := nI 1) hx hb dL_areAlike_326 (by decide +kernel) ?_
                    refine lv_iload_n hx hb dL_areAlike_327 rfl (lv_at hl 2 rfl) ?_
                    refine zi_shl S dL_areAlike_328 (by omega) ?_
                    refine zos (rest := []) S K hP hD hS hA hl.1 (k_up l G x (1 <<< (wp + wq)) (by omega) (by omega)) rfl rfl gL_areAlike_L_up rfl eL_up.2 rfl rfl (Nat.le_of_ble_eq_true rfl) (Nat.le_of_ble_eq_true rfl) (Nat.le_of_ble_eq_true rfl) ⟨Nat.zero_le _, Nat.zero_le _⟩ dL_areAlike_329 (fun r H locs hw hP hD hS => ?_)
                    obtain ⟨_, rfl⟩ := hw
                    obtain ⟨sv, hsv⟩ : ∃ z, z = upN x (1 <<< (wp + wq)) := ⟨_, rfl⟩
                    refine z_top (y := nI sv) (congrArg nI hsv.symm) ?_
                    have hsv : sv < 2 ^ (wp + wq) := by rw [hsv, ← h1s]; exact up_lt _ (by omega)
                    have hsv2 : sv < 2 ^ R.1 := by rw [hc]; exact hsv
                    have hth := thR_lt wp wq sv
                    have hth2 : thR wp wq sv < 2 ^ (trR wp wq ot R).1 := by show _ < 2 ^ R.1; rw [hc]; exact hth
                    refine lv_istore (lv' := [(7, .int (nI sv)), (0, .ref x0), (1, .ref y0), (2, .int (nI (wp + wq))), (3, .int (nI wp)), (4, .int (nI ot)), (5, .int x), (6, .int (nI 1))]) hx hb dL_areAlike_332 hl (by decide) rfl (fun ls hl => ?_)
                    refine lv_aload_n hx hb dL_areAlike_334 rfl (lv_at hl 1 rfl) ?_
                    refine lv_iload hx hb dL_areAlike_335 (lv_at hl 0 rfl) ?_
                    have hxo := Nat.xor_lt_two_pow hsv hot
                    have hto := thR_lt wp wq (sv ^^^ ot)
                    have hto2 : thR wp wq (sv ^^^ ot) < 2 ^ (trR wp wq ot R).1 := by show _ < 2 ^ R.1; rw [hc]; exact hto
                    rcases tr_kn (o := ot) hR hc hsv with ⟨kx, hkx, e1, e2⟩ | ⟨e1, e2⟩
                    · skip
                      refine zoa (rest := []) S K hP hD hS hA hl.1 (F_X5_known l G x0 R h wa (nI sv) hOa) rfl rfl gL_areAlike_X5_known rfl eX5_known hOa.len hOa.hd rfl rfl (Nat.le_of_ble_eq_true rfl) (Nat.le_of_ble_eq_true rfl) (Nat.le_of_ble_eq_true rfl) ⟨Nat.zero_le _, Nat.zero_le _⟩ dL_areAlike_337 (fun r u H locs hw hP hD hS => ?_)
                      obtain ⟨wa, hz_⟩ := u
                      obtain ⟨rfl, hOa⟩ := hw
                      have hOa : OI G x0 R h wa := hOa
                      have hP : va_P (gD G) vwCl (wa ++ wb) H := hP
                      have hD : va_D A (wa ++ wb) := hD
                      refine z_top (y := (nI kx)) ((v_kn hR hsv2).trans e1) ?_
                      refine lv_istore (lv' := [(8, .int (nI kx)), (7, .int (nI sv)), (0, .ref x0), (1, .ref y0), (2, .int (nI (wp + wq))), (3, .int (nI wp)), (4, .int (nI ot)), (5, .int x), (6, .int (nI 1))]) hx hb dL_areAlike_340 hl (by decide) rfl (fun ls hl => ?_)
                      refine lv_iload hx hb dL_areAlike_342 (lv_at hl 8 rfl) ?_
                      refine zd_zf (tgt := 439) S dL_areAlike_344 (by decide) (by decide) ?_
                      refine lv_aload_n hx hb dL_areAlike_347 rfl (lv_at hl 3 rfl) ?_
                      refine lv_iload hx hb dL_areAlike_348 (lv_at hl 1 rfl) ?_
                      refine lv_iload_n hx hb dL_areAlike_350 rfl (lv_at hl 4 rfl) ?_
                      refine lv_iload_n hx hb dL_areAlike_351 rfl (lv_at hl 5 rfl) ?_
                      refine zos (rest := [.ref y0]) S K hP hD hS hA hl.1 (k_there l G sv wp wq (by omega) (by omega)) rfl rfl gL_areAlike_L_there rfl eL_there.2 rfl rfl (Nat.le_of_ble_eq_true rfl) (Nat.le_of_ble_eq_true rfl) (Nat.le_of_ble_eq_true rfl) ⟨Nat.zero_le _, Nat.zero_le _⟩ dL_areAlike_352 (fun r H locs hw hP hD hS => ?_)
                      obtain ⟨_, rfl⟩ := hw
                      refine zob (rest := []) S K hP hD hS hA hl.1 (F_X5_known l G y0 (trR wp wq ot R) (trH wp wq ot h) wb (nI (thR wp wq sv)) hOb) rfl rfl gL_areAlike_X5_known rfl eX5_known hOb.len hOb.hd rfl rfl (Nat.le_of_ble_eq_true rfl) (Nat.le_of_ble_eq_true rfl) (Nat.le_of_ble_eq_true rfl) ⟨Nat.zero_le _, Nat.zero_le _⟩ dL_areAlike_355 (fun r u H locs hw hP hD hS => ?_)
                      obtain ⟨wb, hz_⟩ := u
                      obtain ⟨rfl, hOb⟩ := hw
                      have hOb : OI G y0 (trR wp wq ot R) (trH wp wq ot h) wb := hOb
                      have hP : va_P (gD G) vwCl (wa ++ wb) H := hP
                      have hD : va_D A (wa ++ wb) := hD
                      refine z_top (y := (nI (kx ^^^ pty (sv &&& ot)))) ((v_kn hR2 hth2).trans e2) ?_
                      refine lv_iload hx hb dL_areAlike_358 (lv_at hl 0 rfl) ?_
                      refine lv_bipush (v := -6) hx hb dL_areAlike_360 (by decide +kernel) ?_
                      refine zd_net (tgt := 370) S dL_areAlike_362 (by decide) (nI_6 hkx) ?_
                      refine lv_iload hx hb dL_areAlike_370 (lv_at hl 0 rfl) ?_
                      refine lv_iload hx hb dL_areAlike_372 (lv_at hl 1 rfl) ?_
                      refine lv_iload hx hb dL_areAlike_374 (lv_at hl 6 rfl) ?_
                      refine zi_and S dL_areAlike_376 ?_
                      refine zos (rest := [.int (nI kx), .int (nI (kx ^^^ pty (sv &&& ot)))]) S K hP hD hS hA hl.1 (k_odd l G (sv &&& ot) (Nat.lt_of_le_of_lt Nat.and_le_left (by omega))) rfl rfl gL_areAlike_L_odd rfl eL_odd.2 rfl rfl (Nat.le_of_ble_eq_true rfl) (Nat.le_of_ble_eq_true rfl) (Nat.le_of_ble_eq_true rfl) ⟨Nat.zero_le _, Nat.zero_le _⟩ dL_areAlike_377 (fun r H locs hw hP hD hS => ?_)
                      obtain ⟨_, rfl⟩ := hw
                      refine zi_xor S dL_areAlike_380 ?_
                      refine zd_ne (tgt := 439) S dL_areAlike_381 (by decide) rfl ?_
                      refine lv_aload_n hx hb dL_areAlike_384 rfl (lv_at hl 2 rfl) ?_
                      refine lv_iload hx hb dL_areAlike_385 (lv_at hl 1 rfl) ?_
                      refine lv_iconst (v := nI 1) hx hb dL_areAlike_387 (by decide +kernel) ?_
                      refine zoa (rest := []) S K hP hD hS hA hl.1 (F_X5_nearest l G x0 R h wa (nI sv) (nI 1) hOa) rfl rfl gL_areAlike_X5_nearest rfl eX5_nearest hOa.len hOa.hd rfl rfl (Nat.le_of_ble_eq_true rfl) (Nat.le_of_ble_eq_true rfl) (Nat.le_of_ble_eq_true rfl) ⟨Nat.zero_le _, Nat.zero_le _⟩ dL_areAlike_388 (fun r u H locs hw hP hD hS => ?_)
                      obtain ⟨wa, hz_⟩ := u
                      obtain ⟨rfl, hOa⟩ := hw
                      have hOa : OI G x0 R h wa := hOa
                      have hP : va_P (gD G) vwCl (wa ++ wb) H := hP
                      have hD : va_D A (wa ++ wb) := hD
                      refine lv_aload_n hx hb dL_areAlike_391 rfl (lv_at hl 3 rfl) ?_
                      refine lv_iload hx hb dL_areAlike_392 (lv_at hl 1 rfl) ?_
                      refine lv_iload hx hb dL_areAlike_394 (lv_at hl 6 rfl) ?_
                      refine zi_xor S dL_areAlike_396 ?_
                      refine lv_iload_n hx hb dL_areAlike_397 rfl (lv_at hl 4 rfl) ?_
                      refine lv_iload_n hx hb dL_areAlike_398 rfl (lv_at hl 5 rfl) ?_
                      refine zos (rest := [.ref y0, .int (r_nearest R (nI sv) (nI 1))]) S K hP hD hS hA hl.1 (k_there l G (sv ^^^ ot) wp wq (by omega) (by omega)) rfl rfl gL_areAlike_L_there rfl eL_there.2 rfl rfl (Nat.le_of_ble_eq_true rfl) (Nat.le_of_ble_eq_true rfl) (Nat.le_of_ble_eq_true rfl) ⟨Nat.zero_le _, Nat.zero_le _⟩ dL_areAlike_399 (fun r H locs hw hP hD hS => ?_)
                      obtain ⟨_, rfl⟩ := hw
                      refine lv_iconst (v := nI 1) hx hb dL_areAlike_402 (by decide +kernel) ?_
                      refine zob (rest := [.int (r_nearest R (nI sv) (nI 1))]) S K hP hD hS hA hl.1 (F_X5_nearest l G y0 (trR wp wq ot R) (trH wp wq ot h) wb (nI (thR wp wq (sv ^^^ ot))) (nI 1) hOb) rfl rfl gL_areAlike_X5_nearest rfl eX5_nearest hOb.len hOb.hd rfl rfl (Nat.le_of_ble_eq_true rfl) (Nat.le_of_ble_eq_true rfl) (Nat.le_of_ble_eq_true rfl) ⟨Nat.zero_le _, Nat.zero_le _⟩ dL_areAlike_403 (fun r u H locs hw hP hD hS => ?_)
                      obtain ⟨wb, hz_⟩ := u
                      obtain ⟨rfl, hOb⟩ := hw
                      have hOb : OI G y0 (trR wp wq ot R) (trH wp wq ot h) wb := hOb
                      have hP : va_P (gD G) vwCl (wa ++ wb) H := hP
                      have hD : va_D A (wa ++ wb) := hD
                      refine zd_ne (tgt := 439) S dL_areAlike_406 (by decide) ((v_ne1 hR hsv2).trans ((congrArg nI (tr_ne hR hc hsv hot).symm).trans (v_ne1 hR2 hto2).symm)) ?_
                      refine lv_aload_n hx hb dL_areAlike_409 rfl (lv_at hl 2 rfl) ?_
                      refine lv_iconst (v := nI 1) hx hb dL_areAlike_410 (by decide +kernel) ?_
                      refine zoa (rest := []) S K hP hD hS hA hl.1 (F_X5_best l G x0 R h wa (nI 1) hOa) rfl rfl gL_areAlike_X5_best rfl eX5_best hOa.len hOa.hd rfl rfl (Nat.le_of_ble_eq_true rfl) (Nat.le_of_ble_eq_true rfl) (Nat.le_of_ble_eq_true rfl) ⟨Nat.zero_le _, Nat.zero_le _⟩ dL_areAlike_411 (fun r u H locs hw hP hD hS => ?_)
                      obtain ⟨wa, hz_⟩ := u
                      obtain ⟨rfl, hOa⟩ := hw
                      have hOa : OI G x0 R h wa := hOa
                      have hP : va_P (gD G) vwCl (wa ++ wb) H := hP
                      have hD : va_D A (wa ++ wb) := hD
                      refine lv_aload_n hx hb dL_areAlike_414 rfl (lv_at hl 3 rfl) ?_
                      refine lv_iconst (v := nI 1) hx hb dL_areAlike_415 (by decide +kernel) ?_
                      refine zob (rest := [.int (r_best R (nI 1))]) S K hP hD hS hA hl.1 (F_X5_best l G y0 (trR wp wq ot R) (trH wp wq ot h) wb (nI 1) hOb) rfl rfl gL_areAlike_X5_best rfl eX5_best hOb.len hOb.hd rfl rfl (Nat.le_of_ble_eq_true rfl) (Nat.le_of_ble_eq_true rfl) (Nat.le_of_ble_eq_true rfl) ⟨Nat.zero_le _, Nat.zero_le _⟩ dL_areAlike_416 (fun r u H locs hw hP hD hS => ?_)
                      obtain ⟨wb, hz_⟩ := u
                      obtain ⟨rfl, hOb⟩ := hw
                      have hOb : OI G y0 (trR wp wq ot R) (trH wp wq ot h) wb := hOb
                      have hP : va_P (gD G) vwCl (wa ++ wb) H := hP
                      have hD : va_D A (wa ++ wb) := hD
                      refine zd_ne (tgt := 439) S dL_areAlike_419 (by decide) (v_b1.trans ((congrArg nI (tr_b1 hR hc hot).symm).trans v_b1.symm)) ?_
                      refine lv_aload_n hx hb dL_areAlike_422 rfl (lv_at hl 2 rfl) ?_
                      refine lv_iconst (v := nI 2) hx hb dL_areAlike_423 (by decide +kernel) ?_
                      refine zoa (rest := []) S K hP hD hS hA hl.1 (F_X5_best l G x0 R h wa (nI 2) hOa) rfl rfl gL_areAlike_X5_best rfl eX5_best hOa.len hOa.hd rfl rfl (Nat.le_of_ble_eq_true rfl) (Nat.le_of_ble_eq_true rfl) (Nat.le_of_ble_eq_true rfl) ⟨Nat.zero_le _, Nat.zero_le _⟩ dL_areAlike_424 (fun r u H locs hw hP hD hS => ?_)
                      obtain ⟨wa, hz_⟩ := u
                      obtain ⟨rfl, hOa⟩ := hw
                      have hOa : OI G x0 R h wa := hOa
                      have hP : va_P (gD G) vwCl (wa ++ wb) H := hP
                      have hD : va_D A (wa ++ wb) := hD
                      refine lv_aload_n hx hb dL_areAlike_427 rfl (lv_at hl 3 rfl) ?_
                      refine lv_iconst (v := nI 2) hx hb dL_areAlike_428 (by decide +kernel) ?_
                      refine zob (rest := [.int (r_best R (nI 2))]) S K hP hD hS hA hl.1 (F_X5_best l G y0 (trR wp wq ot R) (trH wp wq ot h) wb (nI 2) hOb) rfl rfl gL_areAlike_X5_best rfl eX5_best hOb.len hOb.hd rfl rfl (Nat.le_of_ble_eq_true rfl) (Nat.le_of_ble_eq_true rfl) (Nat.le_of_ble_eq_true rfl) ⟨Nat.zero_le _, Nat.zero_le _⟩ dL_areAlike_429 (fun r u H locs hw hP hD hS => ?_)
                      obtain ⟨wb, hz_⟩ := u
                      obtain ⟨rfl, hOb⟩ := hw
                      have hOb : OI G y0 (trR wp wq ot R) (trH wp wq ot h) wb := hOb
                      have hP : va_P (gD G) vwCl (wa ++ wb) H := hP
                      have hD : va_D A (wa ++ wb) := hD
                      refine zd_ne (tgt := 439) S dL_areAlike_432 (by decide) (v_b2.trans ((congrArg nI (tr_b2 hR hc hot).symm).trans v_b2.symm)) ?_
                      refine lv_iconst (v := nI 1) hx hb dL_areAlike_435 (by decide +kernel) ?_
                      refine lv_goto (tgt := 440) hx hb dL_areAlike_436 (by decide) ?_
                      exact z_zret S hrt hlk hP hD hS (⟨wa, hOa.len⟩, ⟨wb, hOb.len⟩) rfl ⟨rfl, ⟨_, _, hOa, hOb, hL⟩⟩ (z_bnar true) dL_areAlike_440
                    · skip
                      refine zoa (rest := []) S K hP hD hS hA hl.1 (F_X5_known l G x0 R h wa (nI sv) hOa) rfl rfl gL_areAlike_X5_known rfl eX5_known hOa.len hOa.hd rfl rfl (Nat.le_of_ble_eq_true rfl) (Nat.le_of_ble_eq_true rfl) (Nat.le_of_ble_eq_true rfl) ⟨Nat.zero_le _, Nat.zero_le _⟩ dL_areAlike_337 (fun r u H locs hw hP hD hS => ?_)
                      obtain ⟨wa, hz_⟩ := u
                      obtain ⟨rfl, hOa⟩ := hw
                      have hOa : OI G x0 R h wa := hOa
                      have hP : va_P (gD G) vwCl (wa ++ wb) H := hP
                      have hD : va_D A (wa ++ wb) := hD
                      refine z_top (y := (-6)) ((v_kn hR hsv2).trans e1) ?_
                      refine lv_istore (lv' := [(8, .int (-6)), (7, .int (nI sv)), (0, .ref x0), (1, .ref y0), (2, .int (nI (wp + wq))), (3, .int (nI wp)), (4, .int (nI ot)), (5, .int x), (6, .int (nI 1))]) hx hb dL_areAlike_340 hl (by decide) rfl (fun ls hl => ?_)
                      refine lv_iload hx hb dL_areAlike_342 (lv_at hl 8 rfl) ?_
                      refine zd_zf (tgt := 439) S dL_areAlike_344 (by decide) (by decide) ?_
                      refine lv_aload_n hx hb dL_areAlike_347 rfl (lv_at hl 3 rfl) ?_
                      refine lv_iload hx hb dL_areAlike_348 (lv_at hl 1 rfl) ?_
                      refine lv_iload_n hx hb dL_areAlike_350 rfl (lv_at hl 4 rfl) ?_
                      refine lv_iload_n hx hb dL_areAlike_351 rfl (lv_at hl 5 rfl) ?_
                      refine zos (rest := [.ref y0]) S K hP hD hS hA hl.1 (k_there l G sv wp wq (by omega) (by omega)) rfl rfl gL_areAlike_L_there rfl eL_there.2 rfl rfl (Nat.le_of_ble_eq_true rfl) (Nat.le_of_ble_eq_true rfl) (Nat.le_of_ble_eq_true rfl) ⟨Nat.zero_le _, Nat.zero_le _⟩ dL_areAlike_352 (fun r H locs hw hP hD hS => ?_)
                      obtain ⟨_, rfl⟩ := hw
                      refine zob (rest := []) S K hP hD hS hA hl.1 (F_X5_known l G y0 (trR wp wq ot R) (trH wp wq ot h) wb (nI (thR wp wq sv)) hOb) rfl rfl gL_areAlike_X5_known rfl eX5_known hOb.len hOb.hd rfl rfl (Nat.le_of_ble_eq_true rfl) (Nat.le_of_ble_eq_true rfl) (Nat.le_of_ble_eq_true rfl) ⟨Nat.zero_le _, Nat.zero_le _⟩ dL_areAlike_355 (fun r u H locs hw hP hD hS => ?_)
                      obtain ⟨wb, hz_⟩ := u
                      obtain ⟨rfl, hOb⟩ := hw
                      have hOb : OI G y0 (trR wp wq ot R) (trH wp wq ot h) wb := hOb
                      have hP : va_P (gD G) vwCl (wa ++ wb) H := hP
                      have hD : va_D A (wa ++ wb) := hD
                      refine z_top (y := (-6)) ((v_kn hR2 hth2).trans e2) ?_
                      refine lv_iload hx hb dL_areAlike_358 (lv_at hl 0 rfl) ?_
                      refine lv_bipush (v := -6) hx hb dL_areAlike_360 (by decide +kernel) ?_
                      refine zd_ne (tgt := 370) S dL_areAlike_362 (by decide) rfl ?_
                      refine lv_iload hx hb dL_areAlike_365 (lv_at hl 0 rfl) ?_
                      refine lv_goto (tgt := 381) hx hb dL_areAlike_367 (by decide) ?_
                      refine zd_ne (tgt := 439) S dL_areAlike_381 (by decide) rfl ?_
                      refine lv_aload_n hx hb dL_areAlike_384 rfl (lv_at hl 2 rfl) ?_
                      refine lv_iload hx hb dL_areAlike_385 (lv_at hl 1 rfl) ?_
                      refine lv_iconst (v := nI 1) hx hb dL_areAlike_387 (by decide +kernel) ?_
                      refine zoa (rest := []) S K hP hD hS hA hl.1 (F_X5_nearest l G x0 R h wa (nI sv) (nI 1) hOa) rfl rfl gL_areAlike_X5_nearest rfl eX5_nearest hOa.len hOa.hd rfl rfl (Nat.le_of_ble_eq_true rfl) (Nat.le_of_ble_eq_true rfl) (Nat.le_of_ble_eq_true rfl) ⟨Nat.zero_le _, Nat.zero_le _⟩ dL_areAlike_388 (fun r u H locs hw hP hD hS => ?_)
                      obtain ⟨wa, hz_⟩ := u
                      obtain ⟨rfl, hOa⟩ := hw
                      have hOa : OI G x0 R h wa := hOa
                      have hP : va_P (gD G) vwCl (wa ++ wb) H := hP
                      have hD : va_D A (wa ++ wb) := hD
                      refine lv_aload_n hx hb dL_areAlike_391 rfl (lv_at hl 3 rfl) ?_
                      refine lv_iload hx hb dL_areAlike_392 (lv_at hl 1 rfl) ?_
                      refine lv_iload hx hb dL_areAlike_394 (lv_at hl 6 rfl) ?_
                      refine zi_xor S dL_areAlike_396 ?_
                      refine lv_iload_n hx hb dL_areAlike_397 rfl (lv_at hl 4 rfl) ?_
                      refine lv_iload_n hx hb dL_areAlike_398 rfl (lv_at hl 5 rfl) ?_
                      refine zos (rest := [.ref y0, .int (r_nearest R (nI sv) (nI 1))]) S K hP hD hS hA hl.1 (k_there l G (sv ^^^ ot) wp wq (by omega) (by omega)) rfl rfl gL_areAlike_L_there rfl eL_there.2 rfl rfl (Nat.le_of_ble_eq_true rfl) (Nat.le_of_ble_eq_true rfl) (Nat.le_of_ble_eq_true rfl) ⟨Nat.zero_le _, Nat.zero_le _⟩ dL_areAlike_399 (fun r H locs hw hP hD hS => ?_)
                      obtain ⟨_, rfl⟩ := hw
                      refine lv_iconst (v := nI 1) hx hb dL_areAlike_402 (by decide +kernel) ?_
                      refine zob (rest := [.int (r_nearest R (nI sv) (nI 1))]) S K hP hD hS hA hl.1 (F_X5_nearest l G y0 (trR wp wq ot R) (trH wp wq ot h) wb (nI (thR wp wq (sv ^^^ ot))) (nI 1) hOb) rfl rfl gL_areAlike_X5_nearest rfl eX5_nearest hOb.len hOb.hd rfl rfl (Nat.le_of_ble_eq_true rfl) (Nat.le_of_ble_eq_true rfl) (Nat.le_of_ble_eq_true rfl) ⟨Nat.zero_le _, Nat.zero_le _⟩ dL_areAlike_403 (fun r u H locs hw hP hD hS => ?_)
                      obtain ⟨wb, hz_⟩ := u
                      obtain ⟨rfl, hOb⟩ := hw
                      have hOb : OI G y0 (trR wp wq ot R) (trH wp wq ot h) wb := hOb
                      have hP : va_P (gD G) vwCl (wa ++ wb) H := hP
                      have hD : va_D A (wa ++ wb) := hD
                      refine zd_ne (tgt := 439) S dL_areAlike_406 (by decide) ((v_ne1 hR hsv2).trans ((congrArg nI (tr_ne hR hc hsv hot).symm).trans (v_ne1 hR2 hto2).symm)) ?_
                      refine lv_aload_n hx hb dL_areAlike_409 rfl (lv_at hl 2 rfl) ?_
                      refine lv_iconst (v := nI 1) hx hb dL_areAlike_410 (by decide +kernel) ?_
                      refine zoa (rest := []) S K hP hD hS hA hl.1 (F_X5_best l G x0 R h wa (nI 1) hOa) rfl rfl gL_areAlike_X5_best rfl eX5_best hOa.len hOa.hd rfl rfl (Nat.le_of_ble_eq_true rfl) (Nat.le_of_ble_eq_true rfl) (Nat.le_of_ble_eq_true rfl) ⟨Nat.zero_le _, Nat.zero_le _⟩ dL_areAlike_411 (fun r u H locs hw hP hD hS => ?_)
                      obtain ⟨wa, hz_⟩ := u
                      obtain ⟨rfl, hOa⟩ := hw
                      have hOa : OI G x0 R h wa := hOa
                      have hP : va_P (gD G) vwCl (wa ++ wb) H := hP
                      have hD : va_D A (wa ++ wb) := hD
                      refine lv_aload_n hx hb dL_areAlike_414 rfl (lv_at hl 3 rfl) ?_
                      refine lv_iconst (v := nI 1) hx hb dL_areAlike_415 (by decide +kernel) ?_
                      refine zob (rest := [.int (r_best R (nI 1))]) S K hP hD hS hA hl.1 (F_X5_best l G y0 (trR wp wq ot R) (trH wp wq ot h) wb (nI 1) hOb) rfl rfl gL_areAlike_X5_best rfl eX5_best hOb.len hOb.hd rfl rfl (Nat.le_of_ble_eq_true rfl) (Nat.le_of_ble_eq_true rfl) (Nat.le_of_ble_eq_true rfl) ⟨Nat.zero_le _, Nat.zero_le _⟩ dL_areAlike_416 (fun r u H locs hw hP hD hS => ?_)
                      obtain ⟨wb, hz_⟩ := u
                      obtain ⟨rfl, hOb⟩ := hw
                      have hOb : OI G y0 (trR wp wq ot R) (trH wp wq ot h) wb := hOb
                      have hP : va_P (gD G) vwCl (wa ++ wb) H := hP
                      have hD : va_D A (wa ++ wb) := hD
                      refine zd_ne (tgt := 439) S dL_areAlike_419 (by decide) (v_b1.trans ((congrArg nI (tr_b1 hR hc hot).symm).trans v_b1.symm)) ?_
                      refine lv_aload_n hx hb dL_areAlike_422 rfl (lv_at hl 2 rfl) ?_
                      refine lv_iconst (v := nI 2) hx hb dL_areAlike_423 (by decide +kernel) ?_
                      refine zoa (rest := []) S K hP hD hS hA hl.1 (F_X5_best l G x0 R h wa (nI 2) hOa) rfl rfl gL_areAlike_X5_best rfl eX5_best hOa.len hOa.hd rfl rfl (Nat.le_of_ble_eq_true rfl) (Nat.le_of_ble_eq_true rfl) (Nat.le_of_ble_eq_true rfl) ⟨Nat.zero_le _, Nat.zero_le _⟩ dL_areAlike_424 (fun r u H locs hw hP hD hS => ?_)
                      obtain ⟨wa, hz_⟩ := u
                      obtain ⟨rfl, hOa⟩ := hw
                      have hOa : OI G x0 R h wa := hOa
                      have hP : va_P (gD G) vwCl (wa ++ wb) H := hP
                      have hD : va_D A (wa ++ wb) := hD
                      refine lv_aload_n hx hb dL_areAlike_427 rfl (lv_at hl 3 rfl) ?_
                      refine lv_iconst (v := nI 2) hx hb dL_areAlike_428 (by decide +kernel) ?_
                      refine zob (rest := [.int (r_best R (nI 2))]) S K hP hD hS hA hl.1 (F_X5_best l G y0 (trR wp wq ot R) (trH wp wq ot h) wb (nI 2) hOb) rfl rfl gL_areAlike_X5_best rfl eX5_best hOb.len hOb.hd rfl rfl (Nat.le_of_ble_eq_true rfl) (Nat.le_of_ble_eq_true rfl) (Nat.le_of_ble_eq_true rfl) ⟨Nat.zero_le _, Nat.zero_le _⟩ dL_areAlike_429 (fun r u H locs hw hP hD hS => ?_)
                      obtain ⟨wb, hz_⟩ := u
                      obtain ⟨rfl, hOb⟩ := hw
                      have hOb : OI G y0 (trR wp wq ot R) (trH wp wq ot h) wb := hOb
                      have hP : va_P (gD G) vwCl (wa ++ wb) H := hP
                      have hD : va_D A (wa ++ wb) := hD
                      refine zd_ne (tgt := 439) S dL_areAlike_432 (by decide) (v_b2.trans ((congrArg nI (tr_b2 hR hc hot).symm).trans v_b2.symm)) ?_
                      refine lv_iconst (v := nI 1) hx hb dL_areAlike_435 (by decide +kernel) ?_
                      refine lv_goto (tgt := 440) hx hb dL_areAlike_436 (by decide) ?_
                      exact z_zret S hrt hlk hP hD hS (⟨wa, hOa.len⟩, ⟨wb, hOb.len⟩) rfl ⟨rfl, ⟨_, _, hOa, hOb, hL⟩⟩ (z_bnar true) dL_areAlike_440
                  · skip
                    refine lv_iload hx hb dL_areAlike_218 (lv_at hl 6 rfl) ?_
                    refine zd_zf (tgt := 324) S dL_areAlike_220 (by decide) (by decide) ?_
                    have hir : i < R.1 := by omega
                    have hrn := rnd_lt (p := wp) (q := wq) c_215
                    have hrr : rnd wp wq i < R.1 := by omega
                    refine lv_iload hx hb dL_areAlike_223 (lv_at hl 7 rfl) ?_
                    refine lv_iload_n hx hb dL_areAlike_225 rfl (lv_at hl 3 rfl) ?_
                    refine zi_add S dL_areAlike_226 ?_
                    refine lv_iload_n hx hb dL_areAlike_227 rfl (lv_at hl 2 rfl) ?_
                    refine zi_rem S dL_areAlike_228 (by omega) (by omega) (by omega) ?_
                    refine z_top (y := (nI (rnd wp wq i))) rfl ?_
                    refine lv_istore (lv' := [(8, .int (nI (rnd wp wq i))), (0, .ref x0), (1, .ref y0), (2, .int (nI (wp + wq))), (3, .int (nI wp)), (4, .int (nI ot)), (5, .int x), (6, .int (nI 1)), (7, .int (nI i))]) hx hb dL_areAlike_229 hl (by decide) rfl (fun ls hl => ?_)
                    refine lv_aload_n hx hb dL_areAlike_231 rfl (lv_at hl 1 rfl) ?_
                    refine lv_iload hx hb dL_areAlike_232 (lv_at hl 8 rfl) ?_
                    refine lv_iconst (v := nI 0) hx hb dL_areAlike_234 (by decide +kernel) ?_
                    have hth := sh_th (p := wp) (q := wq) c_215
                    rcases tr_kn (o := ot) hR hc (hsh i c_215) with ⟨kx, hkx, e1, e2⟩ | ⟨e1, e2⟩
                    · skip
                      refine zoa (rest := []) S K hP hD hS hA hl.1 (F_X5_choice l G x0 R h wa (nI i) (nI 0) hOa) rfl rfl gL_areAlike_X5_choice rfl eX5_choice hOa.len hOa.hd rfl rfl (Nat.le_of_ble_eq_true rfl) (Nat.le_of_ble_eq_true rfl) (Nat.le_of_ble_eq_true rfl) ⟨Nat.zero_le _, Nat.zero_le _⟩ dL_areAlike_235 (fun r u H locs hw hP hD hS => ?_)
                      obtain ⟨wa, hz_⟩ := u
                      obtain ⟨rfl, hOa⟩ := hw
                      have hOa : OI G x0 R h wa := hOa
                      have hP : va_P (gD G) vwCl (wa ++ wb) H := hP
                      have hD : va_D A (wa ++ wb) := hD
                      refine z_top (y := (nI kx)) ((v_ch0 hR hir).trans e1) ?_
                      refine lv_istore (lv' := [(9, .int (nI kx)), (8, .int (nI (rnd wp wq i))), (0, .ref x0), (1, .ref y0), (2, .int (nI (wp + wq))), (3, .int (nI wp)), (4, .int (nI ot)), (5, .int x), (6, .int (nI 1)), (7, .int (nI i))]) hx hb dL_areAlike_238 hl (by decide) rfl (fun ls hl => ?_)
                      refine lv_aload_n hx hb dL_areAlike_240 rfl (lv_at hl 3 rfl) ?_
                      refine lv_iload hx hb dL_areAlike_241 (lv_at hl 1 rfl) ?_
                      refine lv_iconst (v := nI 0) hx hb dL_areAlike_243 (by decide +kernel) ?_
                      refine zob (rest := []) S K hP hD hS hA hl.1 (F_X5_choice l G y0 (trR wp wq ot R) (trH wp wq ot h) wb (nI (rnd wp wq i)) (nI 0) hOb) rfl rfl gL_areAlike_X5_choice rfl eX5_choice hOb.len hOb.hd rfl rfl (Nat.le_of_ble_eq_true rfl) (Nat.le_of_ble_eq_true rfl) (Nat.le_of_ble_eq_true rfl) ⟨Nat.zero_le _, Nat.zero_le _⟩ dL_areAlike_244 (fun r u H locs hw hP hD hS => ?_)
                      obtain ⟨wb, hz_⟩ := u
                      obtain ⟨rfl, hOb⟩ := hw
                      have hOb : OI G y0 (trR wp wq ot R) (trH wp wq ot h) wb := hOb
                      have hP : va_P (gD G) vwCl (wa ++ wb) H := hP
                      have hD : va_D A (wa ++ wb) := hD
                      refine z_top (y := (nI (kx ^^^ pty (1 <<< i &&& ot)))) ((v_ch0 hR2 hrr).trans (by rw [hth]; exact e2)) ?_
                      refine lv_iload hx hb dL_areAlike_247 (lv_at hl 0 rfl) ?_
                      refine lv_bipush (v := -6) hx hb dL_areAlike_249 (by decide +kernel) ?_
                      refine zd_net (tgt := 259) S dL_areAlike_251 (by decide) (nI_6 hkx) ?_
                      refine lv_iload hx hb dL_areAlike_259 (lv_at hl 0 rfl) ?_
                      refine lv_iload hx hb dL_areAlike_261 (lv_at hl 6 rfl) ?_
                      refine lv_iload hx hb dL_areAlike_263 (lv_at hl 9 rfl) ?_
                      refine zi_shr S dL_areAlike_265 (by omega) (by omega) ?_
                      refine lv_iconst (v := nI 1) hx hb dL_areAlike_266 (by decide +kernel) ?_
                      refine zi_and S dL_areAlike_267 ?_
                      refine zi_xor S dL_areAlike_268 ?_
                      refine zd_ne (tgt := 315) S dL_areAlike_269 (by decide) (congrArg nI (by rw [Nat.one_shiftLeft, bit_and (show i < 12 by omega)])) ?_
                      refine lv_aload_n hx hb dL_areAlike_272 rfl (lv_at hl 3 rfl) ?_
                      refine lv_iload hx hb dL_areAlike_273 (lv_at hl 1 rfl) ?_
                      refine lv_iconst (v := nI 1) hx hb dL_areAlike_275 (by decide +kernel) ?_
                      refine zob (rest := []) S K hP hD hS hA hl.1 (F_X5_choice l G y0 (trR wp wq ot R) (trH wp wq ot h) wb (nI (rnd wp wq i)) (nI 1) hOb) rfl rfl gL_areAlike_X5_choice rfl eX5_choice hOb.len hOb.hd rfl rfl (Nat.le_of_ble_eq_true rfl) (Nat.le_of_ble_eq_true rfl) (Nat.le_of_ble_eq_true rfl) ⟨Nat.zero_le _, Nat.zero_le _⟩ dL_areAlike_276 (fun r u H locs hw hP hD hS => ?_)
                      obtain ⟨wb, hz_⟩ := u
                      obtain ⟨rfl, hOb⟩ := hw
                      have hOb : OI G y0 (trR wp wq ot R) (trH wp wq ot h) wb := hOb
                      have hP : va_P (gD G) vwCl (wa ++ wb) H := hP
                      have hD : va_D A (wa ++ wb) := hD
                      refine lv_aload_n hx hb dL_areAlike_279 rfl (lv_at hl 2 rfl) ?_
                      refine lv_iload hx hb dL_areAlike_280 (lv_at hl 9 rfl) ?_
                      refine lv_iconst (v := nI 1) hx hb dL_areAlike_282 (by decide +kernel) ?_
                      refine zoa (rest := [.int (r_choice (trR wp wq ot R) (nI (rnd wp wq i)) (nI 1))]) S K hP hD hS hA hl.1 (F_X5_choice l G x0 R h wa (nI i) (nI 1) hOa) rfl rfl gL_areAlike_X5_choice rfl eX5_choice hOa.len hOa.hd rfl rfl (Nat.le_of_ble_eq_true rfl) (Nat.le_of_ble_eq_true rfl) (Nat.le_of_ble_eq_true rfl) ⟨Nat.zero_le _, Nat.zero_le _⟩ dL_areAlike_283 (fun r u H locs hw hP hD hS => ?_)
                      obtain ⟨wa, hz_⟩ := u
                      obtain ⟨rfl, hOa⟩ := hw
                      have hOa : OI G x0 R h wa := hOa
                      have hP : va_P (gD G) vwCl (wa ++ wb) H := hP
                      have hD : va_D A (wa ++ wb) := hD
                      refine zd_ne (tgt := 315) S dL_areAlike_286 (by decide) ((v_ch1 hR2 hrr).trans ((congrArg nI (tr_c1 hR hc c_215)).trans (v_ch1 hR hir).symm)) ?_
                      refine lv_aload_n hx hb dL_areAlike_289 rfl (lv_at hl 3 rfl) ?_
                      refine lv_iload hx hb dL_areAlike_290 (lv_at hl 1 rfl) ?_
                      refine lv_iconst (v := nI 2) hx hb dL_areAlike_292 (by decide +kernel) ?_
                      refine zob (rest := []) S K hP hD hS hA hl.1 (F_X5_choice l G y0 (trR wp wq ot R) (trH wp wq ot h) wb (nI (rnd wp wq i)) (nI 2) hOb) rfl rfl gL_areAlike_X5_choice rfl eX5_choice hOb.len hOb.hd rfl rfl (Nat.le_of_ble_eq_true rfl) (Nat.le_of_ble_eq_true rfl) (Nat.le_of_ble_eq_true rfl) ⟨Nat.zero_le _, Nat.zero_le _⟩ dL_areAlike_293 (fun r u H locs hw hP hD hS => ?_)
                      obtain ⟨wb, hz_⟩ := u
                      obtain ⟨rfl, hOb⟩ := hw
                      have hOb : OI G y0 (trR wp wq ot R) (trH wp wq ot h) wb := hOb
                      have hP : va_P (gD G) vwCl (wa ++ wb) H := hP
                      have hD : va_D A (wa ++ wb) := hD
                      refine z_top (y := (nI (boS (trR wp wq ot R) (rnd wp wq i)))) (v_ch2 hR2 hrr) ?_
                      refine lv_aload_n hx hb dL_areAlike_296 rfl (lv_at hl 2 rfl) ?_
                      refine lv_iload hx hb dL_areAlike_297 (lv_at hl 9 rfl) ?_
                      refine lv_iconst (v := nI 2) hx hb dL_areAlike_299 (by decide +kernel) ?_
                      refine zoa (rest := [.int (nI (boS (trR wp wq ot R) (rnd wp wq i)))]) S K hP hD hS hA hl.1 (F_X5_choice l G x0 R h wa (nI i) (nI 2) hOa) rfl rfl gL_areAlike_X5_choice rfl eX5_choice hOa.len hOa.hd rfl rfl (Nat.le_of_ble_eq_true rfl) (Nat.le_of_ble_eq_true rfl) (Nat.le_of_ble_eq_true rfl) ⟨Nat.zero_le _, Nat.zero_le _⟩ dL_areAlike_300 (fun r u H locs hw hP hD hS => ?_)
                      obtain ⟨wa, hz_⟩ := u
                      obtain ⟨rfl, hOa⟩ := hw
                      have hOa : OI G x0 R h wa := hOa
                      have hP : va_P (gD G) vwCl (wa ++ wb) H := hP
                      have hD : va_D A (wa ++ wb) := hD
                      refine z_top (y := (nI (boS R i))) (v_ch2 hR hir) ?_
                      have hbl := bo_le (R := R) (i := i) hc
                      refine lv_iload_n hx hb dL_areAlike_303 rfl (lv_at hl 4 rfl) ?_
                      refine lv_iload_n hx hb dL_areAlike_304 rfl (lv_at hl 5 rfl) ?_
                      refine zos (rest := [.int (nI (boS (trR wp wq ot R) (rnd wp wq i)))]) S K hP hD hS hA hl.1 (k_there l G (boS R i) wp wq (by omega) (by omega)) rfl rfl gL_areAlike_L_there rfl eL_there.2 rfl rfl (Nat.le_of_ble_eq_true rfl) (Nat.le_of_ble_eq_true rfl) (Nat.le_of_ble_eq_true rfl) ⟨Nat.zero_le _, Nat.zero_le _⟩ dL_areAlike_305 (fun r H locs hw hP hD hS => ?_)
                      obtain ⟨_, rfl⟩ := hw
                      refine zd_ne (tgt := 315) S dL_areAlike_308 (by decide) (congrArg nI (tr_bo hR hc c_215)) ?_
                      refine lv_iconst (v := nI 1) hx hb dL_areAlike_311 (by decide +kernel) ?_
                      refine lv_goto (tgt := 316) hx hb dL_areAlike_312 (by decide) ?_
                      refine lv_istore (lv' := [(6, .int (nI 1)), (9, .int (nI kx)), (8, .int (nI (rnd wp wq i))), (0, .ref x0), (1, .ref y0), (2, .int (nI (wp + wq))), (3, .int (nI wp)), (4, .int (nI ot)), (5, .int x), (7, .int (nI i))]) hx hb dL_areAlike_316 hl (by decide) rfl (fun ls hl => ?_)
                      refine lv_iinc (v := (nI (i + 1))) (lv' := [(7, .int (nI (i + 1))), (6, .int (nI 1)), (9, .int (nI kx)), (8, .int (nI (rnd wp wq i))), (0, .ref x0), (1, .ref y0), (2, .int (nI (wp + wq))), (3, .int (nI wp)), (4, .int (nI ot)), (5, .int x)]) hx hb dL_areAlike_318 hl (k := 9) rfl (z_i1 _) (by decide) rfl (fun ls hl => ?_)
                      refine lv_goto (tgt := 212) hx hb dL_areAlike_321 (by decide) ?_
                      exact ih_212 (i + 1) wa wb (by omega) (by omega) hOa hOb _ _ hP hD hS _ (lv_sub hl [4, 5, 6, 7, 8, 9, 1, 0] rfl)
                    · skip
                      refine zoa (rest := []) S K hP hD hS hA hl.1 (F_X5_choice l G x0 R h wa (nI i) (nI 0) hOa) rfl rfl gL_areAlike_X5_choice rfl eX5_choice hOa.len hOa.hd rfl rfl (Nat.le_of_ble_eq_true rfl) (Nat.le_of_ble_eq_true rfl) (Nat.le_of_ble_eq_true rfl) ⟨Nat.zero_le _, Nat.zero_le _⟩ dL_areAlike_235 (fun r u H locs hw hP hD hS => ?_)
                      obtain ⟨wa, hz_⟩ := u
                      obtain ⟨rfl, hOa⟩ := hw
                      have hOa : OI G x0 R h wa := hOa
                      have hP : va_P (gD G) vwCl (wa ++ wb) H := hP
                      have hD : va_D A (wa ++ wb) := hD
                      refine z_top (y := (-6)) ((v_ch0 hR hir).trans e1) ?_
                      refine lv_istore (lv' := [(9, .int (-6)), (8, .int (nI (rnd wp wq i))), (0, .ref x0), (1, .ref y0), (2, .int (nI (wp + wq))), (3, .int (nI wp)), (4, .int (nI ot)), (5, .int x), (6, .int (nI 1)), (7, .int (nI i))]) hx hb dL_areAlike_238 hl (by decide) rfl (fun ls hl => ?_)
                      refine lv_aload_n hx hb dL_areAlike_240 rfl (lv_at hl 3 rfl) ?_
                      refine lv_iload hx hb dL_areAlike_241 (lv_at hl 1 rfl) ?_
                      refine lv_iconst (v := nI 0) hx hb dL_areAlike_243 (by decide +kernel) ?_
                      refine zob (rest := []) S K hP hD hS hA hl.1 (F_X5_choice l G y0 (trR wp wq ot R) (trH wp wq ot h) wb (nI (rnd wp wq i)) (nI 0) hOb) rfl rfl gL_areAlike_X5_choice rfl eX5_choice hOb.len hOb.hd rfl rfl (Nat.le_of_ble_eq_true rfl) (Nat.le_of_ble_eq_true rfl) (Nat.le_of_ble_eq_true rfl) ⟨Nat.zero_le _, Nat.zero_le _⟩ dL_areAlike_244 (fun r u H locs hw hP hD hS => ?_)
                      obtain ⟨wb, hz_⟩ := u
                      obtain ⟨rfl, hOb⟩ := hw
                      have hOb : OI G y0 (trR wp wq ot R) (trH wp wq ot h) wb := hOb
                      have hP : va_P (gD G) vwCl (wa ++ wb) H := hP
                      have hD : va_D A (wa ++ wb) := hD
                      refine z_top (y := (-6)) ((v_ch0 hR2 hrr).trans (by rw [hth]; exact e2)) ?_
                      refine lv_iload hx hb dL_areAlike_247 (lv_at hl 0 rfl) ?_
                      refine lv_bipush (v := -6) hx hb dL_areAlike_249 (by decide +kernel) ?_
                      refine zd_ne (tgt := 259) S dL_areAlike_251 (by decide) rfl ?_
                      refine lv_iload hx hb dL_areAlike_254 (lv_at hl 0 rfl) ?_
                      refine lv_goto (tgt := 269) hx hb dL_areAlike_256 (by decide) ?_
                      refine zd_ne (tgt := 315) S dL_areAlike_269 (by decide) rfl ?_
                      refine lv_aload_n hx hb dL_areAlike_272 rfl (lv_at hl 3 rfl) ?_
                      refine lv_iload hx hb dL_areAlike_273 (lv_at hl 1 rfl) ?_
                      refine lv_iconst (v := nI 1) hx hb dL_areAlike_275 (by decide +kernel) ?_
                      refine zob (rest := []) S K hP hD hS hA hl.1 (F_X5_choice l G y0 (trR wp wq ot R) (trH wp wq ot h) wb (nI (rnd wp wq i)) (nI 1) hOb) rfl rfl gL_areAlike_X5_choice rfl eX5_choice hOb.len hOb.hd rfl rfl (Nat.le_of_ble_eq_true rfl) (Nat.le_of_ble_eq_true rfl) (Nat.le_of_ble_eq_true rfl) ⟨Nat.zero_le _, Nat.zero_le _⟩ dL_areAlike_276 (fun r u H locs hw hP hD hS => ?_)
                      obtain ⟨wb, hz_⟩ := u
                      obtain ⟨rfl, hOb⟩ := hw
                      have hOb : OI G y0 (trR wp wq ot R) (trH wp wq ot h) wb := hOb
                      have hP : va_P (gD G) vwCl (wa ++ wb) H := hP
                      have hD : va_D A (wa ++ wb) := hD
                      refine lv_aload_n hx hb dL_areAlike_279 rfl (lv_at hl 2 rfl) ?_
                      refine lv_iload hx hb dL_areAlike_280 (lv_at hl 9 rfl) ?_
                      refine lv_iconst (v := nI 1) hx hb dL_areAlike_282 (by decide +kernel) ?_
                      refine zoa (rest := [.int (r_choice (trR wp wq ot R) (nI (rnd wp wq i)) (nI 1))]) S K hP hD hS hA hl.1 (F_X5_choice l G x0 R h wa (nI i) (nI 1) hOa) rfl rfl gL_areAlike_X5_choice rfl eX5_choice hOa.len hOa.hd rfl rfl (Nat.le_of_ble_eq_true rfl) (Nat.le_of_ble_eq_true rfl) (Nat.le_of_ble_eq_true rfl) ⟨Nat.zero_le _, Nat.zero_le _⟩ dL_areAlike_283 (fun r u H locs hw hP hD hS => ?_)
                      obtain ⟨wa, hz_⟩ := u
                      obtain ⟨rfl, hOa⟩ := hw
                      have hOa : OI G x0 R h wa := hOa
                      have hP : va_P (gD G) vwCl (wa ++ wb) H := hP
                      have hD : va_D A (wa ++ wb) := hD
                      refine zd_ne (tgt := 315) S dL_areAlike_286 (by decide) ((v_ch1 hR2 hrr).trans ((congrArg nI (tr_c1 hR hc c_215)).trans (v_ch1 hR hir).symm)) ?_
                      refine lv_aload_n hx hb dL_areAlike_289 rfl (lv_at hl 3 rfl) ?_
                      refine lv_iload hx hb dL_areAlike_290 (lv_at hl 1 rfl) ?_
                      refine lv_iconst (v := nI 2) hx hb dL_areAlike_292 (by decide +kernel) ?_
                      refine zob (rest := []) S K hP hD hS hA hl.1 (F_X5_choice l G y0 (trR wp wq ot R) (trH wp wq ot h) wb (nI (rnd wp wq i)) (nI 2) hOb) rfl rfl gL_areAlike_X5_choice rfl eX5_choice hOb.len hOb.hd rfl rfl (Nat.le_of_ble_eq_true rfl) (Nat.le_of_ble_eq_true rfl) (Nat.le_of_ble_eq_true rfl) ⟨Nat.zero_le _, Nat.zero_le _⟩ dL_areAlike_293 (fun r u H locs hw hP hD hS => ?_)
                      obtain ⟨wb, hz_⟩ := u
                      obtain ⟨rfl, hOb⟩ := hw
                      have hOb : OI G y0 (trR wp wq ot R) (trH wp wq ot h) wb := hOb
                      have hP : va_P (gD G) vwCl (wa ++ wb) H := hP
                      have hD : va_D A (wa ++ wb) := hD
                      refine z_top (y := (nI (boS (trR wp wq ot R) (rnd wp wq i)))) (v_ch2 hR2 hrr) ?_
                      refine lv_aload_n hx hb dL_areAlike_296 rfl (lv_at hl 2 rfl) ?_
                      refine lv_iload hx hb dL_areAlike_297 (lv_at hl 9 rfl) ?_
                      refine lv_iconst (v := nI 2) hx hb dL_areAlike_299 (by decide +kernel) ?_
                      refine zoa (rest := [.int (nI (boS (trR wp wq ot R) (rnd wp wq i)))]) S K hP hD hS hA hl.1 (F_X5_choice l G x0 R h wa (nI i) (nI 2) hOa) rfl rfl gL_areAlike_X5_choice rfl eX5_choice hOa.len hOa.hd rfl rfl (Nat.le_of_ble_eq_true rfl) (Nat.le_of_ble_eq_true rfl) (Nat.le_of_ble_eq_true rfl) ⟨Nat.zero_le _, Nat.zero_le _⟩ dL_areAlike_300 (fun r u H locs hw hP hD hS => ?_)
                      obtain ⟨wa, hz_⟩ := u
                      obtain ⟨rfl, hOa⟩ := hw
                      have hOa : OI G x0 R h wa := hOa
                      have hP : va_P (gD G) vwCl (wa ++ wb) H := hP
                      have hD : va_D A (wa ++ wb) := hD
                      refine z_top (y := (nI (boS R i))) (v_ch2 hR hir) ?_
                      have hbl := bo_le (R := R) (i := i) hc
                      refine lv_iload_n hx hb dL_areAlike_303 rfl (lv_at hl 4 rfl) ?_
                      refine lv_iload_n hx hb dL_areAlike_304 rfl (lv_at hl 5 rfl) ?_
                      refine zos (rest := [.int (nI (boS (trR wp wq ot R) (rnd wp wq i)))]) S K hP hD hS hA hl.1 (k_there l G (boS R i) wp wq (by omega) (by omega)) rfl rfl gL_areAlike_L_there rfl eL_there.2 rfl rfl (Nat.le_of_ble_eq_true rfl) (Nat.le_of_ble_eq_true rfl) (Nat.le_of_ble_eq_true rfl) ⟨Nat.zero_le _, Nat.zero_le _⟩ dL_areAlike_305 (fun r H locs hw hP hD hS => ?_)
                      obtain ⟨_, rfl⟩ := hw
                      refine zd_ne (tgt := 315) S dL_areAlike_308 (by decide) (congrArg nI (tr_bo hR hc c_215)) ?_
                      refine lv_iconst (v := nI 1) hx hb dL_areAlike_311 (by decide +kernel) ?_
                      refine lv_goto (tgt := 316) hx hb dL_areAlike_312 (by decide) ?_
                      refine lv_istore (lv' := [(6, .int (nI 1)), (9, .int (-6)), (8, .int (nI (rnd wp wq i))), (0, .ref x0), (1, .ref y0), (2, .int (nI (wp + wq))), (3, .int (nI wp)), (4, .int (nI ot)), (5, .int x), (7, .int (nI i))]) hx hb dL_areAlike_316 hl (by decide) rfl (fun ls hl => ?_)
                      refine lv_iinc (v := (nI (i + 1))) (lv' := [(7, .int (nI (i + 1))), (6, .int (nI 1)), (9, .int (-6)), (8, .int (nI (rnd wp wq i))), (0, .ref x0), (1, .ref y0), (2, .int (nI (wp + wq))), (3, .int (nI wp)), (4, .int (nI ot)), (5, .int x)]) hx hb dL_areAlike_318 hl (k := 9) rfl (z_i1 _) (by decide) rfl (fun ls hl => ?_)
                      refine lv_goto (tgt := 212) hx hb dL_areAlike_321 (by decide) ?_
                      exact ih_212 (i + 1) wa wb (by omega) (by omega) hOa hOb _ _ hP hD hS _ (lv_sub hl [4, 5, 6, 7, 8, 9, 1, 0] rfl)
              exact lp_212 _ 0 wa wb (Nat.lt_succ_self _) (Nat.zero_le _) hOa hOb _ _ hP hD hS _ (lv_sub hl [1, 2, 3, 4, 5, 6, 7, 0] rfl)
            · skip
              refine lv_iload hx hb dL_areAlike_86 (lv_at hl 6 rfl) ?_
              refine zd_zf (tgt := 209) S dL_areAlike_88 (by decide) (by decide) ?_
              have hfl := (hR.2.2.2 i c_83).2.1
              rw [hc] at hfl
              refine lv_aload_n hx hb dL_areAlike_91 rfl (lv_at hl 0 rfl) ?_
              refine lv_iload hx hb dL_areAlike_92 (lv_at hl 7 rfl) ?_
              refine lv_iconst (v := nI 0) hx hb dL_areAlike_94 (by decide +kernel) ?_
              refine zoa (rest := []) S K hP hD hS hA hl.1 (F_X5_rule l G x0 R h wa (nI i) (nI 0) hOa) rfl rfl gL_areAlike_X5_rule rfl eX5_rule hOa.len hOa.hd rfl rfl (Nat.le_of_ble_eq_true rfl) (Nat.le_of_ble_eq_true rfl) (Nat.le_of_ble_eq_true rfl) ⟨Nat.zero_le _, Nat.zero_le _⟩ dL_areAlike_95 (fun r u H locs hw hP hD hS => ?_)
              obtain ⟨wa, hz_⟩ := u
              obtain ⟨rfl, hOa⟩ := hw
              have hOa : OI G x0 R h wa := hOa
              have hP : va_P (gD G) vwCl (wa ++ wb) H := hP
              have hD : va_D A (wa ++ wb) := hD
              refine z_top (y := (nI (R.2.2.1 i))) (v_rule0 hR c_83) ?_
              refine lv_iload_n hx hb dL_areAlike_98 rfl (lv_at hl 2 rfl) ?_
              refine lv_iload_n hx hb dL_areAlike_99 rfl (lv_at hl 3 rfl) ?_
              refine zos (rest := []) S K hP hD hS hA hl.1 (k_there l G (R.2.2.1 i) wp wq (by omega) (by omega)) rfl rfl gL_areAlike_L_there rfl eL_there.2 rfl rfl (Nat.le_of_ble_eq_true rfl) (Nat.le_of_ble_eq_true rfl) (Nat.le_of_ble_eq_true rfl) ⟨Nat.zero_le _, Nat.zero_le _⟩ dL_areAlike_100 (fun r H locs hw hP hD hS => ?_)
              obtain ⟨_, rfl⟩ := hw
              refine lv_aload_n hx hb dL_areAlike_103 rfl (lv_at hl 1 rfl) ?_
              refine lv_iload hx hb dL_areAlike_104 (lv_at hl 7 rfl) ?_
              refine lv_iconst (v := nI 0) hx hb dL_areAlike_106 (by decide +kernel) ?_
              refine zob (rest := [.int (nI (thR wp wq (R.2.2.1 i)))]) S K hP hD hS hA hl.1 (F_X5_rule l G y0 (trR wp wq ot R) (trH wp wq ot h) wb (nI i) (nI 0) hOb) rfl rfl gL_areAlike_X5_rule rfl eX5_rule hOb.len hOb.hd rfl rfl (Nat.le_of_ble_eq_true rfl) (Nat.le_of_ble_eq_true rfl) (Nat.le_of_ble_eq_true rfl) ⟨Nat.zero_le _, Nat.zero_le _⟩ dL_areAlike_107 (fun r u H locs hw hP hD hS => ?_)
              obtain ⟨wb, hz_⟩ := u
              obtain ⟨rfl, hOb⟩ := hw
              have hOb : OI G y0 (trR wp wq ot R) (trH wp wq ot h) wb := hOb
              have hP : va_P (gD G) vwCl (wa ++ wb) H := hP
              have hD : va_D A (wa ++ wb) := hD
              refine z_top (y := (nI ((trR wp wq ot R).2.2.1 i))) (v_rule0 hR2 c_83) ?_
              refine zd_ne (tgt := 200) S dL_areAlike_110 (by decide) (congrArg nI (tr_f c_83).symm) ?_
              refine lv_aload_n hx hb dL_areAlike_113 rfl (lv_at hl 0 rfl) ?_
              refine lv_iload hx hb dL_areAlike_114 (lv_at hl 7 rfl) ?_
              refine lv_iconst (v := nI 2) hx hb dL_areAlike_116 (by decide +kernel) ?_
              refine zoa (rest := []) S K hP hD hS hA hl.1 (F_X5_rule l G x0 R h wa (nI i) (nI 2) hOa) rfl rfl gL_areAlike_X5_rule rfl eX5_rule hOa.len hOa.hd rfl rfl (Nat.le_of_ble_eq_true rfl) (Nat.le_of_ble_eq_true rfl) (Nat.le_of_ble_eq_true rfl) ⟨Nat.zero_le _, Nat.zero_le _⟩ dL_areAlike_117 (fun r u H locs hw hP hD hS => ?_)
              obtain ⟨wa, hz_⟩ := u
              obtain ⟨rfl, hOa⟩ := hw
              have hOa : OI G x0 R h wa := hOa
              have hP : va_P (gD G) vwCl (wa ++ wb) H := hP
              have hD : va_D A (wa ++ wb) := hD
              refine lv_aload_n hx hb dL_areAlike_120 rfl (lv_at hl 1 rfl) ?_
              refine lv_iload hx hb dL_areAlike_121 (lv_at hl 7 rfl) ?_
              refine lv_iconst (v := nI 2) hx hb dL_areAlike_123 (by decide +kernel) ?_
              refine zob (rest := [.int (r_rule R (nI i) (nI 2))]) S K hP hD hS hA hl.1 (F_X5_rule l G y0 (trR wp wq ot R) (trH wp wq ot h) wb (nI i) (nI 2) hOb) rfl rfl gL_areAlike_X5_rule rfl eX5_rule hOb.len hOb.hd rfl rfl (Nat.le_of_ble_eq_true rfl) (Nat.le_of_ble_eq_true rfl) (Nat.le_of_ble_eq_true rfl) ⟨Nat.zero_le _, Nat.zero_le _⟩ dL_areAlike_124 (fun r u H locs hw hP hD hS => ?_)
              obtain ⟨wb, hz_⟩ := u
              obtain ⟨rfl, hOb⟩ := hw
              have hOb : OI G y0 (trR wp wq ot R) (trH wp wq ot h) wb := hOb
              have hP : va_P (gD G) vwCl (wa ++ wb) H := hP
              have hD : va_D A (wa ++ wb) := hD
              refine zd_ne (tgt := 200) S dL_areAlike_127 (by decide) (tr_rule hR hc c_83 (by decide) (by decide)).symm ?_
              refine lv_aload_n hx hb dL_areAlike_130 rfl (lv_at hl 0 rfl) ?_
              refine lv_iload hx hb dL_areAlike_131 (lv_at hl 7 rfl) ?_
              refine lv_iconst (v := nI 3) hx hb dL_areAlike_133 (by decide +kernel) ?_
              refine zoa (rest := []) S K hP hD hS hA hl.1 (F_X5_rule l G x0 R h wa (nI i) (nI 3) hOa) rfl rfl gL_areAlike_X5_rule rfl eX5_rule hOa.len hOa.hd rfl rfl (Nat.le_of_ble_eq_true rfl) (Nat.le_of_ble_eq_true rfl) (Nat.le_of_ble_eq_true rfl) ⟨Nat.zero_le _, Nat.zero_le _⟩ dL_areAlike_134 (fun r u H locs hw hP hD hS => ?_)
              obtain ⟨wa, hz_⟩ := u
              obtain ⟨rfl, hOa⟩ := hw
              have hOa : OI G x0 R h wa := hOa
              have hP : va_P (gD G) vwCl (wa ++ wb) H := hP
              have hD : va_D A (wa ++ wb) := hD
              refine lv_aload_n hx hb dL_areAlike_137 rfl (lv_at hl 1 rfl) ?_
              refine lv_iload hx hb dL_areAlike_138 (lv_at hl 7 rfl) ?_
              refine lv_iconst (v := nI 3) hx hb dL_areAlike_140 (by decide +kernel) ?_
              refine zob (rest := [.int (r_rule R (nI i) (nI 3))]) S K hP hD hS hA hl.1 (F_X5_rule l G y0 (trR wp wq ot R) (trH wp wq ot h) wb (nI i) (nI 3) hOb) rfl rfl gL_areAlike_X5_rule rfl eX5_rule hOb.len hOb.hd rfl rfl (Nat.le_of_ble_eq_true rfl) (Nat.le_of_ble_eq_true rfl) (Nat.le_of_ble_eq_true rfl) ⟨Nat.zero_le _, Nat.zero_le _⟩ dL_areAlike_141 (fun r u H locs hw hP hD hS => ?_)
              obtain ⟨wb, hz_⟩ := u
              obtain ⟨rfl, hOb⟩ := hw
              have hOb : OI G y0 (trR wp wq ot R) (trH wp wq ot h) wb := hOb
              have hP : va_P (gD G) vwCl (wa ++ wb) H := hP
              have hD : va_D A (wa ++ wb) := hD
              refine zd_ne (tgt := 200) S dL_areAlike_144 (by decide) (tr_rule hR hc c_83 (by decide) (by decide)).symm ?_
              refine lv_aload_n hx hb dL_areAlike_147 rfl (lv_at hl 0 rfl) ?_
              refine lv_iload hx hb dL_areAlike_148 (lv_at hl 7 rfl) ?_
              refine lv_iconst (v := nI 4) hx hb dL_areAlike_150 (by decide +kernel) ?_
              refine zoa (rest := []) S K hP hD hS hA hl.1 (F_X5_rule l G x0 R h wa (nI i) (nI 4) hOa) rfl rfl gL_areAlike_X5_rule rfl eX5_rule hOa.len hOa.hd rfl rfl (Nat.le_of_ble_eq_true rfl) (Nat.le_of_ble_eq_true rfl) (Nat.le_of_ble_eq_true rfl) ⟨Nat.zero_le _, Nat.zero_le _⟩ dL_areAlike_151 (fun r u H locs hw hP hD hS => ?_)
              obtain ⟨wa, hz_⟩ := u
              obtain ⟨rfl, hOa⟩ := hw
              have hOa : OI G x0 R h wa := hOa
              have hP : va_P (gD G) vwCl (wa ++ wb) H := hP
              have hD : va_D A (wa ++ wb) := hD
              refine lv_aload_n hx hb dL_areAlike_154 rfl (lv_at hl 1 rfl) ?_
              refine lv_iload hx hb dL_areAlike_155 (lv_at hl 7 rfl) ?_
              refine lv_iconst (v := nI 4) hx hb dL_areAlike_157 (by decide +kernel) ?_
              refine zob (rest := [.int (r_rule R (nI i) (nI 4))]) S K hP hD hS hA hl.1 (F_X5_rule l G y0 (trR wp wq ot R) (trH wp wq ot h) wb (nI i) (nI 4) hOb) rfl rfl gL_areAlike_X5_rule rfl eX5_rule hOb.len hOb.hd rfl rfl (Nat.le_of_ble_eq_true rfl) (Nat.le_of_ble_eq_true rfl) (Nat.le_of_ble_eq_true rfl) ⟨Nat.zero_le _, Nat.zero_le _⟩ dL_areAlike_158 (fun r u H locs hw hP hD hS => ?_)
              obtain ⟨wb, hz_⟩ := u
              obtain ⟨rfl, hOb⟩ := hw
              have hOb : OI G y0 (trR wp wq ot R) (trH wp wq ot h) wb := hOb
              have hP : va_P (gD G) vwCl (wa ++ wb) H := hP
              have hD : va_D A (wa ++ wb) := hD
              refine zd_ne (tgt := 200) S dL_areAlike_161 (by decide) (tr_rule hR hc c_83 (by decide) (by decide)).symm ?_
              refine lv_aload_n hx hb dL_areAlike_164 rfl (lv_at hl 0 rfl) ?_
              refine lv_iload hx hb dL_areAlike_165 (lv_at hl 7 rfl) ?_
              refine lv_iconst (v := nI 5) hx hb dL_areAlike_167 (by decide +kernel) ?_
              refine zoa (rest := []) S K hP hD hS hA hl.1 (F_X5_rule l G x0 R h wa (nI i) (nI 5) hOa) rfl rfl gL_areAlike_X5_rule rfl eX5_rule hOa.len hOa.hd rfl rfl (Nat.le_of_ble_eq_true rfl) (Nat.le_of_ble_eq_true rfl) (Nat.le_of_ble_eq_true rfl) ⟨Nat.zero_le _, Nat.zero_le _⟩ dL_areAlike_168 (fun r u H locs hw hP hD hS => ?_)
              obtain ⟨wa, hz_⟩ := u
              obtain ⟨rfl, hOa⟩ := hw
              have hOa : OI G x0 R h wa := hOa
              have hP : va_P (gD G) vwCl (wa ++ wb) H := hP
              have hD : va_D A (wa ++ wb) := hD
              refine lv_aload_n hx hb dL_areAlike_171 rfl (lv_at hl 1 rfl) ?_
              refine lv_iload hx hb dL_areAlike_172 (lv_at hl 7 rfl) ?_
              refine lv_iconst (v := nI 5) hx hb dL_areAlike_174 (by decide +kernel) ?_
              refine zob (rest := [.int (r_rule R (nI i) (nI 5))]) S K hP hD hS hA hl.1 (F_X5_rule l G y0 (trR wp wq ot R) (trH wp wq ot h) wb (nI i) (nI 5) hOb) rfl rfl gL_areAlike_X5_rule rfl eX5_rule hOb.len hOb.hd rfl rfl (Nat.le_of_ble_eq_true rfl) (Nat.le_of_ble_eq_true rfl) (Nat.le_of_ble_eq_true rfl) ⟨Nat.zero_le _, Nat.zero_le _⟩ dL_areAlike_175 (fun r u H locs hw hP hD hS => ?_)
              obtain ⟨wb, hz_⟩ := u
              obtain ⟨rfl, hOb⟩ := hw
              have hOb : OI G y0 (trR wp wq ot R) (trH wp wq ot h) wb := hOb
              have hP : va_P (gD G) vwCl (wa ++ wb) H := hP
              have hD : va_D A (wa ++ wb) := hD
              refine zd_ne (tgt := 200) S dL_areAlike_178 (by decide) (tr_rule hR hc c_83 (by decide) (by decide)).symm ?_
              refine lv_aload_n hx hb dL_areAlike_181 rfl (lv_at hl 0 rfl) ?_
              refine lv_iload hx hb dL_areAlike_182 (lv_at hl 7 rfl) ?_
              refine zoa (rest := []) S K hP hD hS hA hl.1 (F_X5_ifDropped l G x0 R h wa (nI i) hOa) rfl rfl gL_areAlike_X5_ifDropped rfl eX5_ifDropped hOa.len hOa.hd rfl rfl (Nat.le_of_ble_eq_true rfl) (Nat.le_of_ble_eq_true rfl) (Nat.le_of_ble_eq_true rfl) ⟨Nat.zero_le _, Nat.zero_le _⟩ dL_areAlike_184 (fun r u H locs hw hP hD hS => ?_)
              obtain ⟨wa, hz_⟩ := u
              obtain ⟨rfl, hOa⟩ := hw
              have hOa : OI G x0 R h wa := hOa
              have hP : va_P (gD G) vwCl (wa ++ wb) H := hP
              have hD : va_D A (wa ++ wb) := hD
              refine lv_aload_n hx hb dL_areAlike_187 rfl (lv_at hl 1 rfl) ?_
              refine lv_iload hx hb dL_areAlike_188 (lv_at hl 7 rfl) ?_
              refine zob (rest := [.int (r_ifDropped R (nI i))]) S K hP hD hS hA hl.1 (F_X5_ifDropped l G y0 (trR wp wq ot R) (trH wp wq ot h) wb (nI i) hOb) rfl rfl gL_areAlike_X5_ifDropped rfl eX5_ifDropped hOb.len hOb.hd rfl rfl (Nat.le_of_ble_eq_true rfl) (Nat.le_of_ble_eq_true rfl) (Nat.le_of_ble_eq_true rfl) ⟨Nat.zero_le _, Nat.zero_le _⟩ dL_areAlike_190 (fun r u H locs hw hP hD hS => ?_)
              obtain ⟨wb, hz_⟩ := u
              obtain ⟨rfl, hOb⟩ := hw
              have hOb : OI G y0 (trR wp wq ot R) (trH wp wq ot h) wb := hOb
              have hP : va_P (gD G) vwCl (wa ++ wb) H := hP
              have hD : va_D A (wa ++ wb) := hD
              refine zd_ne (tgt := 200) S dL_areAlike_193 (by decide) (tr_ifd hR hc c_83).symm ?_
              refine lv_iconst (v := nI 1) hx hb dL_areAlike_196 (by decide +kernel) ?_
              refine lv_goto (tgt := 201) hx hb dL_areAlike_197 (by decide) ?_
              refine lv_istore (lv' := [(6, .int (nI 1)), (0, .ref x0), (1, .ref y0), (2, .int (nI (wp + wq))), (3, .int (nI wp)), (4, .int (nI ot)), (5, .int x), (7, .int (nI i))]) hx hb dL_areAlike_201 hl (by decide) rfl (fun ls hl => ?_)
              refine lv_iinc (v := (nI (i + 1))) (lv' := [(7, .int (nI (i + 1))), (6, .int (nI 1)), (0, .ref x0), (1, .ref y0), (2, .int (nI (wp + wq))), (3, .int (nI wp)), (4, .int (nI ot)), (5, .int x)]) hx hb dL_areAlike_203 hl (k := 7) rfl (z_i1 _) (by decide) rfl (fun ls hl => ?_)
              refine lv_goto (tgt := 76) hx hb dL_areAlike_206 (by decide) ?_
              exact ih_76 (i + 1) wa wb (by omega) (by omega) hOa hOb _ _ hP hD hS _ (lv_sub hl [2, 3, 4, 5, 6, 7, 1, 0] rfl)
        exact lp_76 _ 0 wa wb (Nat.lt_succ_self _) (Nat.zero_le _) hOa hOb _ _ hP hD hS _ (lv_sub hl [1, 2, 3, 4, 5, 6, 7, 0] rfl)
      · skip
        refine lv_iload hx hb dL_areAlike_13 (lv_at hl 6 rfl) ?_
        refine zd_zf (tgt := 64) S dL_areAlike_15 (by decide) (by decide) ?_
        refine lv_iload hx hb dL_areAlike_18 (lv_at hl 7 rfl) ?_
        refine lv_iconst (v := nI 5) hx hb dL_areAlike_20 (by decide +kernel) ?_
        refine zb_ne (tgt := 45) S dL_areAlike_21 (by decide) (by omega) (by decide) (fun c_21 => ?_) (fun c_21 => ?_)
        · skip
          refine lv_aload_n hx hb dL_areAlike_45 rfl (lv_at hl 0 rfl) ?_
          refine lv_iload hx hb dL_areAlike_46 (lv_at hl 7 rfl) ?_
          refine zoa (rest := []) S K hP hD hS hA hl.1 (F_X5_count l G x0 R h wa (nI i) hOa) rfl rfl gL_areAlike_X5_count rfl eX5_count hOa.len hOa.hd rfl rfl (Nat.le_of_ble_eq_true rfl) (Nat.le_of_ble_eq_true rfl) (Nat.le_of_ble_eq_true rfl) ⟨Nat.zero_le _, Nat.zero_le _⟩ dL_areAlike_48 (fun r u H locs hw hP hD hS => ?_)
          obtain ⟨wa, hz_⟩ := u
          obtain ⟨rfl, hOa⟩ := hw
          have hOa : OI G x0 R h wa := hOa
          have hP : va_P (gD G) vwCl (wa ++ wb) H := hP
          have hD : va_D A (wa ++ wb) := hD
          refine lv_aload_n hx hb dL_areAlike_51 rfl (lv_at hl 1 rfl) ?_
          refine lv_iload hx hb dL_areAlike_52 (lv_at hl 7 rfl) ?_
          refine zob (rest := [.int (r_count R h.1 0 (nI i))]) S K hP hD hS hA hl.1 (F_X5_count l G y0 (trR wp wq ot R) (trH wp wq ot h) wb (nI i) hOb) rfl rfl gL_areAlike_X5_count rfl eX5_count hOb.len hOb.hd rfl rfl (Nat.le_of_ble_eq_true rfl) (Nat.le_of_ble_eq_true rfl) (Nat.le_of_ble_eq_true rfl) ⟨Nat.zero_le _, Nat.zero_le _⟩ dL_areAlike_54 (fun r u H locs hw hP hD hS => ?_)
          obtain ⟨wb, hz_⟩ := u
          obtain ⟨rfl, hOb⟩ := hw
          have hOb : OI G y0 (trR wp wq ot R) (trH wp wq ot h) wb := hOb
          have hP : va_P (gD G) vwCl (wa ++ wb) H := hP
          have hD : va_D A (wa ++ wb) := hD
          refine zd_ne (tgt := 64) S dL_areAlike_57 (by decide) (tr_count hR hc (fun z => c_21 ((z_eq (by omega) (by omega)).mp z))).symm ?_
          refine lv_iconst (v := nI 1) hx hb dL_areAlike_60 (by decide +kernel) ?_
          refine lv_goto (tgt := 65) hx hb dL_areAlike_61 (by decide) ?_
          refine lv_istore (lv' := [(6, .int (nI 1)), (0, .ref x0), (1, .ref y0), (2, .int (nI (wp + wq))), (3, .int (nI wp)), (4, .int (nI ot)), (5, .int x), (7, .int (nI i))]) hx hb dL_areAlike_65 hl (by decide) rfl (fun ls hl => ?_)
          refine lv_iinc (v := (nI (i + 1))) (lv' := [(7, .int (nI (i + 1))), (6, .int (nI 1)), (0, .ref x0), (1, .ref y0), (2, .int (nI (wp + wq))), (3, .int (nI wp)), (4, .int (nI ot)), (5, .int x)]) hx hb dL_areAlike_67 hl (k := 7) rfl (z_i1 _) (by decide) rfl (fun ls hl => ?_)
          refine lv_goto (tgt := 6) hx hb dL_areAlike_70 (by decide) ?_
          exact ih_6 (i + 1) wa wb (by omega) (by omega) hOa hOb _ _ hP hD hS _ (lv_sub hl [2, 3, 4, 5, 6, 7, 1, 0] rfl)
        · skip
          refine lv_aload_n hx hb dL_areAlike_24 rfl (lv_at hl 0 rfl) ?_
          refine lv_iconst (v := nI 5) hx hb dL_areAlike_25 (by decide +kernel) ?_
          refine zoa (rest := []) S K hP hD hS hA hl.1 (F_X5_count l G x0 R h wa (nI 5) hOa) rfl rfl gL_areAlike_X5_count rfl eX5_count hOa.len hOa.hd rfl rfl (Nat.le_of_ble_eq_true rfl) (Nat.le_of_ble_eq_true rfl) (Nat.le_of_ble_eq_true rfl) ⟨Nat.zero_le _, Nat.zero_le _⟩ dL_areAlike_26 (fun r u H locs hw hP hD hS => ?_)
          obtain ⟨wa, hz_⟩ := u
          obtain ⟨rfl, hOa⟩ := hw
          have hOa : OI G x0 R h wa := hOa
          have hP : va_P (gD G) vwCl (wa ++ wb) H := hP
          have hD : va_D A (wa ++ wb) := hD
          refine z_top (y := (nI (seS R))) cnt_5.symm ?_
          have hse := se_le (R := R) hc
          refine lv_iload_n hx hb dL_areAlike_29 rfl (lv_at hl 2 rfl) ?_
          refine lv_iload_n hx hb dL_areAlike_30 rfl (lv_at hl 3 rfl) ?_
          refine zos (rest := []) S K hP hD hS hA hl.1 (k_there l G (seS R) wp wq (by omega) (by omega)) rfl rfl gL_areAlike_L_there rfl eL_there.2 rfl rfl (Nat.le_of_ble_eq_true rfl) (Nat.le_of_ble_eq_true rfl) (Nat.le_of_ble_eq_true rfl) ⟨Nat.zero_le _, Nat.zero_le _⟩ dL_areAlike_31 (fun r H locs hw hP hD hS => ?_)
          obtain ⟨_, rfl⟩ := hw
          refine lv_aload_n hx hb dL_areAlike_34 rfl (lv_at hl 1 rfl) ?_
          refine lv_iconst (v := nI 5) hx hb dL_areAlike_35 (by decide +kernel) ?_
          refine zob (rest := [.int (nI (thR wp wq (seS R)))]) S K hP hD hS hA hl.1 (F_X5_count l G y0 (trR wp wq ot R) (trH wp wq ot h) wb (nI 5) hOb) rfl rfl gL_areAlike_X5_count rfl eX5_count hOb.len hOb.hd rfl rfl (Nat.le_of_ble_eq_true rfl) (Nat.le_of_ble_eq_true rfl) (Nat.le_of_ble_eq_true rfl) ⟨Nat.zero_le _, Nat.zero_le _⟩ dL_areAlike_36 (fun r u H locs hw hP hD hS => ?_)
          obtain ⟨wb, hz_⟩ := u
          obtain ⟨rfl, hOb⟩ := hw
          have hOb : OI G y0 (trR wp wq ot R) (trH wp wq ot h) wb := hOb
          have hP : va_P (gD G) vwCl (wa ++ wb) H := hP
          have hD : va_D A (wa ++ wb) := hD
          refine z_top (y := (nI (seS (trR wp wq ot R)))) cnt_5.symm ?_
          refine zd_ne (tgt := 64) S dL_areAlike_39 (by decide) (congrArg nI (tr_se hR hc).symm) ?_
          refine lv_goto (tgt := 60) hx hb dL_areAlike_42 (by decide) ?_
          refine lv_iconst (v := nI 1) hx hb dL_areAlike_60 (by decide +kernel) ?_
          refine lv_goto (tgt := 65) hx hb dL_areAlike_61 (by decide) ?_
          refine lv_istore (lv' := [(6, .int (nI 1)), (0, .ref x0), (1, .ref y0), (2, .int (nI (wp + wq))), (3, .int (nI wp)), (4, .int (nI ot)), (5, .int x), (7, .int (nI i))]) hx hb dL_areAlike_65 hl (by decide) rfl (fun ls hl => ?_)
          refine lv_iinc (v := (nI (i + 1))) (lv' := [(7, .int (nI (i + 1))), (6, .int (nI 1)), (0, .ref x0), (1, .ref y0), (2, .int (nI (wp + wq))), (3, .int (nI wp)), (4, .int (nI ot)), (5, .int x)]) hx hb dL_areAlike_67 hl (k := 7) rfl (z_i1 _) (by decide) rfl (fun ls hl => ?_)
          refine lv_goto (tgt := 6) hx hb dL_areAlike_70 (by decide) ?_
          exact ih_6 (i + 1) wa wb (by omega) (by omega) hOa hOb _ _ hP hD hS _ (lv_sub hl [2, 3, 4, 5, 6, 7, 1, 0] rfl)
  exact lp_6 _ 0 wa wb (Nat.lt_succ_self _) (Nat.zero_le _) hOa hOb _ _ hP hD hS _ (lv_sub hl [2, 3, 4, 5, 6, 7, 1, 0] rfl)
