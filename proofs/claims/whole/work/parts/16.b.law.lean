set_option maxHeartbeats 4000000 in
set_option maxRecDepth 100000 in
theorem c_X5_saveS (l : Launch) (G : gT) (x0 n0 v0 t0 w0 sb b0 p0 o0 h0 s0 svd n1 n2 : Nat) (nc : Nat) (nn : Nat) (nf : Nat → Nat) (ng : Nat → Nat) (sf : Nat → Option Nat) (sv : Nat → Nat) (sa : Nat → Nat) (sd : Nat → Nat) (se : Nat → Nat) (yc : Nat → Nat) (yn : Nat → Nat) (yf : Nat → Nat → Nat) (yg : Nat → Nat → Nat) (x : Int32) (hR : RowOK (mkR nc nn nf ng)) (hS2 : ∀ k, k < 2 → sf k = some (sa k)) : CI l yX5_save wsX5_save ({ frames := 2, cells := 0, slots := 0, locals := 39 } : Room) G [.ref x0, .int x] [(x0, .inr (5, [.ref n0, .ref v0, .ref t0, .ref w0, .ref sb, .ref b0, .ref p0, .ref o0, .ref h0, .ref s0, .ref svd])), (n0, .inr (3, [.int (nI nc), .int (nI nn), .ref n1, .ref n2])), (n1, .inl (gI G, 20, .inl (nA nf))), (n2, .inl (gI G, 20, .inl (nA ng))), (s0, .inl (gO G, 2, .inr (.inr (.inr (.inr sf))))), (svd, .inl (gZ G, 2, .inl (nA sv))), (sa 0, .inr (3, [.int (nI (yc 0)), .int (nI (yn 0)), .ref (sd 0), .ref (se 0)])), (sd 0, .inl (gI G, 20, .inl (nA (yf 0)))), (se 0, .inl (gI G, 20, .inl (nA (yg 0)))), (sa 1, .inr (3, [.int (nI (yc 1)), .int (nI (yn 1)), .ref (sd 1), .ref (se 1)])), (sd 1, .inl (gI G, 20, .inl (nA (yf 1)))), (se 1, .inl (gI G, 20, .inl (nA (yg 1))))] 0 0 (fun (r : Int32) (u : (Nat → Nat) × (Nat → Nat) × (Nat → Nat) × (Nat → Nat → Nat) × (Nat → Nat → Nat)) => r = (r_save (mkR nc nn nf ng) x) ∧ absS u.1 u.2.1 u.2.2.1 u.2.2.2.1 u.2.2.2.2 = n_save (mkR nc nn nf ng) (absS sv yc yn yf yg) x ∧ (SvOK sv yc yn yf yg → SvOK u.1 u.2.1 u.2.2.1 u.2.2.2.1 u.2.2.2.2)) (fun (u : (Nat → Nat) × (Nat → Nat) × (Nat → Nat) × (Nat → Nat → Nat) × (Nat → Nat → Nat)) => [(x0, .inr (5, [.ref n0, .ref v0, .ref t0, .ref w0, .ref sb, .ref b0, .ref p0, .ref o0, .ref h0, .ref s0, .ref svd])), (n0, .inr (3, [.int (nI nc), .int (nI nn), .ref n1, .ref n2])), (n1, .inl (gI G, 20, .inl (nA nf))), (n2, .inl (gI G, 20, .inl (nA ng))), (s0, .inl (gO G, 2, .inr (.inr (.inr (.inr sf))))), (svd, .inl (gZ G, 2, .inl (nA u.1))), (sa 0, .inr (3, [.int (nI (u.2.1 0)), .int (nI (u.2.2.1 0)), .ref (sd 0), .ref (se 0)])), (sd 0, .inl (gI G, 20, .inl (nA (u.2.2.2.1 0)))), (se 0, .inl (gI G, 20, .inl (nA (u.2.2.2.2 0)))), (sa 1, .inr (3, [.int (nI (u.2.1 1)), .int (nI (u.2.2.1 1)), .ref (sd 1), .ref (se 1)])), (sd 1, .inl (gI G, 20, .inl (nA (u.2.2.2.1 1)))), (se 1, .inl (gI G, 20, .inl (nA (u.2.2.2.2 1))))]) := by
  refine CI.of (cc := cX5_save) (maxL := 2) (ret := (some .int)) (by decide +kernel) rfl (Nat.le_of_ble_eq_true rfl) rfl (fun p e s m args below meth c A S hrt hlk hnm K hA hP hD hS ls hl => ?_)
  have hx := S.1
  have hb := S.2.1
  have hl : lv_has ls 2 [(0, .ref x0), (1, .int x)] := hl
  obtain ⟨hc1, hc2, hn3, hf4, hf5, hg6⟩ := row_use hR
  have hp2 := p12 hc2
  have h1s : 1 <<< nc = 2 ^ nc := Nat.one_shiftLeft nc
  refine lv_iload_n hx hb dX5_save_0 rfl (lv_at hl 1 rfl) ?_
  refine zq_lt (tgt := 9) S dX5_save_1 (by decide) rfl (fun c_1 => ?_) (fun c_1 => ?_)
  · skip
    refine lv_bipush (v := -2) hx hb dX5_save_9 (by decide +kernel) ?_
    refine z_top (y := (r_save (mkR nc nn nf ng) x)) (sv_0 (Z := fun _ => R0) (by omega)).1 ?_
    exact z_iret S hrt hlk hP hD hS (sv, yc, yn, yf, yg) rfl ⟨rfl, ⟨(sv_0 (R := mkR nc nn nf ng) (by omega)).2, fun q => q⟩⟩ dX5_save_11
  · skip
    refine lv_iload_n hx hb dX5_save_4 rfl (lv_at hl 1 rfl) ?_
    refine lv_iconst (v := nI 2) hx hb dX5_save_5 (by decide +kernel) ?_
    refine zr_lt (tgt := 12) S dX5_save_6 (by decide) rfl (z_toInt (by decide)) (fun c_6 => ?_) (fun c_6 => ?_)
    · skip
      obtain ⟨a, ha1, ha2, ha3⟩ := z_of (x := x) (by omega)
      have hl : lv_has ls 2 [(0, .ref x0), (1, .int (nI a))] := by rw [ha2] at hl; exact hl
      rcases (show a = 0 ∨ a = 1 by omega) with rfl | rfl
      · skip
        refine lv_aload_n hx hb dX5_save_12 rfl (lv_at hl 0 rfl) ?_
        refine z_get S K hP hX5_save_X5 0 rfl rfl 9 (by decide) kX5_save_1 rfl rfl dX5_save_13 ?_
        refine lv_iload_n hx hb dX5_save_16 rfl (lv_at hl 1 rfl) ?_
        refine z_aldq (b := sa 0) S K hP 4 rfl (by omega) (by decide) (hS2 0 (by omega)) dX5_save_17 ?_
        refine lv_aload_n hx hb dX5_save_18 rfl (lv_at hl 0 rfl) ?_
        refine z_get S K hP hX5_save_X5 0 rfl rfl 0 (by decide) kX5_save_2 rfl rfl dX5_save_19 ?_
        refine zcVv (rest := []) S K hP hD hS hA hl.1 (c_X3_become l G (sa 0) (sd 0) (se 0) n0 n1 n2 (nI (yc 0)) (nI (yn 0)) (nI nc) (nI nn) (yf 0) (yg 0) nf ng ) rfl rfl gX5_save_X3_become rfl eX3_become [6, 7, 8, 1, 2, 3] (by decide +kernel) rfl (fun _ => rfl) 3 6 rfl rfl rfl rfl rfl (Nat.le_of_ble_eq_true rfl) (Nat.le_of_ble_eq_true rfl) (Nat.le_of_ble_eq_true rfl) ⟨Nat.zero_le _, Nat.zero_le _⟩ dX5_save_22 (fun u_22 H locs hw_22 hP hD hS => ?_)
        obtain ⟨hP, hD⟩ := mx_ok [none, some 3, some 4, some 5, none, none, some 0, some 1, some 2, none, none, none] (by decide +kernel) rfl rfl hP hD
        have hP : va_P (gD G) vwCl [(x0, .inr (5, [.ref n0, .ref v0, .ref t0, .ref w0, .ref sb, .ref b0, .ref p0, .ref o0, .ref h0, .ref s0, .ref svd])), (n0, .inr (3, [.int (nI nc), .int (nI nn), .ref n1, .ref n2])), (n1, .inl (gI G, 20, .inl (nA nf))), (n2, .inl (gI G, 20, .inl (nA ng))), (s0, .inl (gO G, 2, .inr (.inr (.inr (.inr sf))))), (svd, .inl (gZ G, 2, .inl (nA sv))), (sa 0, .inr (3, [.int (nI nc), .int (nI nn), .ref (sd 0), .ref (se 0)])), (sd 0, .inl (gI G, 20, .inl (nA nf))), (se 0, .inl (gI G, 20, .inl (nA ng))), (sa 1, .inr (3, [.int (nI (yc 1)), .int (nI (yn 1)), .ref (sd 1), .ref (se 1)])), (sd 1, .inl (gI G, 20, .inl (nA (yf 1)))), (se 1, .inl (gI G, 20, .inl (nA (yg 1))))] H := hP
        have hD : va_D A [(x0, .inr (5, [.ref n0, .ref v0, .ref t0, .ref w0, .ref sb, .ref b0, .ref p0, .ref o0, .ref h0, .ref s0, .ref svd])), (n0, .inr (3, [.int (nI nc), .int (nI nn), .ref n1, .ref n2])), (n1, .inl (gI G, 20, .inl (nA nf))), (n2, .inl (gI G, 20, .inl (nA ng))), (s0, .inl (gO G, 2, .inr (.inr (.inr (.inr sf))))), (svd, .inl (gZ G, 2, .inl (nA sv))), (sa 0, .inr (3, [.int (nI nc), .int (nI nn), .ref (sd 0), .ref (se 0)])), (sd 0, .inl (gI G, 20, .inl (nA nf))), (se 0, .inl (gI G, 20, .inl (nA ng))), (sa 1, .inr (3, [.int (nI (yc 1)), .int (nI (yn 1)), .ref (sd 1), .ref (se 1)])), (sd 1, .inl (gI G, 20, .inl (nA (yf 1)))), (se 1, .inl (gI G, 20, .inl (nA (yg 1))))] := hD
        refine lv_aload_n hx hb dX5_save_25 rfl (lv_at hl 0 rfl) ?_
        refine z_get S K hP hX5_save_X5 0 rfl rfl 10 (by decide) kX5_save_3 rfl rfl dX5_save_26 ?_
        refine lv_iload_n hx hb dX5_save_29 rfl (lv_at hl 1 rfl) ?_
        refine lv_iconst (v := nI 1) hx hb dX5_save_30 (by decide +kernel) ?_
        refine z_zast S K hP hD hS 5 rfl (by omega) (by decide) z_nz1 dX5_save_31 (fun H locs hP hD hS => ?_)
        have hP : va_P (gD G) vwCl [(x0, .inr (5, [.ref n0, .ref v0, .ref t0, .ref w0, .ref sb, .ref b0, .ref p0, .ref o0, .ref h0, .ref s0, .ref svd])), (n0, .inr (3, [.int (nI nc), .int (nI nn), .ref n1, .ref n2])), (n1, .inl (gI G, 20, .inl (nA nf))), (n2, .inl (gI G, 20, .inl (nA ng))), (s0, .inl (gO G, 2, .inr (.inr (.inr (.inr sf))))), (svd, .inl (gZ G, 2, .inl (nA (pu sv 0 1)))), (sa 0, .inr (3, [.int (nI nc), .int (nI nn), .ref (sd 0), .ref (se 0)])), (sd 0, .inl (gI G, 20, .inl (nA nf))), (se 0, .inl (gI G, 20, .inl (nA ng))), (sa 1, .inr (3, [.int (nI (yc 1)), .int (nI (yn 1)), .ref (sd 1), .ref (se 1)])), (sd 1, .inl (gI G, 20, .inl (nA (yf 1)))), (se 1, .inl (gI G, 20, .inl (nA (yg 1))))] H := hP
        have hD : va_D A [(x0, .inr (5, [.ref n0, .ref v0, .ref t0, .ref w0, .ref sb, .ref b0, .ref p0, .ref o0, .ref h0, .ref s0, .ref svd])), (n0, .inr (3, [.int (nI nc), .int (nI nn), .ref n1, .ref n2])), (n1, .inl (gI G, 20, .inl (nA nf))), (n2, .inl (gI G, 20, .inl (nA ng))), (s0, .inl (gO G, 2, .inr (.inr (.inr (.inr sf))))), (svd, .inl (gZ G, 2, .inl (nA (pu sv 0 1)))), (sa 0, .inr (3, [.int (nI nc), .int (nI nn), .ref (sd 0), .ref (se 0)])), (sd 0, .inl (gI G, 20, .inl (nA nf))), (se 0, .inl (gI G, 20, .inl (nA ng))), (sa 1, .inr (3, [.int (nI (yc 1)), .int (nI (yn 1)), .ref (sd 1), .ref (se 1)])), (sd 1, .inl (gI G, 20, .inl (nA (yf 1)))), (se 1, .inl (gI G, 20, .inl (nA (yg 1))))] := hD
        refine lv_aload_n hx hb dX5_save_32 rfl (lv_at hl 0 rfl) ?_
        refine z_get S K hP hX5_save_X5 0 rfl rfl 0 (by decide) kX5_save_2 rfl rfl dX5_save_33 ?_
        refine z_get S K hP hX5_save_X3 1 rfl rfl 1 (by decide) kX5_save_4 rfl rfl dX5_save_36 ?_
        refine z_top (y := (r_save (mkR nc nn nf ng) x)) (sv_1 (sd := z0) (yc := z0) (yn := z0) (yf := fun _ => z0) (yg := fun _ => z0) ha2 (by omega) hc1).1 ?_
        exact z_iret S hrt hlk hP hD hS (pu sv 0 1, va_up yc 0 nc, va_up yn 0 nn, va_up yf 0 nf, va_up yg 0 ng) rfl ⟨rfl, ⟨(sv_1 ha2 (by omega) hc1).2, sv_ok hR⟩⟩ dX5_save_39
      · skip
        refine lv_aload_n hx hb dX5_save_12 rfl (lv_at hl 0 rfl) ?_
        refine z_get S K hP hX5_save_X5 0 rfl rfl 9 (by decide) kX5_save_1 rfl rfl dX5_save_13 ?_
        refine lv_iload_n hx hb dX5_save_16 rfl (lv_at hl 1 rfl) ?_
        refine z_aldq (b := sa 1) S K hP 4 rfl (by omega) (by decide) (hS2 1 (by omega)) dX5_save_17 ?_
        refine lv_aload_n hx hb dX5_save_18 rfl (lv_at hl 0 rfl) ?_
        refine z_get S K hP hX5_save_X5 0 rfl rfl 0 (by decide) kX5_save_2 rfl rfl dX5_save_19 ?_
        refine zcVv (rest := []) S K hP hD hS hA hl.1 (c_X3_become l G (sa 1) (sd 1) (se 1) n0 n1 n2 (nI (yc 1)) (nI (yn 1)) (nI nc) (nI nn) (yf 1) (yg 1) nf ng ) rfl rfl gX5_save_X3_become rfl eX3_become [9, 10, 11, 1, 2, 3] (by decide +kernel) rfl (fun _ => rfl) 3 9 rfl rfl rfl rfl rfl (Nat.le_of_ble_eq_true rfl) (Nat.le_of_ble_eq_true rfl) (Nat.le_of_ble_eq_true rfl) ⟨Nat.zero_le _, Nat.zero_le _⟩ dX5_save_22 (fun u_22 H locs hw_22 hP hD hS => ?_)
        obtain ⟨hP, hD⟩ := mx_ok [none, some 3, some 4, some 5, none, none, none, none, none, some 0, some 1, some 2] (by decide +kernel) rfl rfl hP hD
        have hP : va_P (gD G) vwCl [(x0, .inr (5, [.ref n0, .ref v0, .ref t0, .ref w0, .ref sb, .ref b0, .ref p0, .ref o0, .ref h0, .ref s0, .ref svd])), (n0, .inr (3, [.int (nI nc), .int (nI nn), .ref n1, .ref n2])), (n1, .inl (gI G, 20, .inl (nA nf))), (n2, .inl (gI G, 20, .inl (nA ng))), (s0, .inl (gO G, 2, .inr (.inr (.inr (.inr sf))))), (svd, .inl (gZ G, 2, .inl (nA sv))), (sa 0, .inr (3, [.int (nI (yc 0)), .int (nI (yn 0)), .ref (sd 0), .ref (se 0)])), (sd 0, .inl (gI G, 20, .inl (nA (yf 0)))), (se 0, .inl (gI G, 20, .inl (nA (yg 0)))), (sa 1, .inr (3, [.int (nI nc), .int (nI nn), .ref (sd 1), .ref (se 1)])), (sd 1, .inl (gI G, 20, .inl (nA nf))), (se 1, .inl (gI G, 20, .inl (nA ng)))] H := hP
        have hD : va_D A [(x0, .inr (5, [.ref n0, .ref v0, .ref t0, .ref w0, .ref sb, .ref b0, .ref p0, .ref o0, .ref h0, .ref s0, .ref svd])), (n0, .inr (3, [.int (nI nc), .int (nI nn), .ref n1, .ref n2])), (n1, .inl (gI G, 20, .inl (nA nf))), (n2, .inl (gI G, 20, .inl (nA ng))), (s0, .inl (gO G, 2, .inr (.inr (.inr (.inr sf))))), (svd, .inl (gZ G, 2, .inl (nA sv))), (sa 0, .inr (3, [.int (nI (yc 0)), .int (nI (yn 0)), .ref (sd 0), .ref (se 0)])), (sd 0, .inl (gI G, 20, .inl (nA (yf 0)))), (se 0, .inl (gI G, 20, .inl (nA (yg 0)))), (sa 1, .inr (3, [.int (nI nc), .int (nI nn), .ref (sd 1), .ref (se 1)])), (sd 1, .inl (gI G, 20, .inl (nA nf))), (se 1, .inl (gI G, 20, .inl (nA ng)))] := hD
        refine lv_aload_n hx hb dX5_save_25 rfl (lv_at hl 0 rfl) ?_
        refine z_get S K hP hX5_save_X5 0 rfl rfl 10 (by decide) kX5_save_3 rfl rfl dX5_save_26 ?_
        refine lv_iload_n hx hb dX5_save_29 rfl (lv_at hl 1 rfl) ?_
        refine lv_iconst (v := nI 1) hx hb dX5_save_30 (by decide +kernel) ?_
        refine z_zast S K hP hD hS 5 rfl (by omega) (by decide) z_nz1 dX5_save_31 (fun H locs hP hD hS => ?_)
        have hP : va_P (gD G) vwCl [(x0, .inr (5, [.ref n0, .ref v0, .ref t0, .ref w0, .ref sb, .ref b0, .ref p0, .ref o0, .ref h0, .ref s0, .ref svd])), (n0, .inr (3, [.int (nI nc), .int (nI nn), .ref n1, .ref n2])), (n1, .inl (gI G, 20, .inl (nA nf))), (n2, .inl (gI G, 20, .inl (nA ng))), (s0, .inl (gO G, 2, .inr (.inr (.inr (.inr sf))))), (svd, .inl (gZ G, 2, .inl (nA (pu sv 1 1)))), (sa 0, .inr (3, [.int (nI (yc 0)), .int (nI (yn 0)), .ref (sd 0), .ref (se 0)])), (sd 0, .inl (gI G, 20, .inl (nA (yf 0)))), (se 0, .inl (gI G, 20, .inl (nA (yg 0)))), (sa 1, .inr (3, [.int (nI nc), .int (nI nn), .ref (sd 1), .ref (se 1)])), (sd 1, .inl (gI G, 20, .inl (nA nf))), (se 1, .inl (gI G, 20, .inl (nA ng)))] H := hP
        have hD : va_D A [(x0, .inr (5, [.ref n0, .ref v0, .ref t0, .ref w0, .ref sb, .ref b0, .ref p0, .ref o0, .ref h0, .ref s0, .ref svd])), (n0, .inr (3, [.int (nI nc), .int (nI nn), .ref n1, .ref n2])), (n1, .inl (gI G, 20, .inl (nA nf))), (n2, .inl (gI G, 20, .inl (nA ng))), (s0, .inl (gO G, 2, .inr (.inr (.inr (.inr sf))))), (svd, .inl (gZ G, 2, .inl (nA (pu sv 1 1)))), (sa 0, .inr (3, [.int (nI (yc 0)), .int (nI (yn 0)), .ref (sd 0), .ref (se 0)])), (sd 0, .inl (gI G, 20, .inl (nA (yf 0)))), (se 0, .inl (gI G, 20, .inl (nA (yg 0)))), (sa 1, .inr (3, [.int (nI nc), .int (nI nn), .ref (sd 1), .ref (se 1)])), (sd 1, .inl (gI G, 20, .inl (nA nf))), (se 1, .inl (gI G, 20, .inl (nA ng)))] := hD
        refine lv_aload_n hx hb dX5_save_32 rfl (lv_at hl 0 rfl) ?_
        refine z_get S K hP hX5_save_X5 0 rfl rfl 0 (by decide) kX5_save_2 rfl rfl dX5_save_33 ?_
        refine z_get S K hP hX5_save_X3 1 rfl rfl 1 (by decide) kX5_save_4 rfl rfl dX5_save_36 ?_
        refine z_top (y := (r_save (mkR nc nn nf ng) x)) (sv_1 (sd := z0) (yc := z0) (yn := z0) (yf := fun _ => z0) (yg := fun _ => z0) ha2 (by omega) hc1).1 ?_
        exact z_iret S hrt hlk hP hD hS (pu sv 1 1, va_up yc 1 nc, va_up yn 1 nn, va_up yf 1 nf, va_up yg 1 ng) rfl ⟨rfl, ⟨(sv_1 ha2 (by omega) hc1).2, sv_ok hR⟩⟩ dX5_save_39
    · skip
      refine lv_bipush (v := -2) hx hb dX5_save_9 (by decide +kernel) ?_
      refine z_top (y := (r_save (mkR nc nn nf ng) x)) (sv_0 (Z := fun _ => R0) (by omega)).1 ?_
      exact z_iret S hrt hlk hP hD hS (sv, yc, yn, yf, yg) rfl ⟨rfl, ⟨(sv_0 (R := mkR nc nn nf ng) (by omega)).2, fun q => q⟩⟩ dX5_save_11
set_option maxHeartbeats 4000000 in
set_option maxRecDepth 100000 in
theorem c_X6_saveS (l : Launch) (G : gT) (e0 ea ek eh es ei el ew et er ed ep ex eu : Nat) (hq : Int32) (lf : Int32) (md : Int32) (pn : Int32) (sp : Int32) (rm : Int32) (la : Int32) (al : Nat → Nat) (so : Nat → Nat) (iv : Nat → Nat) (x : Int32) (hR : RowOK (mR al)) (hs : ∀ k, k < 2 → so (42 * k + 1) ≤ 20) : CI l yX6_save wsX6_save ({ frames := 1, cells := 0, slots := 0, locals := 25 } : Room) G [.ref e0, .int x] [(e0, .inr (6, [.ref ea, .ref ek, .ref eh, .int hq, .ref es, .ref ei, .ref el, .ref ew, .ref et, .ref er, .int lf, .int md, .ref ed, .ref ep, .int pn, .int sp, .ref ex, .ref eu, .int rm, .int la])), (ea, .inl (gI G, 42, .inl (nA al))), (es, .inl (gI G, 84, .inl (nA so))), (ei, .inl (gI G, 2, .inl (nA iv)))] 0 0 (fun (r : Int32) (u : (Nat → Nat) × (Nat → Nat)) => r = (r_save (mR al) x) ∧ mS u.2 u.1 = n_save (mR al) (mS iv so) x ∧ (MSOK iv so → MSOK u.2 u.1)) (fun (u : (Nat → Nat) × (Nat → Nat)) => [(e0, .inr (6, [.ref ea, .ref ek, .ref eh, .int hq, .ref es, .ref ei, .ref el, .ref ew, .ref et, .ref er, .int lf, .int md, .ref ed, .ref ep, .int pn, .int sp, .ref ex, .ref eu, .int rm, .int la])), (ea, .inl (gI G, 42, .inl (nA al))), (es, .inl (gI G, 84, .inl (nA u.1))), (ei, .inl (gI G, 2, .inl (nA u.2)))]) := by
  refine CI.of (cc := cX6_save) (maxL := 3) (ret := (some .int)) (by decide +kernel) rfl (Nat.le_of_ble_eq_true rfl) rfl (fun p e s m args below meth c A S hrt hlk hnm K hA hP hD hS ls hl => ?_)
  have hx := S.1
  have hb := S.2.1
  have hl : lv_has ls 3 [(0, .ref e0), (1, .int x)] := hl
  obtain ⟨hc1, hc2, hn3, hf4, hf5, hg6⟩ := mrow hR
  have hp2 := p12 hc2
  have h1s : 1 <<< al 0 = 2 ^ al 0 := Nat.one_shiftLeft _
  have hL0 := lN_toInt (n := 0) (by decide)
  have hL1 := lN_toInt (n := 1) (by decide)
  have hL12 := lN_toInt (n := 12) (by decide)
  have hLx := Int32.toInt_toInt64 x
  refine lv_iload_n hx hb dX6_save_0 rfl (lv_at hl 1 rfl) ?_
  refine lv_i2l (v := Int32.toInt64 x) hx hb dX6_save_1 rfl ?_
  refine lv_lconst (v := lN 0) hx hb dX6_save_2 (by decide +kernel) ?_
  refine lv_lconst (v := lN 1) hx hb dX6_save_3 (by decide +kernel) ?_
  refine zcSi (rest := []) S K hP hD hS hA hl.1 (c_X6_in l G (Int32.toInt64 x) (lN 0) (lN 1) ) rfl rfl gX6_save_X6_in rfl eX6_in.2 [] (by decide +kernel) rfl (fun _ => rfl) rfl rfl (Nat.le_of_ble_eq_true rfl) (Nat.le_of_ble_eq_true rfl) (Nat.le_of_ble_eq_true rfl) ⟨Nat.zero_le _, Nat.zero_le _⟩ dX6_save_4 (fun r_4 u_4 H locs hw_4 hP hD hS => ?_)
  replace hw_4 : r_4 = nI (bN (decide ((lN 0).toInt ≤ (Int32.toInt64 x).toInt ∧ (Int32.toInt64 x).toInt ≤ (lN 1).toInt))) := hw_4
  obtain rfl := hw_4
  have hP : va_P (gD G) vwCl [(e0, .inr (6, [.ref ea, .ref ek, .ref eh, .int hq, .ref es, .ref ei, .ref el, .ref ew, .ref et, .ref er, .int lf, .int md, .ref ed, .ref ep, .int pn, .int sp, .ref ex, .ref eu, .int rm, .int la])), (ea, .inl (gI G, 42, .inl (nA al))), (es, .inl (gI G, 84, .inl (nA so))), (ei, .inl (gI G, 2, .inl (nA iv)))] H := hP
  have hD : va_D A [(e0, .inr (6, [.ref ea, .ref ek, .ref eh, .int hq, .ref es, .ref ei, .ref el, .ref ew, .ref et, .ref er, .int lf, .int md, .ref ed, .ref ep, .int pn, .int sp, .ref ex, .ref eu, .int rm, .int la])), (ea, .inl (gI G, 42, .inl (nA al))), (es, .inl (gI G, 84, .inl (nA so))), (ei, .inl (gI G, 2, .inl (nA iv)))] := hD
  refine zf_ne (tgt := 13) S dX6_save_7 (by decide) (bN_31 _) (fun c_7 => ?_) (fun c_7 => ?_)
  · skip
    have c_7 := of_decide_eq_true (bN_ne0 c_7)
    obtain ⟨a, ha1, ha2, ha3⟩ := z_of (x := x) (by omega)
    have hl : lv_has ls 3 [(0, .ref e0), (1, .int (nI a))] := by rw [ha2] at hl; exact hl
    refine lv_iconst (v := nI 0) hx hb dX6_save_13 (by decide +kernel) ?_
    refine lv_istore_n (lv' := [(2, .int (nI 0)), (0, .ref e0), (1, .int (nI a))]) hx hb dX6_save_14 rfl hl (by decide) rfl (fun ls hl => ?_)
    have lp_15 : ∀ (n_15 : Nat) (i : Nat) (k1 : Nat → Nat), 42 - i < n_15 → (i ≤ 42) → (∀ j, k1 j = if 42 * a ≤ j ∧ j < 42 * a + i then al (j - 42 * a) else so j) → ∀ (H : Heap) (locs : List Loc), va_P (gD G) vwCl [(e0, .inr (6, [.ref ea, .ref ek, .ref eh, .int hq, .ref es, .ref ei, .ref el, .ref ew, .ref et, .ref er, .int lf, .int md, .ref ed, .ref ep, .int pn, .int sp, .ref ex, .ref eu, .int rm, .int la])), (ea, .inl (gI G, 42, .inl (nA al))), (es, .inl (gI G, 84, .inl (nA k1))), (ei, .inl (gI G, 2, .inl (nA iv)))] H → va_D A [(e0, .inr (6, [.ref ea, .ref ek, .ref eh, .int hq, .ref es, .ref ei, .ref el, .ref ew, .ref et, .ref er, .int lf, .int md, .ref ed, .ref ep, .int pn, .int sp, .ref ex, .ref eu, .int rm, .int la])), (ea, .inl (gI G, 42, .inl (nA al))), (es, .inl (gI G, 84, .inl (nA k1))), (ei, .inl (gI G, 2, .inl (nA iv)))] → va_S A s.heap H locs → ∀ ls : Array Slot, lv_has ls 3 [(2, .int (nI i)), (0, .ref e0), (1, .int (nI a))] → W p l e ({ frames := 1, cells := 0, slots := 0, locals := 25 } : Room) s m args below meth c H locs 0 0 (MQ below (va_Qi (fun (r : Int32) (u : (Nat → Nat) × (Nat → Nat)) => r = (r_save (mR al) x) ∧ mS u.2 u.1 = n_save (mR al) (mS iv so) x ∧ (MSOK iv so → MSOK u.2 u.1)) (cB G A (fun (u : (Nat → Nat) × (Nat → Nat)) => [(e0, .inr (6, [.ref ea, .ref ek, .ref eh, .int hq, .ref es, .ref ei, .ref el, .ref ew, .ref et, .ref er, .int lf, .int md, .ref ed, .ref ep, .int pn, .int sp, .ref ex, .ref eu, .int rm, .int la])), (ea, .inl (gI G, 42, .inl (nA al))), (es, .inl (gI G, 84, .inl (nA u.1))), (ei, .inl (gI G, 2, .inl (nA u.2)))])) A) args s 0 0 A) (F0 m 15 ls []) := by
      intro n_15
      induction n_15 with
      | zero =>
        intro i k1 h0
        exact absurd h0 (Nat.not_lt_zero _)
      | succ n_15 ih_15 =>
        intro i k1 hm_15 hi hk H locs hP hD hS ls hl
        refine lv_iload_n hx hb dX6_save_15 rfl (lv_at hl 0 rfl) ?_
        refine lv_bipush (v := nI 42) hx hb dX6_save_16 (by decide +kernel) ?_
        refine zb_ge (tgt := 44) S dX6_save_18 (by decide) (by omega) (by decide) (fun c_18 => ?_) (fun c_18 => ?_)
        · skip
          have hi42 : i = 42 := by omega
          obtain rfl : i = 42 := hi42
          refine lv_aload_n hx hb dX6_save_44 rfl (lv_at hl 1 rfl) ?_
          refine z_get S K hP hX6_save_X6 0 rfl rfl 5 (by decide) kX6_save_3 rfl rfl dX6_save_45 ?_
          refine lv_iload_n hx hb dX6_save_48 rfl (lv_at hl 2 rfl) ?_
          refine lv_iconst (v := nI 1) hx hb dX6_save_49 (by decide +kernel) ?_
          refine z_iast S K hP hD hS 3 rfl (by omega) (by decide) dX6_save_50 (fun H locs hP hD hS => ?_)
          have hP : va_P (gD G) vwCl [(e0, .inr (6, [.ref ea, .ref ek, .ref eh, .int hq, .ref es, .ref ei, .ref el, .ref ew, .ref et, .ref er, .int lf, .int md, .ref ed, .ref ep, .int pn, .int sp, .ref ex, .ref eu, .int rm, .int la])), (ea, .inl (gI G, 42, .inl (nA al))), (es, .inl (gI G, 84, .inl (nA k1))), (ei, .inl (gI G, 2, .inl (nA (pu iv a 1))))] H := hP
          have hD : va_D A [(e0, .inr (6, [.ref ea, .ref ek, .ref eh, .int hq, .ref es, .ref ei, .ref el, .ref ew, .ref et, .ref er, .int lf, .int md, .ref ed, .ref ep, .int pn, .int sp, .ref ex, .ref eu, .int rm, .int la])), (ea, .inl (gI G, 42, .inl (nA al))), (es, .inl (gI G, 84, .inl (nA k1))), (ei, .inl (gI G, 2, .inl (nA (pu iv a 1))))] := hD
          refine lv_aload_n hx hb dX6_save_51 rfl (lv_at hl 1 rfl) ?_
          refine z_get S K hP hX6_save_X6 0 rfl rfl 0 (by decide) kX6_save_2 rfl rfl dX6_save_52 ?_
          refine lv_iconst (v := nI 1) hx hb dX6_save_55 (by decide +kernel) ?_
          refine z_iald S K hP 1 rfl (by omega) (by decide) dX6_save_56 ?_
          refine z_top (y := (r_save (mR al) x)) (msv_1 (iv := iv) ha2 (by omega) hk hn3 hs).1 ?_
          exact z_iret S hrt hlk hP hD hS (k1, pu iv a 1) rfl ⟨rfl, ⟨(msv_1 ha2 (by omega) hk hn3 hs).2, ms_ok hR (show a < 2 by omega) hk⟩⟩ dX6_save_57
        · skip
          refine lv_aload_n hx hb dX6_save_21 rfl (lv_at hl 1 rfl) ?_
          refine z_get S K hP hX6_save_X6 0 rfl rfl 4 (by decide) kX6_save_1 rfl rfl dX6_save_22 ?_
          refine lv_bipush (v := nI 42) hx hb dX6_save_25 (by decide +kernel) ?_
          refine lv_iload_n hx hb dX6_save_27 rfl (lv_at hl 2 rfl) ?_
          refine zi_mul S dX6_save_28 ?_
          refine lv_iload_n hx hb dX6_save_29 rfl (lv_at hl 0 rfl) ?_
          refine zi_add S dX6_save_30 ?_
          refine lv_aload_n hx hb dX6_save_31 rfl (lv_at hl 1 rfl) ?_
          refine z_get S K hP hX6_save_X6 0 rfl rfl 0 (by decide) kX6_save_2 rfl rfl dX6_save_32 ?_
          refine lv_iload_n hx hb dX6_save_35 rfl (lv_at hl 0 rfl) ?_
          refine z_iald S K hP 1 rfl (by omega) (by decide) dX6_save_36 ?_
          refine z_iast S K hP hD hS 2 rfl (by omega) (by decide) dX6_save_37 (fun H locs hP hD hS => ?_)
          have hP : va_P (gD G) vwCl [(e0, .inr (6, [.ref ea, .ref ek, .ref eh, .int hq, .ref es, .ref ei, .ref el, .ref ew, .ref et, .ref er, .int lf, .int md, .ref ed, .ref ep, .int pn, .int sp, .ref ex, .ref eu, .int rm, .int la])), (ea, .inl (gI G, 42, .inl (nA al))), (es, .inl (gI G, 84, .inl (nA (pu k1 ((42 * a) + i) (al i))))), (ei, .inl (gI G, 2, .inl (nA iv)))] H := hP
          have hD : va_D A [(e0, .inr (6, [.ref ea, .ref ek, .ref eh, .int hq, .ref es, .ref ei, .ref el, .ref ew, .ref et, .ref er, .int lf, .int md, .ref ed, .ref ep, .int pn, .int sp, .ref ex, .ref eu, .int rm, .int la])), (ea, .inl (gI G, 42, .inl (nA al))), (es, .inl (gI G, 84, .inl (nA (pu k1 ((42 * a) + i) (al i))))), (ei, .inl (gI G, 2, .inl (nA iv)))] := hD
          refine lv_iinc (v := (nI (i + 1))) (lv' := [(2, .int (nI (i + 1))), (0, .ref e0), (1, .int (nI a))]) hx hb dX6_save_38 hl (k := 0) rfl (z_i1 _) (by decide) rfl (fun ls hl => ?_)
          refine lv_goto (tgt := 15) hx hb dX6_save_41 (by decide) ?_
          exact ih_15 (i + 1) (pu k1 ((42 * a) + i) (al i)) (by omega) (by omega) (sh_2 hk) _ _ hP hD hS _ (lv_sub hl [0, 1, 2] rfl)
    exact lp_15 _ 0 so (Nat.lt_succ_self _) (by omega) (fun j => (if_neg (by omega)).symm) _ _ hP hD hS _ (lv_sub hl [0, 1, 2] rfl)
  · skip
    have c_7 := of_decide_eq_false (bN_eq0 c_7)
    refine lv_bipush (v := -2) hx hb dX6_save_10 (by decide +kernel) ?_
    refine z_top (y := (r_save (mR al) x)) (sv_0 (R := mR al) (Z := fun _ => R0) (by omega)).1 ?_
    exact z_iret S hrt hlk hP hD hS (so, iv) rfl ⟨rfl, ⟨(sv_0 (R := mR al) (by omega)).2, fun q => q⟩⟩ dX6_save_12
