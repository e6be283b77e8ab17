theorem hL_law_X5 : ∀ w ∈ wsX50, w ∈ wsL_law := fun w h => List.mem_append_left _ (List.mem_append_left _ (List.mem_append_left _ (List.mem_append_left _ (List.mem_append_left _ (List.mem_append_left _ (List.mem_append_right _ h))))))
set_option maxHeartbeats 4000000 in
set_option maxRecDepth 100000 in
theorem law_start {p : Program} {e : Env} {s : State} {m : MethodId} {below : List Frame} {meth : Method} {c : Code} (l : Launch) {G : gT} {b L : Nat} {xs : Nat → Int32} (hL : L ≤ 260) (S : CallFix p m c cL_law 8 s #[Value.ref b] wsL_law RL) (K : gK G s) (hAO : va_AO RX3 s) (hX : va_X b L xs s s.heap) (hbl : b < s.heap.size) (hr : meth.sig.returnType = ret) (hlocks : meth.locks = false) {A : Nat → Prop} (hA : ∀ q, s.heap.size ≤ q → A q) (hA2 : ∀ q, A q → s.heap.size ≤ q) (hbA : ¬ A b) (hP : va_P (gD G) vwCl [] s.heap) (hD : va_D A []) (hS : va_S A s.heap s.heap []) (ls : Array Slot) (hl : lv_has ls 8 [(0, .ref b)]) : W p l e room_1 s m #[Value.ref b] below meth c s.heap [] 0 0 (lw_Z below #[Value.ref b] s) (F0 m 0 ls []) := by
  have hx := S.1
  have hb := S.2.1
  refine z_new (ws := []) S K hP hD hS hA (ty0 := tyX5) 5 [.null, .null, .null, .null, .null, .null, .null, .null, .null, .null, .null] hL_law_X5 tyX5_ok (List.mem_of_getElem? (i := 0) rfl) (List.mem_of_getElem? (i := 1) rfl) (List.mem_of_getElem? (i := 2) rfl) rfl df_X5 (Nat.le_of_ble_eq_true rfl) (Nat.le_of_ble_eq_true rfl) dL_law_0 (fun x0 H hP hD hS => ?_)
  have hP : va_P (gD G) vwCl ([(x0, .inr (5, [.null, .null, .null, .null, .null, .null, .null, .null, .null, .null, .null]))]) H := hP
  have hD : va_D A ([(x0, .inr (5, [.null, .null, .null, .null, .null, .null, .null, .null, .null, .null, .null]))]) := hD
  refine W.widen (k := 1) (n := 11) (Nat.le_refl _) (Nat.le_refl _) ?_
  refine lv_dup hx hb dL_law_3 rfl ?_
  refine zcI (ws := []) (rest := [.ref x0]) S K hAO hP hD hS hA hl.1 (F_X5_init l G x0) rfl rfl gL_law_X5_init rfl (List.mem_of_getElem? (i := 2) rfl) (List.mem_of_getElem? (i := 3) rfl) (List.mem_of_getElem? (i := 4) rfl) rfl eX5_init.2 (Nat.le_of_ble_eq_true rfl) (Nat.le_of_ble_eq_true rfl) (Nat.le_of_ble_eq_true rfl) ⟨(Nat.le_of_ble_eq_true rfl), (Nat.le_of_ble_eq_true rfl)⟩ dL_law_4 (fun u H locs hw hP hD hS => ?_)
  obtain ⟨wa, hla⟩ := u
  have hOa : OI G x0 Ri hi_ wa := hw
  have hP : va_P (gD G) vwCl wa H := hP
  have hD : va_D A wa := hD
  refine W.widen (k := 59) (n := 835) (Nat.le_refl _) (Nat.le_refl _) ?_
  refine lv_astore_n (lv' := [(1, .ref x0), (0, .ref b)]) hx hb dL_law_7 rfl hl (by decide) rfl (fun ls hl => ?_)
  refine z_new (ws := wa) S K hP hD hS hA (ty0 := tyX5) 5 [.null, .null, .null, .null, .null, .null, .null, .null, .null, .null, .null] hL_law_X5 tyX5_ok (List.mem_of_getElem? (i := 0) rfl) (List.mem_of_getElem? (i := 1) rfl) (List.mem_of_getElem? (i := 2) rfl) rfl df_X5 (Nat.le_of_ble_eq_true rfl) (Nat.le_of_ble_eq_true rfl) dL_law_8 (fun y0 H hP hD hS => ?_)
  have hP : va_P (gD G) vwCl (wa ++ [(y0, .inr (5, [.null, .null, .null, .null, .null, .null, .null, .null, .null, .null, .null]))]) H := hP
  have hD : va_D A (wa ++ [(y0, .inr (5, [.null, .null, .null, .null, .null, .null, .null, .null, .null, .null, .null]))]) := hD
  refine W.widen (k := 60) (n := 846) (Nat.le_refl _) (Nat.le_refl _) ?_
  refine lv_dup hx hb dL_law_11 rfl ?_
  refine zcI (ws := wa) (rest := [.ref y0]) S K hAO hP hD hS hA hl.1 (F_X5_init l G y0) rfl rfl gL_law_X5_init rfl (List.mem_of_getElem? (i := 2) rfl) (List.mem_of_getElem? (i := 3) rfl) (List.mem_of_getElem? (i := 4) rfl) rfl eX5_init.2 (Nat.le_of_ble_eq_true rfl) (Nat.le_of_ble_eq_true rfl) (Nat.le_of_ble_eq_true rfl) ⟨(Nat.le_of_ble_eq_true rfl), (Nat.le_of_ble_eq_true rfl)⟩ dL_law_12 (fun u H locs hw hP hD hS => ?_)
  obtain ⟨wb, hlb⟩ := u
  have hOb : OI G y0 Ri hi_ wb := hw
  have hP : va_P (gD G) vwCl (wa ++ wb) H := hP
  have hD : va_D A (wa ++ wb) := hD
  refine W.widen (k := 118) (n := 1670) (Nat.le_refl _) (Nat.le_refl _) ?_
  refine lv_astore_n (lv' := [(2, .ref y0), (1, .ref x0), (0, .ref b)]) hx hb dL_law_15 rfl hl (by decide) rfl (fun ls hl => ?_)
  refine lv_iconst (v := nI 2) hx hb dL_law_16 (by decide +kernel) ?_
  refine lv_aload_n hx hb dL_law_17 rfl (lv_at hl 2 rfl) ?_
  refine lv_iconst (v := nI 0) hx hb dL_law_18 (by decide +kernel) ?_
  refine zcX (rest := [.int (nI 2)]) S K hX hbl hbA hP hD hS hA hl.1 (k_cell l G b L 0 xs hL (by omega)) rfl rfl gL_law_L_cell rfl eL_cell.2 rfl rfl (Nat.le_of_ble_eq_true rfl) (Nat.le_of_ble_eq_true rfl) (Nat.le_of_ble_eq_true rfl) ⟨(Nat.le_of_ble_eq_true rfl), (Nat.le_of_ble_eq_true rfl)⟩ dL_law_19 (fun cx H locs hP hD hS => ?_)
  refine lv_bipush (v := nI 8) hx hb dL_law_22 (by decide +kernel) ?_
  refine zos (rest := [.int (nI 2)]) S K hP hD hS hA hl.1 (k_up l G cx 8 (by omega) (by omega)) rfl rfl gL_law_L_up rfl eL_up.2 rfl rfl (Nat.le_of_ble_eq_true rfl) (Nat.le_of_ble_eq_true rfl) (Nat.le_of_ble_eq_true rfl) ⟨(Nat.le_of_ble_eq_true rfl), (Nat.le_of_ble_eq_true rfl)⟩ dL_law_24 (fun r H locs hw hP hD hS => ?_)
  obtain ⟨_, rfl⟩ := hw
  obtain ⟨m8, hm8⟩ : ∃ z, z = upN cx 8 := ⟨_, rfl⟩
  refine z_top (y := nI m8) (congrArg nI hm8.symm) ?_
  have hm8 : m8 < 8 := by rw [hm8]; exact up_lt _ (by decide)
  refine zi_add S dL_law_27 ?_
  obtain ⟨wm, hwm⟩ : ∃ z, z = 2 + m8 := ⟨_, rfl⟩
  refine z_top (y := nI wm) (congrArg nI hwm.symm) ?_
  have hwm2 : 2 ≤ wm ∧ wm ≤ 9 := by omega
  refine lv_istore_n (lv' := [(3, .int (nI wm)), (2, .ref y0), (1, .ref x0), (0, .ref b)]) hx hb dL_law_28 rfl hl (by decide) rfl (fun ls hl => ?_)
  refine lv_aload_n hx hb dL_law_29 rfl (lv_at hl 3 rfl) ?_
  refine lv_iconst (v := nI 1) hx hb dL_law_30 (by decide +kernel) ?_
  refine zcX (rest := []) S K hX hbl hbA hP hD hS hA hl.1 (k_cell l G b L 1 xs hL (by omega)) rfl rfl gL_law_L_cell rfl eL_cell.2 rfl rfl (Nat.le_of_ble_eq_true rfl) (Nat.le_of_ble_eq_true rfl) (Nat.le_of_ble_eq_true rfl) ⟨(Nat.le_of_ble_eq_true rfl), (Nat.le_of_ble_eq_true rfl)⟩ dL_law_31 (fun cx_1 H locs hP hD hS => ?_)
  refine lv_iload_n hx hb dL_law_34 rfl (lv_at hl 0 rfl) ?_
  refine zos (rest := []) S K hP hD hS hA hl.1 (k_up l G cx_1 wm (by omega) (by omega)) rfl rfl gL_law_L_up rfl eL_up.2 rfl rfl (Nat.le_of_ble_eq_true rfl) (Nat.le_of_ble_eq_true rfl) (Nat.le_of_ble_eq_true rfl) ⟨(Nat.le_of_ble_eq_true rfl), (Nat.le_of_ble_eq_true rfl)⟩ dL_law_35 (fun r H locs hw hP hD hS => ?_)
  obtain ⟨_, rfl⟩ := hw
  obtain ⟨wp, hwp⟩ : ∃ z, z = upN cx_1 wm := ⟨_, rfl⟩
  refine z_top (y := nI wp) (congrArg nI hwp.symm) ?_
  have hwp2 : wp < wm := by rw [hwp]; exact up_lt _ (by omega)
  obtain ⟨wq, hwq⟩ : ∃ wq, wm = wp + wq := ⟨wm - wp, by omega⟩
  have hl : lv_has ls 8 [(3, .int (nI (wp + wq))), (2, .ref y0), (1, .ref x0), (0, .ref b)] := by rw [hwq] at hl; exact hl
  have hw9 : 2 ≤ wp + wq ∧ wp + wq ≤ 9 := by omega
  have h1s : 1 <<< (wp + wq) = 2 ^ (wp + wq) := Nat.one_shiftLeft _
  have hp9 : 2 ^ (wp + wq) ≤ 2 ^ 9 := Nat.pow_le_pow_right (by decide) hw9.2
  have hp9 : 2 ^ (wp + wq) ≤ 512 := hp9
  have hp0 := Nat.two_pow_pos (wp + wq)
  obtain ⟨hc6, -⟩ := ch_ri (w := wp + wq) (by omega) (by omega)
  refine lv_istore (lv' := [(4, .int (nI wp)), (3, .int (nI (wp + wq))), (2, .ref y0), (1, .ref x0), (0, .ref b)]) hx hb dL_law_38 hl (by decide) rfl (fun ls hl => ?_)
  refine lv_aload_n hx hb dL_law_40 rfl (lv_at hl 4 rfl) ?_
  refine lv_iconst (v := nI 2) hx hb dL_law_41 (by decide +kernel) ?_
  refine zcX (rest := []) S K hX hbl hbA hP hD hS hA hl.1 (k_cell l G b L 2 xs hL (by omega)) rfl rfl gL_law_L_cell rfl eL_cell.2 rfl rfl (Nat.le_of_ble_eq_true rfl) (Nat.le_of_ble_eq_true rfl) (Nat.le_of_ble_eq_true rfl) ⟨(Nat.le_of_ble_eq_true rfl), (Nat.le_of_ble_eq_true rfl)⟩ dL_law_42 (fun cx_2 H locs hP hD hS => ?_)
  refine lv_iconst (v := nI 1) hx hb dL_law_45 (by decide +kernel) ?_
  refine lv_iload_n hx hb dL_law_46 rfl (lv_at hl 1 rfl) ?_
  refine zi_shl S dL_law_47 (by omega) ?_
  refine zos (rest := []) S K hP hD hS hA hl.1 (k_up l G cx_2 (1 <<< (wp + wq)) (by omega) (by omega)) rfl rfl gL_law_L_up rfl eL_up.2 rfl rfl (Nat.le_of_ble_eq_true rfl) (Nat.le_of_ble_eq_true rfl) (Nat.le_of_ble_eq_true rfl) ⟨(Nat.le_of_ble_eq_true rfl), (Nat.le_of_ble_eq_true rfl)⟩ dL_law_48 (fun r H locs hw hP hD hS => ?_)
  obtain ⟨_, rfl⟩ := hw
  obtain ⟨ot, hot⟩ : ∃ z, z = upN cx_2 (1 <<< (wp + wq)) := ⟨_, rfl⟩
  refine z_top (y := nI ot) (congrArg nI hot.symm) ?_
  have hot : ot < 2 ^ (wp + wq) := by rw [hot, ← h1s]; exact up_lt _ (by omega)
  refine lv_istore (lv' := [(5, .int (nI ot)), (4, .int (nI wp)), (3, .int (nI (wp + wq))), (2, .ref y0), (1, .ref x0), (0, .ref b)]) hx hb dL_law_51 hl (by decide) rfl (fun ls hl => ?_)
  refine lv_aload_n hx hb dL_law_53 rfl (lv_at hl 4 rfl) ?_
  refine lv_iload_n hx hb dL_law_54 rfl (lv_at hl 2 rfl) ?_
  refine zoa (rest := []) S K hP hD hS hA hl.1 (F_X5_choices l G x0 Ri hi_ wa (nI (wp + wq)) hOa) rfl rfl gL_law_X5_choices rfl eX5_choices hOa.len hOa.hd rfl rfl (Nat.le_of_ble_eq_true rfl) (Nat.le_of_ble_eq_true rfl) (Nat.le_of_ble_eq_true rfl) ⟨(Nat.le_of_ble_eq_true rfl), (Nat.le_of_ble_eq_true rfl)⟩ dL_law_55 (fun r u H locs hw hP hD hS => ?_)
  obtain ⟨wa, hz_⟩ := u
  obtain ⟨rfl, hOa⟩ := hw
  have hOa : OI G x0 ((n_choices Ri hi_ (nI (wp + wq))).1) ((n_choices Ri hi_ (nI (wp + wq))).2) wa := hOa
  have hP : va_P (gD G) vwCl (wa ++ wb) H := hP
  have hD : va_D A (wa ++ wb) := hD
  refine z_top (y := (nI 6)) hc6 ?_
  refine lv_bipush (v := nI 6) hx hb dL_law_58 (by decide +kernel) ?_
  refine zd_ne (tgt := 77) S dL_law_60 (by decide) rfl ?_
  refine lv_aload_n hx hb dL_law_63 rfl (lv_at hl 3 rfl) ?_
  refine lv_iload_n hx hb dL_law_64 rfl (lv_at hl 2 rfl) ?_
  refine zob (rest := []) S K hP hD hS hA hl.1 (F_X5_choices l G y0 Ri hi_ wb (nI (wp + wq)) hOb) rfl rfl gL_law_X5_choices rfl eX5_choices hOb.len hOb.hd rfl rfl (Nat.le_of_ble_eq_true rfl) (Nat.le_of_ble_eq_true rfl) (Nat.le_of_ble_eq_true rfl) ⟨(Nat.le_of_ble_eq_true rfl), (Nat.le_of_ble_eq_true rfl)⟩ dL_law_65 (fun r u H locs hw hP hD hS => ?_)
  obtain ⟨wb, hz_⟩ := u
  obtain ⟨rfl, hOb⟩ := hw
  have hOb : OI G y0 ((n_choices Ri hi_ (nI (wp + wq))).1) ((n_choices Ri hi_ (nI (wp + wq))).2) wb := hOb
  have hP : va_P (gD G) vwCl (wa ++ wb) H := hP
  have hD : va_D A (wa ++ wb) := hD
  refine z_top (y := (nI 6)) hc6 ?_
  refine lv_bipush (v := nI 6) hx hb dL_law_68 (by decide +kernel) ?_
  refine zd_ne (tgt := 77) S dL_law_70 (by decide) rfl ?_
  refine lv_iconst (v := nI 1) hx hb dL_law_73 (by decide +kernel) ?_
  refine lv_goto (tgt := 78) hx hb dL_law_74 (by decide) ?_
  refine lv_istore (lv' := [(6, .int (nI 1)), (5, .int (nI ot)), (4, .int (nI wp)), (3, .int (nI (wp + wq))), (2, .ref y0), (1, .ref x0), (0, .ref b)]) hx hb dL_law_78 hl (by decide) rfl (fun ls hl => ?_)
  refine lv_iconst (v := nI 3) hx hb dL_law_80 (by decide +kernel) ?_
  refine lv_istore (lv' := [(7, .int (nI 3)), (6, .int (nI 1)), (5, .int (nI ot)), (4, .int (nI wp)), (3, .int (nI (wp + wq))), (2, .ref y0), (1, .ref x0), (0, .ref b)]) hx hb dL_law_81 hl (by decide) rfl (fun ls hl => ?_)
  have hW : LW G wp wq ot x0 y0 wa wb := lw_new (by omega) (by omega) hOa hOb
  have lp : ∀ (n_ k : Nat) (wa wb : va_W), 46 - k < n_ → 3 ≤ k ∧ k ≤ 46 → wa.length = 59 → wb.length = 59 → LW G wp wq ot x0 y0 wa wb → ∀ (H : Heap) (locs : List Loc), va_P (gD G) vwCl (wa ++ wb) H → va_D A (wa ++ wb) → va_S A s.heap H locs → ∀ ls : Array Slot, lv_has ls 8 [(0, .ref b), (1, .ref x0), (2, .ref y0), (3, .int (nI (wp + wq))), (4, .int (nI wp)), (5, .int (nI ot)), (6, .int (nI 1)), (7, .int (nI k))] → W p l e room_1 s m #[Value.ref b] below meth c H locs 118 1670 (lw_Z below #[Value.ref b] s) (F0 m 83 ls []) := by
    intro n_
    induction n_ with
    | zero =>
      intro k wa wb h0_
      exact absurd h0_ (Nat.not_lt_zero _)
    | succ n_ ih =>
      intro k wa wb hm_ hk hla hlb hW H locs hP hD hS ls hl
      refine lv_iload hx hb dL_law_83 (lv_at hl 7 rfl) ?_
      refine lv_bipush (v := nI 46) hx hb dL_law_85 (by decide +kernel) ?_
      refine zb_ge (tgt := 150) S dL_law_87 (by decide) (by omega) (by decide) (fun c_87 => ?_) (fun c_87 => ?_)
      · skip
        refine lv_iload hx hb dL_law_150 (lv_at hl 6 rfl) ?_
        refine zd_zf (tgt := 192) S dL_law_152 (by decide) (by decide) ?_
        refine lv_aload_n hx hb dL_law_155 rfl (lv_at hl 1 rfl) ?_
        refine lv_aload_n hx hb dL_law_156 rfl (lv_at hl 2 rfl) ?_
        refine lv_iload_n hx hb dL_law_157 rfl (lv_at hl 3 rfl) ?_
        refine lv_iload hx hb dL_law_158 (lv_at hl 4 rfl) ?_
        refine lv_iload hx hb dL_law_160 (lv_at hl 5 rfl) ?_
        refine lv_aload_n hx hb dL_law_162 rfl (lv_at hl 0 rfl) ?_
        refine lv_bipush (v := nI 46) hx hb dL_law_163 (by decide +kernel) ?_
        refine zcX (rest := [.int (nI ot), .int (nI wp), .int (nI (wp + wq)), .ref y0, .ref x0]) S K hX hbl hbA hP hD hS hA hl.1 (k_cell l G b L 46 xs hL (by omega)) rfl rfl gL_law_L_cell rfl eL_cell.2 rfl rfl (Nat.le_of_ble_eq_true rfl) (Nat.le_of_ble_eq_true rfl) (Nat.le_of_ble_eq_true rfl) ⟨(Nat.le_of_ble_eq_true rfl), (Nat.le_of_ble_eq_true rfl)⟩ dL_law_165 (fun cx_3 H locs hP hD hS => ?_)
        refine zsb (rest := []) S K hP hD hS hA hl.1 (k_areAlike l G x0 y0 wp wq ot wa wb cx_3 hw9 hot hW) rfl rfl gL_law_L_areAlike rfl eL_areAlike.2 hla hlb rfl rfl (Nat.le_of_ble_eq_true rfl) (Nat.le_of_ble_eq_true rfl) (Nat.le_of_ble_eq_true rfl) ⟨(Nat.le_of_ble_eq_true rfl), (Nat.le_of_ble_eq_true rfl)⟩ dL_law_168 (fun r u H locs hw hP hD hS => ?_)
        obtain ⟨⟨wa, hla⟩, ⟨wb, hlb⟩⟩ := u
        obtain ⟨rfl, hW⟩ := hw
        have hW : LW G wp wq ot x0 y0 wa wb := hW
        have hP : va_P (gD G) vwCl (wa ++ wb) H := hP
        have hD : va_D A (wa ++ wb) := hD
        refine zd_zf (tgt := 192) S dL_law_171 (by decide) (by decide) ?_
        refine lv_aload_n hx hb dL_law_174 rfl (lv_at hl 1 rfl) ?_
        refine lv_iload_n hx hb dL_law_175 rfl (lv_at hl 3 rfl) ?_
        refine lv_aload_n hx hb dL_law_176 rfl (lv_at hl 0 rfl) ?_
        refine lv_bipush (v := nI 47) hx hb dL_law_177 (by decide +kernel) ?_
        refine zcX (rest := [.int (nI (wp + wq)), .ref x0]) S K hX hbl hbA hP hD hS hA hl.1 (k_cell l G b L 47 xs hL (by omega)) rfl rfl gL_law_L_cell rfl eL_cell.2 rfl rfl (Nat.le_of_ble_eq_true rfl) (Nat.le_of_ble_eq_true rfl) (Nat.le_of_ble_eq_true rfl) ⟨(Nat.le_of_ble_eq_true rfl), (Nat.le_of_ble_eq_true rfl)⟩ dL_law_179 (fun cx_4 H locs hP hD hS => ?_)
        obtain ⟨R, h, hOa, hOb, hL_⟩ := hW
        refine zsa (rest := []) S K hP hD hS hA hl.1 (k_isWell l G x0 (wp + wq) R h wa cx_4 hL_.1 hOa) rfl rfl gL_law_L_isWell rfl eL_isWell.2 hla rfl rfl (Nat.le_of_ble_eq_true rfl) (Nat.le_of_ble_eq_true rfl) (Nat.le_of_ble_eq_true rfl) ⟨(Nat.le_of_ble_eq_true rfl), (Nat.le_of_ble_eq_true rfl)⟩ dL_law_182 (fun r u H locs hw hP hD hS => ?_)
        obtain ⟨wa, hla⟩ := u
        obtain ⟨rfl, hOa⟩ := hw
        have hW : LW G wp wq ot x0 y0 wa wb := ⟨R, h, hOa, hOb, hL_⟩
        have hP : va_P (gD G) vwCl (wa ++ wb) H := hP
        have hD : va_D A (wa ++ wb) := hD
        refine zd_zf (tgt := 192) S dL_law_185 (by decide) (by decide) ?_
        refine lv_iconst (v := 1) hx hb dL_law_188 (by decide +kernel) ?_
        refine lv_goto (tgt := 193) hx hb dL_law_189 (by decide) ?_
        refine va_forget (fun q hq => hA2 _ (hS.2.2 q hq)) ?_
        refine W.widen (k := 600000) (n := 7302250) (Nat.le_of_ble_eq_true rfl) (Nat.le_of_ble_eq_true rfl) ?_
        exact lw_ret hx hb hr hlocks dL_law_193
      · skip
        refine lv_iload hx hb dL_law_90 (lv_at hl 6 rfl) ?_
        refine zd_zf (tgt := 150) S dL_law_92 (by decide) (by decide) ?_
        refine lv_aload_n hx hb dL_law_95 rfl (lv_at hl 1 rfl) ?_
        refine lv_aload_n hx hb dL_law_96 rfl (lv_at hl 2 rfl) ?_
        refine lv_iload_n hx hb dL_law_97 rfl (lv_at hl 3 rfl) ?_
        refine lv_iload hx hb dL_law_98 (lv_at hl 4 rfl) ?_
        refine lv_iload hx hb dL_law_100 (lv_at hl 5 rfl) ?_
        refine lv_aload_n hx hb dL_law_102 rfl (lv_at hl 0 rfl) ?_
        refine lv_iload hx hb dL_law_103 (lv_at hl 7 rfl) ?_
        refine zcX (rest := [.int (nI ot), .int (nI wp), .int (nI (wp + wq)), .ref y0, .ref x0]) S K hX hbl hbA hP hD hS hA hl.1 (k_cell l G b L k xs hL (by omega)) rfl rfl gL_law_L_cell rfl eL_cell.2 rfl rfl (Nat.le_of_ble_eq_true rfl) (Nat.le_of_ble_eq_true rfl) (Nat.le_of_ble_eq_true rfl) ⟨(Nat.le_of_ble_eq_true rfl), (Nat.le_of_ble_eq_true rfl)⟩ dL_law_105 (fun cx_3 H locs hP hD hS => ?_)
        refine zsb (rest := []) S K hP hD hS hA hl.1 (k_isStep l G x0 y0 wp wq ot wa wb cx_3 hw9 hot hW) rfl rfl gL_law_L_isStep rfl eL_isStep.2 hla hlb rfl rfl (Nat.le_of_ble_eq_true rfl) (Nat.le_of_ble_eq_true rfl) (Nat.le_of_ble_eq_true rfl) ⟨(Nat.le_of_ble_eq_true rfl), (Nat.le_of_ble_eq_true rfl)⟩ dL_law_108 (fun r u H locs hw hP hD hS => ?_)
        obtain ⟨⟨wa, hla⟩, ⟨wb, hlb⟩⟩ := u
        obtain ⟨rfl, hW⟩ := hw
        have hW : LW G wp wq ot x0 y0 wa wb := hW
        have hP : va_P (gD G) vwCl (wa ++ wb) H := hP
        have hD : va_D A (wa ++ wb) := hD
        refine zd_zf (tgt := 141) S dL_law_111 (by decide) (by decide) ?_
        refine lv_iload hx hb dL_law_114 (lv_at hl 7 rfl) ?_
        refine lv_iconst (v := nI 4) hx hb dL_law_116 (by decide +kernel) ?_
        refine zi_rem S dL_law_117 (by omega) (by omega) (by omega) ?_
        refine zq_gt (tgt := 137) S dL_law_118 (by decide) (z_toInt (by omega)) (fun c_118 => ?_) (fun c_118 => ?_)
        · skip
          refine lv_iconst (v := nI 1) hx hb dL_law_137 (by decide +kernel) ?_
          refine lv_goto (tgt := 142) hx hb dL_law_138 (by decide) ?_
          refine lv_istore (lv' := [(6, .int (nI 1)), (0, .ref b), (1, .ref x0), (2, .ref y0), (3, .int (nI (wp + wq))), (4, .int (nI wp)), (5, .int (nI ot)), (7, .int (nI k))]) hx hb dL_law_142 hl (by decide) rfl (fun ls hl => ?_)
          refine lv_iinc (v := (nI (k + 1))) (lv' := [(7, .int (nI (k + 1))), (6, .int (nI 1)), (0, .ref b), (1, .ref x0), (2, .ref y0), (3, .int (nI (wp + wq))), (4, .int (nI wp)), (5, .int (nI ot))]) hx hb dL_law_144 hl (k := 7) rfl (z_i1 _) (by decide) rfl (fun ls hl => ?_)
          refine lv_goto (tgt := 83) hx hb dL_law_147 (by decide) ?_
          exact ih (k + 1) wa wb (by omega) (by omega) hla hlb hW _ _ hP hD hS _ (lv_sub hl [2, 3, 4, 5, 6, 7, 1, 0] rfl)
        · skip
          refine lv_aload_n hx hb dL_law_121 rfl (lv_at hl 1 rfl) ?_
          refine lv_iload_n hx hb dL_law_122 rfl (lv_at hl 3 rfl) ?_
          refine lv_aload_n hx hb dL_law_123 rfl (lv_at hl 0 rfl) ?_
          refine lv_iload hx hb dL_law_124 (lv_at hl 7 rfl) ?_
          refine zcX (rest := [.int (nI (wp + wq)), .ref x0]) S K hX hbl hbA hP hD hS hA hl.1 (k_cell l G b L k xs hL (by omega)) rfl rfl gL_law_L_cell rfl eL_cell.2 rfl rfl (Nat.le_of_ble_eq_true rfl) (Nat.le_of_ble_eq_true rfl) (Nat.le_of_ble_eq_true rfl) ⟨(Nat.le_of_ble_eq_true rfl), (Nat.le_of_ble_eq_true rfl)⟩ dL_law_126 (fun cx_4 H locs hP hD hS => ?_)
          refine lv_iconst (v := nI 5) hx hb dL_law_129 (by decide +kernel) ?_
          refine lv_ishr hx hb dL_law_130 ?_
          obtain ⟨R, h, hOa, hOb, hL_⟩ := hW
          refine zsa (rest := []) S K hP hD hS hA hl.1 (k_isWell l G x0 (wp + wq) R h wa (cx_4 >>> (nI 5 &&& 31)) hL_.1 hOa) rfl rfl gL_law_L_isWell rfl eL_isWell.2 hla rfl rfl (Nat.le_of_ble_eq_true rfl) (Nat.le_of_ble_eq_true rfl) (Nat.le_of_ble_eq_true rfl) ⟨(Nat.le_of_ble_eq_true rfl), (Nat.le_of_ble_eq_true rfl)⟩ dL_law_131 (fun r u H locs hw hP hD hS => ?_)
          obtain ⟨wa, hla⟩ := u
          obtain ⟨rfl, hOa⟩ := hw
          have hW : LW G wp wq ot x0 y0 wa wb := ⟨R, h, hOa, hOb, hL_⟩
          have hP : va_P (gD G) vwCl (wa ++ wb) H := hP
          have hD : va_D A (wa ++ wb) := hD
          refine zd_zf (tgt := 141) S dL_law_134 (by decide) (by decide) ?_
          refine lv_iconst (v := nI 1) hx hb dL_law_137 (by decide +kernel) ?_
          refine lv_goto (tgt := 142) hx hb dL_law_138 (by decide) ?_
          refine lv_istore (lv' := [(6, .int (nI 1)), (0, .ref b), (1, .ref x0), (2, .ref y0), (3, .int (nI (wp + wq))), (4, .int (nI wp)), (5, .int (nI ot)), (7, .int (nI k))]) hx hb dL_law_142 hl (by decide) rfl (fun ls hl => ?_)
          refine lv_iinc (v := (nI (k + 1))) (lv' := [(7, .int (nI (k + 1))), (6, .int (nI 1)), (0, .ref b), (1, .ref x0), (2, .ref y0), (3, .int (nI (wp + wq))), (4, .int (nI wp)), (5, .int (nI ot))]) hx hb dL_law_144 hl (k := 7) rfl (z_i1 _) (by decide) rfl (fun ls hl => ?_)
          refine lv_goto (tgt := 83) hx hb dL_law_147 (by decide) ?_
          exact ih (k + 1) wa wb (by omega) (by omega) hla hlb hW _ _ hP hD hS _ (lv_sub hl [2, 3, 4, 5, 6, 7, 1, 0] rfl)
  exact lp _ 3 wa wb (Nat.lt_succ_self _) (by omega) hW.la.1 hW.la.2 hW _ _ hP hD hS _ (lv_sub hl [7, 6, 5, 4, 3, 2, 1, 0] rfl)
