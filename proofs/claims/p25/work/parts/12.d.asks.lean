theorem y_0 {y : Int32} (h : y.toInt = 0) : y = nI 0 := Int32.toInt_inj.mp (by rw [h]; rfl)
theorem y_1 {y : Int32} (h : y.toInt = 1) : y = nI 1 := Int32.toInt_inj.mp (by rw [h]; rfl)
theorem y_2 {y : Int32} (h : y.toInt = 2) : y = nI 2 := Int32.toInt_inj.mp (by rw [h]; rfl)
theorem x31 {a b : Nat} (ha : a < 4096) (hb : b < 4096) : a ^^^ b < 2147483648 := by
  have := xor12 ha hb
  omega
theorem ans_b {ss su : Nat → Nat} {c y : Nat} (hc : c ≤ 12) (h : ∃ q, q < 2 ^ fr ss c ∧ AnsOf ss su c q y) : y < 4096 := by
  obtain ⟨q, -, h⟩ := h
  exact ans12 hc h
set_option maxHeartbeats 4000000 in
set_option maxRecDepth 100000 in
theorem c_X5_answer (l : Launch) (G : gT) (x0 n0 v0 t0 w0 sb b0 p0 o0 h0 s0 svd n1 n2 v1 v2 v3 v4 v5 v6 v7 : Nat) (nc : Nat) (nn : Nat) (nf : Nat → Nat) (ng : Nat → Nat) (rs : Int32) (rm : Int32) (rr : Int32) (st : Nat → Nat) (re : Nat → Nat) (ta : Nat → Nat) (ss : Nat → Nat) (su : Nat → Nat) (sr : Nat → Nat) (x : Int32) (hR : RowOK (mkR nc nn nf ng)) (hV : VI nf ng nn st re ta ss su sr) : CI l yX5_answer wsX5_answer ({ frames := 3, cells := 0, slots := 0, locals := 65 } : Room) G [.ref x0, .int x] [(x0, .inr (5, [.ref n0, .ref v0, .ref t0, .ref w0, .ref sb, .ref b0, .ref p0, .ref o0, .ref h0, .ref s0, .ref svd])), (n0, .inr (3, [.int (nI nc), .int (nI nn), .ref n1, .ref n2])), (n1, .inl (gI G, 20, .inl (nA nf))), (n2, .inl (gI G, 20, .inl (nA ng))), (v0, .inr (4, [.int (nI nc), .int (nI nn), .ref v1, .ref v2, .ref v3, .ref v4, .ref v5, .ref v6, .int rs, .int rm, .int rr, .ref v7])), (v1, .inl (gI G, 20, .inl (nA st))), (v2, .inl (gI G, 20, .inl (nA re))), (v3, .inl (gI G, 3, .inl (nA ta))), (v4, .inl (gI G, 12, .inl (nA ss))), (v5, .inl (gI G, 12, .inl (nA su))), (v6, .inl (gI G, 12, .inl (nA sr)))] 0 0 (fun (r : Int32) (u : Unit) => r = (r_answer (mkR nc nn nf ng) x)) (fun (u : Unit) => [(x0, .inr (5, [.ref n0, .ref v0, .ref t0, .ref w0, .ref sb, .ref b0, .ref p0, .ref o0, .ref h0, .ref s0, .ref svd])), (n0, .inr (3, [.int (nI nc), .int (nI nn), .ref n1, .ref n2])), (n1, .inl (gI G, 20, .inl (nA nf))), (n2, .inl (gI G, 20, .inl (nA ng))), (v0, .inr (4, [.int (nI nc), .int (nI nn), .ref v1, .ref v2, .ref v3, .ref v4, .ref v5, .ref v6, .int rs, .int rm, .int rr, .ref v7])), (v1, .inl (gI G, 20, .inl (nA st))), (v2, .inl (gI G, 20, .inl (nA re))), (v3, .inl (gI G, 3, .inl (nA ta))), (v4, .inl (gI G, 12, .inl (nA ss))), (v5, .inl (gI G, 12, .inl (nA su))), (v6, .inl (gI G, 12, .inl (nA sr)))]) := by
  refine CI.of (cc := cX5_answer) (maxL := 2) (ret := (some .int)) (by decide +kernel) rfl (Nat.le_of_ble_eq_true rfl) rfl (fun p e s m args below meth c A S hrt hlk hnm K hA hP hD hS ls hl => ?_)
  have hx := S.1
  have hb := S.2.1
  have hl : lv_has ls 2 [(0, .ref x0), (1, .int x)] := hl
  obtain ⟨hc1, hc2, hn3, hf4, hf5, hg6⟩ := row_use hR
  have hp2 := p12 hc2
  have h1s : 1 <<< nc = 2 ^ nc := Nat.one_shiftLeft nc
  have hfr := vi_free hV hc2 (fun j hj => (hf4 j hj).2)
  have hna := vi_na (c := nc) hV
  have hnl := na_le hR
  refine lv_iload_n hx hb dX5_answer_0 rfl (lv_at hl 1 rfl) ?_
  refine zq_lt (tgt := 15) S dX5_answer_1 (by decide) rfl (fun c_1 => ?_) (fun c_1 => ?_)
  · skip
    refine lv_iconst (v := -1) hx hb dX5_answer_15 (by decide +kernel) ?_
    refine z_top (y := (r_answer (mkR nc nn nf ng) x)) (aw_n (R := mkR nc nn nf ng) (by omega)) ?_
    exact z_iret S hrt hlk hP hD hS () rfl rfl dX5_answer_16
  · skip
    refine lv_iload_n hx hb dX5_answer_4 rfl (lv_at hl 1 rfl) ?_
    refine lv_aload_n hx hb dX5_answer_5 rfl (lv_at hl 0 rfl) ?_
    refine z_get S K hP hX5_answer_X5 0 rfl rfl 1 (by decide) kX5_answer_1 rfl rfl dX5_answer_6 ?_
    refine zcVi (rest := [.int x]) S K hP hD hS hA hl.1 (c_X4_answers l G v0 v1 v2 v3 v4 v5 v6 v7 (nI nn) rs rm rr nc ta hc2 hfr.1) rfl rfl gX5_answer_X4_answers rfl eX4_answers [4, 7] (by decide +kernel) rfl (fun _ => rfl) 4 4 rfl rfl rfl rfl rfl (Nat.le_of_ble_eq_true rfl) (Nat.le_of_ble_eq_true rfl) (Nat.le_of_ble_eq_true rfl) ⟨Nat.zero_le _, Nat.zero_le _⟩ dX5_answer_9 (fun r_9 u_9 H locs hw_9 hP hD hS => ?_)
    obtain ⟨hP, hD⟩ := mx_ok [none, none, none, none, some 0, none, none, some 1, none, none, none] (by decide +kernel) rfl rfl hP hD
    replace hw_9 : r_9 = nI (1 <<< (nc - ta 0)) := hw_9
    obtain rfl := hw_9
    have hP : va_P (gD G) vwCl [(x0, .inr (5, [.ref n0, .ref v0, .ref t0, .ref w0, .ref sb, .ref b0, .ref p0, .ref o0, .ref h0, .ref s0, .ref svd])), (n0, .inr (3, [.int (nI nc), .int (nI nn), .ref n1, .ref n2])), (n1, .inl (gI G, 20, .inl (nA nf))), (n2, .inl (gI G, 20, .inl (nA ng))), (v0, .inr (4, [.int (nI nc), .int (nI nn), .ref v1, .ref v2, .ref v3, .ref v4, .ref v5, .ref v6, .int rs, .int rm, .int rr, .ref v7])), (v1, .inl (gI G, 20, .inl (nA st))), (v2, .inl (gI G, 20, .inl (nA re))), (v3, .inl (gI G, 3, .inl (nA ta))), (v4, .inl (gI G, 12, .inl (nA ss))), (v5, .inl (gI G, 12, .inl (nA su))), (v6, .inl (gI G, 12, .inl (nA sr)))] H := hP
    have hD : va_D A [(x0, .inr (5, [.ref n0, .ref v0, .ref t0, .ref w0, .ref sb, .ref b0, .ref p0, .ref o0, .ref h0, .ref s0, .ref svd])), (n0, .inr (3, [.int (nI nc), .int (nI nn), .ref n1, .ref n2])), (n1, .inl (gI G, 20, .inl (nA nf))), (n2, .inl (gI G, 20, .inl (nA ng))), (v0, .inr (4, [.int (nI nc), .int (nI nn), .ref v1, .ref v2, .ref v3, .ref v4, .ref v5, .ref v6, .int rs, .int rm, .int rr, .ref v7])), (v1, .inl (gI G, 20, .inl (nA st))), (v2, .inl (gI G, 20, .inl (nA re))), (v3, .inl (gI G, 3, .inl (nA ta))), (v4, .inl (gI G, 12, .inl (nA ss))), (v5, .inl (gI G, 12, .inl (nA su))), (v6, .inl (gI G, 12, .inl (nA sr)))] := hD
    refine zr_lt (tgt := 17) S dX5_answer_12 (by decide) rfl (z_toInt (by omega)) (fun c_12 => ?_) (fun c_12 => ?_)
    · skip
      obtain ⟨a, ha1, ha2, ha3⟩ := z_of (x := x) (by omega)
      have hl : lv_has ls 2 [(0, .ref x0), (1, .int (nI a))] := by rw [ha2] at hl; exact hl
      refine lv_aload_n hx hb dX5_answer_17 rfl (lv_at hl 0 rfl) ?_
      refine z_get S K hP hX5_answer_X5 0 rfl rfl 1 (by decide) kX5_answer_1 rfl rfl dX5_answer_18 ?_
      refine lv_iload_n hx hb dX5_answer_21 rfl (lv_at hl 1 rfl) ?_
      refine zcVi (rest := []) S K hP hD hS hA hl.1 (c_X4_answerAt l G v0 v1 v2 v3 v4 v5 v6 v7 (nI nn) rs rm rr nc ta ss su a hc2 hfr.1 hfr.2 (vi_low hV) hV.2.2.2.2.1 hV.2.2.2.2.2.1 (by omega)) rfl rfl gX5_answer_X4_answerAt rfl eX4_answerAt [4, 7, 8, 9] (by decide +kernel) rfl (fun _ => rfl) 4 4 rfl rfl rfl rfl rfl (Nat.le_of_ble_eq_true rfl) (Nat.le_of_ble_eq_true rfl) (Nat.le_of_ble_eq_true rfl) ⟨Nat.zero_le _, Nat.zero_le _⟩ dX5_answer_22 (fun r_22 u_22 H locs hw_22 hP hD hS => ?_)
      obtain ⟨hP, hD⟩ := mx_ok [none, none, none, none, some 0, none, none, some 1, some 2, some 3, none] (by decide +kernel) rfl rfl hP hD
      obtain ⟨a_22, rfl⟩ : ∃ z, z = u_22 := ⟨_, rfl⟩
      replace hw_22 : r_22 = nI a_22 ∧ AnsOf ss su nc a a_22 := hw_22
      obtain ⟨rfl, hw_22⟩ := hw_22
      have hP : va_P (gD G) vwCl [(x0, .inr (5, [.ref n0, .ref v0, .ref t0, .ref w0, .ref sb, .ref b0, .ref p0, .ref o0, .ref h0, .ref s0, .ref svd])), (n0, .inr (3, [.int (nI nc), .int (nI nn), .ref n1, .ref n2])), (n1, .inl (gI G, 20, .inl (nA nf))), (n2, .inl (gI G, 20, .inl (nA ng))), (v0, .inr (4, [.int (nI nc), .int (nI nn), .ref v1, .ref v2, .ref v3, .ref v4, .ref v5, .ref v6, .int rs, .int rm, .int rr, .ref v7])), (v1, .inl (gI G, 20, .inl (nA st))), (v2, .inl (gI G, 20, .inl (nA re))), (v3, .inl (gI G, 3, .inl (nA ta))), (v4, .inl (gI G, 12, .inl (nA ss))), (v5, .inl (gI G, 12, .inl (nA su))), (v6, .inl (gI G, 12, .inl (nA sr)))] H := hP
      have hD : va_D A [(x0, .inr (5, [.ref n0, .ref v0, .ref t0, .ref w0, .ref sb, .ref b0, .ref p0, .ref o0, .ref h0, .ref s0, .ref svd])), (n0, .inr (3, [.int (nI nc), .int (nI nn), .ref n1, .ref n2])), (n1, .inl (gI G, 20, .inl (nA nf))), (n2, .inl (gI G, 20, .inl (nA ng))), (v0, .inr (4, [.int (nI nc), .int (nI nn), .ref v1, .ref v2, .ref v3, .ref v4, .ref v5, .ref v6, .int rs, .int rm, .int rr, .ref v7])), (v1, .inl (gI G, 20, .inl (nA st))), (v2, .inl (gI G, 20, .inl (nA re))), (v3, .inl (gI G, 3, .inl (nA ta))), (v4, .inl (gI G, 12, .inl (nA ss))), (v5, .inl (gI G, 12, .inl (nA su))), (v6, .inl (gI G, 12, .inl (nA sr)))] := hD
      refine z_top (y := (r_answer (mkR nc nn nf ng) x)) (aw_y (R := mkR nc nn nf ng) ha2 (by omega) hnl (vi_an hV hR (by omega) hw_22)) ?_
      exact z_iret S hrt hlk hP hD hS () rfl rfl dX5_answer_25
    · skip
      refine lv_iconst (v := -1) hx hb dX5_answer_15 (by decide +kernel) ?_
      refine z_top (y := (r_answer (mkR nc nn nf ng) x)) (aw_n (R := mkR nc nn nf ng) (by omega)) ?_
      exact z_iret S hrt hlk hP hD hS () rfl rfl dX5_answer_16
set_option maxHeartbeats 4000000 in
set_option maxRecDepth 100000 in
theorem c_X5_known (l : Launch) (G : gT) (x0 n0 v0 t0 w0 sb b0 p0 o0 h0 s0 svd n1 n2 v1 v2 v3 v4 v5 v6 v7 : Nat) (nc : Nat) (nn : Nat) (nf : Nat → Nat) (ng : Nat → Nat) (rs : Int32) (rm : Int32) (rr : Int32) (st : Nat → Nat) (re : Nat → Nat) (ta : Nat → Nat) (ss : Nat → Nat) (su : Nat → Nat) (sr : Nat → Nat) (x : Int32) (hR : RowOK (mkR nc nn nf ng)) (hV : VI nf ng nn st re ta ss su sr) : CI l yX5_known wsX5_known ({ frames := 2, cells := 0, slots := 0, locals := 44 } : Room) G [.ref x0, .int x] [(x0, .inr (5, [.ref n0, .ref v0, .ref t0, .ref w0, .ref sb, .ref b0, .ref p0, .ref o0, .ref h0, .ref s0, .ref svd])), (n0, .inr (3, [.int (nI nc), .int (nI nn), .ref n1, .ref n2])), (n1, .inl (gI G, 20, .inl (nA nf))), (n2, .inl (gI G, 20, .inl (nA ng))), (v0, .inr (4, [.int (nI nc), .int (nI nn), .ref v1, .ref v2, .ref v3, .ref v4, .ref v5, .ref v6, .int rs, .int rm, .int rr, .ref v7])), (v1, .inl (gI G, 20, .inl (nA st))), (v2, .inl (gI G, 20, .inl (nA re))), (v3, .inl (gI G, 3, .inl (nA ta))), (v4, .inl (gI G, 12, .inl (nA ss))), (v5, .inl (gI G, 12, .inl (nA su))), (v6, .inl (gI G, 12, .inl (nA sr)))] 0 0 (fun (r : Int32) (u : Int32 × Int32 × Int32) => r = (r_known (mkR nc nn nf ng) x)) (fun (u : Int32 × Int32 × Int32) => [(x0, .inr (5, [.ref n0, .ref v0, .ref t0, .ref w0, .ref sb, .ref b0, .ref p0, .ref o0, .ref h0, .ref s0, .ref svd])), (n0, .inr (3, [.int (nI nc), .int (nI nn), .ref n1, .ref n2])), (n1, .inl (gI G, 20, .inl (nA nf))), (n2, .inl (gI G, 20, .inl (nA ng))), (v0, .inr (4, [.int (nI nc), .int (nI nn), .ref v1, .ref v2, .ref v3, .ref v4, .ref v5, .ref v6, .int u.1, .int u.2.1, .int u.2.2, .ref v7])), (v1, .inl (gI G, 20, .inl (nA st))), (v2, .inl (gI G, 20, .inl (nA re))), (v3, .inl (gI G, 3, .inl (nA ta))), (v4, .inl (gI G, 12, .inl (nA ss))), (v5, .inl (gI G, 12, .inl (nA su))), (v6, .inl (gI G, 12, .inl (nA sr)))]) := by
  refine CI.of (cc := cX5_known) (maxL := 2) (ret := (some .int)) (by decide +kernel) rfl (Nat.le_of_ble_eq_true rfl) rfl (fun p e s m args below meth c A S hrt hlk hnm K hA hP hD hS ls hl => ?_)
  have hx := S.1
  have hb := S.2.1
  have hl : lv_has ls 2 [(0, .ref x0), (1, .int x)] := hl
  obtain ⟨hc1, hc2, hn3, hf4, hf5, hg6⟩ := row_use hR
  have hp2 := p12 hc2
  have h1s : 1 <<< nc = 2 ^ nc := Nat.one_shiftLeft nc
  refine lv_aload_n hx hb dX5_known_0 rfl (lv_at hl 0 rfl) ?_
  refine z_get S K hP hX5_known_X5 0 rfl rfl 0 (by decide) kX5_known_1 rfl rfl dX5_known_1 ?_
  refine lv_iload_n hx hb dX5_known_4 rfl (lv_at hl 1 rfl) ?_
  refine zcVi (rest := []) S K hP hD hS hA hl.1 (c_X3_hasSet l G n0 n1 n2 nc nn nf ng x (by first | assumption | omega)) rfl rfl gX5_known_X3_hasSet rfl eX3_hasSet [1, 2, 3] (by decide +kernel) rfl (fun _ => rfl) 3 1 rfl rfl rfl rfl rfl (Nat.le_of_ble_eq_true rfl) (Nat.le_of_ble_eq_true rfl) (Nat.le_of_ble_eq_true rfl) ⟨Nat.zero_le _, Nat.zero_le _⟩ dX5_known_5 (fun r_5 u_5 H locs hw_5 hP hD hS => ?_)
  obtain ⟨hP, hD⟩ := mx_ok [none, some 0, some 1, some 2, none, none, none, none, none, none, none] (by decide +kernel) rfl rfl hP hD
  replace hw_5 : r_5 = nI (bN (decide (0 ≤ x.toInt ∧ x.toInt < ((1 <<< nc : Nat) : Int)))) := hw_5
  obtain rfl := hw_5
  have hP : va_P (gD G) vwCl [(x0, .inr (5, [.ref n0, .ref v0, .ref t0, .ref w0, .ref sb, .ref b0, .ref p0, .ref o0, .ref h0, .ref s0, .ref svd])), (n0, .inr (3, [.int (nI nc), .int (nI nn), .ref n1, .ref n2])), (n1, .inl (gI G, 20, .inl (nA nf))), (n2, .inl (gI G, 20, .inl (nA ng))), (v0, .inr (4, [.int (nI nc), .int (nI nn), .ref v1, .ref v2, .ref v3, .ref v4, .ref v5, .ref v6, .int rs, .int rm, .int rr, .ref v7])), (v1, .inl (gI G, 20, .inl (nA st))), (v2, .inl (gI G, 20, .inl (nA re))), (v3, .inl (gI G, 3, .inl (nA ta))), (v4, .inl (gI G, 12, .inl (nA ss))), (v5, .inl (gI G, 12, .inl (nA su))), (v6, .inl (gI G, 12, .inl (nA sr)))] H := hP
  have hD : va_D A [(x0, .inr (5, [.ref n0, .ref v0, .ref t0, .ref w0, .ref sb, .ref b0, .ref p0, .ref o0, .ref h0, .ref s0, .ref svd])), (n0, .inr (3, [.int (nI nc), .int (nI nn), .ref n1, .ref n2])), (n1, .inl (gI G, 20, .inl (nA nf))), (n2, .inl (gI G, 20, .inl (nA ng))), (v0, .inr (4, [.int (nI nc), .int (nI nn), .ref v1, .ref v2, .ref v3, .ref v4, .ref v5, .ref v6, .int rs, .int rm, .int rr, .ref v7])), (v1, .inl (gI G, 20, .inl (nA st))), (v2, .inl (gI G, 20, .inl (nA re))), (v3, .inl (gI G, 3, .inl (nA ta))), (v4, .inl (gI G, 12, .inl (nA ss))), (v5, .inl (gI G, 12, .inl (nA su))), (v6, .inl (gI G, 12, .inl (nA sr)))] := hD
  refine zf_eq (tgt := 22) S dX5_known_8 (by decide) (bN_31 _) (fun c_8 => ?_) (fun c_8 => ?_)
  · skip
    have c_8 := of_decide_eq_false (bN_eq0 c_8)
    refine lv_bipush (v := -2) hx hb dX5_known_22 (by decide +kernel) ?_
    refine z_top (y := (r_known (mkR nc nn nf ng) x)) (kw_n (R := mkR nc nn nf ng) (by show ¬ (0 ≤ x.toInt ∧ x.toInt < ((2 ^ nc : Nat) : Int)); omega)) ?_
    exact z_iret S hrt hlk hP hD hS (rs, rm, rr) rfl rfl dX5_known_24
  · skip
    have c_8 := of_decide_eq_true (bN_ne0 c_8)
    obtain ⟨a, ha1, ha2, ha3⟩ := z_of (x := x) (by omega)
    have hl : lv_has ls 2 [(0, .ref x0), (1, .int (nI a))] := by rw [ha2] at hl; exact hl
    obtain ⟨q1, q2, q3, hq⟩ : ∃ y1 y2 y3, red ss su sr 12 (a, 0, 0) = (y1, y2, y3) := ⟨_, _, _, rfl⟩
    have hq1 : q1 < 4096 := by have := red_lt (su := su) (sr := sr) hV.2.2.2.2.1 (b := 0) (m0 := 0) (v := a) (by first | omega | exact shl12 (by omega)) 12; rw [hq] at this; exact this
    have hq2 : q2 ≤ 1 := by have := red_le1 (sr := sr) hV.2.2.2.2.2.1 (v := a) (b := 0) (m0 := 0) (by omega) 12; rw [hq] at this; exact this
    refine lv_aload_n hx hb dX5_known_11 rfl (lv_at hl 0 rfl) ?_
    refine z_get S K hP hX5_known_X5 0 rfl rfl 1 (by decide) kX5_known_2 rfl rfl dX5_known_12 ?_
    refine lv_iload_n hx hb dX5_known_15 rfl (lv_at hl 1 rfl) ?_
    refine zcVi (rest := []) S K hP hD hS hA hl.1 (c_X4_sumOf l G v0 v1 v2 v3 v4 v5 v6 v7 (nI nc) (nI nn) rs rm rr ss su sr a q1 q2 q3 (by omega) hV.2.2.2.2.1 hq hq1 hq2) rfl rfl gX5_known_X4_sumOf rfl eX4_sumOf [4, 8, 9, 10] (by decide +kernel) rfl (fun _ => rfl) 4 4 rfl rfl rfl rfl rfl (Nat.le_of_ble_eq_true rfl) (Nat.le_of_ble_eq_true rfl) (Nat.le_of_ble_eq_true rfl) ⟨Nat.zero_le _, Nat.zero_le _⟩ dX5_known_16 (fun r_16 u_16 H locs hw_16 hP hD hS => ?_)
    obtain ⟨hP, hD⟩ := mx_ok [none, none, none, none, some 0, none, none, none, some 1, some 2, some 3] (by decide +kernel) rfl rfl hP hD
    replace hw_16 : r_16 = (if q1 = 0 then nI q2 else -6) := hw_16
    obtain rfl := hw_16
    have hP : va_P (gD G) vwCl [(x0, .inr (5, [.ref n0, .ref v0, .ref t0, .ref w0, .ref sb, .ref b0, .ref p0, .ref o0, .ref h0, .ref s0, .ref svd])), (n0, .inr (3, [.int (nI nc), .int (nI nn), .ref n1, .ref n2])), (n1, .inl (gI G, 20, .inl (nA nf))), (n2, .inl (gI G, 20, .inl (nA ng))), (v0, .inr (4, [.int (nI nc), .int (nI nn), .ref v1, .ref v2, .ref v3, .ref v4, .ref v5, .ref v6, .int (nI q1), .int (nI q2), .int (nI q3), .ref v7])), (v1, .inl (gI G, 20, .inl (nA st))), (v2, .inl (gI G, 20, .inl (nA re))), (v3, .inl (gI G, 3, .inl (nA ta))), (v4, .inl (gI G, 12, .inl (nA ss))), (v5, .inl (gI G, 12, .inl (nA su))), (v6, .inl (gI G, 12, .inl (nA sr)))] H := hP
    have hD : va_D A [(x0, .inr (5, [.ref n0, .ref v0, .ref t0, .ref w0, .ref sb, .ref b0, .ref p0, .ref o0, .ref h0, .ref s0, .ref svd])), (n0, .inr (3, [.int (nI nc), .int (nI nn), .ref n1, .ref n2])), (n1, .inl (gI G, 20, .inl (nA nf))), (n2, .inl (gI G, 20, .inl (nA ng))), (v0, .inr (4, [.int (nI nc), .int (nI nn), .ref v1, .ref v2, .ref v3, .ref v4, .ref v5, .ref v6, .int (nI q1), .int (nI q2), .int (nI q3), .ref v7])), (v1, .inl (gI G, 20, .inl (nA st))), (v2, .inl (gI G, 20, .inl (nA re))), (v3, .inl (gI G, 3, .inl (nA ta))), (v4, .inl (gI G, 12, .inl (nA ss))), (v5, .inl (gI G, 12, .inl (nA su))), (v6, .inl (gI G, 12, .inl (nA sr)))] := hD
    refine lv_goto (tgt := 24) hx hb dX5_known_19 (by decide) ?_
    refine z_top (y := (r_known (mkR nc nn nf ng) x)) (kw_y (R := mkR nc nn nf ng) ha2 (show a < 2 ^ nc by omega) hc2 (vi_kn hV hq)) ?_
    exact z_iret S hrt hlk hP hD hS (nI q1, nI q2, nI q3) rfl rfl dX5_known_24
set_option maxHeartbeats 4000000 in
set_option maxRecDepth 100000 in
theorem c_X5_nearest (l : Launch) (G : gT) (x0 n0 v0 t0 w0 sb b0 p0 o0 h0 s0 svd n1 n2 v1 v2 v3 v4 v5 v6 v7 : Nat) (nc : Nat) (nn : Nat) (nf : Nat → Nat) (ng : Nat → Nat) (rs : Int32) (rm : Int32) (rr : Int32) (st : Nat → Nat) (re : Nat → Nat) (ta : Nat → Nat) (ss : Nat → Nat) (su : Nat → Nat) (sr : Nat → Nat) (ex : Nat → Nat) (x : Int32) (y : Int32) (hR : RowOK (mkR nc nn nf ng)) (hV : VI nf ng nn st re ta ss su sr) : CI l yX5_nearest wsX5_nearest ({ frames := 5, cells := 0, slots := 0, locals := 115 } : Room) G [.ref x0, .int x, .int y] [(x0, .inr (5, [.ref n0, .ref v0, .ref t0, .ref w0, .ref sb, .ref b0, .ref p0, .ref o0, .ref h0, .ref s0, .ref svd])), (n0, .inr (3, [.int (nI nc), .int (nI nn), .ref n1, .ref n2])), (n1, .inl (gI G, 20, .inl (nA nf))), (n2, .inl (gI G, 20, .inl (nA ng))), (v0, .inr (4, [.int (nI nc), .int (nI nn), .ref v1, .ref v2, .ref v3, .ref v4, .ref v5, .ref v6, .int rs, .int rm, .int rr, .ref v7])), (v1, .inl (gI G, 20, .inl (nA st))), (v2, .inl (gI G, 20, .inl (nA re))), (v3, .inl (gI G, 3, .inl (nA ta))), (v4, .inl (gI G, 12, .inl (nA ss))), (v5, .inl (gI G, 12, .inl (nA su))), (v6, .inl (gI G, 12, .inl (nA sr))), (v7, .inl (gI G, 12, .inl (nA ex)))] 0 0 (fun (r : Int32) (u : (Nat → Nat)) => r = (r_nearest (mkR nc nn nf ng) x y)) (fun (u : (Nat → Nat)) => [(x0, .inr (5, [.ref n0, .ref v0, .ref t0, .ref w0, .ref sb, .ref b0, .ref p0, .ref o0, .ref h0, .ref s0, .ref svd])), (n0, .inr (3, [.int (nI nc), .int (nI nn), .ref n1, .ref n2])), (n1, .inl (gI G, 20, .inl (nA nf))), (n2, .inl (gI G, 20, .inl (nA ng))), (v0, .inr (4, [.int (nI nc), .int (nI nn), .ref v1, .ref v2, .ref v3, .ref v4, .ref v5, .ref v6, .int rs, .int rm, .int rr, .ref v7])), (v1, .inl (gI G, 20, .inl (nA st))), (v2, .inl (gI G, 20, .inl (nA re))), (v3, .inl (gI G, 3, .inl (nA ta))), (v4, .inl (gI G, 12, .inl (nA ss))), (v5, .inl (gI G, 12, .inl (nA su))), (v6, .inl (gI G, 12, .inl (nA sr))), (v7, .inl (gI G, 12, .inl (nA u)))]) := by
  refine CI.of (cc := cX5_nearest) (maxL := 4) (ret := (some .int)) (by decide +kernel) rfl (Nat.le_of_ble_eq_true rfl) rfl (fun p e s m args below meth c A S hrt hlk hnm K hA hP hD hS ls hl => ?_)
  have hx := S.1
  have hb := S.2.1
  have hl : lv_has ls 4 [(0, .ref x0), (1, .int x), (2, .int y)] := hl
  obtain ⟨hc1, hc2, hn3, hf4, hf5, hg6⟩ := row_use hR
  have hp2 := p12 hc2
  have h1s : 1 <<< nc = 2 ^ nc := Nat.one_shiftLeft nc
  have hfr := vi_free hV hc2 (fun j hj => (hf4 j hj).2)
  have hna := vi_na (c := nc) hV
  have hnl := na_le hR
  refine lv_aload_n hx hb dX5_nearest_0 rfl (lv_at hl 0 rfl) ?_
  refine z_get S K hP hX5_nearest_X5 0 rfl rfl 0 (by decide) kX5_nearest_1 rfl rfl dX5_nearest_1 ?_
  refine lv_iload_n hx hb dX5_nearest_4 rfl (lv_at hl 1 rfl) ?_
  refine zcVi (rest := []) S K hP hD hS hA hl.1 (c_X3_hasSet l G n0 n1 n2 nc nn nf ng x (by first | assumption | omega)) rfl rfl gX5_nearest_X3_hasSet rfl eX3_hasSet [1, 2, 3] (by decide +kernel) rfl (fun _ => rfl) 3 1 rfl rfl rfl rfl rfl (Nat.le_of_ble_eq_true rfl) (Nat.le_of_ble_eq_true rfl) (Nat.le_of_ble_eq_true rfl) ⟨Nat.zero_le _, Nat.zero_le _⟩ dX5_nearest_5 (fun r_5 u_5 H locs hw_5 hP hD hS => ?_)
  obtain ⟨hP, hD⟩ := mx_ok [none, some 0, some 1, some 2, none, none, none, none, none, none, none, none] (by decide +kernel) rfl rfl hP hD
  replace hw_5 : r_5 = nI (bN (decide (0 ≤ x.toInt ∧ x.toInt < ((1 <<< nc : Nat) : Int)))) := hw_5
  obtain rfl := hw_5
  have hP : va_P (gD G) vwCl [(x0, .inr (5, [.ref n0, .ref v0, .ref t0, .ref w0, .ref sb, .ref b0, .ref p0, .ref o0, .ref h0, .ref s0, .ref svd])), (n0, .inr (3, [.int (nI nc), .int (nI nn), .ref n1, .ref n2])), (n1, .inl (gI G, 20, .inl (nA nf))), (n2, .inl (gI G, 20, .inl (nA ng))), (v0, .inr (4, [.int (nI nc), .int (nI nn), .ref v1, .ref v2, .ref v3, .ref v4, .ref v5, .ref v6, .int rs, .int rm, .int rr, .ref v7])), (v1, .inl (gI G, 20, .inl (nA st))), (v2, .inl (gI G, 20, .inl (nA re))), (v3, .inl (gI G, 3, .inl (nA ta))), (v4, .inl (gI G, 12, .inl (nA ss))), (v5, .inl (gI G, 12, .inl (nA su))), (v6, .inl (gI G, 12, .inl (nA sr))), (v7, .inl (gI G, 12, .inl (nA ex)))] H := hP
  have hD : va_D A [(x0, .inr (5, [.ref n0, .ref v0, .ref t0, .ref w0, .ref sb, .ref b0, .ref p0, .ref o0, .ref h0, .ref s0, .ref svd])), (n0, .inr (3, [.int (nI nc), .int (nI nn), .ref n1, .ref n2])), (n1, .inl (gI G, 20, .inl (nA nf))), (n2, .inl (gI G, 20, .inl (nA ng))), (v0, .inr (4, [.int (nI nc), .int (nI nn), .ref v1, .ref v2, .ref v3, .ref v4, .ref v5, .ref v6, .int rs, .int rm, .int rr, .ref v7])), (v1, .inl (gI G, 20, .inl (nA st))), (v2, .inl (gI G, 20, .inl (nA re))), (v3, .inl (gI G, 3, .inl (nA ta))), (v4, .inl (gI G, 12, .inl (nA ss))), (v5, .inl (gI G, 12, .inl (nA su))), (v6, .inl (gI G, 12, .inl (nA sr))), (v7, .inl (gI G, 12, .inl (nA ex)))] := hD
  refine zf_eq (tgt := 20) S dX5_nearest_8 (by decide) (bN_31 _) (fun c_8 => ?_) (fun c_8 => ?_)
  · skip
    have c_8 := of_decide_eq_false (bN_eq0 c_8)
    refine lv_bipush (v := -2) hx hb dX5_nearest_20 (by decide +kernel) ?_
    refine z_top (y := (r_nearest (mkR nc nn nf ng) x y)) (by first | exact ne_n (R := mkR nc nn nf ng) (by show ¬ (0 ≤ x.toInt ∧ x.toInt < ((2 ^ nc : Nat) : Int)); omega) | exact ne_o (R := mkR nc nn nf ng) (by omega)) ?_
    exact z_iret S hrt hlk hP hD hS ex rfl rfl dX5_nearest_22
  · skip
    have c_8 := of_decide_eq_true (bN_ne0 c_8)
    obtain ⟨a, ha1, ha2, ha3⟩ := z_of (x := x) (by omega)
    have hl : lv_has ls 4 [(0, .ref x0), (1, .int (nI a)), (2, .int y)] := by rw [ha2] at hl; exact hl
    refine lv_iload_n hx hb dX5_nearest_11 rfl (lv_at hl 2 rfl) ?_
    refine zq_lt (tgt := 20) S dX5_nearest_12 (by decide) rfl (fun c_12 => ?_) (fun c_12 => ?_)
    · skip
      refine lv_bipush (v := -2) hx hb dX5_nearest_20 (by decide +kernel) ?_
      refine z_top (y := (r_nearest (mkR nc nn nf ng) x y)) (by first | exact ne_n (R := mkR nc nn nf ng) (by show ¬ (0 ≤ x.toInt ∧ x.toInt < ((2 ^ nc : Nat) : Int)); omega) | exact ne_o (R := mkR nc nn nf ng) (by omega)) ?_
      exact z_iret S hrt hlk hP hD hS ex rfl rfl dX5_nearest_22
    · skip
      refine lv_iload_n hx hb dX5_nearest_15 rfl (lv_at hl 2 rfl) ?_
      refine lv_iconst (v := nI 1) hx hb dX5_nearest_16 (by decide +kernel) ?_
      refine zr_le (tgt := 23) S dX5_nearest_17 (by decide) rfl (z_toInt (by decide)) (fun c_17 => ?_) (fun c_17 => ?_)
      · skip
        refine lv_aload_n hx hb dX5_nearest_23 rfl (lv_at hl 0 rfl) ?_
        refine z_get S K hP hX5_nearest_X5 0 rfl rfl 1 (by decide) kX5_nearest_2 rfl rfl dX5_nearest_24 ?_
        refine lv_iload_n hx hb dX5_nearest_27 rfl (lv_at hl 1 rfl) ?_
        refine zcVi (rest := []) S K hP hD hS hA hl.1 (c_X4_nearestTo l G v0 v1 v2 v3 v4 v5 v6 v7 (nI nn) rs rm rr nc ta ss su ex a hc2 hfr.1 hfr.2 (vi_low hV) hV.2.2.2.2.1 hV.2.2.2.2.2.1 (by omega)) rfl rfl gX5_nearest_X4_nearestTo rfl eX4_nearestTo [4, 7, 8, 9, 11] (by decide +kernel) rfl (fun _ => rfl) 4 4 rfl rfl rfl rfl rfl (Nat.le_of_ble_eq_true rfl) (Nat.le_of_ble_eq_true rfl) (Nat.le_of_ble_eq_true rfl) ⟨Nat.zero_le _, Nat.zero_le _⟩ dX5_nearest_28 (fun r_28 u_28 H locs hw_28 hP hD hS => ?_)
        obtain ⟨hP, hD⟩ := mx_ok [none, none, none, none, some 0, none, none, some 1, some 2, some 3, none, some 4] (by decide +kernel) rfl rfl hP hD
        obtain ⟨ex2_28, a_28⟩ := u_28
        replace hw_28 : r_28 = nI a_28 ∧ (∃ q, q < 2 ^ fr ss nc ∧ AnsOf ss su nc q a_28) ∧ ∀ q b, q < 2 ^ fr ss nc → AnsOf ss su nc q b → pcn (a_28 ^^^ a) < pcn (b ^^^ a) ∨ pcn (a_28 ^^^ a) = pcn (b ^^^ a) ∧ a_28 ≤ b := hw_28
        obtain ⟨rfl, hw_28⟩ := hw_28
        have hP : va_P (gD G) vwCl [(x0, .inr (5, [.ref n0, .ref v0, .ref t0, .ref w0, .ref sb, .ref b0, .ref p0, .ref o0, .ref h0, .ref s0, .ref svd])), (n0, .inr (3, [.int (nI nc), .int (nI nn), .ref n1, .ref n2])), (n1, .inl (gI G, 20, .inl (nA nf))), (n2, .inl (gI G, 20, .inl (nA ng))), (v0, .inr (4, [.int (nI nc), .int (nI nn), .ref v1, .ref v2, .ref v3, .ref v4, .ref v5, .ref v6, .int rs, .int rm, .int rr, .ref v7])), (v1, .inl (gI G, 20, .inl (nA st))), (v2, .inl (gI G, 20, .inl (nA re))), (v3, .inl (gI G, 3, .inl (nA ta))), (v4, .inl (gI G, 12, .inl (nA ss))), (v5, .inl (gI G, 12, .inl (nA su))), (v6, .inl (gI G, 12, .inl (nA sr))), (v7, .inl (gI G, 12, .inl (nA ex2_28)))] H := hP
        have hD : va_D A [(x0, .inr (5, [.ref n0, .ref v0, .ref t0, .ref w0, .ref sb, .ref b0, .ref p0, .ref o0, .ref h0, .ref s0, .ref svd])), (n0, .inr (3, [.int (nI nc), .int (nI nn), .ref n1, .ref n2])), (n1, .inl (gI G, 20, .inl (nA nf))), (n2, .inl (gI G, 20, .inl (nA ng))), (v0, .inr (4, [.int (nI nc), .int (nI nn), .ref v1, .ref v2, .ref v3, .ref v4, .ref v5, .ref v6, .int rs, .int rm, .int rr, .ref v7])), (v1, .inl (gI G, 20, .inl (nA st))), (v2, .inl (gI G, 20, .inl (nA re))), (v3, .inl (gI G, 3, .inl (nA ta))), (v4, .inl (gI G, 12, .inl (nA ss))), (v5, .inl (gI G, 12, .inl (nA su))), (v6, .inl (gI G, 12, .inl (nA sr))), (v7, .inl (gI G, 12, .inl (nA ex2_28)))] := hD
        have hne := vi_ne hV hR hw_28.1 hw_28.2
        have hb31 : a_28 < 4096 := ans_b hc2 hw_28.1
        refine lv_istore_n (lv' := [(3, .int (nI a_28)), (0, .ref x0), (1, .int (nI a)), (2, .int y)]) hx hb dX5_nearest_31 rfl hl (by decide) rfl (fun ls hl => ?_)
        refine lv_iload_n hx hb dX5_nearest_32 rfl (lv_at hl 3 rfl) ?_
        refine zq_ne (tgt := 40) S dX5_nearest_33 (by decide) rfl (fun c_33 => ?_) (fun c_33 => ?_)
        · skip
          refine lv_iload_n hx hb dX5_nearest_40 rfl (lv_at hl 0 rfl) ?_
          refine lv_iload_n hx hb dX5_nearest_41 rfl (lv_at hl 2 rfl) ?_
          refine zi_xor S dX5_nearest_42 ?_
          refine zcSi (rest := []) S K hP hD hS hA hl.1 (c_J6_bitCount_0f7a4 l G (a_28 ^^^ a) (x31 (by omega) (by omega))) rfl rfl gX5_nearest_J6_bitCount_0f7a4 rfl eJ6_bitCount_0f7a4.2 [] (by decide +kernel) rfl (fun _ => rfl) rfl rfl (Nat.le_of_ble_eq_true rfl) (Nat.le_of_ble_eq_true rfl) (Nat.le_of_ble_eq_true rfl) ⟨Nat.zero_le _, Nat.zero_le _⟩ dX5_nearest_43 (fun r_43 u_43 H locs hw_43 hP hD hS => ?_)
          replace hw_43 : r_43 = nI (pcn (a_28 ^^^ a)) := hw_43
          obtain rfl := hw_43
          have hP : va_P (gD G) vwCl [(x0, .inr (5, [.ref n0, .ref v0, .ref t0, .ref w0, .ref sb, .ref b0, .ref p0, .ref o0, .ref h0, .ref s0, .ref svd])), (n0, .inr (3, [.int (nI nc), .int (nI nn), .ref n1, .ref n2])), (n1, .inl (gI G, 20, .inl (nA nf))), (n2, .inl (gI G, 20, .inl (nA ng))), (v0, .inr (4, [.int (nI nc), .int (nI nn), .ref v1, .ref v2, .ref v3, .ref v4, .ref v5, .ref v6, .int rs, .int rm, .int rr, .ref v7])), (v1, .inl (gI G, 20, .inl (nA st))), (v2, .inl (gI G, 20, .inl (nA re))), (v3, .inl (gI G, 3, .inl (nA ta))), (v4, .inl (gI G, 12, .inl (nA ss))), (v5, .inl (gI G, 12, .inl (nA su))), (v6, .inl (gI G, 12, .inl (nA sr))), (v7, .inl (gI G, 12, .inl (nA ex2_28)))] H := hP
          have hD : va_D A [(x0, .inr (5, [.ref n0, .ref v0, .ref t0, .ref w0, .ref sb, .ref b0, .ref p0, .ref o0, .ref h0, .ref s0, .ref svd])), (n0, .inr (3, [.int (nI nc), .int (nI nn), .ref n1, .ref n2])), (n1, .inl (gI G, 20, .inl (nA nf))), (n2, .inl (gI G, 20, .inl (nA ng))), (v0, .inr (4, [.int (nI nc), .int (nI nn), .ref v1, .ref v2, .ref v3, .ref v4, .ref v5, .ref v6, .int rs, .int rm, .int rr, .ref v7])), (v1, .inl (gI G, 20, .inl (nA st))), (v2, .inl (gI G, 20, .inl (nA re))), (v3, .inl (gI G, 3, .inl (nA ta))), (v4, .inl (gI G, 12, .inl (nA ss))), (v5, .inl (gI G, 12, .inl (nA su))), (v6, .inl (gI G, 12, .inl (nA sr))), (v7, .inl (gI G, 12, .inl (nA ex2_28)))] := hD
          refine z_top (y := (r_nearest (mkR nc nn nf ng) x y)) (ne_1 (R := mkR nc nn nf ng) ha2 (show a < 2 ^ nc by omega) hc2 hne (y_1 (by omega))) ?_
          exact z_iret S hrt hlk hP hD hS ex2_28 rfl rfl dX5_nearest_46
        · skip
          refine lv_iload_n hx hb dX5_nearest_36 rfl (lv_at hl 0 rfl) ?_
          refine lv_goto (tgt := 46) hx hb dX5_nearest_37 (by decide) ?_
          refine z_top (y := (r_nearest (mkR nc nn nf ng) x y)) (ne_0 (R := mkR nc nn nf ng) ha2 (show a < 2 ^ nc by omega) hc2 hne (y_0 (by omega))) ?_
          exact z_iret S hrt hlk hP hD hS ex2_28 rfl rfl dX5_nearest_46
      · skip
        refine lv_bipush (v := -2) hx hb dX5_nearest_20 (by decide +kernel) ?_
        refine z_top (y := (r_nearest (mkR nc nn nf ng) x y)) (by first | exact ne_n (R := mkR nc nn nf ng) (by show ¬ (0 ≤ x.toInt ∧ x.toInt < ((2 ^ nc : Nat) : Int)); omega) | exact ne_o (R := mkR nc nn nf ng) (by omega)) ?_
        exact z_iret S hrt hlk hP hD hS ex rfl rfl dX5_nearest_22
set_option maxHeartbeats 4000000 in
set_option maxRecDepth 100000 in
theorem c_X5_best (l : Launch) (G : gT) (x0 n0 v0 t0 w0 sb b0 p0 o0 h0 s0 svd n1 n2 b1 : Nat) (nc : Nat) (nn : Nat) (nf : Nat → Nat) (ng : Nat → Nat) (lo : Int32) (bk : Int32) (ag : Int32) (bx : Nat → Nat) (y : Int32) (hR : RowOK (mkR nc nn nf ng)) : CI l yX5_best wsX5_best ({ frames := 4, cells := 0, slots := 0, locals := 90 } : Room) G [.ref x0, .int y] [(x0, .inr (5, [.ref n0, .ref v0, .ref t0, .ref w0, .ref sb, .ref b0, .ref p0, .ref o0, .ref h0, .ref s0, .ref svd])), (n0, .inr (3, [.int (nI nc), .int (nI nn), .ref n1, .ref n2])), (n1, .inl (gI G, 20, .inl (nA nf))), (n2, .inl (gI G, 20, .inl (nA ng))), (b0, .inr (0, [.int lo, .int bk, .int ag, .ref b1])), (b1, .inl (gI G, 12, .inl (nA bx)))] 0 0 (fun (r : Int32) (u : Int32 × Int32 × Int32 × (Nat → Nat)) => r = (r_best (mkR nc nn nf ng) y)) (fun (u : Int32 × Int32 × Int32 × (Nat → Nat)) => [(x0, .inr (5, [.ref n0, .ref v0, .ref t0, .ref w0, .ref sb, .ref b0, .ref p0, .ref o0, .ref h0, .ref s0, .ref svd])), (n0, .inr (3, [.int (nI nc), .int (nI nn), .ref n1, .ref n2])), (n1, .inl (gI G, 20, .inl (nA nf))), (n2, .inl (gI G, 20, .inl (nA ng))), (b0, .inr (0, [.int u.1, .int u.2.1, .int u.2.2.1, .ref b1])), (b1, .inl (gI G, 12, .inl (nA u.2.2.2)))]) := by
  refine CI.of (cc := cX5_best) (maxL := 2) (ret := (some .int)) (by decide +kernel) rfl (Nat.le_of_ble_eq_true rfl) rfl (fun p e s m args below meth c A S hrt hlk hnm K hA hP hD hS ls hl => ?_)
  have hx := S.1
  have hb := S.2.1
  have hl : lv_has ls 2 [(0, .ref x0), (1, .int y)] := hl
  obtain ⟨hc1, hc2, hn3, hf4, hf5, hg6⟩ := row_use hR
  have hp2 := p12 hc2
  have h1s : 1 <<< nc = 2 ^ nc := Nat.one_shiftLeft nc
  refine lv_iload_n hx hb dX5_best_0 rfl (lv_at hl 1 rfl) ?_
  refine zq_lt (tgt := 9) S dX5_best_1 (by decide) rfl (fun c_1 => ?_) (fun c_1 => ?_)
  · skip
    refine lv_bipush (v := -2) hx hb dX5_best_9 (by decide +kernel) ?_
    refine z_top (y := (r_best (mkR nc nn nf ng) y)) (be_o (R := mkR nc nn nf ng) (by omega)) ?_
    exact z_iret S hrt hlk hP hD hS (lo, bk, ag, bx) rfl rfl dX5_best_11
  · skip
    refine lv_iload_n hx hb dX5_best_4 rfl (lv_at hl 1 rfl) ?_
    refine lv_iconst (v := nI 2) hx hb dX5_best_5 (by decide +kernel) ?_
    refine zr_le (tgt := 12) S dX5_best_6 (by decide) rfl (z_toInt (by decide)) (fun c_6 => ?_) (fun c_6 => ?_)
    · skip
      refine lv_aload_n hx hb dX5_best_12 rfl (lv_at hl 0 rfl) ?_
      refine z_get S K hP hX5_best_X5 0 rfl rfl 5 (by decide) kX5_best_1 rfl rfl dX5_best_13 ?_
      refine lv_aload_n hx hb dX5_best_16 rfl (lv_at hl 0 rfl) ?_
      refine z_get S K hP hX5_best_X5 0 rfl rfl 0 (by decide) kX5_best_2 rfl rfl dX5_best_17 ?_
      refine zcVv (rest := []) S K hP hD hS hA hl.1 (c_X0_find l G b0 b1 n0 n1 n2 lo bk ag bx nc nn nf ng hc2 hn3 hf5 hg6) rfl rfl gX5_best_X0_find rfl eX0_find [4, 5, 1, 2, 3] (by decide +kernel) rfl (fun _ => rfl) 0 4 rfl rfl rfl rfl rfl (Nat.le_of_ble_eq_true rfl) (Nat.le_of_ble_eq_true rfl) (Nat.le_of_ble_eq_true rfl) ⟨Nat.zero_le _, Nat.zero_le _⟩ dX5_best_20 (fun u_20 H locs hw_20 hP hD hS => ?_)
      obtain ⟨hP, hD⟩ := mx_ok [none, some 2, some 3, some 4, some 0, some 1] (by decide +kernel) rfl rfl hP hD
      obtain ⟨lo2_20, bk2_20, ag2_20, ex2_20⟩ := u_20
      replace hw_20 : bF (brF nf ng nn) (1 <<< nc - 1) = (lo2_20, bk2_20, ag2_20) := hw_20
      have hP : va_P (gD G) vwCl [(x0, .inr (5, [.ref n0, .ref v0, .ref t0, .ref w0, .ref sb, .ref b0, .ref p0, .ref o0, .ref h0, .ref s0, .ref svd])), (n0, .inr (3, [.int (nI nc), .int (nI nn), .ref n1, .ref n2])), (n1, .inl (gI G, 20, .inl (nA nf))), (n2, .inl (gI G, 20, .inl (nA ng))), (b0, .inr (0, [.int (nI lo2_20), .int (nI bk2_20), .int (nI ag2_20), .ref b1])), (b1, .inl (gI G, 12, .inl (nA ex2_20)))] H := hP
      have hD : va_D A [(x0, .inr (5, [.ref n0, .ref v0, .ref t0, .ref w0, .ref sb, .ref b0, .ref p0, .ref o0, .ref h0, .ref s0, .ref svd])), (n0, .inr (3, [.int (nI nc), .int (nI nn), .ref n1, .ref n2])), (n1, .inl (gI G, 20, .inl (nA nf))), (n2, .inl (gI G, 20, .inl (nA ng))), (b0, .inr (0, [.int (nI lo2_20), .int (nI bk2_20), .int (nI ag2_20), .ref b1])), (b1, .inl (gI G, 12, .inl (nA ex2_20)))] := hD
      have hbr : brS (mkR nc nn nf ng) = (lo2_20, bk2_20, ag2_20) := by rw [brS_mk, ← h1s]; exact hw_20
      refine lv_iload_n hx hb dX5_best_23 rfl (lv_at hl 1 rfl) ?_
      refine zq_ne (tgt := 35) S dX5_best_24 (by decide) rfl (fun c_24 => ?_) (fun c_24 => ?_)
      · skip
        refine lv_iload_n hx hb dX5_best_35 rfl (lv_at hl 1 rfl) ?_
        refine lv_iconst (v := nI 1) hx hb dX5_best_36 (by decide +kernel) ?_
        refine zr_ne (tgt := 50) S dX5_best_37 (by decide) rfl (z_toInt (by decide)) (fun c_37 => ?_) (fun c_37 => ?_)
        · skip
          refine lv_aload_n hx hb dX5_best_50 rfl (lv_at hl 0 rfl) ?_
          refine z_get S K hP hX5_best_X5 0 rfl rfl 5 (by decide) kX5_best_1 rfl rfl dX5_best_51 ?_
          refine z_get S K hP hX5_best_X0 4 rfl rfl 2 (by decide) kX5_best_5 rfl rfl dX5_best_54 ?_
          refine z_top (y := (r_best (mkR nc nn nf ng) y)) (be_2 hbr (y_2 (by omega))) ?_
          exact z_iret S hrt hlk hP hD hS (nI lo2_20, nI bk2_20, nI ag2_20, ex2_20) rfl rfl dX5_best_57
        · skip
          refine lv_aload_n hx hb dX5_best_40 rfl (lv_at hl 0 rfl) ?_
          refine z_get S K hP hX5_best_X5 0 rfl rfl 5 (by decide) kX5_best_1 rfl rfl dX5_best_41 ?_
          refine z_get S K hP hX5_best_X0 4 rfl rfl 1 (by decide) kX5_best_4 rfl rfl dX5_best_44 ?_
          refine lv_goto (tgt := 57) hx hb dX5_best_47 (by decide) ?_
          refine z_top (y := (r_best (mkR nc nn nf ng) y)) (be_1 hbr (y_1 (by omega))) ?_
          exact z_iret S hrt hlk hP hD hS (nI lo2_20, nI bk2_20, nI ag2_20, ex2_20) rfl rfl dX5_best_57
      · skip
        refine lv_aload_n hx hb dX5_best_27 rfl (lv_at hl 0 rfl) ?_
        refine z_get S K hP hX5_best_X5 0 rfl rfl 5 (by decide) kX5_best_1 rfl rfl dX5_best_28 ?_
        refine z_get S K hP hX5_best_X0 4 rfl rfl 0 (by decide) kX5_best_3 rfl rfl dX5_best_31 ?_
        refine z_top (y := (r_best (mkR nc nn nf ng) y)) (be_0 hbr (y_0 (by omega))) ?_
        exact z_iret S hrt hlk hP hD hS (nI lo2_20, nI bk2_20, nI ag2_20, ex2_20) rfl rfl dX5_best_34
    · skip
      refine lv_bipush (v := -2) hx hb dX5_best_9 (by decide +kernel) ?_
      refine z_top (y := (r_best (mkR nc nn nf ng) y)) (be_o (R := mkR nc nn nf ng) (by omega)) ?_
      exact z_iret S hrt hlk hP hD hS (lo, bk, ag, bx) rfl rfl dX5_best_11
set_option maxHeartbeats 4000000 in
set_option maxRecDepth 100000 in
theorem c_X5_ifDropped (l : Launch) (G : gT) (x0 n0 v0 t0 w0 sb b0 p0 o0 h0 s0 svd n1 n2 t1 t2 w1 w2 w3 w4 w5 w6 w7 : Nat) (nc : Nat) (nn : Nat) (nf : Nat → Nat) (ng : Nat → Nat) (tc : Int32) (tn : Int32) (tf : Nat → Nat) (tg : Nat → Nat) (wc : Int32) (wm : Int32) (i1 : Int32) (i2 : Int32) (i3 : Int32) (j1 : Nat → Nat) (j2 : Nat → Nat) (j3 : Nat → Nat) (j4 : Nat → Nat) (j5 : Nat → Nat) (j6 : Nat → Nat) (x : Int32) (hR : RowOK (mkR nc nn nf ng)) : CI l yX5_ifDropped wsX5_ifDropped ({ frames := 4, cells := 0, slots := 0, locals := 91 } : Room) G [.ref x0, .int x] [(x0, .inr (5, [.ref n0, .ref v0, .ref t0, .ref w0, .ref sb, .ref b0, .ref p0, .ref o0, .ref h0, .ref s0, .ref svd])), (n0, .inr (3, [.int (nI nc), .int (nI nn), .ref n1, .ref n2])), (n1, .inl (gI G, 20, .inl (nA nf))), (n2, .inl (gI G, 20, .inl (nA ng))), (t0, .inr (3, [.int tc, .int tn, .ref t1, .ref t2])), (t1, .inl (gI G, 20, .inl (nA tf))), (t2, .inl (gI G, 20, .inl (nA tg))), (w0, .inr (4, [.int wc, .int wm, .ref w1, .ref w2, .ref w3, .ref w4, .ref w5, .ref w6, .int i1, .int i2, .int i3, .ref w7])), (w1, .inl (gI G, 20, .inl (nA j1))), (w2, .inl (gI G, 20, .inl (nA j2))), (w3, .inl (gI G, 3, .inl (nA j3))), (w4, .inl (gI G, 12, .inl (nA j4))), (w5, .inl (gI G, 12, .inl (nA j5))), (w6, .inl (gI G, 12, .inl (nA j6)))] 0 0 (fun (r : Int32) (u : Int32 × Int32 × (Nat → Nat) × (Nat → Nat) × Int32 × Int32 × Int32 × Int32 × Int32 × (Nat → Nat) × (Nat → Nat) × (Nat → Nat) × (Nat → Nat) × (Nat → Nat) × (Nat → Nat)) => r = (r_ifDropped (mkR nc nn nf ng) x)) (fun (u : Int32 × Int32 × (Nat → Nat) × (Nat → Nat) × Int32 × Int32 × Int32 × Int32 × Int32 × (Nat → Nat) × (Nat → Nat) × (Nat → Nat) × (Nat → Nat) × (Nat → Nat) × (Nat → Nat)) => [(x0, .inr (5, [.ref n0, .ref v0, .ref t0, .ref w0, .ref sb, .ref b0, .ref p0, .ref o0, .ref h0, .ref s0, .ref svd])), (n0, .inr (3, [.int (nI nc), .int (nI nn), .ref n1, .ref n2])), (n1, .inl (gI G, 20, .inl (nA nf))), (n2, .inl (gI G, 20, .inl (nA ng))), (t0, .inr (3, [.int u.1, .int u.2.1, .ref t1, .ref t2])), (t1, .inl (gI G, 20, .inl (nA u.2.2.1))), (t2, .inl (gI G, 20, .inl (nA u.2.2.2.1))), (w0, .inr (4, [.int u.2.2.2.2.1, .int u.2.2.2.2.2.1, .ref w1, .ref w2, .ref w3, .ref w4, .ref w5, .ref w6, .int u.2.2.2.2.2.2.1, .int u.2.2.2.2.2.2.2.1, .int u.2.2.2.2.2.2.2.2.1, .ref w7])), (w1, .inl (gI G, 20, .inl (nA u.2.2.2.2.2.2.2.2.2.1))), (w2, .inl (gI G, 20, .inl (nA u.2.2.2.2.2.2.2.2.2.2.1))), (w3, .inl (gI G, 3, .inl (nA u.2.2.2.2.2.2.2.2.2.2.2.1))), (w4, .inl (gI G, 12, .inl (nA u.2.2.2.2.2.2.2.2.2.2.2.2.1))), (w5, .inl (gI G, 12, .inl (nA u.2.2.2.2.2.2.2.2.2.2.2.2.2.1))), (w6, .inl (gI G, 12, .inl (nA u.2.2.2.2.2.2.2.2.2.2.2.2.2.2)))]) := by
  refine CI.of (cc := cX5_ifDropped) (maxL := 2) (ret := (some .int)) (by decide +kernel) rfl (Nat.le_of_ble_eq_true rfl) rfl (fun p e s m args below meth c A S hrt hlk hnm K hA hP hD hS ls hl => ?_)
  have hx := S.1
  have hb := S.2.1
  have hl : lv_has ls 2 [(0, .ref x0), (1, .int x)] := hl
  obtain ⟨hc1, hc2, hn3, hf4, hf5, hg6⟩ := row_use hR
  have hp2 := p12 hc2
  have h1s : 1 <<< nc = 2 ^ nc := Nat.one_shiftLeft nc
  refine lv_aload_n hx hb dX5_ifDropped_0 rfl (lv_at hl 0 rfl) ?_
  refine z_get S K hP hX5_ifDropped_X5 0 rfl rfl 0 (by decide) kX5_ifDropped_1 rfl rfl dX5_ifDropped_1 ?_
  refine lv_iload_n hx hb dX5_ifDropped_4 rfl (lv_at hl 1 rfl) ?_
  refine zcVi (rest := []) S K hP hD hS hA hl.1 (c_X3_hasPlace l G n0 n1 n2 nc nn nf ng x (by first | assumption | omega)) rfl rfl gX5_ifDropped_X3_hasPlace rfl eX3_hasPlace [1, 2, 3] (by decide +kernel) rfl (fun _ => rfl) 3 1 rfl rfl rfl rfl rfl (Nat.le_of_ble_eq_true rfl) (Nat.le_of_ble_eq_true rfl) (Nat.le_of_ble_eq_true rfl) ⟨Nat.zero_le _, Nat.zero_le _⟩ dX5_ifDropped_5 (fun r_5 u_5 H locs hw_5 hP hD hS => ?_)
  obtain ⟨hP, hD⟩ := mx_ok [none, some 0, some 1, some 2, none, none, none, none, none, none, none, none, none, none] (by decide +kernel) rfl rfl hP hD
  replace hw_5 : r_5 = nI (bN (decide (0 ≤ x.toInt ∧ x.toInt < (nn : Int)))) := hw_5
  obtain rfl := hw_5
  have hP : va_P (gD G) vwCl [(x0, .inr (5, [.ref n0, .ref v0, .ref t0, .ref w0, .ref sb, .ref b0, .ref p0, .ref o0, .ref h0, .ref s0, .ref svd])), (n0, .inr (3, [.int (nI nc), .int (nI nn), .ref n1, .ref n2])), (n1, .inl (gI G, 20, .inl (nA nf))), (n2, .inl (gI G, 20, .inl (nA ng))), (t0, .inr (3, [.int tc, .int tn, .ref t1, .ref t2])), (t1, .inl (gI G, 20, .inl (nA tf))), (t2, .inl (gI G, 20, .inl (nA tg))), (w0, .inr (4, [.int wc, .int wm, .ref w1, .ref w2, .ref w3, .ref w4, .ref w5, .ref w6, .int i1, .int i2, .int i3, .ref w7])), (w1, .inl (gI G, 20, .inl (nA j1))), (w2, .inl (gI G, 20, .inl (nA j2))), (w3, .inl (gI G, 3, .inl (nA j3))), (w4, .inl (gI G, 12, .inl (nA j4))), (w5, .inl (gI G, 12, .inl (nA j5))), (w6, .inl (gI G, 12, .inl (nA j6)))] H := hP
  have hD : va_D A [(x0, .inr (5, [.ref n0, .ref v0, .ref t0, .ref w0, .ref sb, .ref b0, .ref p0, .ref o0, .ref h0, .ref s0, .ref svd])), (n0, .inr (3, [.int (nI nc), .int (nI nn), .ref n1, .ref n2])), (n1, .inl (gI G, 20, .inl (nA nf))), (n2, .inl (gI G, 20, .inl (nA ng))), (t0, .inr (3, [.int tc, .int tn, .ref t1, .ref t2])), (t1, .inl (gI G, 20, .inl (nA tf))), (t2, .inl (gI G, 20, .inl (nA tg))), (w0, .inr (4, [.int wc, .int wm, .ref w1, .ref w2, .ref w3, .ref w4, .ref w5, .ref w6, .int i1, .int i2, .int i3, .ref w7])), (w1, .inl (gI G, 20, .inl (nA j1))), (w2, .inl (gI G, 20, .inl (nA j2))), (w3, .inl (gI G, 3, .inl (nA j3))), (w4, .inl (gI G, 12, .inl (nA j4))), (w5, .inl (gI G, 12, .inl (nA j5))), (w6, .inl (gI G, 12, .inl (nA j6)))] := hD
  refine zf_ne (tgt := 13) S dX5_ifDropped_8 (by decide) (bN_31 _) (fun c_8 => ?_) (fun c_8 => ?_)
  · skip
    have c_8 := of_decide_eq_true (bN_ne0 c_8)
    obtain ⟨i, hi1, hi2, hi3⟩ := z_of (x := x) (by omega)
    have hl : lv_has ls 2 [(0, .ref x0), (1, .int (nI i))] := by rw [hi2] at hl; exact hl
    refine lv_aload_n hx hb dX5_ifDropped_13 rfl (lv_at hl 0 rfl) ?_
    refine z_get S K hP hX5_ifDropped_X5 0 rfl rfl 2 (by decide) kX5_ifDropped_2 rfl rfl dX5_ifDropped_14 ?_
    refine lv_aload_n hx hb dX5_ifDropped_17 rfl (lv_at hl 0 rfl) ?_
    refine z_get S K hP hX5_ifDropped_X5 0 rfl rfl 0 (by decide) kX5_ifDropped_1 rfl rfl dX5_ifDropped_18 ?_
    refine zcVv (rest := []) S K hP hD hS hA hl.1 (c_X3_become l G t0 t1 t2 n0 n1 n2 tc tn (nI nc) (nI nn) tf tg nf ng ) rfl rfl gX5_ifDropped_X3_become rfl eX3_become [4, 5, 6, 1, 2, 3] (by decide +kernel) rfl (fun _ => rfl) 3 4 rfl rfl rfl rfl rfl (Nat.le_of_ble_eq_true rfl) (Nat.le_of_ble_eq_true rfl) (Nat.le_of_ble_eq_true rfl) ⟨Nat.zero_le _, Nat.zero_le _⟩ dX5_ifDropped_21 (fun u_21 H locs hw_21 hP hD hS => ?_)
    obtain ⟨hP, hD⟩ := mx_ok [none, some 3, some 4, some 5, some 0, some 1, some 2, none, none, none, none, none, none, none] (by decide +kernel) rfl rfl hP hD
    have hP : va_P (gD G) vwCl [(x0, .inr (5, [.ref n0, .ref v0, .ref t0, .ref w0, .ref sb, .ref b0, .ref p0, .ref o0, .ref h0, .ref s0, .ref svd])), (n0, .inr (3, [.int (nI nc), .int (nI nn), .ref n1, .ref n2])), (n1, .inl (gI G, 20, .inl (nA nf))), (n2, .inl (gI G, 20, .inl (nA ng))), (t0, .inr (3, [.int (nI nc), .int (nI nn), .ref t1, .ref t2])), (t1, .inl (gI G, 20, .inl (nA nf))), (t2, .inl (gI G, 20, .inl (nA ng))), (w0, .inr (4, [.int wc, .int wm, .ref w1, .ref w2, .ref w3, .ref w4, .ref w5, .ref w6, .int i1, .int i2, .int i3, .ref w7])), (w1, .inl (gI G, 20, .inl (nA j1))), (w2, .inl (gI G, 20, .inl (nA j2))), (w3, .inl (gI G, 3, .inl (nA j3))), (w4, .inl (gI G, 12, .inl (nA j4))), (w5, .inl (gI G, 12, .inl (nA j5))), (w6, .inl (gI G, 12, .inl (nA j6)))] H := hP
    have hD : va_D A [(x0, .inr (5, [.ref n0, .ref v0, .ref t0, .ref w0, .ref sb, .ref b0, .ref p0, .ref o0, .ref h0, .ref s0, .ref svd])), (n0, .inr (3, [.int (nI nc), .int (nI nn), .ref n1, .ref n2])), (n1, .inl (gI G, 20, .inl (nA nf))), (n2, .inl (gI G, 20, .inl (nA ng))), (t0, .inr (3, [.int (nI nc), .int (nI nn), .ref t1, .ref t2])), (t1, .inl (gI G, 20, .inl (nA nf))), (t2, .inl (gI G, 20, .inl (nA ng))), (w0, .inr (4, [.int wc, .int wm, .ref w1, .ref w2, .ref w3, .ref w4, .ref w5, .ref w6, .int i1, .int i2, .int i3, .ref w7])), (w1, .inl (gI G, 20, .inl (nA j1))), (w2, .inl (gI G, 20, .inl (nA j2))), (w3, .inl (gI G, 3, .inl (nA j3))), (w4, .inl (gI G, 12, .inl (nA j4))), (w5, .inl (gI G, 12, .inl (nA j5))), (w6, .inl (gI G, 12, .inl (nA j6)))] := hD
    refine lv_aload_n hx hb dX5_ifDropped_24 rfl (lv_at hl 0 rfl) ?_
    refine z_get S K hP hX5_ifDropped_X5 0 rfl rfl 2 (by decide) kX5_ifDropped_2 rfl rfl dX5_ifDropped_25 ?_
    refine lv_iload_n hx hb dX5_ifDropped_28 rfl (lv_at hl 1 rfl) ?_
    refine zcVv (rest := []) S K hP hD hS hA hl.1 (c_X3_takeOut l G t0 t1 t2 nc nn nf ng i (by omega) (by first | assumption | omega)) rfl rfl gX5_ifDropped_X3_takeOut rfl eX3_takeOut [4, 5, 6] (by decide +kernel) rfl (fun _ => rfl) 3 4 rfl rfl rfl rfl rfl (Nat.le_of_ble_eq_true rfl) (Nat.le_of_ble_eq_true rfl) (Nat.le_of_ble_eq_true rfl) ⟨Nat.zero_le _, Nat.zero_le _⟩ dX5_ifDropped_29 (fun u_29 H locs hw_29 hP hD hS => ?_)
    obtain ⟨hP, hD⟩ := mx_ok [none, none, none, none, some 0, some 1, some 2, none, none, none, none, none, none, none] (by decide +kernel) rfl rfl hP hD
    obtain ⟨f2_29, g2_29⟩ := u_29
    replace hw_29 : (∀ j, f2_29 j = carF nf i (nn - 1) j) ∧ ∀ j, g2_29 j = carF ng i (nn - 1) j := hw_29
    have hP : va_P (gD G) vwCl [(x0, .inr (5, [.ref n0, .ref v0, .ref t0, .ref w0, .ref sb, .ref b0, .ref p0, .ref o0, .ref h0, .ref s0, .ref svd])), (n0, .inr (3, [.int (nI nc), .int (nI nn), .ref n1, .ref n2])), (n1, .inl (gI G, 20, .inl (nA nf))), (n2, .inl (gI G, 20, .inl (nA ng))), (t0, .inr (3, [.int (nI nc), .int (nI (nn - 1)), .ref t1, .ref t2])), (t1, .inl (gI G, 20, .inl (nA f2_29))), (t2, .inl (gI G, 20, .inl (nA g2_29))), (w0, .inr (4, [.int wc, .int wm, .ref w1, .ref w2, .ref w3, .ref w4, .ref w5, .ref w6, .int i1, .int i2, .int i3, .ref w7])), (w1, .inl (gI G, 20, .inl (nA j1))), (w2, .inl (gI G, 20, .inl (nA j2))), (w3, .inl (gI G, 3, .inl (nA j3))), (w4, .inl (gI G, 12, .inl (nA j4))), (w5, .inl (gI G, 12, .inl (nA j5))), (w6, .inl (gI G, 12, .inl (nA j6)))] H := hP
    have hD : va_D A [(x0, .inr (5, [.ref n0, .ref v0, .ref t0, .ref w0, .ref sb, .ref b0, .ref p0, .ref o0, .ref h0, .ref s0, .ref svd])), (n0, .inr (3, [.int (nI nc), .int (nI nn), .ref n1, .ref n2])), (n1, .inl (gI G, 20, .inl (nA nf))), (n2, .inl (gI G, 20, .inl (nA ng))), (t0, .inr (3, [.int (nI nc), .int (nI (nn - 1)), .ref t1, .ref t2])), (t1, .inl (gI G, 20, .inl (nA f2_29))), (t2, .inl (gI G, 20, .inl (nA g2_29))), (w0, .inr (4, [.int wc, .int wm, .ref w1, .ref w2, .ref w3, .ref w4, .ref w5, .ref w6, .int i1, .int i2, .int i3, .ref w7])), (w1, .inl (gI G, 20, .inl (nA j1))), (w2, .inl (gI G, 20, .inl (nA j2))), (w3, .inl (gI G, 3, .inl (nA j3))), (w4, .inl (gI G, 12, .inl (nA j4))), (w5, .inl (gI G, 12, .inl (nA j5))), (w6, .inl (gI G, 12, .inl (nA j6)))] := hD
    refine lv_aload_n hx hb dX5_ifDropped_32 rfl (lv_at hl 0 rfl) ?_
    refine z_get S K hP hX5_ifDropped_X5 0 rfl rfl 3 (by decide) kX5_ifDropped_3 rfl rfl dX5_ifDropped_33 ?_
    refine lv_aload_n hx hb dX5_ifDropped_36 rfl (lv_at hl 0 rfl) ?_
    refine z_get S K hP hX5_ifDropped_X5 0 rfl rfl 2 (by decide) kX5_ifDropped_2 rfl rfl dX5_ifDropped_37 ?_
    refine zcVv (rest := []) S K hP hD hS hA hl.1 (c_X4_judge l G w0 w1 w2 w3 w4 w5 w6 w7 t0 t1 t2 wc wm i1 i2 i3 nc (nn - 1) f2_29 g2_29 j1 j2 j3 j4 j5 j6 (by omega) (fun j hj => by rw [hw_29.1]; exact car_p (P := fun v => v < 4096) hf5 (by omega) (by omega) (by omega)) (fun j hj => by rw [hw_29.2]; exact car_p (P := fun v => v ≤ 1) hg6 (by omega) (by omega) (by omega))) rfl rfl gX5_ifDropped_X4_judge rfl eX4_judge [7, 8, 9, 10, 11, 12, 13, 4, 5, 6] (by decide +kernel) rfl (fun _ => rfl) 4 7 rfl rfl rfl rfl rfl (Nat.le_of_ble_eq_true rfl) (Nat.le_of_ble_eq_true rfl) (Nat.le_of_ble_eq_true rfl) ⟨Nat.zero_le _, Nat.zero_le _⟩ dX5_ifDropped_40 (fun u_40 H locs hw_40 hP hD hS => ?_)
    obtain ⟨hP, hD⟩ := mx_ok [none, none, none, none, some 7, some 8, some 9, some 0, some 1, some 2, some 3, some 4, some 5, some 6] (by decide +kernel) rfl rfl hP hD
    obtain ⟨rs2_40, rm2_40, rr2_40, st2_40, re2_40, ta2_40, ss2_40, su2_40, sr2_40⟩ := u_40
    replace hw_40 : VI f2_29 g2_29 (nn - 1) st2_40 re2_40 ta2_40 ss2_40 su2_40 sr2_40 := hw_40
    have hP : va_P (gD G) vwCl [(x0, .inr (5, [.ref n0, .ref v0, .ref t0, .ref w0, .ref sb, .ref b0, .ref p0, .ref o0, .ref h0, .ref s0, .ref svd])), (n0, .inr (3, [.int (nI nc), .int (nI nn), .ref n1, .ref n2])), (n1, .inl (gI G, 20, .inl (nA nf))), (n2, .inl (gI G, 20, .inl (nA ng))), (t0, .inr (3, [.int (nI nc), .int (nI (nn - 1)), .ref t1, .ref t2])), (t1, .inl (gI G, 20, .inl (nA f2_29))), (t2, .inl (gI G, 20, .inl (nA g2_29))), (w0, .inr (4, [.int (nI nc), .int (nI (nn - 1)), .ref w1, .ref w2, .ref w3, .ref w4, .ref w5, .ref w6, .int rs2_40, .int rm2_40, .int rr2_40, .ref w7])), (w1, .inl (gI G, 20, .inl (nA st2_40))), (w2, .inl (gI G, 20, .inl (nA re2_40))), (w3, .inl (gI G, 3, .inl (nA ta2_40))), (w4, .inl (gI G, 12, .inl (nA ss2_40))), (w5, .inl (gI G, 12, .inl (nA su2_40))), (w6, .inl (gI G, 12, .inl (nA sr2_40)))] H := hP
    have hD : va_D A [(x0, .inr (5, [.ref n0, .ref v0, .ref t0, .ref w0, .ref sb, .ref b0, .ref p0, .ref o0, .ref h0, .ref s0, .ref svd])), (n0, .inr (3, [.int (nI nc), .int (nI nn), .ref n1, .ref n2])), (n1, .inl (gI G, 20, .inl (nA nf))), (n2, .inl (gI G, 20, .inl (nA ng))), (t0, .inr (3, [.int (nI nc), .int (nI (nn - 1)), .ref t1, .ref t2])), (t1, .inl (gI G, 20, .inl (nA f2_29))), (t2, .inl (gI G, 20, .inl (nA g2_29))), (w0, .inr (4, [.int (nI nc), .int (nI (nn - 1)), .ref w1, .ref w2, .ref w3, .ref w4, .ref w5, .ref w6, .int rs2_40, .int rm2_40, .int rr2_40, .ref w7])), (w1, .inl (gI G, 20, .inl (nA st2_40))), (w2, .inl (gI G, 20, .inl (nA re2_40))), (w3, .inl (gI G, 3, .inl (nA ta2_40))), (w4, .inl (gI G, 12, .inl (nA ss2_40))), (w5, .inl (gI G, 12, .inl (nA su2_40))), (w6, .inl (gI G, 12, .inl (nA sr2_40)))] := hD
    have hR2 : RowOK (mkR nc (nn - 1) f2_29 g2_29) := by rw [mkR_eq (fun j _ => hw_29.1 j) (fun j _ => hw_29.2 j), ← dr_mk (c := nc) (f := nf) (g := ng) (show i < nn by omega)]; exact dr_ok hR (show i < nn by omega)
    have hfr := vi_free hw_40 hc2 (fun j hj => ((row_use hR2).2.2.2.1 j hj).2)
    refine lv_aload_n hx hb dX5_ifDropped_43 rfl (lv_at hl 0 rfl) ?_
    refine z_get S K hP hX5_ifDropped_X5 0 rfl rfl 3 (by decide) kX5_ifDropped_3 rfl rfl dX5_ifDropped_44 ?_
    refine zcVi (rest := []) S K hP hD hS hA hl.1 (c_X4_answers l G w0 w1 w2 w3 w4 w5 w6 w7 (nI (nn - 1)) rs2_40 rm2_40 rr2_40 nc ta2_40 hc2 hfr.1) rfl rfl gX5_ifDropped_X4_answers rfl eX4_answers [7, 10] (by decide +kernel) rfl (fun _ => rfl) 4 7 rfl rfl rfl rfl rfl (Nat.le_of_ble_eq_true rfl) (Nat.le_of_ble_eq_true rfl) (Nat.le_of_ble_eq_true rfl) ⟨Nat.zero_le _, Nat.zero_le _⟩ dX5_ifDropped_47 (fun r_47 u_47 H locs hw_47 hP hD hS => ?_)
    obtain ⟨hP, hD⟩ := mx_ok [none, none, none, none, none, none, none, some 0, none, none, some 1, none, none, none] (by decide +kernel) rfl rfl hP hD
    replace hw_47 : r_47 = nI (1 <<< (nc - ta2_40 0)) := hw_47
    obtain rfl := hw_47
    have hP : va_P (gD G) vwCl [(x0, .inr (5, [.ref n0, .ref v0, .ref t0, .ref w0, .ref sb, .ref b0, .ref p0, .ref o0, .ref h0, .ref s0, .ref svd])), (n0, .inr (3, [.int (nI nc), .int (nI nn), .ref n1, .ref n2])), (n1, .inl (gI G, 20, .inl (nA nf))), (n2, .inl (gI G, 20, .inl (nA ng))), (t0, .inr (3, [.int (nI nc), .int (nI (nn - 1)), .ref t1, .ref t2])), (t1, .inl (gI G, 20, .inl (nA f2_29))), (t2, .inl (gI G, 20, .inl (nA g2_29))), (w0, .inr (4, [.int (nI nc), .int (nI (nn - 1)), .ref w1, .ref w2, .ref w3, .ref w4, .ref w5, .ref w6, .int rs2_40, .int rm2_40, .int rr2_40, .ref w7])), (w1, .inl (gI G, 20, .inl (nA st2_40))), (w2, .inl (gI G, 20, .inl (nA re2_40))), (w3, .inl (gI G, 3, .inl (nA ta2_40))), (w4, .inl (gI G, 12, .inl (nA ss2_40))), (w5, .inl (gI G, 12, .inl (nA su2_40))), (w6, .inl (gI G, 12, .inl (nA sr2_40)))] H := hP
    have hD : va_D A [(x0, .inr (5, [.ref n0, .ref v0, .ref t0, .ref w0, .ref sb, .ref b0, .ref p0, .ref o0, .ref h0, .ref s0, .ref svd])), (n0, .inr (3, [.int (nI nc), .int (nI nn), .ref n1, .ref n2])), (n1, .inl (gI G, 20, .inl (nA nf))), (n2, .inl (gI G, 20, .inl (nA ng))), (t0, .inr (3, [.int (nI nc), .int (nI (nn - 1)), .ref t1, .ref t2])), (t1, .inl (gI G, 20, .inl (nA f2_29))), (t2, .inl (gI G, 20, .inl (nA g2_29))), (w0, .inr (4, [.int (nI nc), .int (nI (nn - 1)), .ref w1, .ref w2, .ref w3, .ref w4, .ref w5, .ref w6, .int rs2_40, .int rm2_40, .int rr2_40, .ref w7])), (w1, .inl (gI G, 20, .inl (nA st2_40))), (w2, .inl (gI G, 20, .inl (nA re2_40))), (w3, .inl (gI G, 3, .inl (nA ta2_40))), (w4, .inl (gI G, 12, .inl (nA ss2_40))), (w5, .inl (gI G, 12, .inl (nA su2_40))), (w6, .inl (gI G, 12, .inl (nA sr2_40)))] := hD
    refine z_top (y := (r_ifDropped (mkR nc nn nf ng) x)) (id_1 (n := nn) hi2 (by omega) hn3 (fun j _ => hw_29.1 j) (fun j _ => hw_29.2 j) (vi_na (c := nc) hw_40)) ?_
    exact z_iret S hrt hlk hP hD hS (nI nc, nI (nn - 1), f2_29, g2_29, nI nc, nI (nn - 1), rs2_40, rm2_40, rr2_40, st2_40, re2_40, ta2_40, ss2_40, su2_40, sr2_40) rfl rfl dX5_ifDropped_50
  · skip
    have c_8 := of_decide_eq_false (bN_eq0 c_8)
    refine lv_iconst (v := -1) hx hb dX5_ifDropped_11 (by decide +kernel) ?_
    refine z_top (y := (r_ifDropped (mkR nc nn nf ng) x)) (id_0 (R := mkR nc nn nf ng) c_8) ?_
    exact z_iret S hrt hlk hP hD hS (tc, tn, tf, tg, wc, wm, i1, i2, i3, j1, j2, j3, j4, j5, j6) rfl rfl dX5_ifDropped_12
set_option maxHeartbeats 4000000 in
set_option maxRecDepth 100000 in
theorem c_X5_ifMoved (l : Launch) (G : gT) (x0 n0 v0 t0 w0 sb b0 p0 o0 h0 s0 svd n1 n2 t1 t2 w1 w2 w3 w4 w5 w6 w7 : Nat) (nc : Nat) (nn : Nat) (nf : Nat → Nat) (ng : Nat → Nat) (tc : Int32) (tn : Int32) (tf : Nat → Nat) (tg : Nat → Nat) (wc : Int32) (wm : Int32) (i1 : Int32) (i2 : Int32) (i3 : Int32) (j1 : Nat → Nat) (j2 : Nat → Nat) (j3 : Nat → Nat) (j4 : Nat → Nat) (j5 : Nat → Nat) (j6 : Nat → Nat) (x : Int32) (y : Int32) (hR : RowOK (mkR nc nn nf ng)) : CI l yX5_ifMoved wsX5_ifMoved ({ frames := 4, cells := 0, slots := 0, locals := 91 } : Room) G [.ref x0, .int x, .int y] [(x0, .inr (5, [.ref n0, .ref v0, .ref t0, .ref w0, .ref sb, .ref b0, .ref p0, .ref o0, .ref h0, .ref s0, .ref svd])), (n0, .inr (3, [.int (nI nc), .int (nI nn), .ref n1, .ref n2])), (n1, .inl (gI G, 20, .inl (nA nf))), (n2, .inl (gI G, 20, .inl (nA ng))), (t0, .inr (3, [.int tc, .int tn, .ref t1, .ref t2])), (t1, .inl (gI G, 20, .inl (nA tf))), (t2, .inl (gI G, 20, .inl (nA tg))), (w0, .inr (4, [.int wc, .int wm, .ref w1, .ref w2, .ref w3, .ref w4, .ref w5, .ref w6, .int i1, .int i2, .int i3, .ref w7])), (w1, .inl (gI G, 20, .inl (nA j1))), (w2, .inl (gI G, 20, .inl (nA j2))), (w3, .inl (gI G, 3, .inl (nA j3))), (w4, .inl (gI G, 12, .inl (nA j4))), (w5, .inl (gI G, 12, .inl (nA j5))), (w6, .inl (gI G, 12, .inl (nA j6)))] 0 0 (fun (r : Int32) (u : Int32 × Int32 × (Nat → Nat) × (Nat → Nat) × Int32 × Int32 × Int32 × Int32 × Int32 × (Nat → Nat) × (Nat → Nat) × (Nat → Nat) × (Nat → Nat) × (Nat → Nat) × (Nat → Nat)) => r = (r_ifMoved (mkR nc nn nf ng) x y)) (fun (u : Int32 × Int32 × (Nat → Nat) × (Nat → Nat) × Int32 × Int32 × Int32 × Int32 × Int32 × (Nat → Nat) × (Nat → Nat) × (Nat → Nat) × (Nat → Nat) × (Nat → Nat) × (Nat → Nat)) => [(x0, .inr (5, [.ref n0, .ref v0, .ref t0, .ref w0, .ref sb, .ref b0, .ref p0, .ref o0, .ref h0, .ref s0, .ref svd])), (n0, .inr (3, [.int (nI nc), .int (nI nn), .ref n1, .ref n2])), (n1, .inl (gI G, 20, .inl (nA nf))), (n2, .inl (gI G, 20, .inl (nA ng))), (t0, .inr (3, [.int u.1, .int u.2.1, .ref t1, .ref t2])), (t1, .inl (gI G, 20, .inl (nA u.2.2.1))), (t2, .inl (gI G, 20, .inl (nA u.2.2.2.1))), (w0, .inr (4, [.int u.2.2.2.2.1, .int u.2.2.2.2.2.1, .ref w1, .ref w2, .ref w3, .ref w4, .ref w5, .ref w6, .int u.2.2.2.2.2.2.1, .int u.2.2.2.2.2.2.2.1, .int u.2.2.2.2.2.2.2.2.1, .ref w7])), (w1, .inl (gI G, 20, .inl (nA u.2.2.2.2.2.2.2.2.2.1))), (w2, .inl (gI G, 20, .inl (nA u.2.2.2.2.2.2.2.2.2.2.1))), (w3, .inl (gI G, 3, .inl (nA u.2.2.2.2.2.2.2.2.2.2.2.1))), (w4, .inl (gI G, 12, .inl (nA u.2.2.2.2.2.2.2.2.2.2.2.2.1))), (w5, .inl (gI G, 12, .inl (nA u.2.2.2.2.2.2.2.2.2.2.2.2.2.1))), (w6, .inl (gI G, 12, .inl (nA u.2.2.2.2.2.2.2.2.2.2.2.2.2.2)))]) := by
  refine CI.of (cc := cX5_ifMoved) (maxL := 3) (ret := (some .int)) (by decide +kernel) rfl (Nat.le_of_ble_eq_true rfl) rfl (fun p e s m args below meth c A S hrt hlk hnm K hA hP hD hS ls hl => ?_)
  have hx := S.1
  have hb := S.2.1
  have hl : lv_has ls 3 [(0, .ref x0), (1, .int x), (2, .int y)] := hl
  obtain ⟨hc1, hc2, hn3, hf4, hf5, hg6⟩ := row_use hR
  have hp2 := p12 hc2
  have h1s : 1 <<< nc = 2 ^ nc := Nat.one_shiftLeft nc
  refine lv_aload_n hx hb dX5_ifMoved_0 rfl (lv_at hl 0 rfl) ?_
  refine z_get S K hP hX5_ifMoved_X5 0 rfl rfl 0 (by decide) kX5_ifMoved_1 rfl rfl dX5_ifMoved_1 ?_
  refine lv_iload_n hx hb dX5_ifMoved_4 rfl (lv_at hl 1 rfl) ?_
  refine zcVi (rest := []) S K hP hD hS hA hl.1 (c_X3_hasPlace l G n0 n1 n2 nc nn nf ng x (by first | assumption | omega)) rfl rfl gX5_ifMoved_X3_hasPlace rfl eX3_hasPlace [1, 2, 3] (by decide +kernel) rfl (fun _ => rfl) 3 1 rfl rfl rfl rfl rfl (Nat.le_of_ble_eq_true rfl) (Nat.le_of_ble_eq_true rfl) (Nat.le_of_ble_eq_true rfl) ⟨Nat.zero_le _, Nat.zero_le _⟩ dX5_ifMoved_5 (fun r_5 u_5 H locs hw_5 hP hD hS => ?_)
  obtain ⟨hP, hD⟩ := mx_ok [none, some 0, some 1, some 2, none, none, none, none, none, none, none, none, none, none] (by decide +kernel) rfl rfl hP hD
  replace hw_5 : r_5 = nI (bN (decide (0 ≤ x.toInt ∧ x.toInt < (nn : Int)))) := hw_5
  obtain rfl := hw_5
  have hP : va_P (gD G) vwCl [(x0, .inr (5, [.ref n0, .ref v0, .ref t0, .ref w0, .ref sb, .ref b0, .ref p0, .ref o0, .ref h0, .ref s0, .ref svd])), (n0, .inr (3, [.int (nI nc), .int (nI nn), .ref n1, .ref n2])), (n1, .inl (gI G, 20, .inl (nA nf))), (n2, .inl (gI G, 20, .inl (nA ng))), (t0, .inr (3, [.int tc, .int tn, .ref t1, .ref t2])), (t1, .inl (gI G, 20, .inl (nA tf))), (t2, .inl (gI G, 20, .inl (nA tg))), (w0, .inr (4, [.int wc, .int wm, .ref w1, .ref w2, .ref w3, .ref w4, .ref w5, .ref w6, .int i1, .int i2, .int i3, .ref w7])), (w1, .inl (gI G, 20, .inl (nA j1))), (w2, .inl (gI G, 20, .inl (nA j2))), (w3, .inl (gI G, 3, .inl (nA j3))), (w4, .inl (gI G, 12, .inl (nA j4))), (w5, .inl (gI G, 12, .inl (nA j5))), (w6, .inl (gI G, 12, .inl (nA j6)))] H := hP
  have hD : va_D A [(x0, .inr (5, [.ref n0, .ref v0, .ref t0, .ref w0, .ref sb, .ref b0, .ref p0, .ref o0, .ref h0, .ref s0, .ref svd])), (n0, .inr (3, [.int (nI nc), .int (nI nn), .ref n1, .ref n2])), (n1, .inl (gI G, 20, .inl (nA nf))), (n2, .inl (gI G, 20, .inl (nA ng))), (t0, .inr (3, [.int tc, .int tn, .ref t1, .ref t2])), (t1, .inl (gI G, 20, .inl (nA tf))), (t2, .inl (gI G, 20, .inl (nA tg))), (w0, .inr (4, [.int wc, .int wm, .ref w1, .ref w2, .ref w3, .ref w4, .ref w5, .ref w6, .int i1, .int i2, .int i3, .ref w7])), (w1, .inl (gI G, 20, .inl (nA j1))), (w2, .inl (gI G, 20, .inl (nA j2))), (w3, .inl (gI G, 3, .inl (nA j3))), (w4, .inl (gI G, 12, .inl (nA j4))), (w5, .inl (gI G, 12, .inl (nA j5))), (w6, .inl (gI G, 12, .inl (nA j6)))] := hD
  refine zf_eq (tgt := 22) S dX5_ifMoved_8 (by decide) (bN_31 _) (fun c_8 => ?_) (fun c_8 => ?_)
  · skip
    have c_8 := of_decide_eq_false (bN_eq0 c_8)
    refine lv_iconst (v := -1) hx hb dX5_ifMoved_22 (by decide +kernel) ?_
    refine z_top (y := (r_ifMoved (mkR nc nn nf ng) x y)) (im_0 (R := mkR nc nn nf ng) (by first | exact Or.inl c_8 | exact Or.inr c_19)) ?_
    exact z_iret S hrt hlk hP hD hS (tc, tn, tf, tg, wc, wm, i1, i2, i3, j1, j2, j3, j4, j5, j6) rfl rfl dX5_ifMoved_23
  · skip
    have c_8 := of_decide_eq_true (bN_ne0 c_8)
    obtain ⟨i, hi1, hi2, hi3⟩ := z_of (x := x) (by omega)
    have hl : lv_has ls 3 [(0, .ref x0), (1, .int (nI i)), (2, .int y)] := by rw [hi2] at hl; exact hl
    refine lv_aload_n hx hb dX5_ifMoved_11 rfl (lv_at hl 0 rfl) ?_
    refine z_get S K hP hX5_ifMoved_X5 0 rfl rfl 0 (by decide) kX5_ifMoved_1 rfl rfl dX5_ifMoved_12 ?_
    refine lv_iload_n hx hb dX5_ifMoved_15 rfl (lv_at hl 2 rfl) ?_
    refine zcVi (rest := []) S K hP hD hS hA hl.1 (c_X3_hasPlace l G n0 n1 n2 nc nn nf ng y (by first | assumption | omega)) rfl rfl gX5_ifMoved_X3_hasPlace rfl eX3_hasPlace [1, 2, 3] (by decide +kernel) rfl (fun _ => rfl) 3 1 rfl rfl rfl rfl rfl (Nat.le_of_ble_eq_true rfl) (Nat.le_of_ble_eq_true rfl) (Nat.le_of_ble_eq_true rfl) ⟨Nat.zero_le _, Nat.zero_le _⟩ dX5_ifMoved_16 (fun r_16 u_16 H locs hw_16 hP hD hS => ?_)
    obtain ⟨hP, hD⟩ := mx_ok [none, some 0, some 1, some 2, none, none, none, none, none, none, none, none, none, none] (by decide +kernel) rfl rfl hP hD
    replace hw_16 : r_16 = nI (bN (decide (0 ≤ y.toInt ∧ y.toInt < (nn : Int)))) := hw_16
    obtain rfl := hw_16
    have hP : va_P (gD G) vwCl [(x0, .inr (5, [.ref n0, .ref v0, .ref t0, .ref w0, .ref sb, .ref b0, .ref p0, .ref o0, .ref h0, .ref s0, .ref svd])), (n0, .inr (3, [.int (nI nc), .int (nI nn), .ref n1, .ref n2])), (n1, .inl (gI G, 20, .inl (nA nf))), (n2, .inl (gI G, 20, .inl (nA ng))), (t0, .inr (3, [.int tc, .int tn, .ref t1, .ref t2])), (t1, .inl (gI G, 20, .inl (nA tf))), (t2, .inl (gI G, 20, .inl (nA tg))), (w0, .inr (4, [.int wc, .int wm, .ref w1, .ref w2, .ref w3, .ref w4, .ref w5, .ref w6, .int i1, .int i2, .int i3, .ref w7])), (w1, .inl (gI G, 20, .inl (nA j1))), (w2, .inl (gI G, 20, .inl (nA j2))), (w3, .inl (gI G, 3, .inl (nA j3))), (w4, .inl (gI G, 12, .inl (nA j4))), (w5, .inl (gI G, 12, .inl (nA j5))), (w6, .inl (gI G, 12, .inl (nA j6)))] H := hP
    have hD : va_D A [(x0, .inr (5, [.ref n0, .ref v0, .ref t0, .ref w0, .ref sb, .ref b0, .ref p0, .ref o0, .ref h0, .ref s0, .ref svd])), (n0, .inr (3, [.int (nI nc), .int (nI nn), .ref n1, .ref n2])), (n1, .inl (gI G, 20, .inl (nA nf))), (n2, .inl (gI G, 20, .inl (nA ng))), (t0, .inr (3, [.int tc, .int tn, .ref t1, .ref t2])), (t1, .inl (gI G, 20, .inl (nA tf))), (t2, .inl (gI G, 20, .inl (nA tg))), (w0, .inr (4, [.int wc, .int wm, .ref w1, .ref w2, .ref w3, .ref w4, .ref w5, .ref w6, .int i1, .int i2, .int i3, .ref w7])), (w1, .inl (gI G, 20, .inl (nA j1))), (w2, .inl (gI G, 20, .inl (nA j2))), (w3, .inl (gI G, 3, .inl (nA j3))), (w4, .inl (gI G, 12, .inl (nA j4))), (w5, .inl (gI G, 12, .inl (nA j5))), (w6, .inl (gI G, 12, .inl (nA j6)))] := hD
    refine zf_ne (tgt := 24) S dX5_ifMoved_19 (by decide) (bN_31 _) (fun c_19 => ?_) (fun c_19 => ?_)
    · skip
      have c_19 := of_decide_eq_true (bN_ne0 c_19)
      obtain ⟨k, hk1, hk2, hk3⟩ := z_of (x := y) (by omega)
      have hl : lv_has ls 3 [(0, .ref x0), (1, .int (nI i)), (2, .int (nI k))] := by rw [hk2] at hl; exact hl
      refine lv_aload_n hx hb dX5_ifMoved_24 rfl (lv_at hl 0 rfl) ?_
      refine z_get S K hP hX5_ifMoved_X5 0 rfl rfl 2 (by decide) kX5_ifMoved_2 rfl rfl dX5_ifMoved_25 ?_
      refine lv_aload_n hx hb dX5_ifMoved_28 rfl (lv_at hl 0 rfl) ?_
      refine z_get S K hP hX5_ifMoved_X5 0 rfl rfl 0 (by decide) kX5_ifMoved_1 rfl rfl dX5_ifMoved_29 ?_
      refine zcVv (rest := []) S K hP hD hS hA hl.1 (c_X3_become l G t0 t1 t2 n0 n1 n2 tc tn (nI nc) (nI nn) tf tg nf ng ) rfl rfl gX5_ifMoved_X3_become rfl eX3_become [4, 5, 6, 1, 2, 3] (by decide +kernel) rfl (fun _ => rfl) 3 4 rfl rfl rfl rfl rfl (Nat.le_of_ble_eq_true rfl) (Nat.le_of_ble_eq_true rfl) (Nat.le_of_ble_eq_true rfl) ⟨Nat.zero_le _, Nat.zero_le _⟩ dX5_ifMoved_32 (fun u_32 H locs hw_32 hP hD hS => ?_)
      obtain ⟨hP, hD⟩ := mx_ok [none, some 3, some 4, some 5, some 0, some 1, some 2, none, none, none, none, none, none, none] (by decide +kernel) rfl rfl hP hD
      have hP : va_P (gD G) vwCl [(x0, .inr (5, [.ref n0, .ref v0, .ref t0, .ref w0, .ref sb, .ref b0, .ref p0, .ref o0, .ref h0, .ref s0, .ref svd])), (n0, .inr (3, [.int (nI nc), .int (nI nn), .ref n1, .ref n2])), (n1, .inl (gI G, 20, .inl (nA nf))), (n2, .inl (gI G, 20, .inl (nA ng))), (t0, .inr (3, [.int (nI nc), .int (nI nn), .ref t1, .ref t2])), (t1, .inl (gI G, 20, .inl (nA nf))), (t2, .inl (gI G, 20, .inl (nA ng))), (w0, .inr (4, [.int wc, .int wm, .ref w1, .ref w2, .ref w3, .ref w4, .ref w5, .ref w6, .int i1, .int i2, .int i3, .ref w7])), (w1, .inl (gI G, 20, .inl (nA j1))), (w2, .inl (gI G, 20, .inl (nA j2))), (w3, .inl (gI G, 3, .inl (nA j3))), (w4, .inl (gI G, 12, .inl (nA j4))), (w5, .inl (gI G, 12, .inl (nA j5))), (w6, .inl (gI G, 12, .inl (nA j6)))] H := hP
      have hD : va_D A [(x0, .inr (5, [.ref n0, .ref v0, .ref t0, .ref w0, .ref sb, .ref b0, .ref p0, .ref o0, .ref h0, .ref s0, .ref svd])), (n0, .inr (3, [.int (nI nc), .int (nI nn), .ref n1, .ref n2])), (n1, .inl (gI G, 20, .inl (nA nf))), (n2, .inl (gI G, 20, .inl (nA ng))), (t0, .inr (3, [.int (nI nc), .int (nI nn), .ref t1, .ref t2])), (t1, .inl (gI G, 20, .inl (nA nf))), (t2, .inl (gI G, 20, .inl (nA ng))), (w0, .inr (4, [.int wc, .int wm, .ref w1, .ref w2, .ref w3, .ref w4, .ref w5, .ref w6, .int i1, .int i2, .int i3, .ref w7])), (w1, .inl (gI G, 20, .inl (nA j1))), (w2, .inl (gI G, 20, .inl (nA j2))), (w3, .inl (gI G, 3, .inl (nA j3))), (w4, .inl (gI G, 12, .inl (nA j4))), (w5, .inl (gI G, 12, .inl (nA j5))), (w6, .inl (gI G, 12, .inl (nA j6)))] := hD
      refine lv_aload_n hx hb dX5_ifMoved_35 rfl (lv_at hl 0 rfl) ?_
      refine z_get S K hP hX5_ifMoved_X5 0 rfl rfl 2 (by decide) kX5_ifMoved_2 rfl rfl dX5_ifMoved_36 ?_
      refine lv_iload_n hx hb dX5_ifMoved_39 rfl (lv_at hl 1 rfl) ?_
      refine lv_iload_n hx hb dX5_ifMoved_40 rfl (lv_at hl 2 rfl) ?_
      refine zcVv (rest := []) S K hP hD hS hA hl.1 (c_X3_carryRule l G t0 t1 t2 nc nn nf ng i k (by omega) (by omega)) rfl rfl gX5_ifMoved_X3_carryRule rfl eX3_carryRule [4, 5, 6] (by decide +kernel) rfl (fun _ => rfl) 3 4 rfl rfl rfl rfl rfl (Nat.le_of_ble_eq_true rfl) (Nat.le_of_ble_eq_true rfl) (Nat.le_of_ble_eq_true rfl) ⟨Nat.zero_le _, Nat.zero_le _⟩ dX5_ifMoved_41 (fun u_41 H locs hw_41 hP hD hS => ?_)
      obtain ⟨hP, hD⟩ := mx_ok [none, none, none, none, some 0, some 1, some 2, none, none, none, none, none, none, none] (by decide +kernel) rfl rfl hP hD
      obtain ⟨f2_41, g2_41⟩ := u_41
      replace hw_41 : (∀ j, f2_41 j = carF nf i k j) ∧ ∀ j, g2_41 j = carF ng i k j := hw_41
      have hP : va_P (gD G) vwCl [(x0, .inr (5, [.ref n0, .ref v0, .ref t0, .ref w0, .ref sb, .ref b0, .ref p0, .ref o0, .ref h0, .ref s0, .ref svd])), (n0, .inr (3, [.int (nI nc), .int (nI nn), .ref n1, .ref n2])), (n1, .inl (gI G, 20, .inl (nA nf))), (n2, .inl (gI G, 20, .inl (nA ng))), (t0, .inr (3, [.int (nI nc), .int (nI nn), .ref t1, .ref t2])), (t1, .inl (gI G, 20, .inl (nA f2_41))), (t2, .inl (gI G, 20, .inl (nA g2_41))), (w0, .inr (4, [.int wc, .int wm, .ref w1, .ref w2, .ref w3, .ref w4, .ref w5, .ref w6, .int i1, .int i2, .int i3, .ref w7])), (w1, .inl (gI G, 20, .inl (nA j1))), (w2, .inl (gI G, 20, .inl (nA j2))), (w3, .inl (gI G, 3, .inl (nA j3))), (w4, .inl (gI G, 12, .inl (nA j4))), (w5, .inl (gI G, 12, .inl (nA j5))), (w6, .inl (gI G, 12, .inl (nA j6)))] H := hP
      have hD : va_D A [(x0, .inr (5, [.ref n0, .ref v0, .ref t0, .ref w0, .ref sb, .ref b0, .ref p0, .ref o0, .ref h0, .ref s0, .ref svd])), (n0, .inr (3, [.int (nI nc), .int (nI nn), .ref n1, .ref n2])), (n1, .inl (gI G, 20, .inl (nA nf))), (n2, .inl (gI G, 20, .inl (nA ng))), (t0, .inr (3, [.int (nI nc), .int (nI nn), .ref t1, .ref t2])), (t1, .inl (gI G, 20, .inl (nA f2_41))), (t2, .inl (gI G, 20, .inl (nA g2_41))), (w0, .inr (4, [.int wc, .int wm, .ref w1, .ref w2, .ref w3, .ref w4, .ref w5, .ref w6, .int i1, .int i2, .int i3, .ref w7])), (w1, .inl (gI G, 20, .inl (nA j1))), (w2, .inl (gI G, 20, .inl (nA j2))), (w3, .inl (gI G, 3, .inl (nA j3))), (w4, .inl (gI G, 12, .inl (nA j4))), (w5, .inl (gI G, 12, .inl (nA j5))), (w6, .inl (gI G, 12, .inl (nA j6)))] := hD
      refine lv_aload_n hx hb dX5_ifMoved_44 rfl (lv_at hl 0 rfl) ?_
      refine z_get S K hP hX5_ifMoved_X5 0 rfl rfl 3 (by decide) kX5_ifMoved_3 rfl rfl dX5_ifMoved_45 ?_
      refine lv_aload_n hx hb dX5_ifMoved_48 rfl (lv_at hl 0 rfl) ?_
      refine z_get S K hP hX5_ifMoved_X5 0 rfl rfl 2 (by decide) kX5_ifMoved_2 rfl rfl dX5_ifMoved_49 ?_
      refine zcVv (rest := []) S K hP hD hS hA hl.1 (c_X4_judge l G w0 w1 w2 w3 w4 w5 w6 w7 t0 t1 t2 wc wm i1 i2 i3 nc nn f2_41 g2_41 j1 j2 j3 j4 j5 j6 hn3 (fun j hj => by rw [hw_41.1]; exact car_p (P := fun v => v < 4096) hf5 (by omega) (by omega) (by omega)) (fun j hj => by rw [hw_41.2]; exact car_p (P := fun v => v ≤ 1) hg6 (by omega) (by omega) (by omega))) rfl rfl gX5_ifMoved_X4_judge rfl eX4_judge [7, 8, 9, 10, 11, 12, 13, 4, 5, 6] (by decide +kernel) rfl (fun _ => rfl) 4 7 rfl rfl rfl rfl rfl (Nat.le_of_ble_eq_true rfl) (Nat.le_of_ble_eq_true rfl) (Nat.le_of_ble_eq_true rfl) ⟨Nat.zero_le _, Nat.zero_le _⟩ dX5_ifMoved_52 (fun u_52 H locs hw_52 hP hD hS => ?_)
      obtain ⟨hP, hD⟩ := mx_ok [none, none, none, none, some 7, some 8, some 9, some 0, some 1, some 2, some 3, some 4, some 5, some 6] (by decide +kernel) rfl rfl hP hD
      obtain ⟨rs2_52, rm2_52, rr2_52, st2_52, re2_52, ta2_52, ss2_52, su2_52, sr2_52⟩ := u_52
      replace hw_52 : VI f2_41 g2_41 nn st2_52 re2_52 ta2_52 ss2_52 su2_52 sr2_52 := hw_52
      have hP : va_P (gD G) vwCl [(x0, .inr (5, [.ref n0, .ref v0, .ref t0, .ref w0, .ref sb, .ref b0, .ref p0, .ref o0, .ref h0, .ref s0, .ref svd])), (n0, .inr (3, [.int (nI nc), .int (nI nn), .ref n1, .ref n2])), (n1, .inl (gI G, 20, .inl (nA nf))), (n2, .inl (gI G, 20, .inl (nA ng))), (t0, .inr (3, [.int (nI nc), .int (nI nn), .ref t1, .ref t2])), (t1, .inl (gI G, 20, .inl (nA f2_41))), (t2, .inl (gI G, 20, .inl (nA g2_41))), (w0, .inr (4, [.int (nI nc), .int (nI nn), .ref w1, .ref w2, .ref w3, .ref w4, .ref w5, .ref w6, .int rs2_52, .int rm2_52, .int rr2_52, .ref w7])), (w1, .inl (gI G, 20, .inl (nA st2_52))), (w2, .inl (gI G, 20, .inl (nA re2_52))), (w3, .inl (gI G, 3, .inl (nA ta2_52))), (w4, .inl (gI G, 12, .inl (nA ss2_52))), (w5, .inl (gI G, 12, .inl (nA su2_52))), (w6, .inl (gI G, 12, .inl (nA sr2_52)))] H := hP
      have hD : va_D A [(x0, .inr (5, [.ref n0, .ref v0, .ref t0, .ref w0, .ref sb, .ref b0, .ref p0, .ref o0, .ref h0, .ref s0, .ref svd])), (n0, .inr (3, [.int (nI nc), .int (nI nn), .ref n1, .ref n2])), (n1, .inl (gI G, 20, .inl (nA nf))), (n2, .inl (gI G, 20, .inl (nA ng))), (t0, .inr (3, [.int (nI nc), .int (nI nn), .ref t1, .ref t2])), (t1, .inl (gI G, 20, .inl (nA f2_41))), (t2, .inl (gI G, 20, .inl (nA g2_41))), (w0, .inr (4, [.int (nI nc), .int (nI nn), .ref w1, .ref w2, .ref w3, .ref w4, .ref w5, .ref w6, .int rs2_52, .int rm2_52, .int rr2_52, .ref w7])), (w1, .inl (gI G, 20, .inl (nA st2_52))), (w2, .inl (gI G, 20, .inl (nA re2_52))), (w3, .inl (gI G, 3, .inl (nA ta2_52))), (w4, .inl (gI G, 12, .inl (nA ss2_52))), (w5, .inl (gI G, 12, .inl (nA su2_52))), (w6, .inl (gI G, 12, .inl (nA sr2_52)))] := hD
      refine lv_aload_n hx hb dX5_ifMoved_55 rfl (lv_at hl 0 rfl) ?_
      refine z_get S K hP hX5_ifMoved_X5 0 rfl rfl 3 (by decide) kX5_ifMoved_3 rfl rfl dX5_ifMoved_56 ?_
      refine z_get S K hP hX5_ifMoved_X4 7 rfl rfl 4 (by decide) kX5_ifMoved_4 rfl rfl dX5_ifMoved_59 ?_
      refine lv_iconst (v := nI 2) hx hb dX5_ifMoved_62 (by decide +kernel) ?_
      refine z_iald S K hP 10 rfl (by omega) (by decide) dX5_ifMoved_63 ?_
      refine z_top (y := (r_ifMoved (mkR nc nn nf ng) x y)) (im_1 (n := nn) hi2 hk2 (by omega) (by omega) hn3 (fun j _ => hw_41.1 j) (fun j _ => hw_41.2 j) (vi_ct (c := nc) hw_52 (by omega))) ?_
      exact z_iret S hrt hlk hP hD hS (nI nc, nI nn, f2_41, g2_41, nI nc, nI nn, rs2_52, rm2_52, rr2_52, st2_52, re2_52, ta2_52, ss2_52, su2_52, sr2_52) rfl rfl dX5_ifMoved_64
    · skip
      have c_19 := of_decide_eq_false (bN_eq0 c_19)
      refine lv_iconst (v := -1) hx hb dX5_ifMoved_22 (by decide +kernel) ?_
      refine z_top (y := (r_ifMoved (mkR nc nn nf ng) x y)) (im_0 (R := mkR nc nn nf ng) (by first | exact Or.inl c_8 | exact Or.inr c_19)) ?_
      exact z_iret S hrt hlk hP hD hS (tc, tn, tf, tg, wc, wm, i1, i2, i3, j1, j2, j3, j4, j5, j6) rfl rfl dX5_ifMoved_23
