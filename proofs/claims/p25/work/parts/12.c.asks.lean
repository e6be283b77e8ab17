set_option maxHeartbeats 4000000 in
set_option maxRecDepth 100000 in
theorem c_X5_rule (l : Launch) (G : gT) (x0 n0 v0 t0 w0 sb b0 p0 o0 h0 s0 svd n1 n2 v1 v2 v3 v4 v5 v6 v7 : Nat) (nc : Nat) (nn : Nat) (nf : Nat → Nat) (ng : Nat → Nat) (rs : Int32) (rm : Int32) (rr : Int32) (st : Nat → Nat) (re : Nat → Nat) (ta : Nat → Nat) (ss : Nat → Nat) (su : Nat → Nat) (sr : Nat → Nat) (x : Int32) (y : Int32) (hR : RowOK (mkR nc nn nf ng)) (hV : VI nf ng nn st re ta ss su sr) : CI l yX5_rule wsX5_rule ({ frames := 1, cells := 0, slots := 0, locals := 23 } : Room) G [.ref x0, .int x, .int y] [(x0, .inr (5, [.ref n0, .ref v0, .ref t0, .ref w0, .ref sb, .ref b0, .ref p0, .ref o0, .ref h0, .ref s0, .ref svd])), (n0, .inr (3, [.int (nI nc), .int (nI nn), .ref n1, .ref n2])), (n1, .inl (gI G, 20, .inl (nA nf))), (n2, .inl (gI G, 20, .inl (nA ng))), (v0, .inr (4, [.int (nI nc), .int (nI nn), .ref v1, .ref v2, .ref v3, .ref v4, .ref v5, .ref v6, .int rs, .int rm, .int rr, .ref v7])), (v1, .inl (gI G, 20, .inl (nA st))), (v2, .inl (gI G, 20, .inl (nA re))), (v3, .inl (gI G, 3, .inl (nA ta))), (v4, .inl (gI G, 12, .inl (nA ss))), (v5, .inl (gI G, 12, .inl (nA su))), (v6, .inl (gI G, 12, .inl (nA sr)))] 0 0 (fun (r : Int32) (u : Unit) => r = (r_rule (mkR nc nn nf ng) x y)) (fun (u : Unit) => [(x0, .inr (5, [.ref n0, .ref v0, .ref t0, .ref w0, .ref sb, .ref b0, .ref p0, .ref o0, .ref h0, .ref s0, .ref svd])), (n0, .inr (3, [.int (nI nc), .int (nI nn), .ref n1, .ref n2])), (n1, .inl (gI G, 20, .inl (nA nf))), (n2, .inl (gI G, 20, .inl (nA ng))), (v0, .inr (4, [.int (nI nc), .int (nI nn), .ref v1, .ref v2, .ref v3, .ref v4, .ref v5, .ref v6, .int rs, .int rm, .int rr, .ref v7])), (v1, .inl (gI G, 20, .inl (nA st))), (v2, .inl (gI G, 20, .inl (nA re))), (v3, .inl (gI G, 3, .inl (nA ta))), (v4, .inl (gI G, 12, .inl (nA ss))), (v5, .inl (gI G, 12, .inl (nA su))), (v6, .inl (gI G, 12, .inl (nA sr)))]) := by
  refine CI.of (cc := cX5_rule) (maxL := 4) (ret := (some .int)) (by decide +kernel) rfl (Nat.le_of_ble_eq_true rfl) rfl (fun p e s m args below meth c A S hrt hlk hnm K hA hP hD hS ls hl => ?_)
  have hx := S.1
  have hb := S.2.1
  have hl : lv_has ls 4 [(0, .ref x0), (1, .int x), (2, .int y)] := hl
  obtain ⟨hc1, hc2, hn3, hf4, hf5, hg6⟩ := row_use hR
  have hp2 := p12 hc2
  have h1s : 1 <<< nc = 2 ^ nc := Nat.one_shiftLeft nc
  have hfr := vi_free hV hc2 (fun j hj => (hf4 j hj).2)
  have hna := vi_na (c := nc) hV
  have hnl := na_le hR
  refine lv_aload_n hx hb dX5_rule_0 rfl (lv_at hl 0 rfl) ?_
  refine z_get S K hP hX5_rule_X5 0 rfl rfl 0 (by decide) kX5_rule_1 rfl rfl dX5_rule_1 ?_
  refine lv_iload_n hx hb dX5_rule_4 rfl (lv_at hl 1 rfl) ?_
  refine zcVi (rest := []) S K hP hD hS hA hl.1 (c_X3_hasPlace l G n0 n1 n2 nc nn nf ng x (by first | assumption | omega)) rfl rfl gX5_rule_X3_hasPlace rfl eX3_hasPlace [1, 2, 3] (by decide +kernel) rfl (fun _ => rfl) 3 1 rfl rfl rfl rfl rfl (Nat.le_of_ble_eq_true rfl) (Nat.le_of_ble_eq_true rfl) (Nat.le_of_ble_eq_true rfl) ⟨Nat.zero_le _, Nat.zero_le _⟩ dX5_rule_5 (fun r_5 u_5 H locs hw_5 hP hD hS => ?_)
  obtain ⟨hP, hD⟩ := mx_ok [none, some 0, some 1, some 2, none, none, none, none, none, none, none] (by decide +kernel) rfl rfl hP hD
  replace hw_5 : r_5 = nI (bN (decide (0 ≤ x.toInt ∧ x.toInt < (nn : Int)))) := hw_5
  obtain rfl := hw_5
  have hP : va_P (gD G) vwCl [(x0, .inr (5, [.ref n0, .ref v0, .ref t0, .ref w0, .ref sb, .ref b0, .ref p0, .ref o0, .ref h0, .ref s0, .ref svd])), (n0, .inr (3, [.int (nI nc), .int (nI nn), .ref n1, .ref n2])), (n1, .inl (gI G, 20, .inl (nA nf))), (n2, .inl (gI G, 20, .inl (nA ng))), (v0, .inr (4, [.int (nI nc), .int (nI nn), .ref v1, .ref v2, .ref v3, .ref v4, .ref v5, .ref v6, .int rs, .int rm, .int rr, .ref v7])), (v1, .inl (gI G, 20, .inl (nA st))), (v2, .inl (gI G, 20, .inl (nA re))), (v3, .inl (gI G, 3, .inl (nA ta))), (v4, .inl (gI G, 12, .inl (nA ss))), (v5, .inl (gI G, 12, .inl (nA su))), (v6, .inl (gI G, 12, .inl (nA sr)))] H := hP
  have hD : va_D A [(x0, .inr (5, [.ref n0, .ref v0, .ref t0, .ref w0, .ref sb, .ref b0, .ref p0, .ref o0, .ref h0, .ref s0, .ref svd])), (n0, .inr (3, [.int (nI nc), .int (nI nn), .ref n1, .ref n2])), (n1, .inl (gI G, 20, .inl (nA nf))), (n2, .inl (gI G, 20, .inl (nA ng))), (v0, .inr (4, [.int (nI nc), .int (nI nn), .ref v1, .ref v2, .ref v3, .ref v4, .ref v5, .ref v6, .int rs, .int rm, .int rr, .ref v7])), (v1, .inl (gI G, 20, .inl (nA st))), (v2, .inl (gI G, 20, .inl (nA re))), (v3, .inl (gI G, 3, .inl (nA ta))), (v4, .inl (gI G, 12, .inl (nA ss))), (v5, .inl (gI G, 12, .inl (nA su))), (v6, .inl (gI G, 12, .inl (nA sr)))] := hD
  refine zf_ne (tgt := 13) S dX5_rule_8 (by decide) (bN_31 _) (fun c_8 => ?_) (fun c_8 => ?_)
  · skip
    have c_8 := of_decide_eq_true (bN_ne0 c_8)
    obtain ⟨i, hi1, hi2, hi3⟩ := z_of (x := x) (by omega)
    have hl : lv_has ls 4 [(0, .ref x0), (1, .int (nI i)), (2, .int y)] := by rw [hi2] at hl; exact hl
    refine lv_aload_n hx hb dX5_rule_13 rfl (lv_at hl 0 rfl) ?_
    refine z_get S K hP hX5_rule_X5 0 rfl rfl 1 (by decide) kX5_rule_2 rfl rfl dX5_rule_14 ?_
    refine z_get S K hP hX5_rule_X4 4 rfl rfl 2 (by decide) kX5_rule_3 rfl rfl dX5_rule_17 ?_
    refine lv_iload_n hx hb dX5_rule_20 rfl (lv_at hl 1 rfl) ?_
    refine z_iald S K hP 5 rfl (by omega) (by decide) dX5_rule_21 ?_
    refine lv_istore_n (lv' := [(3, .int (nI (st i))), (0, .ref x0), (1, .int (nI i)), (2, .int y)]) hx hb dX5_rule_22 rfl hl (by decide) rfl (fun ls hl => ?_)
    refine lv_iload_n hx hb dX5_rule_23 rfl (lv_at hl 3 rfl) ?_
    rcases y5 y with hy | hy | hy | hy | hy | hy | hy
    · skip
      refine z_top hy ?_
      refine lv_tableIn (off := 40) (tgt := 64) hx hb dX5_rule_24 (by decide +kernel) (by decide +kernel) (by decide +kernel) (by decide) ?_
      refine lv_aload_n hx hb dX5_rule_64 rfl (lv_at hl 1 rfl) ?_
      refine z_get S K hP hX5_rule_X5 0 rfl rfl 0 (by decide) kX5_rule_1 rfl rfl dX5_rule_65 ?_
      refine z_get S K hP hX5_rule_X3 1 rfl rfl 2 (by decide) kX5_rule_4 rfl rfl dX5_rule_68 ?_
      refine lv_iload_n hx hb dX5_rule_71 rfl (lv_at hl 2 rfl) ?_
      refine z_iald S K hP 2 rfl (by omega) (by decide) dX5_rule_72 ?_
      refine z_top (y := (r_rule (mkR nc nn nf ng) x y)) (ru_y hi2 (show i < nn by omega) hn3 (by rw [hy]; exact ruF_0 (by omega))) ?_
      exact z_iret S hrt hlk hP hD hS () rfl rfl dX5_rule_73
    · skip
      refine z_top hy ?_
      refine lv_tableIn (off := 50) (tgt := 74) hx hb dX5_rule_24 (by decide +kernel) (by decide +kernel) (by decide +kernel) (by decide) ?_
      refine lv_aload_n hx hb dX5_rule_74 rfl (lv_at hl 1 rfl) ?_
      refine z_get S K hP hX5_rule_X5 0 rfl rfl 0 (by decide) kX5_rule_1 rfl rfl dX5_rule_75 ?_
      refine z_get S K hP hX5_rule_X3 1 rfl rfl 3 (by decide) kX5_rule_5 rfl rfl dX5_rule_78 ?_
      refine lv_iload_n hx hb dX5_rule_81 rfl (lv_at hl 2 rfl) ?_
      refine z_iald S K hP 3 rfl (by omega) (by decide) dX5_rule_82 ?_
      refine z_top (y := (r_rule (mkR nc nn nf ng) x y)) (ru_y hi2 (show i < nn by omega) hn3 (by rw [hy]; exact ruF_1 (by omega))) ?_
      exact z_iret S hrt hlk hP hD hS () rfl rfl dX5_rule_83
    · skip
      refine z_top hy ?_
      refine lv_tableIn (off := 60) (tgt := 84) hx hb dX5_rule_24 (by decide +kernel) (by decide +kernel) (by decide +kernel) (by decide) ?_
      refine lv_iload_n hx hb dX5_rule_84 rfl (lv_at hl 0 rfl) ?_
      refine z_top (y := (r_rule (mkR nc nn nf ng) x y)) (ru_y hi2 (show i < nn by omega) hn3 (by rw [hy, vi_st (c := nc) hV (show i < nn by omega)]; exact ruF_2)) ?_
      exact z_iret S hrt hlk hP hD hS () rfl rfl dX5_rule_85
    · skip
      refine z_top hy ?_
      refine lv_tableIn (off := 62) (tgt := 86) hx hb dX5_rule_24 (by decide +kernel) (by decide +kernel) (by decide +kernel) (by decide) ?_
      refine lv_iload_n hx hb dX5_rule_86 rfl (lv_at hl 0 rfl) ?_
      refine zf_ne (tgt := 95) S dX5_rule_87 (by decide) (by have := hV.1 i (by omega); have := stt_le nf ng i (nf i) (ng i); omega) (fun c_87 => ?_) (fun c_87 => ?_)
      · skip
        refine lv_aload_n hx hb dX5_rule_95 rfl (lv_at hl 1 rfl) ?_
        refine z_get S K hP hX5_rule_X5 0 rfl rfl 1 (by decide) kX5_rule_2 rfl rfl dX5_rule_96 ?_
        refine z_get S K hP hX5_rule_X4 4 rfl rfl 3 (by decide) kX5_rule_6 rfl rfl dX5_rule_99 ?_
        refine lv_iload_n hx hb dX5_rule_102 rfl (lv_at hl 2 rfl) ?_
        refine z_iald S K hP 6 rfl (by omega) (by decide) dX5_rule_103 ?_
        refine z_top (y := (r_rule (mkR nc nn nf ng) x y)) (ru_y hi2 (show i < nn by omega) hn3 (by rw [hy]; exact (if_neg c_87).symm.trans (vi_r3 hV (by omega)))) ?_
        exact z_iret S hrt hlk hP hD hS () rfl rfl dX5_rule_104
      · skip
        refine lv_bipush (v := -6) hx hb dX5_rule_90 (by decide +kernel) ?_
        refine lv_goto (tgt := 104) hx hb dX5_rule_92 (by decide) ?_
        refine z_top (y := (r_rule (mkR nc nn nf ng) x y)) (ru_y hi2 (show i < nn by omega) hn3 (by rw [hy]; exact (if_pos c_87).symm.trans (vi_r3 hV (by omega)))) ?_
        exact z_iret S hrt hlk hP hD hS () rfl rfl dX5_rule_104
    · skip
      refine z_top hy ?_
      refine lv_tableIn (off := 81) (tgt := 105) hx hb dX5_rule_24 (by decide +kernel) (by decide +kernel) (by decide +kernel) (by decide) ?_
      refine lv_aload_n hx hb dX5_rule_105 rfl (lv_at hl 1 rfl) ?_
      refine z_get S K hP hX5_rule_X5 0 rfl rfl 1 (by decide) kX5_rule_2 rfl rfl dX5_rule_106 ?_
      refine lv_iload_n hx hb dX5_rule_109 rfl (lv_at hl 2 rfl) ?_
      refine zcVi (rest := []) S K hP hD hS hA hl.1 (c_X4_reasonsWith l G v0 v1 v2 v3 v4 v5 v6 v7 (nI nc) rs rm rr nn i re hn3 (by omega) (fun j hj => vi_re31 hV (by omega) hj)) rfl rfl gX5_rule_X4_reasonsWith rfl eX4_reasonsWith [4, 6] (by decide +kernel) rfl (fun _ => rfl) 4 4 rfl rfl rfl rfl rfl (Nat.le_of_ble_eq_true rfl) (Nat.le_of_ble_eq_true rfl) (Nat.le_of_ble_eq_true rfl) ⟨Nat.zero_le _, Nat.zero_le _⟩ dX5_rule_110 (fun r_110 u_110 H locs hw_110 hP hD hS => ?_)
      obtain ⟨hP, hD⟩ := mx_ok [none, none, none, none, some 0, none, some 1, none, none, none, none] (by decide +kernel) rfl rfl hP hD
      replace hw_110 : r_110 = nI (smF (fun j => re j >>> i &&& 1) nn) := hw_110
      obtain rfl := hw_110
      have hP : va_P (gD G) vwCl [(x0, .inr (5, [.ref n0, .ref v0, .ref t0, .ref w0, .ref sb, .ref b0, .ref p0, .ref o0, .ref h0, .ref s0, .ref svd])), (n0, .inr (3, [.int (nI nc), .int (nI nn), .ref n1, .ref n2])), (n1, .inl (gI G, 20, .inl (nA nf))), (n2, .inl (gI G, 20, .inl (nA ng))), (v0, .inr (4, [.int (nI nc), .int (nI nn), .ref v1, .ref v2, .ref v3, .ref v4, .ref v5, .ref v6, .int rs, .int rm, .int rr, .ref v7])), (v1, .inl (gI G, 20, .inl (nA st))), (v2, .inl (gI G, 20, .inl (nA re))), (v3, .inl (gI G, 3, .inl (nA ta))), (v4, .inl (gI G, 12, .inl (nA ss))), (v5, .inl (gI G, 12, .inl (nA su))), (v6, .inl (gI G, 12, .inl (nA sr)))] H := hP
      have hD : va_D A [(x0, .inr (5, [.ref n0, .ref v0, .ref t0, .ref w0, .ref sb, .ref b0, .ref p0, .ref o0, .ref h0, .ref s0, .ref svd])), (n0, .inr (3, [.int (nI nc), .int (nI nn), .ref n1, .ref n2])), (n1, .inl (gI G, 20, .inl (nA nf))), (n2, .inl (gI G, 20, .inl (nA ng))), (v0, .inr (4, [.int (nI nc), .int (nI nn), .ref v1, .ref v2, .ref v3, .ref v4, .ref v5, .ref v6, .int rs, .int rm, .int rr, .ref v7])), (v1, .inl (gI G, 20, .inl (nA st))), (v2, .inl (gI G, 20, .inl (nA re))), (v3, .inl (gI G, 3, .inl (nA ta))), (v4, .inl (gI G, 12, .inl (nA ss))), (v5, .inl (gI G, 12, .inl (nA su))), (v6, .inl (gI G, 12, .inl (nA sr)))] := hD
      refine z_top (y := (r_rule (mkR nc nn nf ng) x y)) (ru_y hi2 (show i < nn by omega) hn3 (by rw [hy, vi_rw (c := nc) hV]; exact ruF_4)) ?_
      exact z_iret S hrt hlk hP hD hS () rfl rfl dX5_rule_113
    · skip
      refine z_top hy ?_
      refine lv_tableIn (off := 90) (tgt := 114) hx hb dX5_rule_24 (by decide +kernel) (by decide +kernel) (by decide +kernel) (by decide) ?_
      refine lv_iload_n hx hb dX5_rule_114 rfl (lv_at hl 0 rfl) ?_
      refine lv_iconst (v := nI 2) hx hb dX5_rule_115 (by decide +kernel) ?_
      refine zb_ne (tgt := 123) S dX5_rule_116 (by decide) (by have := hV.1 i (by omega); have := stt_le nf ng i (nf i) (ng i); omega) (by decide) (fun c_116 => ?_) (fun c_116 => ?_)
      · skip
        refine lv_aload_n hx hb dX5_rule_123 rfl (lv_at hl 1 rfl) ?_
        refine z_get S K hP hX5_rule_X5 0 rfl rfl 1 (by decide) kX5_rule_2 rfl rfl dX5_rule_124 ?_
        refine zcVi (rest := []) S K hP hD hS hA hl.1 (c_X4_answers l G v0 v1 v2 v3 v4 v5 v6 v7 (nI nn) rs rm rr nc ta hc2 hfr.1) rfl rfl gX5_rule_X4_answers rfl eX4_answers [4, 7] (by decide +kernel) rfl (fun _ => rfl) 4 4 rfl rfl rfl rfl rfl (Nat.le_of_ble_eq_true rfl) (Nat.le_of_ble_eq_true rfl) (Nat.le_of_ble_eq_true rfl) ⟨Nat.zero_le _, Nat.zero_le _⟩ dX5_rule_127 (fun r_127 u_127 H locs hw_127 hP hD hS => ?_)
        obtain ⟨hP, hD⟩ := mx_ok [none, none, none, none, some 0, none, none, some 1, none, none, none] (by decide +kernel) rfl rfl hP hD
        replace hw_127 : r_127 = nI (1 <<< (nc - ta 0)) := hw_127
        obtain rfl := hw_127
        have hP : va_P (gD G) vwCl [(x0, .inr (5, [.ref n0, .ref v0, .ref t0, .ref w0, .ref sb, .ref b0, .ref p0, .ref o0, .ref h0, .ref s0, .ref svd])), (n0, .inr (3, [.int (nI nc), .int (nI nn), .ref n1, .ref n2])), (n1, .inl (gI G, 20, .inl (nA nf))), (n2, .inl (gI G, 20, .inl (nA ng))), (v0, .inr (4, [.int (nI nc), .int (nI nn), .ref v1, .ref v2, .ref v3, .ref v4, .ref v5, .ref v6, .int rs, .int rm, .int rr, .ref v7])), (v1, .inl (gI G, 20, .inl (nA st))), (v2, .inl (gI G, 20, .inl (nA re))), (v3, .inl (gI G, 3, .inl (nA ta))), (v4, .inl (gI G, 12, .inl (nA ss))), (v5, .inl (gI G, 12, .inl (nA su))), (v6, .inl (gI G, 12, .inl (nA sr)))] H := hP
        have hD : va_D A [(x0, .inr (5, [.ref n0, .ref v0, .ref t0, .ref w0, .ref sb, .ref b0, .ref p0, .ref o0, .ref h0, .ref s0, .ref svd])), (n0, .inr (3, [.int (nI nc), .int (nI nn), .ref n1, .ref n2])), (n1, .inl (gI G, 20, .inl (nA nf))), (n2, .inl (gI G, 20, .inl (nA ng))), (v0, .inr (4, [.int (nI nc), .int (nI nn), .ref v1, .ref v2, .ref v3, .ref v4, .ref v5, .ref v6, .int rs, .int rm, .int rr, .ref v7])), (v1, .inl (gI G, 20, .inl (nA st))), (v2, .inl (gI G, 20, .inl (nA re))), (v3, .inl (gI G, 3, .inl (nA ta))), (v4, .inl (gI G, 12, .inl (nA ss))), (v5, .inl (gI G, 12, .inl (nA su))), (v6, .inl (gI G, 12, .inl (nA sr)))] := hD
        refine z_top (y := (r_rule (mkR nc nn nf ng) x y)) (ru_y hi2 (show i < nn by omega) hn3 (by rw [hy]; exact (if_neg c_116).symm.trans (vi_r5 hV (by omega)))) ?_
        exact z_iret S hrt hlk hP hD hS () rfl rfl dX5_rule_130
      · skip
        refine lv_iconst (v := nI 0) hx hb dX5_rule_119 (by decide +kernel) ?_
        refine lv_goto (tgt := 130) hx hb dX5_rule_120 (by decide) ?_
        refine z_top (y := (r_rule (mkR nc nn nf ng) x y)) (ru_y hi2 (show i < nn by omega) hn3 (by rw [hy]; exact (if_pos c_116).symm.trans (vi_r5 hV (by omega)))) ?_
        exact z_iret S hrt hlk hP hD hS () rfl rfl dX5_rule_130
    · skip
      refine lv_tableOut (tgt := 131) hx hb dX5_rule_24 hy (by decide) ?_
      refine lv_bipush (v := -2) hx hb dX5_rule_131 (by decide +kernel) ?_
      refine z_top (y := (r_rule (mkR nc nn nf ng) x y)) (ru_y hi2 (show i < nn by omega) hn3 (ruF_o hy)) ?_
      exact z_iret S hrt hlk hP hD hS () rfl rfl dX5_rule_133
  · skip
    have c_8 := of_decide_eq_false (bN_eq0 c_8)
    refine lv_iconst (v := -1) hx hb dX5_rule_11 (by decide +kernel) ?_
    refine z_top (y := (r_rule (mkR nc nn nf ng) x y)) (ru_n (R := mkR nc nn nf ng) c_8) ?_
    exact z_iret S hrt hlk hP hD hS () rfl rfl dX5_rule_12
set_option maxHeartbeats 4000000 in
set_option maxRecDepth 100000 in
theorem c_X5_choice (l : Launch) (G : gT) (x0 n0 v0 t0 w0 sb b0 p0 o0 h0 s0 svd n1 n2 v1 v2 v3 v4 v5 v6 v7 : Nat) (nc : Nat) (nn : Nat) (nf : Nat → Nat) (ng : Nat → Nat) (rs : Int32) (rm : Int32) (rr : Int32) (st : Nat → Nat) (re : Nat → Nat) (ta : Nat → Nat) (ss : Nat → Nat) (su : Nat → Nat) (sr : Nat → Nat) (x : Int32) (y : Int32) (hR : RowOK (mkR nc nn nf ng)) (hV : VI nf ng nn st re ta ss su sr) : CI l yX5_choice wsX5_choice ({ frames := 3, cells := 0, slots := 0, locals := 68 } : Room) G [.ref x0, .int x, .int y] [(x0, .inr (5, [.ref n0, .ref v0, .ref t0, .ref w0, .ref sb, .ref b0, .ref p0, .ref o0, .ref h0, .ref s0, .ref svd])), (n0, .inr (3, [.int (nI nc), .int (nI nn), .ref n1, .ref n2])), (n1, .inl (gI G, 20, .inl (nA nf))), (n2, .inl (gI G, 20, .inl (nA ng))), (v0, .inr (4, [.int (nI nc), .int (nI nn), .ref v1, .ref v2, .ref v3, .ref v4, .ref v5, .ref v6, .int rs, .int rm, .int rr, .ref v7])), (v1, .inl (gI G, 20, .inl (nA st))), (v2, .inl (gI G, 20, .inl (nA re))), (v3, .inl (gI G, 3, .inl (nA ta))), (v4, .inl (gI G, 12, .inl (nA ss))), (v5, .inl (gI G, 12, .inl (nA su))), (v6, .inl (gI G, 12, .inl (nA sr)))] 0 0 (fun (r : Int32) (u : Int32 × Int32 × Int32) => r = (r_choice (mkR nc nn nf ng) x y)) (fun (u : Int32 × Int32 × Int32) => [(x0, .inr (5, [.ref n0, .ref v0, .ref t0, .ref w0, .ref sb, .ref b0, .ref p0, .ref o0, .ref h0, .ref s0, .ref svd])), (n0, .inr (3, [.int (nI nc), .int (nI nn), .ref n1, .ref n2])), (n1, .inl (gI G, 20, .inl (nA nf))), (n2, .inl (gI G, 20, .inl (nA ng))), (v0, .inr (4, [.int (nI nc), .int (nI nn), .ref v1, .ref v2, .ref v3, .ref v4, .ref v5, .ref v6, .int u.1, .int u.2.1, .int u.2.2, .ref v7])), (v1, .inl (gI G, 20, .inl (nA st))), (v2, .inl (gI G, 20, .inl (nA re))), (v3, .inl (gI G, 3, .inl (nA ta))), (v4, .inl (gI G, 12, .inl (nA ss))), (v5, .inl (gI G, 12, .inl (nA su))), (v6, .inl (gI G, 12, .inl (nA sr)))]) := by
  refine CI.of (cc := cX5_choice) (maxL := 3) (ret := (some .int)) (by decide +kernel) rfl (Nat.le_of_ble_eq_true rfl) rfl (fun p e s m args below meth c A S hrt hlk hnm K hA hP hD hS ls hl => ?_)
  have hx := S.1
  have hb := S.2.1
  have hl : lv_has ls 3 [(0, .ref x0), (1, .int x), (2, .int y)] := hl
  obtain ⟨hc1, hc2, hn3, hf4, hf5, hg6⟩ := row_use hR
  have hp2 := p12 hc2
  have h1s : 1 <<< nc = 2 ^ nc := Nat.one_shiftLeft nc
  refine lv_iload_n hx hb dX5_choice_0 rfl (lv_at hl 1 rfl) ?_
  refine zq_lt (tgt := 15) S dX5_choice_1 (by decide) rfl (fun c_1 => ?_) (fun c_1 => ?_)
  · skip
    refine lv_iconst (v := -1) hx hb dX5_choice_15 (by decide +kernel) ?_
    refine z_top (y := (r_choice (mkR nc nn nf ng) x y)) (cf_n (R := mkR nc nn nf ng) (by show ¬ (0 ≤ x.toInt ∧ x.toInt < (nc : Int)); omega)) ?_
    exact z_iret S hrt hlk hP hD hS (rs, rm, rr) rfl rfl dX5_choice_16
  · skip
    refine lv_iload_n hx hb dX5_choice_4 rfl (lv_at hl 1 rfl) ?_
    refine lv_aload_n hx hb dX5_choice_5 rfl (lv_at hl 0 rfl) ?_
    refine z_get S K hP hX5_choice_X5 0 rfl rfl 0 (by decide) kX5_choice_1 rfl rfl dX5_choice_6 ?_
    refine z_get S K hP hX5_choice_X3 1 rfl rfl 0 (by decide) kX5_choice_2 rfl rfl dX5_choice_9 ?_
    refine zr_lt (tgt := 17) S dX5_choice_12 (by decide) rfl (z_toInt (by omega)) (fun c_12 => ?_) (fun c_12 => ?_)
    · skip
      obtain ⟨a, ha1, ha2, ha3⟩ := z_of (x := x) (by omega)
      have hl : lv_has ls 3 [(0, .ref x0), (1, .int (nI a)), (2, .int y)] := by rw [ha2] at hl; exact hl
      obtain ⟨q1, q2, q3, hq⟩ : ∃ y1 y2 y3, red ss su sr 12 (1 <<< a, 0, 0) = (y1, y2, y3) := ⟨_, _, _, rfl⟩
      have hq1 : q1 < 4096 := by have := red_lt (su := su) (sr := sr) hV.2.2.2.2.1 (b := 0) (m0 := 0) (v := 1 <<< a) (by first | omega | exact shl12 (by omega)) 12; rw [hq] at this; exact this
      have hq2 : q2 ≤ 1 := by have := red_le1 (sr := sr) hV.2.2.2.2.2.1 (v := 1 <<< a) (b := 0) (m0 := 0) (by omega) 12; rw [hq] at this; exact this
      refine lv_iload_n hx hb dX5_choice_17 rfl (lv_at hl 2 rfl) ?_
      rcases y2 y with hy | hy | hy | hy
      · skip
        refine z_top hy ?_
        refine lv_tableIn (off := 26) (tgt := 44) hx hb dX5_choice_18 (by decide +kernel) (by decide +kernel) (by decide +kernel) (by decide) ?_
        refine lv_aload_n hx hb dX5_choice_44 rfl (lv_at hl 0 rfl) ?_
        refine z_get S K hP hX5_choice_X5 0 rfl rfl 1 (by decide) kX5_choice_3 rfl rfl dX5_choice_45 ?_
        refine lv_iconst (v := nI 1) hx hb dX5_choice_48 (by decide +kernel) ?_
        refine lv_iload_n hx hb dX5_choice_49 rfl (lv_at hl 1 rfl) ?_
        refine zi_shl S dX5_choice_50 (by omega) ?_
        refine zcVi (rest := []) S K hP hD hS hA hl.1 (c_X4_sumOf l G v0 v1 v2 v3 v4 v5 v6 v7 (nI nc) (nI nn) rs rm rr ss su sr (1 <<< a) q1 q2 q3 (shl12 (by omega)) hV.2.2.2.2.1 hq hq1 hq2) rfl rfl gX5_choice_X4_sumOf rfl eX4_sumOf [4, 8, 9, 10] (by decide +kernel) rfl (fun _ => rfl) 4 4 rfl rfl rfl rfl rfl (Nat.le_of_ble_eq_true rfl) (Nat.le_of_ble_eq_true rfl) (Nat.le_of_ble_eq_true rfl) ⟨Nat.zero_le _, Nat.zero_le _⟩ dX5_choice_51 (fun r_51 u_51 H locs hw_51 hP hD hS => ?_)
        obtain ⟨hP, hD⟩ := mx_ok [none, none, none, none, some 0, none, none, none, some 1, some 2, some 3] (by decide +kernel) rfl rfl hP hD
        replace hw_51 : r_51 = (if q1 = 0 then nI q2 else -6) := hw_51
        obtain rfl := hw_51
        have hP : va_P (gD G) vwCl [(x0, .inr (5, [.ref n0, .ref v0, .ref t0, .ref w0, .ref sb, .ref b0, .ref p0, .ref o0, .ref h0, .ref s0, .ref svd])), (n0, .inr (3, [.int (nI nc), .int (nI nn), .ref n1, .ref n2])), (n1, .inl (gI G, 20, .inl (nA nf))), (n2, .inl (gI G, 20, .inl (nA ng))), (v0, .inr (4, [.int (nI nc), .int (nI nn), .ref v1, .ref v2, .ref v3, .ref v4, .ref v5, .ref v6, .int (nI q1), .int (nI q2), .int (nI q3), .ref v7])), (v1, .inl (gI G, 20, .inl (nA st))), (v2, .inl (gI G, 20, .inl (nA re))), (v3, .inl (gI G, 3, .inl (nA ta))), (v4, .inl (gI G, 12, .inl (nA ss))), (v5, .inl (gI G, 12, .inl (nA su))), (v6, .inl (gI G, 12, .inl (nA sr)))] H := hP
        have hD : va_D A [(x0, .inr (5, [.ref n0, .ref v0, .ref t0, .ref w0, .ref sb, .ref b0, .ref p0, .ref o0, .ref h0, .ref s0, .ref svd])), (n0, .inr (3, [.int (nI nc), .int (nI nn), .ref n1, .ref n2])), (n1, .inl (gI G, 20, .inl (nA nf))), (n2, .inl (gI G, 20, .inl (nA ng))), (v0, .inr (4, [.int (nI nc), .int (nI nn), .ref v1, .ref v2, .ref v3, .ref v4, .ref v5, .ref v6, .int (nI q1), .int (nI q2), .int (nI q3), .ref v7])), (v1, .inl (gI G, 20, .inl (nA st))), (v2, .inl (gI G, 20, .inl (nA re))), (v3, .inl (gI G, 3, .inl (nA ta))), (v4, .inl (gI G, 12, .inl (nA ss))), (v5, .inl (gI G, 12, .inl (nA su))), (v6, .inl (gI G, 12, .inl (nA sr)))] := hD
        refine z_top (y := (r_choice (mkR nc nn nf ng) x y)) (cf_y ha2 (show a < nc by omega) hc2 (by rw [hy, ← chF_0]; exact vi_kn hV hq)) ?_
        exact z_iret S hrt hlk hP hD hS (nI q1, nI q2, nI q3) rfl rfl dX5_choice_54
      · skip
        refine z_top hy ?_
        refine lv_tableIn (off := 37) (tgt := 55) hx hb dX5_choice_18 (by decide +kernel) (by decide +kernel) (by decide +kernel) (by decide) ?_
        refine lv_aload_n hx hb dX5_choice_55 rfl (lv_at hl 0 rfl) ?_
        refine z_get S K hP hX5_choice_X5 0 rfl rfl 0 (by decide) kX5_choice_1 rfl rfl dX5_choice_56 ?_
        refine lv_iload_n hx hb dX5_choice_59 rfl (lv_at hl 1 rfl) ?_
        refine zcVi (rest := []) S K hP hD hS hA hl.1 (c_X3_rulesWith l G n0 n1 n2 nc nn nf ng a hn3 (by omega) hf5) rfl rfl gX5_choice_X3_rulesWith rfl eX3_rulesWith [1, 2, 3] (by decide +kernel) rfl (fun _ => rfl) 3 1 rfl rfl rfl rfl rfl (Nat.le_of_ble_eq_true rfl) (Nat.le_of_ble_eq_true rfl) (Nat.le_of_ble_eq_true rfl) ⟨Nat.zero_le _, Nat.zero_le _⟩ dX5_choice_60 (fun r_60 u_60 H locs hw_60 hP hD hS => ?_)
        obtain ⟨hP, hD⟩ := mx_ok [none, some 0, some 1, some 2, none, none, none, none, none, none, none] (by decide +kernel) rfl rfl hP hD
        replace hw_60 : r_60 = nI (smF (fun j => nf j >>> a &&& 1) nn) := hw_60
        obtain rfl := hw_60
        have hP : va_P (gD G) vwCl [(x0, .inr (5, [.ref n0, .ref v0, .ref t0, .ref w0, .ref sb, .ref b0, .ref p0, .ref o0, .ref h0, .ref s0, .ref svd])), (n0, .inr (3, [.int (nI nc), .int (nI nn), .ref n1, .ref n2])), (n1, .inl (gI G, 20, .inl (nA nf))), (n2, .inl (gI G, 20, .inl (nA ng))), (v0, .inr (4, [.int (nI nc), .int (nI nn), .ref v1, .ref v2, .ref v3, .ref v4, .ref v5, .ref v6, .int rs, .int rm, .int rr, .ref v7])), (v1, .inl (gI G, 20, .inl (nA st))), (v2, .inl (gI G, 20, .inl (nA re))), (v3, .inl (gI G, 3, .inl (nA ta))), (v4, .inl (gI G, 12, .inl (nA ss))), (v5, .inl (gI G, 12, .inl (nA su))), (v6, .inl (gI G, 12, .inl (nA sr)))] H := hP
        have hD : va_D A [(x0, .inr (5, [.ref n0, .ref v0, .ref t0, .ref w0, .ref sb, .ref b0, .ref p0, .ref o0, .ref h0, .ref s0, .ref svd])), (n0, .inr (3, [.int (nI nc), .int (nI nn), .ref n1, .ref n2])), (n1, .inl (gI G, 20, .inl (nA nf))), (n2, .inl (gI G, 20, .inl (nA ng))), (v0, .inr (4, [.int (nI nc), .int (nI nn), .ref v1, .ref v2, .ref v3, .ref v4, .ref v5, .ref v6, .int rs, .int rm, .int rr, .ref v7])), (v1, .inl (gI G, 20, .inl (nA st))), (v2, .inl (gI G, 20, .inl (nA re))), (v3, .inl (gI G, 3, .inl (nA ta))), (v4, .inl (gI G, 12, .inl (nA ss))), (v5, .inl (gI G, 12, .inl (nA su))), (v6, .inl (gI G, 12, .inl (nA sr)))] := hD
        refine z_top (y := (r_choice (mkR nc nn nf ng) x y)) (cf_y ha2 (show a < nc by omega) hc2 (by rw [hy]; exact chF_1)) ?_
        exact z_iret S hrt hlk hP hD hS (rs, rm, rr) rfl rfl dX5_choice_63
      · skip
        refine z_top hy ?_
        refine lv_tableIn (off := 46) (tgt := 64) hx hb dX5_choice_18 (by decide +kernel) (by decide +kernel) (by decide +kernel) (by decide) ?_
        refine lv_aload_n hx hb dX5_choice_64 rfl (lv_at hl 0 rfl) ?_
        refine z_get S K hP hX5_choice_X5 0 rfl rfl 1 (by decide) kX5_choice_3 rfl rfl dX5_choice_65 ?_
        refine lv_iload_n hx hb dX5_choice_68 rfl (lv_at hl 1 rfl) ?_
        refine zcVi (rest := []) S K hP hD hS hA hl.1 (c_X4_boundTo l G v0 v1 v2 v3 v4 v5 v6 v7 (nI nn) rs rm rr nc a ss su sr hc2 hV.2.2.2.2.1 hV.2.2.2.2.2.1 (by omega)) rfl rfl gX5_choice_X4_boundTo rfl eX4_boundTo [4, 8, 9, 10] (by decide +kernel) rfl (fun _ => rfl) 4 4 rfl rfl rfl rfl rfl (Nat.le_of_ble_eq_true rfl) (Nat.le_of_ble_eq_true rfl) (Nat.le_of_ble_eq_true rfl) ⟨Nat.zero_le _, Nat.zero_le _⟩ dX5_choice_69 (fun r_69 u_69 H locs hw_69 hP hD hS => ?_)
        obtain ⟨hP, hD⟩ := mx_ok [none, none, none, none, some 0, none, none, none, some 1, some 2, some 3] (by decide +kernel) rfl rfl hP hD
        obtain ⟨rs2_69, rm2_69, rr2_69⟩ := u_69
        replace hw_69 : r_69 = nI (boF ss su sr a nc) := hw_69
        obtain rfl := hw_69
        have hP : va_P (gD G) vwCl [(x0, .inr (5, [.ref n0, .ref v0, .ref t0, .ref w0, .ref sb, .ref b0, .ref p0, .ref o0, .ref h0, .ref s0, .ref svd])), (n0, .inr (3, [.int (nI nc), .int (nI nn), .ref n1, .ref n2])), (n1, .inl (gI G, 20, .inl (nA nf))), (n2, .inl (gI G, 20, .inl (nA ng))), (v0, .inr (4, [.int (nI nc), .int (nI nn), .ref v1, .ref v2, .ref v3, .ref v4, .ref v5, .ref v6, .int rs2_69, .int rm2_69, .int rr2_69, .ref v7])), (v1, .inl (gI G, 20, .inl (nA st))), (v2, .inl (gI G, 20, .inl (nA re))), (v3, .inl (gI G, 3, .inl (nA ta))), (v4, .inl (gI G, 12, .inl (nA ss))), (v5, .inl (gI G, 12, .inl (nA su))), (v6, .inl (gI G, 12, .inl (nA sr)))] H := hP
        have hD : va_D A [(x0, .inr (5, [.ref n0, .ref v0, .ref t0, .ref w0, .ref sb, .ref b0, .ref p0, .ref o0, .ref h0, .ref s0, .ref svd])), (n0, .inr (3, [.int (nI nc), .int (nI nn), .ref n1, .ref n2])), (n1, .inl (gI G, 20, .inl (nA nf))), (n2, .inl (gI G, 20, .inl (nA ng))), (v0, .inr (4, [.int (nI nc), .int (nI nn), .ref v1, .ref v2, .ref v3, .ref v4, .ref v5, .ref v6, .int rs2_69, .int rm2_69, .int rr2_69, .ref v7])), (v1, .inl (gI G, 20, .inl (nA st))), (v2, .inl (gI G, 20, .inl (nA re))), (v3, .inl (gI G, 3, .inl (nA ta))), (v4, .inl (gI G, 12, .inl (nA ss))), (v5, .inl (gI G, 12, .inl (nA su))), (v6, .inl (gI G, 12, .inl (nA sr)))] := hD
        refine z_top (y := (r_choice (mkR nc nn nf ng) x y)) (cf_y ha2 (show a < nc by omega) hc2 (by rw [hy, vi_bo (c := nc) hV]; exact chF_2)) ?_
        exact z_iret S hrt hlk hP hD hS (rs2_69, rm2_69, rr2_69) rfl rfl dX5_choice_72
      · skip
        refine lv_tableOut (tgt := 73) hx hb dX5_choice_18 hy (by decide) ?_
        refine lv_bipush (v := -2) hx hb dX5_choice_73 (by decide +kernel) ?_
        refine z_top (y := (r_choice (mkR nc nn nf ng) x y)) (cf_y ha2 (show a < nc by omega) hc2 (chF_o hy)) ?_
        exact z_iret S hrt hlk hP hD hS (rs, rm, rr) rfl rfl dX5_choice_75
    · skip
      refine lv_iconst (v := -1) hx hb dX5_choice_15 (by decide +kernel) ?_
      refine z_top (y := (r_choice (mkR nc nn nf ng) x y)) (cf_n (R := mkR nc nn nf ng) (by show ¬ (0 ≤ x.toInt ∧ x.toInt < (nc : Int)); omega)) ?_
      exact z_iret S hrt hlk hP hD hS (rs, rm, rr) rfl rfl dX5_choice_16
set_option maxHeartbeats 4000000 in
set_option maxRecDepth 100000 in
theorem c_X5_count (l : Launch) (G : gT) (x0 n0 v0 t0 w0 sb b0 p0 o0 h0 s0 svd n1 n2 v1 v2 v3 v4 v5 v6 v7 p1 h1 : Nat) (nc : Nat) (nn : Nat) (nf : Nat → Nat) (ng : Nat → Nat) (rs : Int32) (rm : Int32) (rr : Int32) (st : Nat → Nat) (re : Nat → Nat) (ta : Nat → Nat) (ss : Nat → Nat) (su : Nat → Nat) (sr : Nat → Nat) (pl : Nat) (q : Nat) (sg : Int32) (ah : Int32) (he : Int32) (se : Int32) (y : Int32) (hR : RowOK (mkR nc nn nf ng)) (hV : VI nf ng nn st re ta ss su sr) : CI l yX5_count wsX5_count ({ frames := 3, cells := 0, slots := 0, locals := 66 } : Room) G [.ref x0, .int y] [(x0, .inr (5, [.ref n0, .ref v0, .ref t0, .ref w0, .ref sb, .ref b0, .ref p0, .ref o0, .ref h0, .ref s0, .ref svd])), (n0, .inr (3, [.int (nI nc), .int (nI nn), .ref n1, .ref n2])), (n1, .inl (gI G, 20, .inl (nA nf))), (n2, .inl (gI G, 20, .inl (nA ng))), (v0, .inr (4, [.int (nI nc), .int (nI nn), .ref v1, .ref v2, .ref v3, .ref v4, .ref v5, .ref v6, .int rs, .int rm, .int rr, .ref v7])), (v1, .inl (gI G, 20, .inl (nA st))), (v2, .inl (gI G, 20, .inl (nA re))), (v3, .inl (gI G, 3, .inl (nA ta))), (v4, .inl (gI G, 12, .inl (nA ss))), (v5, .inl (gI G, 12, .inl (nA su))), (v6, .inl (gI G, 12, .inl (nA sr))), (p0, .inr (2, [.ref p1, .int (nI pl), .int sg, .int ah, .int he, .int se])), (h0, .inr (1, [.ref h1, .int (nI q)]))] 0 0 (fun (r : Int32) (u : Int32 × Int32 × Int32) => r = (r_count (mkR nc nn nf ng) q pl y)) (fun (u : Int32 × Int32 × Int32) => [(x0, .inr (5, [.ref n0, .ref v0, .ref t0, .ref w0, .ref sb, .ref b0, .ref p0, .ref o0, .ref h0, .ref s0, .ref svd])), (n0, .inr (3, [.int (nI nc), .int (nI nn), .ref n1, .ref n2])), (n1, .inl (gI G, 20, .inl (nA nf))), (n2, .inl (gI G, 20, .inl (nA ng))), (v0, .inr (4, [.int (nI nc), .int (nI nn), .ref v1, .ref v2, .ref v3, .ref v4, .ref v5, .ref v6, .int u.1, .int u.2.1, .int u.2.2, .ref v7])), (v1, .inl (gI G, 20, .inl (nA st))), (v2, .inl (gI G, 20, .inl (nA re))), (v3, .inl (gI G, 3, .inl (nA ta))), (v4, .inl (gI G, 12, .inl (nA ss))), (v5, .inl (gI G, 12, .inl (nA su))), (v6, .inl (gI G, 12, .inl (nA sr))), (p0, .inr (2, [.ref p1, .int (nI pl), .int sg, .int ah, .int he, .int se])), (h0, .inr (1, [.ref h1, .int (nI q)]))]) := by
  refine CI.of (cc := cX5_count) (maxL := 2) (ret := (some .int)) (by decide +kernel) rfl (Nat.le_of_ble_eq_true rfl) rfl (fun p e s m args below meth c A S hrt hlk hnm K hA hP hD hS ls hl => ?_)
  have hx := S.1
  have hb := S.2.1
  have hl : lv_has ls 2 [(0, .ref x0), (1, .int y)] := hl
  obtain ⟨hc1, hc2, hn3, hf4, hf5, hg6⟩ := row_use hR
  have hp2 := p12 hc2
  have h1s : 1 <<< nc = 2 ^ nc := Nat.one_shiftLeft nc
  have hfr := vi_free hV hc2 (fun j hj => (hf4 j hj).2)
  have hna := vi_na (c := nc) hV
  have hnl := na_le hR
  refine lv_iload_n hx hb dX5_count_0 rfl (lv_at hl 1 rfl) ?_
  rcases y8 y with hy | hy | hy | hy | hy | hy | hy | hy | hy | hy
  · skip
    refine z_top hy ?_
    refine lv_tableIn (off := 51) (tgt := 52) hx hb dX5_count_1 (by decide +kernel) (by decide +kernel) (by decide +kernel) (by decide) ?_
    refine lv_aload_n hx hb dX5_count_52 rfl (lv_at hl 0 rfl) ?_
    refine z_get S K hP hX5_count_X5 0 rfl rfl 0 (by decide) kX5_count_1 rfl rfl dX5_count_53 ?_
    refine z_get S K hP hX5_count_X3 1 rfl rfl 1 (by decide) kX5_count_2 rfl rfl dX5_count_56 ?_
    refine z_top (y := (r_count (mkR nc nn nf ng) q pl y)) (by rw [hy]; exact cnt_0) ?_
    exact z_iret S hrt hlk hP hD hS (rs, rm, rr) rfl rfl dX5_count_59
  · skip
    refine z_top hy ?_
    refine lv_tableIn (off := 59) (tgt := 60) hx hb dX5_count_1 (by decide +kernel) (by decide +kernel) (by decide +kernel) (by decide) ?_
    refine lv_aload_n hx hb dX5_count_60 rfl (lv_at hl 0 rfl) ?_
    refine z_get S K hP hX5_count_X5 0 rfl rfl 1 (by decide) kX5_count_3 rfl rfl dX5_count_61 ?_
    refine z_get S K hP hX5_count_X4 4 rfl rfl 4 (by decide) kX5_count_4 rfl rfl dX5_count_64 ?_
    refine lv_iconst (v := nI 0) hx hb dX5_count_67 (by decide +kernel) ?_
    refine z_iald S K hP 7 rfl (by omega) (by decide) dX5_count_68 ?_
    refine z_top (y := (r_count (mkR nc nn nf ng) q pl y)) (by rw [hy, vi_ct (c := nc) hV (by omega)]; exact cnt_1) ?_
    exact z_iret S hrt hlk hP hD hS (rs, rm, rr) rfl rfl dX5_count_69
  · skip
    refine z_top hy ?_
    refine lv_tableIn (off := 69) (tgt := 70) hx hb dX5_count_1 (by decide +kernel) (by decide +kernel) (by decide +kernel) (by decide) ?_
    refine lv_aload_n hx hb dX5_count_70 rfl (lv_at hl 0 rfl) ?_
    refine z_get S K hP hX5_count_X5 0 rfl rfl 1 (by decide) kX5_count_3 rfl rfl dX5_count_71 ?_
    refine z_get S K hP hX5_count_X4 4 rfl rfl 4 (by decide) kX5_count_4 rfl rfl dX5_count_74 ?_
    refine lv_iconst (v := nI 1) hx hb dX5_count_77 (by decide +kernel) ?_
    refine z_iald S K hP 7 rfl (by omega) (by decide) dX5_count_78 ?_
    refine z_top (y := (r_count (mkR nc nn nf ng) q pl y)) (by rw [hy, vi_ct (c := nc) hV (by omega)]; exact cnt_2) ?_
    exact z_iret S hrt hlk hP hD hS (rs, rm, rr) rfl rfl dX5_count_79
  · skip
    refine z_top hy ?_
    refine lv_tableIn (off := 79) (tgt := 80) hx hb dX5_count_1 (by decide +kernel) (by decide +kernel) (by decide +kernel) (by decide) ?_
    refine lv_aload_n hx hb dX5_count_80 rfl (lv_at hl 0 rfl) ?_
    refine z_get S K hP hX5_count_X5 0 rfl rfl 1 (by decide) kX5_count_3 rfl rfl dX5_count_81 ?_
    refine z_get S K hP hX5_count_X4 4 rfl rfl 4 (by decide) kX5_count_4 rfl rfl dX5_count_84 ?_
    refine lv_iconst (v := nI 2) hx hb dX5_count_87 (by decide +kernel) ?_
    refine z_iald S K hP 7 rfl (by omega) (by decide) dX5_count_88 ?_
    refine z_top (y := (r_count (mkR nc nn nf ng) q pl y)) (by rw [hy, vi_ct (c := nc) hV (by omega)]; exact cnt_3) ?_
    exact z_iret S hrt hlk hP hD hS (rs, rm, rr) rfl rfl dX5_count_89
  · skip
    refine z_top hy ?_
    refine lv_tableIn (off := 89) (tgt := 90) hx hb dX5_count_1 (by decide +kernel) (by decide +kernel) (by decide +kernel) (by decide) ?_
    refine lv_aload_n hx hb dX5_count_90 rfl (lv_at hl 0 rfl) ?_
    refine z_get S K hP hX5_count_X5 0 rfl rfl 1 (by decide) kX5_count_3 rfl rfl dX5_count_91 ?_
    refine zcVi (rest := []) S K hP hD hS hA hl.1 (c_X4_answers l G v0 v1 v2 v3 v4 v5 v6 v7 (nI nn) rs rm rr nc ta hc2 hfr.1) rfl rfl gX5_count_X4_answers rfl eX4_answers [4, 7] (by decide +kernel) rfl (fun _ => rfl) 4 4 rfl rfl rfl rfl rfl (Nat.le_of_ble_eq_true rfl) (Nat.le_of_ble_eq_true rfl) (Nat.le_of_ble_eq_true rfl) ⟨Nat.zero_le _, Nat.zero_le _⟩ dX5_count_94 (fun r_94 u_94 H locs hw_94 hP hD hS => ?_)
    obtain ⟨hP, hD⟩ := mx_ok [none, none, none, none, some 0, none, none, some 1, none, none, none, none, none] (by decide +kernel) rfl rfl hP hD
    replace hw_94 : r_94 = nI (1 <<< (nc - ta 0)) := hw_94
    obtain rfl := hw_94
    have hP : va_P (gD G) vwCl [(x0, .inr (5, [.ref n0, .ref v0, .ref t0, .ref w0, .ref sb, .ref b0, .ref p0, .ref o0, .ref h0, .ref s0, .ref svd])), (n0, .inr (3, [.int (nI nc), .int (nI nn), .ref n1, .ref n2])), (n1, .inl (gI G, 20, .inl (nA nf))), (n2, .inl (gI G, 20, .inl (nA ng))), (v0, .inr (4, [.int (nI nc), .int (nI nn), .ref v1, .ref v2, .ref v3, .ref v4, .ref v5, .ref v6, .int rs, .int rm, .int rr, .ref v7])), (v1, .inl (gI G, 20, .inl (nA st))), (v2, .inl (gI G, 20, .inl (nA re))), (v3, .inl (gI G, 3, .inl (nA ta))), (v4, .inl (gI G, 12, .inl (nA ss))), (v5, .inl (gI G, 12, .inl (nA su))), (v6, .inl (gI G, 12, .inl (nA sr))), (p0, .inr (2, [.ref p1, .int (nI pl), .int sg, .int ah, .int he, .int se])), (h0, .inr (1, [.ref h1, .int (nI q)]))] H := hP
    have hD : va_D A [(x0, .inr (5, [.ref n0, .ref v0, .ref t0, .ref w0, .ref sb, .ref b0, .ref p0, .ref o0, .ref h0, .ref s0, .ref svd])), (n0, .inr (3, [.int (nI nc), .int (nI nn), .ref n1, .ref n2])), (n1, .inl (gI G, 20, .inl (nA nf))), (n2, .inl (gI G, 20, .inl (nA ng))), (v0, .inr (4, [.int (nI nc), .int (nI nn), .ref v1, .ref v2, .ref v3, .ref v4, .ref v5, .ref v6, .int rs, .int rm, .int rr, .ref v7])), (v1, .inl (gI G, 20, .inl (nA st))), (v2, .inl (gI G, 20, .inl (nA re))), (v3, .inl (gI G, 3, .inl (nA ta))), (v4, .inl (gI G, 12, .inl (nA ss))), (v5, .inl (gI G, 12, .inl (nA su))), (v6, .inl (gI G, 12, .inl (nA sr))), (p0, .inr (2, [.ref p1, .int (nI pl), .int sg, .int ah, .int he, .int se])), (h0, .inr (1, [.ref h1, .int (nI q)]))] := hD
    refine z_top (y := (r_count (mkR nc nn nf ng) q pl y)) (by rw [hy, hna]; exact cnt_4) ?_
    exact z_iret S hrt hlk hP hD hS (rs, rm, rr) rfl rfl dX5_count_97
  · skip
    refine z_top hy ?_
    refine lv_tableIn (off := 97) (tgt := 98) hx hb dX5_count_1 (by decide +kernel) (by decide +kernel) (by decide +kernel) (by decide) ?_
    refine lv_aload_n hx hb dX5_count_98 rfl (lv_at hl 0 rfl) ?_
    refine z_get S K hP hX5_count_X5 0 rfl rfl 1 (by decide) kX5_count_3 rfl rfl dX5_count_99 ?_
    refine zcVi (rest := []) S K hP hD hS hA hl.1 (c_X4_settled l G v0 v1 v2 v3 v4 v5 v6 v7 (nI nn) rs rm rr nc ss su sr hc2 hV.2.2.2.2.1 hV.2.2.2.2.2.1) rfl rfl gX5_count_X4_settled rfl eX4_settled [4, 8, 9, 10] (by decide +kernel) rfl (fun _ => rfl) 4 4 rfl rfl rfl rfl rfl (Nat.le_of_ble_eq_true rfl) (Nat.le_of_ble_eq_true rfl) (Nat.le_of_ble_eq_true rfl) ⟨Nat.zero_le _, Nat.zero_le _⟩ dX5_count_102 (fun r_102 u_102 H locs hw_102 hP hD hS => ?_)
    obtain ⟨hP, hD⟩ := mx_ok [none, none, none, none, some 0, none, none, none, some 1, some 2, some 3, none, none] (by decide +kernel) rfl rfl hP hD
    obtain ⟨rs2_102, rm2_102, rr2_102⟩ := u_102
    replace hw_102 : r_102 = nI (seF (fun c => kno ss su sr (1 <<< c)) nc) := hw_102
    obtain rfl := hw_102
    have hP : va_P (gD G) vwCl [(x0, .inr (5, [.ref n0, .ref v0, .ref t0, .ref w0, .ref sb, .ref b0, .ref p0, .ref o0, .ref h0, .ref s0, .ref svd])), (n0, .inr (3, [.int (nI nc), .int (nI nn), .ref n1, .ref n2])), (n1, .inl (gI G, 20, .inl (nA nf))), (n2, .inl (gI G, 20, .inl (nA ng))), (v0, .inr (4, [.int (nI nc), .int (nI nn), .ref v1, .ref v2, .ref v3, .ref v4, .ref v5, .ref v6, .int rs2_102, .int rm2_102, .int rr2_102, .ref v7])), (v1, .inl (gI G, 20, .inl (nA st))), (v2, .inl (gI G, 20, .inl (nA re))), (v3, .inl (gI G, 3, .inl (nA ta))), (v4, .inl (gI G, 12, .inl (nA ss))), (v5, .inl (gI G, 12, .inl (nA su))), (v6, .inl (gI G, 12, .inl (nA sr))), (p0, .inr (2, [.ref p1, .int (nI pl), .int sg, .int ah, .int he, .int se])), (h0, .inr (1, [.ref h1, .int (nI q)]))] H := hP
    have hD : va_D A [(x0, .inr (5, [.ref n0, .ref v0, .ref t0, .ref w0, .ref sb, .ref b0, .ref p0, .ref o0, .ref h0, .ref s0, .ref svd])), (n0, .inr (3, [.int (nI nc), .int (nI nn), .ref n1, .ref n2])), (n1, .inl (gI G, 20, .inl (nA nf))), (n2, .inl (gI G, 20, .inl (nA ng))), (v0, .inr (4, [.int (nI nc), .int (nI nn), .ref v1, .ref v2, .ref v3, .ref v4, .ref v5, .ref v6, .int rs2_102, .int rm2_102, .int rr2_102, .ref v7])), (v1, .inl (gI G, 20, .inl (nA st))), (v2, .inl (gI G, 20, .inl (nA re))), (v3, .inl (gI G, 3, .inl (nA ta))), (v4, .inl (gI G, 12, .inl (nA ss))), (v5, .inl (gI G, 12, .inl (nA su))), (v6, .inl (gI G, 12, .inl (nA sr))), (p0, .inr (2, [.ref p1, .int (nI pl), .int sg, .int ah, .int he, .int se])), (h0, .inr (1, [.ref h1, .int (nI q)]))] := hD
    refine z_top (y := (r_count (mkR nc nn nf ng) q pl y)) (by rw [hy, vi_se (c := nc) hV]; exact cnt_5) ?_
    exact z_iret S hrt hlk hP hD hS (rs2_102, rm2_102, rr2_102) rfl rfl dX5_count_105
  · skip
    refine z_top hy ?_
    refine lv_tableIn (off := 105) (tgt := 106) hx hb dX5_count_1 (by decide +kernel) (by decide +kernel) (by decide +kernel) (by decide) ?_
    refine lv_aload_n hx hb dX5_count_106 rfl (lv_at hl 0 rfl) ?_
    refine z_get S K hP hX5_count_X5 0 rfl rfl 0 (by decide) kX5_count_1 rfl rfl dX5_count_107 ?_
    refine z_get S K hP hX5_count_X3 1 rfl rfl 0 (by decide) kX5_count_5 rfl rfl dX5_count_110 ?_
    refine z_top (y := (r_count (mkR nc nn nf ng) q pl y)) (by rw [hy]; exact cnt_6) ?_
    exact z_iret S hrt hlk hP hD hS (rs, rm, rr) rfl rfl dX5_count_113
  · skip
    refine z_top hy ?_
    refine lv_tableIn (off := 113) (tgt := 114) hx hb dX5_count_1 (by decide +kernel) (by decide +kernel) (by decide +kernel) (by decide) ?_
    refine lv_aload_n hx hb dX5_count_114 rfl (lv_at hl 0 rfl) ?_
    refine z_get S K hP hX5_count_X5 0 rfl rfl 6 (by decide) kX5_count_6 rfl rfl dX5_count_115 ?_
    refine z_get S K hP hX5_count_X2 11 rfl rfl 1 (by decide) kX5_count_7 rfl rfl dX5_count_118 ?_
    refine z_top (y := (r_count (mkR nc nn nf ng) q pl y)) (by rw [hy]; exact cnt_7) ?_
    exact z_iret S hrt hlk hP hD hS (rs, rm, rr) rfl rfl dX5_count_121
  · skip
    refine z_top hy ?_
    refine lv_tableIn (off := 121) (tgt := 122) hx hb dX5_count_1 (by decide +kernel) (by decide +kernel) (by decide +kernel) (by decide) ?_
    refine lv_aload_n hx hb dX5_count_122 rfl (lv_at hl 0 rfl) ?_
    refine z_get S K hP hX5_count_X5 0 rfl rfl 8 (by decide) kX5_count_8 rfl rfl dX5_count_123 ?_
    refine z_get S K hP hX5_count_X1 12 rfl rfl 1 (by decide) kX5_count_9 rfl rfl dX5_count_126 ?_
    refine z_top (y := (r_count (mkR nc nn nf ng) q pl y)) (by rw [hy]; exact cnt_8) ?_
    exact z_iret S hrt hlk hP hD hS (rs, rm, rr) rfl rfl dX5_count_129
  · skip
    refine lv_tableOut (tgt := 130) hx hb dX5_count_1 hy (by decide) ?_
    refine lv_bipush (v := -2) hx hb dX5_count_130 (by decide +kernel) ?_
    refine z_top (y := (r_count (mkR nc nn nf ng) q pl y)) (co_o hy) ?_
    exact z_iret S hrt hlk hP hD hS (rs, rm, rr) rfl rfl dX5_count_132
