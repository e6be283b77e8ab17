theorem cp_1 {k1 f : Nat → Nat} {i : Nat} (h : ∀ j, j < i → k1 j = f j) : ∀ j, j < i + 1 → pu k1 i (f i) j = f j := by
  intro j hj
  by_cases e : j = i
  · rw [e, pu_s]
  · rw [pu_n e]; exact h j (by omega)
set_option maxHeartbeats 4000000 in
set_option maxRecDepth 100000 in
theorem c_X6_in (l : Launch) (G : gT) (a : Int64) (b : Int64) (d : Int64) : CI l yX6_in wsX6_in ({ frames := 0, cells := 0, slots := 0, locals := 0 } : Room) G [.long a, .long b, .long d] [] 0 0 (fun (r : Int32) (u : Unit) => r = nI (bN (decide (b.toInt ≤ a.toInt ∧ a.toInt ≤ d.toInt)))) (fun (u : Unit) => []) := by
  refine CI.of (cc := cX6_in) (maxL := 6) (ret := (some .boolean)) (by decide +kernel) rfl (Nat.le_of_ble_eq_true rfl) rfl (fun p e s m args below meth c A S hrt hlk hnm K hA hP hD hS ls hl => ?_)
  have hx := S.1
  have hb := S.2.1
  have hl : lv_has ls 6 [(0, .long a), (2, .long b), (4, .long d)] := hl
  refine lv_lload_n hx hb dX6_in_0 rfl (lv_at hl 0 rfl) ?_
  refine lv_lload_n hx hb dX6_in_1 rfl (lv_at hl 1 rfl) ?_
  refine zl_lt (tgt := 17) S dX6_in_2 dX6_in_3 (by decide) rfl rfl (fun c_3 => ?_) (fun c_3 => ?_)
  · skip
    refine lv_iconst (v := nI 0) hx hb dX6_in_17 (by decide +kernel) ?_
    refine z_top (y := nI (bN (decide (b.toInt ≤ a.toInt ∧ a.toInt ≤ d.toInt)))) (bz_f (decide_eq_false (by omega))) ?_
    exact z_zret S hrt hlk hP hD hS () rfl rfl (z_bnar _) dX6_in_18
  · skip
    refine lv_lload_n hx hb dX6_in_6 rfl (lv_at hl 0 rfl) ?_
    refine lv_lload hx hb dX6_in_7 (lv_at hl 2 rfl) ?_
    refine zl_gt (tgt := 17) S dX6_in_9 dX6_in_10 (by decide) rfl rfl (fun c_10 => ?_) (fun c_10 => ?_)
    · skip
      refine lv_iconst (v := nI 0) hx hb dX6_in_17 (by decide +kernel) ?_
      refine z_top (y := nI (bN (decide (b.toInt ≤ a.toInt ∧ a.toInt ≤ d.toInt)))) (bz_f (decide_eq_false (by omega))) ?_
      exact z_zret S hrt hlk hP hD hS () rfl rfl (z_bnar _) dX6_in_18
    · skip
      refine lv_iconst (v := nI 1) hx hb dX6_in_13 (by decide +kernel) ?_
      refine lv_goto (tgt := 18) hx hb dX6_in_14 (by decide) ?_
      refine z_top (y := nI (bN (decide (b.toInt ≤ a.toInt ∧ a.toInt ≤ d.toInt)))) (bz_t (decide_eq_true (by omega))) ?_
      exact z_zret S hrt hlk hP hD hS () rfl rfl (z_bnar _) dX6_in_18
set_option maxHeartbeats 4000000 in
set_option maxRecDepth 100000 in
theorem c_X6_bits (l : Launch) (G : gT) (w : Nat) (hw : w < 2147483648) : CI l yX6_bits wsX6_bits ({ frames := 0, cells := 0, slots := 0, locals := 0 } : Room) G [.int (nI w)] [] 0 0 (fun (r : Int32) (u : Unit) => r = nI (pcn w)) (fun (u : Unit) => []) := by
  refine CI.of (cc := cX6_bits) (maxL := 3) (ret := (some .int)) (by decide +kernel) rfl (Nat.le_of_ble_eq_true rfl) rfl (fun p e s m args below meth c A S hrt hlk hnm K hA hP hD hS ls hl => ?_)
  have hx := S.1
  have hb := S.2.1
  have hl : lv_has ls 3 [(0, .int (nI w))] := hl
  refine lv_iconst (v := nI 0) hx hb dX6_bits_0 (by decide +kernel) ?_
  refine lv_istore_n (lv' := [(1, .int (nI 0)), (0, .int (nI w))]) hx hb dX6_bits_1 rfl hl (by decide) rfl (fun ls hl => ?_)
  refine lv_iload_n hx hb dX6_bits_2 rfl (lv_at hl 1 rfl) ?_
  refine lv_istore_n (lv' := [(2, .int (nI w)), (1, .int (nI 0)), (0, .int (nI w))]) hx hb dX6_bits_3 rfl hl (by decide) rfl (fun ls hl => ?_)
  have lp_4 : ∀ (n_4 : Nat) (y z : Nat), z < n_4 → (z ≤ w) → (y + pcn z = pcn w) → ∀ (H : Heap) (locs : List Loc), va_P (gD G) vwCl [] H → va_D A [] → va_S A s.heap H locs → ∀ ls : Array Slot, lv_has ls 3 [(2, .int (nI z)), (1, .int (nI y)), (0, .int (nI w))] → W p l e ({ frames := 0, cells := 0, slots := 0, locals := 0 } : Room) s m args below meth c H locs 0 0 (MQ below (va_Qi (fun (r : Int32) (u : Unit) => r = nI (pcn w)) (cB G A (fun (u : Unit) => [])) A) args s 0 0 A) (F0 m 4 ls []) := by
    intro n_4
    induction n_4 with
    | zero =>
      intro y z h0
      exact absurd h0 (Nat.not_lt_zero _)
    | succ n_4 ih_4 =>
      intro y z hm_4 hz hy H locs hP hD hS ls hl
      refine lv_iload_n hx hb dX6_bits_4 rfl (lv_at hl 0 rfl) ?_
      refine zf_eq (tgt := 20) S dX6_bits_5 (by decide) (by omega) (fun c_5 => ?_) (fun c_5 => ?_)
      · skip
        have hpz : pcn z = 0 := by rw [c_5]; exact pcn_0
        refine lv_iload_n hx hb dX6_bits_20 rfl (lv_at hl 1 rfl) ?_
        refine z_top (y := nI (pcn w)) (congrArg nI (by omega)) ?_
        exact z_iret S hrt hlk hP hD hS () rfl rfl dX6_bits_21
      · skip
        refine lv_iinc (v := (nI (y + 1))) (lv' := [(1, .int (nI (y + 1))), (2, .int (nI z)), (0, .int (nI w))]) hx hb dX6_bits_8 hl (k := 1) rfl (z_i1 _) (by decide) rfl (fun ls hl => ?_)
        refine lv_iload_n hx hb dX6_bits_11 rfl (lv_at hl 1 rfl) ?_
        refine lv_iload_n hx hb dX6_bits_12 rfl (lv_at hl 1 rfl) ?_
        refine lv_iconst (v := nI 1) hx hb dX6_bits_13 (by decide +kernel) ?_
        refine zi_sub S dX6_bits_14 (by omega) ?_
        refine zi_and S dX6_bits_15 ?_
        refine lv_istore_n (lv' := [(2, .int (nI (z &&& (z - 1)))), (1, .int (nI (y + 1))), (0, .int (nI w))]) hx hb dX6_bits_16 rfl hl (by decide) rfl (fun ls hl => ?_)
        refine lv_goto (tgt := 4) hx hb dX6_bits_17 (by decide) ?_
        have hda := pcn_dec (n := z) (by omega) (by omega)
        have hdb := and_lt (n := z) (by omega)
        exact ih_4 (y + 1) (z &&& (z - 1)) (by omega) (by omega) (by omega) _ _ hP hD hS _ (lv_sub hl [0, 1, 2] rfl)
  exact lp_4 _ 0 w (Nat.lt_succ_self _) (by omega) (Nat.zero_add _) _ _ hP hD hS _ (lv_sub hl [0, 1, 2] rfl)
set_option maxHeartbeats 4000000 in
set_option maxRecDepth 100000 in
theorem c_X6_odd (l : Launch) (G : gT) (w : Nat) (hw : w < 2147483648) : CI l yX6_odd wsX6_odd ({ frames := 1, cells := 0, slots := 0, locals := 22 } : Room) G [.int (nI w)] [] 0 0 (fun (r : Int32) (u : Unit) => r = nI (pty w)) (fun (u : Unit) => []) := by
  refine CI.of (cc := cX6_odd) (maxL := 1) (ret := (some .int)) (by decide +kernel) rfl (Nat.le_of_ble_eq_true rfl) rfl (fun p e s m args below meth c A S hrt hlk hnm K hA hP hD hS ls hl => ?_)
  have hx := S.1
  have hb := S.2.1
  have hl : lv_has ls 1 [(0, .int (nI w))] := hl
  refine lv_iload_n hx hb dX6_odd_0 rfl (lv_at hl 0 rfl) ?_
  refine zcSi (rest := []) S K hP hD hS hA hl.1 (c_X6_bits l G w (by first | assumption | omega)) rfl rfl gX6_odd_X6_bits rfl eX6_bits.2 [] (by decide +kernel) rfl (fun _ => rfl) rfl rfl (Nat.le_of_ble_eq_true rfl) (Nat.le_of_ble_eq_true rfl) (Nat.le_of_ble_eq_true rfl) ⟨Nat.zero_le _, Nat.zero_le _⟩ dX6_odd_1 (fun r_1 u_1 H locs hw_1 hP hD hS => ?_)
  replace hw_1 : r_1 = nI (pcn w) := hw_1
  obtain rfl := hw_1
  have hP : va_P (gD G) vwCl [] H := hP
  have hD : va_D A [] := hD
  refine lv_iconst (v := nI 2) hx hb dX6_odd_4 (by decide +kernel) ?_
  refine zi_rem S dX6_odd_5 (Nat.lt_of_le_of_lt (pcn_le w) (by decide)) (by omega) (by omega) ?_
  refine z_top (y := nI (pty w)) (congrArg nI (pty_mod w).symm) ?_
  exact z_iret S hrt hlk hP hD hS () rfl rfl dX6_odd_6
set_option maxHeartbeats 4000000 in
set_option maxRecDepth 100000 in
theorem c_X6_masks (l : Launch) (G : gT) (e0 ea ek eh es ei el ew et er ed ep ex eu : Nat) (hq : Int32) (lf : Int32) (md : Int32) (pn : Int32) (sp : Int32) (rm : Int32) (la : Int32) (al : Nat → Nat) (hc2 : al 0 ≤ 12) : CI l yX6_masks wsX6_masks ({ frames := 0, cells := 0, slots := 0, locals := 0 } : Room) G [.ref e0] [(e0, .inr (6, [.ref ea, .ref ek, .ref eh, .int hq, .ref es, .ref ei, .ref el, .ref ew, .ref et, .ref er, .int lf, .int md, .ref ed, .ref ep, .int pn, .int sp, .ref ex, .ref eu, .int rm, .int la])), (ea, .inl (gI G, 42, .inl (nA al)))] 0 0 (fun (r : Int32) (u : Unit) => r = nI (1 <<< al 0)) (fun (u : Unit) => [(e0, .inr (6, [.ref ea, .ref ek, .ref eh, .int hq, .ref es, .ref ei, .ref el, .ref ew, .ref et, .ref er, .int lf, .int md, .ref ed, .ref ep, .int pn, .int sp, .ref ex, .ref eu, .int rm, .int la])), (ea, .inl (gI G, 42, .inl (nA al)))]) := by
  refine CI.of (cc := cX6_masks) (maxL := 1) (ret := (some .int)) (by decide +kernel) rfl (Nat.le_of_ble_eq_true rfl) rfl (fun p e s m args below meth c A S hrt hlk hnm K hA hP hD hS ls hl => ?_)
  have hx := S.1
  have hb := S.2.1
  have hl : lv_has ls 1 [(0, .ref e0)] := hl
  refine lv_iconst (v := nI 1) hx hb dX6_masks_0 (by decide +kernel) ?_
  refine lv_aload_n hx hb dX6_masks_1 rfl (lv_at hl 0 rfl) ?_
  refine z_get S K hP hX6_masks_X6 0 rfl rfl 0 (by decide) kX6_masks_1 rfl rfl dX6_masks_2 ?_
  refine lv_iconst (v := nI 0) hx hb dX6_masks_5 (by decide +kernel) ?_
  refine z_iald S K hP 1 rfl (by omega) (by decide) dX6_masks_6 ?_
  refine zi_shl S dX6_masks_7 (by omega) ?_
  refine z_top (y := nI (1 <<< al 0)) rfl ?_
  exact z_iret S hrt hlk hP hD hS () rfl rfl dX6_masks_8
set_option maxHeartbeats 4000000 in
set_option maxRecDepth 100000 in
theorem c_X6_isSet (l : Launch) (G : gT) (e0 ea ek eh es ei el ew et er ed ep ex eu : Nat) (hq : Int32) (lf : Int32) (md : Int32) (pn : Int32) (sp : Int32) (rm : Int32) (la : Int32) (al : Nat → Nat) (x : Int32) (hc2 : al 0 ≤ 12) : CI l yX6_isSet wsX6_isSet ({ frames := 1, cells := 0, slots := 0, locals := 25 } : Room) G [.ref e0, .int x] [(e0, .inr (6, [.ref ea, .ref ek, .ref eh, .int hq, .ref es, .ref ei, .ref el, .ref ew, .ref et, .ref er, .int lf, .int md, .ref ed, .ref ep, .int pn, .int sp, .ref ex, .ref eu, .int rm, .int la])), (ea, .inl (gI G, 42, .inl (nA al)))] 0 0 (fun (r : Int32) (u : Unit) => r = nI (bN (decide (1 ≤ x.toInt ∧ x.toInt < ((2 ^ al 0 : Nat) : Int))))) (fun (u : Unit) => [(e0, .inr (6, [.ref ea, .ref ek, .ref eh, .int hq, .ref es, .ref ei, .ref el, .ref ew, .ref et, .ref er, .int lf, .int md, .ref ed, .ref ep, .int pn, .int sp, .ref ex, .ref eu, .int rm, .int la])), (ea, .inl (gI G, 42, .inl (nA al)))]) := by
  refine CI.of (cc := cX6_isSet) (maxL := 2) (ret := (some .boolean)) (by decide +kernel) rfl (Nat.le_of_ble_eq_true rfl) rfl (fun p e s m args below meth c A S hrt hlk hnm K hA hP hD hS ls hl => ?_)
  have hx := S.1
  have hb := S.2.1
  have hl : lv_has ls 2 [(0, .ref e0), (1, .int x)] := hl
  have hp2 := p12 hc2
  have h1s : 1 <<< al 0 = 2 ^ al 0 := Nat.one_shiftLeft _
  refine lv_iload_n hx hb dX6_isSet_0 rfl (lv_at hl 1 rfl) ?_
  refine lv_i2l (v := Int32.toInt64 x) hx hb dX6_isSet_1 rfl ?_
  refine lv_lconst (v := lN 1) hx hb dX6_isSet_2 (by decide +kernel) ?_
  refine lv_aload_n hx hb dX6_isSet_3 rfl (lv_at hl 0 rfl) ?_
  refine zcVi (rest := [.long (lN 1), .long (Int32.toInt64 x)]) S K hP hD hS hA hl.1 (c_X6_masks l G e0 ea ek eh es ei el ew et er ed ep ex eu hq lf md pn sp rm la al (by first | assumption | omega)) rfl rfl gX6_isSet_X6_masks rfl eX6_masks [0, 1] (by decide +kernel) rfl (fun _ => rfl) 6 0 rfl rfl rfl rfl rfl (Nat.le_of_ble_eq_true rfl) (Nat.le_of_ble_eq_true rfl) (Nat.le_of_ble_eq_true rfl) ⟨Nat.zero_le _, Nat.zero_le _⟩ dX6_isSet_4 (fun r_4 u_4 H locs hw_4 hP hD hS => ?_)
  obtain ⟨hP, hD⟩ := mx_ok [some 0, some 1] (by decide +kernel) rfl rfl hP hD
  replace hw_4 : r_4 = nI (1 <<< al 0) := hw_4
  obtain rfl := hw_4
  have hP : va_P (gD G) vwCl [(e0, .inr (6, [.ref ea, .ref ek, .ref eh, .int hq, .ref es, .ref ei, .ref el, .ref ew, .ref et, .ref er, .int lf, .int md, .ref ed, .ref ep, .int pn, .int sp, .ref ex, .ref eu, .int rm, .int la])), (ea, .inl (gI G, 42, .inl (nA al)))] H := hP
  have hD : va_D A [(e0, .inr (6, [.ref ea, .ref ek, .ref eh, .int hq, .ref es, .ref ei, .ref el, .ref ew, .ref et, .ref er, .int lf, .int md, .ref ed, .ref ep, .int pn, .int sp, .ref ex, .ref eu, .int rm, .int la])), (ea, .inl (gI G, 42, .inl (nA al)))] := hD
  refine lv_i2l (v := lN (1 <<< al 0)) hx hb dX6_isSet_7 (nI_l (by omega)) ?_
  refine lv_lconst (v := lN 1) hx hb dX6_isSet_8 (by decide +kernel) ?_
  refine lv_lsub hx hb dX6_isSet_9 ?_
  refine zcSi (rest := []) S K hP hD hS hA hl.1 (c_X6_in l G (Int32.toInt64 x) (lN 1) ((lN (1 <<< al 0)) - (lN 1)) ) rfl rfl gX6_isSet_X6_in rfl eX6_in.2 [] (by decide +kernel) rfl (fun _ => rfl) rfl rfl (Nat.le_of_ble_eq_true rfl) (Nat.le_of_ble_eq_true rfl) (Nat.le_of_ble_eq_true rfl) ⟨Nat.zero_le _, Nat.zero_le _⟩ dX6_isSet_10 (fun r_10 u_10 H locs hw_10 hP hD hS => ?_)
  replace hw_10 : r_10 = nI (bN (decide ((lN 1).toInt ≤ (Int32.toInt64 x).toInt ∧ (Int32.toInt64 x).toInt ≤ ((lN (1 <<< al 0)) - (lN 1)).toInt))) := hw_10
  obtain rfl := hw_10
  have hP : va_P (gD G) vwCl [(e0, .inr (6, [.ref ea, .ref ek, .ref eh, .int hq, .ref es, .ref ei, .ref el, .ref ew, .ref et, .ref er, .int lf, .int md, .ref ed, .ref ep, .int pn, .int sp, .ref ex, .ref eu, .int rm, .int la])), (ea, .inl (gI G, 42, .inl (nA al)))] H := hP
  have hD : va_D A [(e0, .inr (6, [.ref ea, .ref ek, .ref eh, .int hq, .ref es, .ref ei, .ref el, .ref ew, .ref et, .ref er, .int lf, .int md, .ref ed, .ref ep, .int pn, .int sp, .ref ex, .ref eu, .int rm, .int la])), (ea, .inl (gI G, 42, .inl (nA al)))] := hD
  refine z_top (y := nI (bN (decide (1 ≤ x.toInt ∧ x.toInt < ((2 ^ al 0 : Nat) : Int))))) (congrArg (fun z => nI (bN z)) (by rw [h1s]; exact in_1 hp2)) ?_
  exact z_zret S hrt hlk hP hD hS () rfl rfl (z_bnar _) dX6_isSet_13
set_option maxHeartbeats 4000000 in
set_option maxRecDepth 100000 in
theorem c_X6_isRule (l : Launch) (G : gT) (e0 ea ek eh es ei el ew et er ed ep ex eu : Nat) (hq : Int32) (lf : Int32) (md : Int32) (pn : Int32) (sp : Int32) (rm : Int32) (la : Int32) (al : Nat → Nat) (x : Int32) (hn3 : al 1 ≤ 20) : CI l yX6_isRule wsX6_isRule ({ frames := 1, cells := 0, slots := 0, locals := 25 } : Room) G [.ref e0, .int x] [(e0, .inr (6, [.ref ea, .ref ek, .ref eh, .int hq, .ref es, .ref ei, .ref el, .ref ew, .ref et, .ref er, .int lf, .int md, .ref ed, .ref ep, .int pn, .int sp, .ref ex, .ref eu, .int rm, .int la])), (ea, .inl (gI G, 42, .inl (nA al)))] 0 0 (fun (r : Int32) (u : Unit) => r = nI (bN (decide (0 ≤ x.toInt ∧ x.toInt < (al 1 : Int))))) (fun (u : Unit) => [(e0, .inr (6, [.ref ea, .ref ek, .ref eh, .int hq, .ref es, .ref ei, .ref el, .ref ew, .ref et, .ref er, .int lf, .int md, .ref ed, .ref ep, .int pn, .int sp, .ref ex, .ref eu, .int rm, .int la])), (ea, .inl (gI G, 42, .inl (nA al)))]) := by
  refine CI.of (cc := cX6_isRule) (maxL := 2) (ret := (some .boolean)) (by decide +kernel) rfl (Nat.le_of_ble_eq_true rfl) rfl (fun p e s m args below meth c A S hrt hlk hnm K hA hP hD hS ls hl => ?_)
  have hx := S.1
  have hb := S.2.1
  have hl : lv_has ls 2 [(0, .ref e0), (1, .int x)] := hl
  refine lv_iload_n hx hb dX6_isRule_0 rfl (lv_at hl 1 rfl) ?_
  refine lv_i2l (v := Int32.toInt64 x) hx hb dX6_isRule_1 rfl ?_
  refine lv_lconst (v := lN 0) hx hb dX6_isRule_2 (by decide +kernel) ?_
  refine lv_aload_n hx hb dX6_isRule_3 rfl (lv_at hl 0 rfl) ?_
  refine z_get S K hP hX6_isRule_X6 0 rfl rfl 0 (by decide) kX6_isRule_1 rfl rfl dX6_isRule_4 ?_
  refine lv_iconst (v := nI 1) hx hb dX6_isRule_7 (by decide +kernel) ?_
  refine z_iald S K hP 1 rfl (by omega) (by decide) dX6_isRule_8 ?_
  refine lv_i2l (v := lN (al 1)) hx hb dX6_isRule_9 (nI_l (by omega)) ?_
  refine lv_lconst (v := lN 1) hx hb dX6_isRule_10 (by decide +kernel) ?_
  refine lv_lsub hx hb dX6_isRule_11 ?_
  refine zcSi (rest := []) S K hP hD hS hA hl.1 (c_X6_in l G (Int32.toInt64 x) (lN 0) ((lN (al 1)) - (lN 1)) ) rfl rfl gX6_isRule_X6_in rfl eX6_in.2 [] (by decide +kernel) rfl (fun _ => rfl) rfl rfl (Nat.le_of_ble_eq_true rfl) (Nat.le_of_ble_eq_true rfl) (Nat.le_of_ble_eq_true rfl) ⟨Nat.zero_le _, Nat.zero_le _⟩ dX6_isRule_12 (fun r_12 u_12 H locs hw_12 hP hD hS => ?_)
  replace hw_12 : r_12 = nI (bN (decide ((lN 0).toInt ≤ (Int32.toInt64 x).toInt ∧ (Int32.toInt64 x).toInt ≤ ((lN (al 1)) - (lN 1)).toInt))) := hw_12
  obtain rfl := hw_12
  have hP : va_P (gD G) vwCl [(e0, .inr (6, [.ref ea, .ref ek, .ref eh, .int hq, .ref es, .ref ei, .ref el, .ref ew, .ref et, .ref er, .int lf, .int md, .ref ed, .ref ep, .int pn, .int sp, .ref ex, .ref eu, .int rm, .int la])), (ea, .inl (gI G, 42, .inl (nA al)))] H := hP
  have hD : va_D A [(e0, .inr (6, [.ref ea, .ref ek, .ref eh, .int hq, .ref es, .ref ei, .ref el, .ref ew, .ref et, .ref er, .int lf, .int md, .ref ed, .ref ep, .int pn, .int sp, .ref ex, .ref eu, .int rm, .int la])), (ea, .inl (gI G, 42, .inl (nA al)))] := hD
  refine z_top (y := nI (bN (decide (0 ≤ x.toInt ∧ x.toInt < (al 1 : Int))))) (congrArg (fun z => nI (bN z)) (in_0 (by omega))) ?_
  exact z_zret S hrt hlk hP hD hS () rfl rfl (z_bnar _) dX6_isRule_15
set_option maxHeartbeats 4000000 in
set_option maxRecDepth 100000 in
theorem c_X6_fits (l : Launch) (G : gT) (e0 ea ek eh es ei el ew et er ed ep ex eu : Nat) (hq : Int32) (lf : Int32) (md : Int32) (pn : Int32) (sp : Int32) (rm : Int32) (la : Int32) (al : Nat → Nat) (w : Nat) (i : Nat) (hi : i < 20) (hw : w < 4096) (hg : al (22 + i) ≤ 1) : CI l yX6_fits wsX6_fits ({ frames := 2, cells := 0, slots := 0, locals := 42 } : Room) G [.ref e0, .int (nI w), .int (nI i)] [(e0, .inr (6, [.ref ea, .ref ek, .ref eh, .int hq, .ref es, .ref ei, .ref el, .ref ew, .ref et, .ref er, .int lf, .int md, .ref ed, .ref ep, .int pn, .int sp, .ref ex, .ref eu, .int rm, .int la])), (ea, .inl (gI G, 42, .inl (nA al)))] 0 0 (fun (r : Int32) (u : Unit) => r = nI (bN (decide (pty (w &&& al (2 + i)) = al (22 + i))))) (fun (u : Unit) => [(e0, .inr (6, [.ref ea, .ref ek, .ref eh, .int hq, .ref es, .ref ei, .ref el, .ref ew, .ref et, .ref er, .int lf, .int md, .ref ed, .ref ep, .int pn, .int sp, .ref ex, .ref eu, .int rm, .int la])), (ea, .inl (gI G, 42, .inl (nA al)))]) := by
  refine CI.of (cc := cX6_fits) (maxL := 3) (ret := (some .boolean)) (by decide +kernel) rfl (Nat.le_of_ble_eq_true rfl) rfl (fun p e s m args below meth c A S hrt hlk hnm K hA hP hD hS ls hl => ?_)
  have hx := S.1
  have hb := S.2.1
  have hl : lv_has ls 3 [(0, .ref e0), (1, .int (nI w)), (2, .int (nI i))] := hl
  refine lv_iload_n hx hb dX6_fits_0 rfl (lv_at hl 1 rfl) ?_
  refine lv_aload_n hx hb dX6_fits_1 rfl (lv_at hl 0 rfl) ?_
  refine z_get S K hP hX6_fits_X6 0 rfl rfl 0 (by decide) kX6_fits_1 rfl rfl dX6_fits_2 ?_
  refine lv_iconst (v := nI 2) hx hb dX6_fits_5 (by decide +kernel) ?_
  refine lv_iload_n hx hb dX6_fits_6 rfl (lv_at hl 2 rfl) ?_
  refine zi_add S dX6_fits_7 ?_
  refine z_iald S K hP 1 rfl (by omega) (by decide) dX6_fits_8 ?_
  refine zi_and S dX6_fits_9 ?_
  refine zcSi (rest := []) S K hP hD hS hA hl.1 (c_X6_odd l G (w &&& (al (2 + i))) (Nat.lt_of_le_of_lt Nat.and_le_left (by omega))) rfl rfl gX6_fits_X6_odd rfl eX6_odd.2 [] (by decide +kernel) rfl (fun _ => rfl) rfl rfl (Nat.le_of_ble_eq_true rfl) (Nat.le_of_ble_eq_true rfl) (Nat.le_of_ble_eq_true rfl) ⟨Nat.zero_le _, Nat.zero_le _⟩ dX6_fits_10 (fun r_10 u_10 H locs hw_10 hP hD hS => ?_)
  replace hw_10 : r_10 = nI (pty (w &&& (al (2 + i)))) := hw_10
  obtain rfl := hw_10
  have hP : va_P (gD G) vwCl [(e0, .inr (6, [.ref ea, .ref ek, .ref eh, .int hq, .ref es, .ref ei, .ref el, .ref ew, .ref et, .ref er, .int lf, .int md, .ref ed, .ref ep, .int pn, .int sp, .ref ex, .ref eu, .int rm, .int la])), (ea, .inl (gI G, 42, .inl (nA al)))] H := hP
  have hD : va_D A [(e0, .inr (6, [.ref ea, .ref ek, .ref eh, .int hq, .ref es, .ref ei, .ref el, .ref ew, .ref et, .ref er, .int lf, .int md, .ref ed, .ref ep, .int pn, .int sp, .ref ex, .ref eu, .int rm, .int la])), (ea, .inl (gI G, 42, .inl (nA al)))] := hD
  refine lv_aload_n hx hb dX6_fits_13 rfl (lv_at hl 0 rfl) ?_
  refine z_get S K hP hX6_fits_X6 0 rfl rfl 0 (by decide) kX6_fits_1 rfl rfl dX6_fits_14 ?_
  refine lv_bipush (v := nI 22) hx hb dX6_fits_17 (by decide +kernel) ?_
  refine lv_iload_n hx hb dX6_fits_19 rfl (lv_at hl 2 rfl) ?_
  refine zi_add S dX6_fits_20 ?_
  refine z_iald S K hP 1 rfl (by omega) (by decide) dX6_fits_21 ?_
  refine zb_ne (tgt := 29) S dX6_fits_22 (by decide) (Nat.lt_of_le_of_lt (pty_le _) (by decide)) (by omega) (fun c_22 => ?_) (fun c_22 => ?_)
  · skip
    refine lv_iconst (v := nI 0) hx hb dX6_fits_29 (by decide +kernel) ?_
    refine z_top (y := nI (bN (decide (pty (w &&& al (2 + i)) = al (22 + i))))) (bz_f (decide_eq_false c_22)) ?_
    exact z_zret S hrt hlk hP hD hS () rfl rfl (z_bnar _) dX6_fits_30
  · skip
    refine lv_iconst (v := nI 1) hx hb dX6_fits_25 (by decide +kernel) ?_
    refine lv_goto (tgt := 30) hx hb dX6_fits_26 (by decide) ?_
    refine z_top (y := nI (bN (decide (pty (w &&& al (2 + i)) = al (22 + i))))) (bz_t (decide_eq_true c_22)) ?_
    exact z_zret S hrt hlk hP hD hS () rfl rfl (z_bnar _) dX6_fits_30
set_option maxHeartbeats 4000000 in
set_option maxRecDepth 100000 in
theorem c_X6_keep (l : Launch) (G : gT) (e0 ea ek eh es ei el ew et er ed ep ex eu : Nat) (hq : Int32) (lf : Int32) (md : Int32) (pn : Int32) (sp : Int32) (rm : Int32) (la : Int32) (al : Nat → Nat) (ka : Nat → Nat) : CV l yX6_keep wsX6_keep ({ frames := 0, cells := 0, slots := 0, locals := 0 } : Room) G [.ref e0] [(e0, .inr (6, [.ref ea, .ref ek, .ref eh, .int hq, .ref es, .ref ei, .ref el, .ref ew, .ref et, .ref er, .int lf, .int md, .ref ed, .ref ep, .int pn, .int sp, .ref ex, .ref eu, .int rm, .int la])), (ea, .inl (gI G, 42, .inl (nA al))), (ek, .inl (gI G, 42, .inl (nA ka)))] 0 0 (fun (u : (Nat → Nat)) => ∀ j, j < 42 → u j = al j) (fun (u : (Nat → Nat)) => [(e0, .inr (6, [.ref ea, .ref ek, .ref eh, .int hq, .ref es, .ref ei, .ref el, .ref ew, .ref et, .ref er, .int lf, .int md, .ref ed, .ref ep, .int pn, .int sp, .ref ex, .ref eu, .int rm, .int la])), (ea, .inl (gI G, 42, .inl (nA al))), (ek, .inl (gI G, 42, .inl (nA u)))]) := by
  refine CV.of (cc := cX6_keep) (maxL := 2) (ret := none) (by decide +kernel) rfl (Nat.le_of_ble_eq_true rfl) rfl (fun p e s m args below meth c A S hrt hlk hnm K hA hP hD hS ls hl => ?_)
  have hx := S.1
  have hb := S.2.1
  have hl : lv_has ls 2 [(0, .ref e0)] := hl
  refine lv_iconst (v := nI 0) hx hb dX6_keep_0 (by decide +kernel) ?_
  refine lv_istore_n (lv' := [(1, .int (nI 0)), (0, .ref e0)]) hx hb dX6_keep_1 rfl hl (by decide) rfl (fun ls hl => ?_)
  have lp_2 : ∀ (n_2 : Nat) (i : Nat) (k1 : Nat → Nat), 42 - i < n_2 → (i ≤ 42) → (∀ j, j < i → k1 j = al j) → ∀ (H : Heap) (locs : List Loc), va_P (gD G) vwCl [(e0, .inr (6, [.ref ea, .ref ek, .ref eh, .int hq, .ref es, .ref ei, .ref el, .ref ew, .ref et, .ref er, .int lf, .int md, .ref ed, .ref ep, .int pn, .int sp, .ref ex, .ref eu, .int rm, .int la])), (ea, .inl (gI G, 42, .inl (nA al))), (ek, .inl (gI G, 42, .inl (nA k1)))] H → va_D A [(e0, .inr (6, [.ref ea, .ref ek, .ref eh, .int hq, .ref es, .ref ei, .ref el, .ref ew, .ref et, .ref er, .int lf, .int md, .ref ed, .ref ep, .int pn, .int sp, .ref ex, .ref eu, .int rm, .int la])), (ea, .inl (gI G, 42, .inl (nA al))), (ek, .inl (gI G, 42, .inl (nA k1)))] → va_S A s.heap H locs → ∀ ls : Array Slot, lv_has ls 2 [(1, .int (nI i)), (0, .ref e0)] → W p l e ({ frames := 0, cells := 0, slots := 0, locals := 0 } : Room) s m args below meth c H locs 0 0 (MQ below (va_Qv (fun (u : (Nat → Nat)) => ∀ j, j < 42 → u j = al j) (cB G A (fun (u : (Nat → Nat)) => [(e0, .inr (6, [.ref ea, .ref ek, .ref eh, .int hq, .ref es, .ref ei, .ref el, .ref ew, .ref et, .ref er, .int lf, .int md, .ref ed, .ref ep, .int pn, .int sp, .ref ex, .ref eu, .int rm, .int la])), (ea, .inl (gI G, 42, .inl (nA al))), (ek, .inl (gI G, 42, .inl (nA u)))])) A) args s 0 0 A) (F0 m 2 ls []) := by
    intro n_2
    induction n_2 with
    | zero =>
      intro i k1 h0
      exact absurd h0 (Nat.not_lt_zero _)
    | succ n_2 ih_2 =>
      intro i k1 hm_2 hi hk H locs hP hD hS ls hl
      refine lv_iload_n hx hb dX6_keep_2 rfl (lv_at hl 0 rfl) ?_
      refine lv_bipush (v := nI 42) hx hb dX6_keep_3 (by decide +kernel) ?_
      refine zb_ge (tgt := 26) S dX6_keep_5 (by decide) (by omega) (by decide) (fun c_5 => ?_) (fun c_5 => ?_)
      · skip
        have hi42 : i = 42 := by omega
        obtain rfl : i = 42 := hi42
        exact z_vret S hrt hlk hP hD hS k1 rfl hk dX6_keep_26
      · skip
        refine lv_aload_n hx hb dX6_keep_8 rfl (lv_at hl 1 rfl) ?_
        refine z_get S K hP hX6_keep_X6 0 rfl rfl 1 (by decide) kX6_keep_1 rfl rfl dX6_keep_9 ?_
        refine lv_iload_n hx hb dX6_keep_12 rfl (lv_at hl 0 rfl) ?_
        refine lv_aload_n hx hb dX6_keep_13 rfl (lv_at hl 1 rfl) ?_
        refine z_get S K hP hX6_keep_X6 0 rfl rfl 0 (by decide) kX6_keep_2 rfl rfl dX6_keep_14 ?_
        refine lv_iload_n hx hb dX6_keep_17 rfl (lv_at hl 0 rfl) ?_
        refine z_iald S K hP 1 rfl (by omega) (by decide) dX6_keep_18 ?_
        refine z_iast S K hP hD hS 2 rfl (by omega) (by decide) dX6_keep_19 (fun H locs hP hD hS => ?_)
        have hP : va_P (gD G) vwCl [(e0, .inr (6, [.ref ea, .ref ek, .ref eh, .int hq, .ref es, .ref ei, .ref el, .ref ew, .ref et, .ref er, .int lf, .int md, .ref ed, .ref ep, .int pn, .int sp, .ref ex, .ref eu, .int rm, .int la])), (ea, .inl (gI G, 42, .inl (nA al))), (ek, .inl (gI G, 42, .inl (nA (pu k1 i (al i)))))] H := hP
        have hD : va_D A [(e0, .inr (6, [.ref ea, .ref ek, .ref eh, .int hq, .ref es, .ref ei, .ref el, .ref ew, .ref et, .ref er, .int lf, .int md, .ref ed, .ref ep, .int pn, .int sp, .ref ex, .ref eu, .int rm, .int la])), (ea, .inl (gI G, 42, .inl (nA al))), (ek, .inl (gI G, 42, .inl (nA (pu k1 i (al i)))))] := hD
        refine lv_iinc (v := (nI (i + 1))) (lv' := [(1, .int (nI (i + 1))), (0, .ref e0)]) hx hb dX6_keep_20 hl (k := 0) rfl (z_i1 _) (by decide) rfl (fun ls hl => ?_)
        refine lv_goto (tgt := 2) hx hb dX6_keep_23 (by decide) ?_
        exact ih_2 (i + 1) (pu k1 i (al i)) (by omega) (by omega) (cp_1 hk) _ _ hP hD hS _ (lv_sub hl [0, 1] rfl)
  exact lp_2 _ 0 ka (Nat.lt_succ_self _) (by omega) (fun j hj => absurd hj (Nat.not_lt_zero _)) _ _ hP hD hS _ (lv_sub hl [0, 1] rfl)
set_option maxHeartbeats 4000000 in
set_option maxRecDepth 100000 in
theorem c_X6_giveBack (l : Launch) (G : gT) (e0 ea ek eh es ei el ew et er ed ep ex eu : Nat) (hq : Int32) (lf : Int32) (md : Int32) (pn : Int32) (sp : Int32) (rm : Int32) (la : Int32) (ka : Nat → Nat) (al : Nat → Nat) : CV l yX6_giveBack wsX6_giveBack ({ frames := 0, cells := 0, slots := 0, locals := 0 } : Room) G [.ref e0] [(e0, .inr (6, [.ref ea, .ref ek, .ref eh, .int hq, .ref es, .ref ei, .ref el, .ref ew, .ref et, .ref er, .int lf, .int md, .ref ed, .ref ep, .int pn, .int sp, .ref ex, .ref eu, .int rm, .int la])), (ek, .inl (gI G, 42, .inl (nA ka))), (ea, .inl (gI G, 42, .inl (nA al)))] 0 0 (fun (u : (Nat → Nat)) => ∀ j, j < 42 → u j = ka j) (fun (u : (Nat → Nat)) => [(e0, .inr (6, [.ref ea, .ref ek, .ref eh, .int hq, .ref es, .ref ei, .ref el, .ref ew, .ref et, .ref er, .int lf, .int md, .ref ed, .ref ep, .int pn, .int sp, .ref ex, .ref eu, .int rm, .int la])), (ek, .inl (gI G, 42, .inl (nA ka))), (ea, .inl (gI G, 42, .inl (nA u)))]) := by
  refine CV.of (cc := cX6_giveBack) (maxL := 2) (ret := none) (by decide +kernel) rfl (Nat.le_of_ble_eq_true rfl) rfl (fun p e s m args below meth c A S hrt hlk hnm K hA hP hD hS ls hl => ?_)
  have hx := S.1
  have hb := S.2.1
  have hl : lv_has ls 2 [(0, .ref e0)] := hl
  refine lv_iconst (v := nI 0) hx hb dX6_giveBack_0 (by decide +kernel) ?_
  refine lv_istore_n (lv' := [(1, .int (nI 0)), (0, .ref e0)]) hx hb dX6_giveBack_1 rfl hl (by decide) rfl (fun ls hl => ?_)
  have lp_2 : ∀ (n_2 : Nat) (i : Nat) (k1 : Nat → Nat), 42 - i < n_2 → (i ≤ 42) → (∀ j, j < i → k1 j = ka j) → ∀ (H : Heap) (locs : List Loc), va_P (gD G) vwCl [(e0, .inr (6, [.ref ea, .ref ek, .ref eh, .int hq, .ref es, .ref ei, .ref el, .ref ew, .ref et, .ref er, .int lf, .int md, .ref ed, .ref ep, .int pn, .int sp, .ref ex, .ref eu, .int rm, .int la])), (ek, .inl (gI G, 42, .inl (nA ka))), (ea, .inl (gI G, 42, .inl (nA k1)))] H → va_D A [(e0, .inr (6, [.ref ea, .ref ek, .ref eh, .int hq, .ref es, .ref ei, .ref el, .ref ew, .ref et, .ref er, .int lf, .int md, .ref ed, .ref ep, .int pn, .int sp, .ref ex, .ref eu, .int rm, .int la])), (ek, .inl (gI G, 42, .inl (nA ka))), (ea, .inl (gI G, 42, .inl (nA k1)))] → va_S A s.heap H locs → ∀ ls : Array Slot, lv_has ls 2 [(1, .int (nI i)), (0, .ref e0)] → W p l e ({ frames := 0, cells := 0, slots := 0, locals := 0 } : Room) s m args below meth c H locs 0 0 (MQ below (va_Qv (fun (u : (Nat → Nat)) => ∀ j, j < 42 → u j = ka j) (cB G A (fun (u : (Nat → Nat)) => [(e0, .inr (6, [.ref ea, .ref ek, .ref eh, .int hq, .ref es, .ref ei, .ref el, .ref ew, .ref et, .ref er, .int lf, .int md, .ref ed, .ref ep, .int pn, .int sp, .ref ex, .ref eu, .int rm, .int la])), (ek, .inl (gI G, 42, .inl (nA ka))), (ea, .inl (gI G, 42, .inl (nA u)))])) A) args s 0 0 A) (F0 m 2 ls []) := by
    intro n_2
    induction n_2 with
    | zero =>
      intro i k1 h0
      exact absurd h0 (Nat.not_lt_zero _)
    | succ n_2 ih_2 =>
      intro i k1 hm_2 hi hk H locs hP hD hS ls hl
      refine lv_iload_n hx hb dX6_giveBack_2 rfl (lv_at hl 0 rfl) ?_
      refine lv_bipush (v := nI 42) hx hb dX6_giveBack_3 (by decide +kernel) ?_
      refine zb_ge (tgt := 26) S dX6_giveBack_5 (by decide) (by omega) (by decide) (fun c_5 => ?_) (fun c_5 => ?_)
      · skip
        have hi42 : i = 42 := by omega
        obtain rfl : i = 42 := hi42
        exact z_vret S hrt hlk hP hD hS k1 rfl hk dX6_giveBack_26
      · skip
        refine lv_aload_n hx hb dX6_giveBack_8 rfl (lv_at hl 1 rfl) ?_
        refine z_get S K hP hX6_giveBack_X6 0 rfl rfl 0 (by decide) kX6_giveBack_1 rfl rfl dX6_giveBack_9 ?_
        refine lv_iload_n hx hb dX6_giveBack_12 rfl (lv_at hl 0 rfl) ?_
        refine lv_aload_n hx hb dX6_giveBack_13 rfl (lv_at hl 1 rfl) ?_
        refine z_get S K hP hX6_giveBack_X6 0 rfl rfl 1 (by decide) kX6_giveBack_2 rfl rfl dX6_giveBack_14 ?_
        refine lv_iload_n hx hb dX6_giveBack_17 rfl (lv_at hl 0 rfl) ?_
        refine z_iald S K hP 1 rfl (by omega) (by decide) dX6_giveBack_18 ?_
        refine z_iast S K hP hD hS 2 rfl (by omega) (by decide) dX6_giveBack_19 (fun H locs hP hD hS => ?_)
        have hP : va_P (gD G) vwCl [(e0, .inr (6, [.ref ea, .ref ek, .ref eh, .int hq, .ref es, .ref ei, .ref el, .ref ew, .ref et, .ref er, .int lf, .int md, .ref ed, .ref ep, .int pn, .int sp, .ref ex, .ref eu, .int rm, .int la])), (ek, .inl (gI G, 42, .inl (nA ka))), (ea, .inl (gI G, 42, .inl (nA (pu k1 i (ka i)))))] H := hP
        have hD : va_D A [(e0, .inr (6, [.ref ea, .ref ek, .ref eh, .int hq, .ref es, .ref ei, .ref el, .ref ew, .ref et, .ref er, .int lf, .int md, .ref ed, .ref ep, .int pn, .int sp, .ref ex, .ref eu, .int rm, .int la])), (ek, .inl (gI G, 42, .inl (nA ka))), (ea, .inl (gI G, 42, .inl (nA (pu k1 i (ka i)))))] := hD
        refine lv_iinc (v := (nI (i + 1))) (lv' := [(1, .int (nI (i + 1))), (0, .ref e0)]) hx hb dX6_giveBack_20 hl (k := 0) rfl (z_i1 _) (by decide) rfl (fun ls hl => ?_)
        refine lv_goto (tgt := 2) hx hb dX6_giveBack_23 (by decide) ?_
        exact ih_2 (i + 1) (pu k1 i (ka i)) (by omega) (by omega) (cp_1 hk) _ _ hP hD hS _ (lv_sub hl [0, 1] rfl)
  exact lp_2 _ 0 al (Nat.lt_succ_self _) (by omega) (fun j hj => absurd hj (Nat.not_lt_zero _)) _ _ hP hD hS _ (lv_sub hl [0, 1] rfl)
