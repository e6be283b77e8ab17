set_option maxHeartbeats 4000000 in
set_option maxRecDepth 100000 in
theorem c_X6_adds (l : Launch) (G : gT) (e0 ea ek eh es ei el ew et er ed ep ex eu : Nat) (hq : Int32) (lf : Int32) (md : Int32) (pn : Int32) (sp : Int32) (rm : Int32) (la : Int32) (al : Nat → Nat) (w : Nat) (y : Nat) (hn20 : al 1 < 20) : CV l yX6_adds wsX6_adds ({ frames := 0, cells := 0, slots := 0, locals := 0 } : Room) G [.ref e0, .int (nI w), .int (nI y)] [(e0, .inr (6, [.ref ea, .ref ek, .ref eh, .int hq, .ref es, .ref ei, .ref el, .ref ew, .ref et, .ref er, .int lf, .int md, .ref ed, .ref ep, .int pn, .int sp, .ref ex, .ref eu, .int rm, .int la])), (ea, .inl (gI G, 42, .inl (nA al)))] 0 0 (fun (u : Unit) => True) (fun (u : Unit) => [(e0, .inr (6, [.ref ea, .ref ek, .ref eh, .int hq, .ref es, .ref ei, .ref el, .ref ew, .ref et, .ref er, .int lf, .int md, .ref ed, .ref ep, .int pn, .int sp, .ref ex, .ref eu, .int rm, .int la])), (ea, .inl (gI G, 42, .inl (nA (pu (pu (pu al (2 + al 1) w) (22 + al 1) y) 1 (al 1 + 1)))))]) := by
  refine CV.of (cc := cX6_adds) (maxL := 3) (ret := none) (by decide +kernel) rfl (Nat.le_of_ble_eq_true rfl) rfl (fun p e s m args below meth c A S hrt hlk hnm K hA hP hD hS ls hl => ?_)
  have hx := S.1
  have hb := S.2.1
  have hl : lv_has ls 3 [(0, .ref e0), (1, .int (nI w)), (2, .int (nI y))] := hl
  refine lv_aload_n hx hb dX6_adds_0 rfl (lv_at hl 0 rfl) ?_
  refine z_get S K hP hX6_adds_X6 0 rfl rfl 0 (by decide) kX6_adds_1 rfl rfl dX6_adds_1 ?_
  refine lv_iconst (v := nI 2) hx hb dX6_adds_4 (by decide +kernel) ?_
  refine lv_aload_n hx hb dX6_adds_5 rfl (lv_at hl 0 rfl) ?_
  refine z_get S K hP hX6_adds_X6 0 rfl rfl 0 (by decide) kX6_adds_1 rfl rfl dX6_adds_6 ?_
  refine lv_iconst (v := nI 1) hx hb dX6_adds_9 (by decide +kernel) ?_
  refine z_iald S K hP 1 rfl (by omega) (by decide) dX6_adds_10 ?_
  refine zi_add S dX6_adds_11 ?_
  refine lv_iload_n hx hb dX6_adds_12 rfl (lv_at hl 1 rfl) ?_
  refine z_iast S K hP hD hS 1 rfl (by omega) (by decide) dX6_adds_13 (fun H locs hP hD hS => ?_)
  have hP : va_P (gD G) vwCl [(e0, .inr (6, [.ref ea, .ref ek, .ref eh, .int hq, .ref es, .ref ei, .ref el, .ref ew, .ref et, .ref er, .int lf, .int md, .ref ed, .ref ep, .int pn, .int sp, .ref ex, .ref eu, .int rm, .int la])), (ea, .inl (gI G, 42, .inl (nA (pu al (2 + (al 1)) w))))] H := hP
  have hD : va_D A [(e0, .inr (6, [.ref ea, .ref ek, .ref eh, .int hq, .ref es, .ref ei, .ref el, .ref ew, .ref et, .ref er, .int lf, .int md, .ref ed, .ref ep, .int pn, .int sp, .ref ex, .ref eu, .int rm, .int la])), (ea, .inl (gI G, 42, .inl (nA (pu al (2 + (al 1)) w))))] := hD
  refine lv_aload_n hx hb dX6_adds_14 rfl (lv_at hl 0 rfl) ?_
  refine z_get S K hP hX6_adds_X6 0 rfl rfl 0 (by decide) kX6_adds_1 rfl rfl dX6_adds_15 ?_
  refine lv_bipush (v := nI 22) hx hb dX6_adds_18 (by decide +kernel) ?_
  refine lv_aload_n hx hb dX6_adds_20 rfl (lv_at hl 0 rfl) ?_
  refine z_get S K hP hX6_adds_X6 0 rfl rfl 0 (by decide) kX6_adds_1 rfl rfl dX6_adds_21 ?_
  refine lv_iconst (v := nI 1) hx hb dX6_adds_24 (by decide +kernel) ?_
  refine z_iald S K hP 1 rfl (by omega) (by decide) dX6_adds_25 ?_
  refine z_top (y := nI (al 1)) (congrArg nI (pu_n (by omega))) ?_
  refine zi_add S dX6_adds_26 ?_
  refine lv_iload_n hx hb dX6_adds_27 rfl (lv_at hl 2 rfl) ?_
  refine z_iast S K hP hD hS 1 rfl (by omega) (by decide) dX6_adds_28 (fun H locs hP hD hS => ?_)
  have hP : va_P (gD G) vwCl [(e0, .inr (6, [.ref ea, .ref ek, .ref eh, .int hq, .ref es, .ref ei, .ref el, .ref ew, .ref et, .ref er, .int lf, .int md, .ref ed, .ref ep, .int pn, .int sp, .ref ex, .ref eu, .int rm, .int la])), (ea, .inl (gI G, 42, .inl (nA (pu (pu al (2 + (al 1)) w) (22 + (al 1)) y))))] H := hP
  have hD : va_D A [(e0, .inr (6, [.ref ea, .ref ek, .ref eh, .int hq, .ref es, .ref ei, .ref el, .ref ew, .ref et, .ref er, .int lf, .int md, .ref ed, .ref ep, .int pn, .int sp, .ref ex, .ref eu, .int rm, .int la])), (ea, .inl (gI G, 42, .inl (nA (pu (pu al (2 + (al 1)) w) (22 + (al 1)) y))))] := hD
  refine lv_aload_n hx hb dX6_adds_29 rfl (lv_at hl 0 rfl) ?_
  refine z_get S K hP hX6_adds_X6 0 rfl rfl 0 (by decide) kX6_adds_1 rfl rfl dX6_adds_30 ?_
  refine lv_iconst (v := nI 1) hx hb dX6_adds_33 (by decide +kernel) ?_
  refine lv_dup2_11 hx hb dX6_adds_34 rfl rfl ?_
  refine z_iald S K hP 1 rfl (by omega) (by decide) dX6_adds_35 ?_
  refine z_top (y := nI (al 1)) (congrArg nI ((pu_n (by omega)).trans (pu_n (by omega)))) ?_
  refine lv_iconst (v := nI 1) hx hb dX6_adds_36 (by decide +kernel) ?_
  refine zi_add S dX6_adds_37 ?_
  refine z_iast S K hP hD hS 1 rfl (by omega) (by decide) dX6_adds_38 (fun H locs hP hD hS => ?_)
  have hP : va_P (gD G) vwCl [(e0, .inr (6, [.ref ea, .ref ek, .ref eh, .int hq, .ref es, .ref ei, .ref el, .ref ew, .ref et, .ref er, .int lf, .int md, .ref ed, .ref ep, .int pn, .int sp, .ref ex, .ref eu, .int rm, .int la])), (ea, .inl (gI G, 42, .inl (nA (pu (pu (pu al (2 + (al 1)) w) (22 + (al 1)) y) 1 ((al 1) + 1)))))] H := hP
  have hD : va_D A [(e0, .inr (6, [.ref ea, .ref ek, .ref eh, .int hq, .ref es, .ref ei, .ref el, .ref ew, .ref et, .ref er, .int lf, .int md, .ref ed, .ref ep, .int pn, .int sp, .ref ex, .ref eu, .int rm, .int la])), (ea, .inl (gI G, 42, .inl (nA (pu (pu (pu al (2 + (al 1)) w) (22 + (al 1)) y) 1 ((al 1) + 1)))))] := hD
  exact z_vret S hrt hlk hP hD hS () rfl trivial dX6_adds_39
set_option maxHeartbeats 4000000 in
set_option maxRecDepth 100000 in
theorem c_X6_choices (l : Launch) (G : gT) (e0 ea ek eh es ei el ew et er ed ep ex eu : Nat) (lf : Int32) (md : Int32) (pn : Int32) (sp : Int32) (rm : Int32) (la : Int32) (al : Nat → Nat) (ka : Nat → Nat) (hy : Nat → Nat) (le : Nat → Nat) (wh : Nat → Nat) (ms : Nat → Nat) (mr : Nat → Nat) (hq : Nat) (x : Int32) (hR : RowOK (mR al)) (hq6 : hq ≤ 6) (hn : ∀ k, k < hq → hy (42 * k + 1) ≤ 20) : CI l yX6_choices wsX6_choices ({ frames := 1, cells := 0, slots := 0, locals := 25 } : Room) G [.ref e0, .int x] [(e0, .inr (6, [.ref ea, .ref ek, .ref eh, .int (nI hq), .ref es, .ref ei, .ref el, .ref ew, .ref et, .ref er, .int lf, .int md, .ref ed, .ref ep, .int pn, .int sp, .ref ex, .ref eu, .int rm, .int la])), (ea, .inl (gI G, 42, .inl (nA al))), (ek, .inl (gI G, 42, .inl (nA ka))), (eh, .inl (gI G, 252, .inl (nA hy))), (el, .inl (gI G, 12, .inl (nA le))), (ew, .inl (gI G, 12, .inl (nA wh))), (et, .inl (gI G, 20, .inl (nA ms))), (er, .inl (gI G, 20, .inl (nA mr)))] 0 0 (fun (r : Int32) (u : Nat × Int32 × Int32 × (Nat → Nat) × (Nat → Nat) × (Nat → Nat) × (Nat → Nat) × (Nat → Nat) × (Nat → Nat) × (Nat → Nat)) => r = (r_choices (mR al) x) ∧ (mR u.2.2.2.1, mH u.1 u.2.2.2.2.2.1) = n_choices (mR al) (mH hq hy) x) (fun (u : Nat × Int32 × Int32 × (Nat → Nat) × (Nat → Nat) × (Nat → Nat) × (Nat → Nat) × (Nat → Nat) × (Nat → Nat) × (Nat → Nat)) => [(e0, .inr (6, [.ref ea, .ref ek, .ref eh, .int (nI u.1), .ref es, .ref ei, .ref el, .ref ew, .ref et, .ref er, .int u.2.1, .int u.2.2.1, .ref ed, .ref ep, .int pn, .int sp, .ref ex, .ref eu, .int rm, .int la])), (ea, .inl (gI G, 42, .inl (nA u.2.2.2.1))), (ek, .inl (gI G, 42, .inl (nA u.2.2.2.2.1))), (eh, .inl (gI G, 252, .inl (nA u.2.2.2.2.2.1))), (el, .inl (gI G, 12, .inl (nA u.2.2.2.2.2.2.1))), (ew, .inl (gI G, 12, .inl (nA u.2.2.2.2.2.2.2.1))), (et, .inl (gI G, 20, .inl (nA u.2.2.2.2.2.2.2.2.1))), (er, .inl (gI G, 20, .inl (nA u.2.2.2.2.2.2.2.2.2)))]) := by
  refine CI.of (cc := cX6_choices) (maxL := 3) (ret := (some .int)) (by decide +kernel) rfl (Nat.le_of_ble_eq_true rfl) rfl (fun p e s m args below meth c A S hrt hlk hnm K hA hP hD hS ls hl => ?_)
  have hx := S.1
  have hb := S.2.1
  have hl : lv_has ls 3 [(0, .ref e0), (1, .int x)] := hl
  obtain ⟨hc1, hc2, hn3, hf4, hf5, hg6⟩ := mrow hR
  have hp2 := p12 hc2
  have h1s : 1 <<< al 0 = 2 ^ al 0 := Nat.one_shiftLeft _
  have hL0 := lN_toInt (n := 0) (by decide)
  have hL1 := lN_toInt (n := 1) (by decide)
  have hL12 := lN_toInt (n := 12) (by decide)
  have hLx := Int32.toInt_toInt64 x
  refine lv_iload_n hx hb dX6_choices_0 rfl (lv_at hl 1 rfl) ?_
  refine lv_i2l (v := Int32.toInt64 x) hx hb dX6_choices_1 rfl ?_
  refine lv_lconst (v := lN 1) hx hb dX6_choices_2 (by decide +kernel) ?_
  refine lv_ldc2 (v := lN 12) hx hb S.2.2.2.1 (S.2.2.2.2 _ kX6_choices_1) dX6_choices_3 ?_
  refine zcSi (rest := []) S K hP hD hS hA hl.1 (c_X6_in l G (Int32.toInt64 x) (lN 1) (lN 12) ) rfl rfl gX6_choices_X6_in rfl eX6_in.2 [] (by decide +kernel) rfl (fun _ => rfl) rfl rfl (Nat.le_of_ble_eq_true rfl) (Nat.le_of_ble_eq_true rfl) (Nat.le_of_ble_eq_true rfl) ⟨Nat.zero_le _, Nat.zero_le _⟩ dX6_choices_6 (fun r_6 u_6 H locs hw_6 hP hD hS => ?_)
  replace hw_6 : r_6 = nI (bN (decide ((lN 1).toInt ≤ (Int32.toInt64 x).toInt ∧ (Int32.toInt64 x).toInt ≤ (lN 12).toInt))) := hw_6
  obtain rfl := hw_6
  have hP : va_P (gD G) vwCl [(e0, .inr (6, [.ref ea, .ref ek, .ref eh, .int (nI hq), .ref es, .ref ei, .ref el, .ref ew, .ref et, .ref er, .int lf, .int md, .ref ed, .ref ep, .int pn, .int sp, .ref ex, .ref eu, .int rm, .int la])), (ea, .inl (gI G, 42, .inl (nA al))), (ek, .inl (gI G, 42, .inl (nA ka))), (eh, .inl (gI G, 252, .inl (nA hy))), (el, .inl (gI G, 12, .inl (nA le))), (ew, .inl (gI G, 12, .inl (nA wh))), (et, .inl (gI G, 20, .inl (nA ms))), (er, .inl (gI G, 20, .inl (nA mr)))] H := hP
  have hD : va_D A [(e0, .inr (6, [.ref ea, .ref ek, .ref eh, .int (nI hq), .ref es, .ref ei, .ref el, .ref ew, .ref et, .ref er, .int lf, .int md, .ref ed, .ref ep, .int pn, .int sp, .ref ex, .ref eu, .int rm, .int la])), (ea, .inl (gI G, 42, .inl (nA al))), (ek, .inl (gI G, 42, .inl (nA ka))), (eh, .inl (gI G, 252, .inl (nA hy))), (el, .inl (gI G, 12, .inl (nA le))), (ew, .inl (gI G, 12, .inl (nA wh))), (et, .inl (gI G, 20, .inl (nA ms))), (er, .inl (gI G, 20, .inl (nA mr)))] := hD
  refine zf_ne (tgt := 15) S dX6_choices_9 (by decide) (bN_31 _) (fun c_9 => ?_) (fun c_9 => ?_)
  · skip
    have c_9 := of_decide_eq_true (bN_ne0 c_9)
    obtain ⟨a, ha1, ha2, ha3⟩ := z_of (x := x) (by omega)
    have hl : lv_has ls 3 [(0, .ref e0), (1, .int (nI a))] := by rw [ha2] at hl; exact hl
    refine lv_iconst (v := nI 0) hx hb dX6_choices_15 (by decide +kernel) ?_
    refine lv_istore_n (lv' := [(2, .int (nI 0)), (0, .ref e0), (1, .int (nI a))]) hx hb dX6_choices_16 rfl hl (by decide) rfl (fun ls hl => ?_)
    have lp_17 : ∀ (n_17 : Nat) (i : Nat), al 1 - i < n_17 → (i ≤ al 1) → (∀ j, j < i → al (2 + j) >>> a = 0) → ∀ (H : Heap) (locs : List Loc), va_P (gD G) vwCl [(e0, .inr (6, [.ref ea, .ref ek, .ref eh, .int (nI hq), .ref es, .ref ei, .ref el, .ref ew, .ref et, .ref er, .int lf, .int md, .ref ed, .ref ep, .int pn, .int sp, .ref ex, .ref eu, .int rm, .int la])), (ea, .inl (gI G, 42, .inl (nA al))), (ek, .inl (gI G, 42, .inl (nA ka))), (eh, .inl (gI G, 252, .inl (nA hy))), (el, .inl (gI G, 12, .inl (nA le))), (ew, .inl (gI G, 12, .inl (nA wh))), (et, .inl (gI G, 20, .inl (nA ms))), (er, .inl (gI G, 20, .inl (nA mr)))] H → va_D A [(e0, .inr (6, [.ref ea, .ref ek, .ref eh, .int (nI hq), .ref es, .ref ei, .ref el, .ref ew, .ref et, .ref er, .int lf, .int md, .ref ed, .ref ep, .int pn, .int sp, .ref ex, .ref eu, .int rm, .int la])), (ea, .inl (gI G, 42, .inl (nA al))), (ek, .inl (gI G, 42, .inl (nA ka))), (eh, .inl (gI G, 252, .inl (nA hy))), (el, .inl (gI G, 12, .inl (nA le))), (ew, .inl (gI G, 12, .inl (nA wh))), (et, .inl (gI G, 20, .inl (nA ms))), (er, .inl (gI G, 20, .inl (nA mr)))] → va_S A s.heap H locs → ∀ ls : Array Slot, lv_has ls 3 [(2, .int (nI i)), (0, .ref e0), (1, .int (nI a))] → W p l e ({ frames := 1, cells := 0, slots := 0, locals := 25 } : Room) s m args below meth c H locs 0 0 (MQ below (va_Qi (fun (r : Int32) (u : Nat × Int32 × Int32 × (Nat → Nat) × (Nat → Nat) × (Nat → Nat) × (Nat → Nat) × (Nat → Nat) × (Nat → Nat) × (Nat → Nat)) => r = (r_choices (mR al) x) ∧ (mR u.2.2.2.1, mH u.1 u.2.2.2.2.2.1) = n_choices (mR al) (mH hq hy) x) (cB G A (fun (u : Nat × Int32 × Int32 × (Nat → Nat) × (Nat → Nat) × (Nat → Nat) × (Nat → Nat) × (Nat → Nat) × (Nat → Nat) × (Nat → Nat)) => [(e0, .inr (6, [.ref ea, .ref ek, .ref eh, .int (nI u.1), .ref es, .ref ei, .ref el, .ref ew, .ref et, .ref er, .int u.2.1, .int u.2.2.1, .ref ed, .ref ep, .int pn, .int sp, .ref ex, .ref eu, .int rm, .int la])), (ea, .inl (gI G, 42, .inl (nA u.2.2.2.1))), (ek, .inl (gI G, 42, .inl (nA u.2.2.2.2.1))), (eh, .inl (gI G, 252, .inl (nA u.2.2.2.2.2.1))), (el, .inl (gI G, 12, .inl (nA u.2.2.2.2.2.2.1))), (ew, .inl (gI G, 12, .inl (nA u.2.2.2.2.2.2.2.1))), (et, .inl (gI G, 20, .inl (nA u.2.2.2.2.2.2.2.2.1))), (er, .inl (gI G, 20, .inl (nA u.2.2.2.2.2.2.2.2.2)))])) A) args s 0 0 A) (F0 m 17 ls []) := by
      intro n_17
      induction n_17 with
      | zero =>
        intro i h0
        exact absurd h0 (Nat.not_lt_zero _)
      | succ n_17 ih_17 =>
        intro i hm_17 hi hal H locs hP hD hS ls hl
        refine lv_iload_n hx hb dX6_choices_17 rfl (lv_at hl 0 rfl) ?_
        refine lv_aload_n hx hb dX6_choices_18 rfl (lv_at hl 1 rfl) ?_
        refine z_get S K hP hX6_choices_X6 0 rfl rfl 0 (by decide) kX6_choices_2 rfl rfl dX6_choices_19 ?_
        refine lv_iconst (v := nI 1) hx hb dX6_choices_22 (by decide +kernel) ?_
        refine z_iald S K hP 1 rfl (by omega) (by decide) dX6_choices_23 ?_
        refine zb_ge (tgt := 49) S dX6_choices_24 (by decide) (by omega) (by omega) (fun c_24 => ?_) (fun c_24 => ?_)
        · skip
          have hia : i = al 1 := by omega
          have hall : ∀ j, j < al 1 → al (2 + j) >>> a = 0 := fun j hj => hal j (by omega)
          refine lv_aload_n hx hb dX6_choices_49 rfl (lv_at hl 1 rfl) ?_
          refine zcVv (rest := []) S K hP hD hS hA hl.1 (c_X6_keep l G e0 ea ek eh es ei el ew et er ed ep ex eu (nI hq) lf md pn sp rm la al ka ) rfl rfl gX6_choices_X6_keep rfl eX6_keep [0, 1, 2] (by decide +kernel) rfl (fun _ => rfl) 6 0 rfl rfl rfl rfl rfl (Nat.le_of_ble_eq_true rfl) (Nat.le_of_ble_eq_true rfl) (Nat.le_of_ble_eq_true rfl) ⟨Nat.zero_le _, Nat.zero_le _⟩ dX6_choices_50 (fun u_50 H locs hw_50 hP hD hS => ?_)
          obtain ⟨hP, hD⟩ := mx_ok [some 0, some 1, some 2, none, none, none, none, none] (by decide +kernel) rfl rfl hP hD
          obtain ⟨ka2_50, rfl⟩ : ∃ z, z = u_50 := ⟨_, rfl⟩
          replace hw_50 : ∀ j, j < 42 → ka2_50 j = al j := hw_50
          have hP : va_P (gD G) vwCl [(e0, .inr (6, [.ref ea, .ref ek, .ref eh, .int (nI hq), .ref es, .ref ei, .ref el, .ref ew, .ref et, .ref er, .int lf, .int md, .ref ed, .ref ep, .int pn, .int sp, .ref ex, .ref eu, .int rm, .int la])), (ea, .inl (gI G, 42, .inl (nA al))), (ek, .inl (gI G, 42, .inl (nA ka2_50))), (eh, .inl (gI G, 252, .inl (nA hy))), (el, .inl (gI G, 12, .inl (nA le))), (ew, .inl (gI G, 12, .inl (nA wh))), (et, .inl (gI G, 20, .inl (nA ms))), (er, .inl (gI G, 20, .inl (nA mr)))] H := hP
          have hD : va_D A [(e0, .inr (6, [.ref ea, .ref ek, .ref eh, .int (nI hq), .ref es, .ref ei, .ref el, .ref ew, .ref et, .ref er, .int lf, .int md, .ref ed, .ref ep, .int pn, .int sp, .ref ex, .ref eu, .int rm, .int la])), (ea, .inl (gI G, 42, .inl (nA al))), (ek, .inl (gI G, 42, .inl (nA ka2_50))), (eh, .inl (gI G, 252, .inl (nA hy))), (el, .inl (gI G, 12, .inl (nA le))), (ew, .inl (gI G, 12, .inl (nA wh))), (et, .inl (gI G, 20, .inl (nA ms))), (er, .inl (gI G, 20, .inl (nA mr)))] := hD
          obtain ⟨hkR, hk1⟩ := keep_R hw_50 hn3
          refine lv_aload_n hx hb dX6_choices_53 rfl (lv_at hl 1 rfl) ?_
          refine z_get S K hP hX6_choices_X6 0 rfl rfl 0 (by decide) kX6_choices_2 rfl rfl dX6_choices_54 ?_
          refine lv_iconst (v := nI 0) hx hb dX6_choices_57 (by decide +kernel) ?_
          refine z_iald S K hP 1 rfl (by omega) (by decide) dX6_choices_58 ?_
          refine lv_istore_n (lv' := [(2, .int (nI (al 0))), (0, .ref e0), (1, .int (nI a))]) hx hb dX6_choices_59 rfl hl (by decide) rfl (fun ls hl => ?_)
          refine lv_aload_n hx hb dX6_choices_60 rfl (lv_at hl 1 rfl) ?_
          refine z_get S K hP hX6_choices_X6 0 rfl rfl 0 (by decide) kX6_choices_2 rfl rfl dX6_choices_61 ?_
          refine lv_iconst (v := nI 0) hx hb dX6_choices_64 (by decide +kernel) ?_
          refine lv_iload_n hx hb dX6_choices_65 rfl (lv_at hl 2 rfl) ?_
          refine z_iast S K hP hD hS 1 rfl (by omega) (by decide) dX6_choices_66 (fun H locs hP hD hS => ?_)
          have hP : va_P (gD G) vwCl [(e0, .inr (6, [.ref ea, .ref ek, .ref eh, .int (nI hq), .ref es, .ref ei, .ref el, .ref ew, .ref et, .ref er, .int lf, .int md, .ref ed, .ref ep, .int pn, .int sp, .ref ex, .ref eu, .int rm, .int la])), (ea, .inl (gI G, 42, .inl (nA (pu al 0 a)))), (ek, .inl (gI G, 42, .inl (nA ka2_50))), (eh, .inl (gI G, 252, .inl (nA hy))), (el, .inl (gI G, 12, .inl (nA le))), (ew, .inl (gI G, 12, .inl (nA wh))), (et, .inl (gI G, 20, .inl (nA ms))), (er, .inl (gI G, 20, .inl (nA mr)))] H := hP
          have hD : va_D A [(e0, .inr (6, [.ref ea, .ref ek, .ref eh, .int (nI hq), .ref es, .ref ei, .ref el, .ref ew, .ref et, .ref er, .int lf, .int md, .ref ed, .ref ep, .int pn, .int sp, .ref ex, .ref eu, .int rm, .int la])), (ea, .inl (gI G, 42, .inl (nA (pu al 0 a)))), (ek, .inl (gI G, 42, .inl (nA ka2_50))), (eh, .inl (gI G, 252, .inl (nA hy))), (el, .inl (gI G, 12, .inl (nA le))), (ew, .inl (gI G, 12, .inl (nA wh))), (et, .inl (gI G, 20, .inl (nA ms))), (er, .inl (gI G, 20, .inl (nA mr)))] := hD
          refine lv_aload_n hx hb dX6_choices_67 rfl (lv_at hl 1 rfl) ?_
          refine lv_iload_n hx hb dX6_choices_68 rfl (lv_at hl 0 rfl) ?_
          refine zcVi (rest := []) S K hP hD hS hA hl.1 (c_X6_changed l G e0 ea ek eh es ei el ew et er ed ep ex eu lf md pn sp rm la ka2_50 hy hq (nI (al 0)) hq6 hn hk1) rfl rfl gX6_choices_X6_changed rfl eX6_changed [0, 2, 3] (by decide +kernel) rfl (fun _ => rfl) 6 0 rfl rfl rfl rfl rfl (Nat.le_of_ble_eq_true rfl) (Nat.le_of_ble_eq_true rfl) (Nat.le_of_ble_eq_true rfl) ⟨Nat.zero_le _, Nat.zero_le _⟩ dX6_choices_69 (fun r_69 u_69 H locs hw_69 hP hD hS => ?_)
          obtain ⟨hP, hD⟩ := mx_ok [some 0, none, some 1, some 2, none, none, none, none] (by decide +kernel) rfl rfl hP hD
          obtain ⟨hq2_69, hy2_69⟩ := u_69
          replace hw_69 : r_69 = ((nI (al 0))) ∧ mH hq2_69 hy2_69 = pushH (mH hq hy) (mR ka2_50) := hw_69
          obtain ⟨rfl, hw_69⟩ := hw_69
          have hP : va_P (gD G) vwCl [(e0, .inr (6, [.ref ea, .ref ek, .ref eh, .int (nI hq2_69), .ref es, .ref ei, .ref el, .ref ew, .ref et, .ref er, .int lf, .int md, .ref ed, .ref ep, .int pn, .int sp, .ref ex, .ref eu, .int rm, .int la])), (ea, .inl (gI G, 42, .inl (nA (pu al 0 a)))), (ek, .inl (gI G, 42, .inl (nA ka2_50))), (eh, .inl (gI G, 252, .inl (nA hy2_69))), (el, .inl (gI G, 12, .inl (nA le))), (ew, .inl (gI G, 12, .inl (nA wh))), (et, .inl (gI G, 20, .inl (nA ms))), (er, .inl (gI G, 20, .inl (nA mr)))] H := hP
          have hD : va_D A [(e0, .inr (6, [.ref ea, .ref ek, .ref eh, .int (nI hq2_69), .ref es, .ref ei, .ref el, .ref ew, .ref et, .ref er, .int lf, .int md, .ref ed, .ref ep, .int pn, .int sp, .ref ex, .ref eu, .int rm, .int la])), (ea, .inl (gI G, 42, .inl (nA (pu al 0 a)))), (ek, .inl (gI G, 42, .inl (nA ka2_50))), (eh, .inl (gI G, 252, .inl (nA hy2_69))), (el, .inl (gI G, 12, .inl (nA le))), (ew, .inl (gI G, 12, .inl (nA wh))), (et, .inl (gI G, 20, .inl (nA ms))), (er, .inl (gI G, 20, .inl (nA mr)))] := hD
          refine z_top (y := (r_choices (mR al) x)) (ch_2 (c := al 0) (n := al 1) (f := fun j => al (2 + j)) (g := fun j => al (22 + j)) (h := (0, fun _ => R0)) ha2 (by omega) hall).1 ?_
          exact z_iret S hrt hlk hP hD hS (hq2_69, lf, md, pu al 0 a, ka2_50, hy2_69, le, wh, ms, mr) rfl ⟨rfl, (by rw [hw_69, hkR, mR_c]; exact (ch_2 (c := al 0) (n := al 1) (f := fun j => al (2 + j)) (g := fun j => al (22 + j)) ha2 (by omega) hall).2)⟩ dX6_choices_72
        · skip
          refine lv_aload_n hx hb dX6_choices_27 rfl (lv_at hl 1 rfl) ?_
          refine z_get S K hP hX6_choices_X6 0 rfl rfl 0 (by decide) kX6_choices_2 rfl rfl dX6_choices_28 ?_
          refine lv_iconst (v := nI 2) hx hb dX6_choices_31 (by decide +kernel) ?_
          refine lv_iload_n hx hb dX6_choices_32 rfl (lv_at hl 0 rfl) ?_
          refine zi_add S dX6_choices_33 ?_
          refine z_iald S K hP 1 rfl (by omega) (by decide) dX6_choices_34 ?_
          refine lv_iload_n hx hb dX6_choices_35 rfl (lv_at hl 2 rfl) ?_
          have hfi := hf5 i (by omega)
          refine zi_shr S dX6_choices_36 (by omega) (by omega) ?_
          refine zf_eq (tgt := 43) S dX6_choices_37 (by decide) (shr_lt (by omega)) (fun c_37 => ?_) (fun c_37 => ?_)
          · skip
            refine lv_iinc (v := (nI (i + 1))) (lv' := [(2, .int (nI (i + 1))), (0, .ref e0), (1, .int (nI a))]) hx hb dX6_choices_43 hl (k := 0) rfl (z_i1 _) (by decide) rfl (fun ls hl => ?_)
            refine lv_goto (tgt := 17) hx hb dX6_choices_46 (by decide) ?_
            exact ih_17 (i + 1) (by omega) (by omega) (fun j hj => by by_cases e : j = i; rw [e]; exact c_37; exact hal j (by omega)) _ _ hP hD hS _ (lv_sub hl [0, 1, 2] rfl)
          · skip
            refine lv_bipush (v := -5) hx hb dX6_choices_40 (by decide +kernel) ?_
            refine z_top (y := (r_choices (mR al) x)) (ch_1 (c := al 0) (n := al 1) (f := fun j => al (2 + j)) (g := fun j => al (22 + j)) (h := (0, fun _ => R0)) ha2 (by omega) (fun z => c_37 (z i (by omega)))).1 ?_
            exact z_iret S hrt hlk hP hD hS (hq, lf, md, al, ka, hy, le, wh, ms, mr) rfl ⟨rfl, (ch_1 (c := al 0) (n := al 1) (f := fun j => al (2 + j)) (g := fun j => al (22 + j)) ha2 (by omega) (fun z => c_37 (z i (by omega)))).2⟩ dX6_choices_42
    exact lp_17 _ 0 (Nat.lt_succ_self _) (by omega) (fun j hj => absurd hj (Nat.not_lt_zero _)) _ _ hP hD hS _ (lv_sub hl [0, 1, 2] rfl)
  · skip
    have c_9 := of_decide_eq_false (bN_eq0 c_9)
    refine lv_bipush (v := -2) hx hb dX6_choices_12 (by decide +kernel) ?_
    refine z_top (y := (r_choices (mR al) x)) (ch_0 (h := (0, fun _ => R0)) (by omega)).1 ?_
    exact z_iret S hrt hlk hP hD hS (hq, lf, md, al, ka, hy, le, wh, ms, mr) rfl ⟨rfl, (ch_0 (by omega)).2⟩ dX6_choices_14
set_option maxHeartbeats 4000000 in
set_option maxRecDepth 100000 in
theorem c_X6_known (l : Launch) (G : gT) (e0 ea ek eh es ei el ew et er ed ep ex eu : Nat) (hq : Int32) (lf : Int32) (md : Int32) (pn : Int32) (sp : Int32) (rm : Int32) (la : Int32) (al : Nat → Nat) (le : Nat → Nat) (wh : Nat → Nat) (ms : Nat → Nat) (mr : Nat → Nat) (x : Int32) (hR : RowOK (mR al)) : CI l yX6_known wsX6_known ({ frames := 3, cells := 0, slots := 0, locals := 67 } : Room) G [.ref e0, .int x] [(e0, .inr (6, [.ref ea, .ref ek, .ref eh, .int hq, .ref es, .ref ei, .ref el, .ref ew, .ref et, .ref er, .int lf, .int md, .ref ed, .ref ep, .int pn, .int sp, .ref ex, .ref eu, .int rm, .int la])), (ea, .inl (gI G, 42, .inl (nA al))), (el, .inl (gI G, 12, .inl (nA le))), (ew, .inl (gI G, 12, .inl (nA wh))), (et, .inl (gI G, 20, .inl (nA ms))), (er, .inl (gI G, 20, .inl (nA mr)))] 0 0 (fun (r : Int32) (u : Int32 × Int32 × (Nat → Nat) × (Nat → Nat) × (Nat → Nat) × (Nat → Nat)) => r = (r_known (mR al) x)) (fun (u : Int32 × Int32 × (Nat → Nat) × (Nat → Nat) × (Nat → Nat) × (Nat → Nat)) => [(e0, .inr (6, [.ref ea, .ref ek, .ref eh, .int hq, .ref es, .ref ei, .ref el, .ref ew, .ref et, .ref er, .int u.1, .int u.2.1, .ref ed, .ref ep, .int pn, .int sp, .ref ex, .ref eu, .int rm, .int la])), (ea, .inl (gI G, 42, .inl (nA al))), (el, .inl (gI G, 12, .inl (nA u.2.2.1))), (ew, .inl (gI G, 12, .inl (nA u.2.2.2.1))), (et, .inl (gI G, 20, .inl (nA u.2.2.2.2.1))), (er, .inl (gI G, 20, .inl (nA u.2.2.2.2.2)))]) := by
  refine CI.of (cc := cX6_known) (maxL := 2) (ret := (some .int)) (by decide +kernel) rfl (Nat.le_of_ble_eq_true rfl) rfl (fun p e s m args below meth c A S hrt hlk hnm K hA hP hD hS ls hl => ?_)
  have hx := S.1
  have hb := S.2.1
  have hl : lv_has ls 2 [(0, .ref e0), (1, .int x)] := hl
  obtain ⟨hc1, hc2, hn3, hf4, hf5, hg6⟩ := mrow hR
  have hp2 := p12 hc2
  have h1s : 1 <<< al 0 = 2 ^ al 0 := Nat.one_shiftLeft _
  have hL0 := lN_toInt (n := 0) (by decide)
  have hL1 := lN_toInt (n := 1) (by decide)
  have hL12 := lN_toInt (n := 12) (by decide)
  have hLx := Int32.toInt_toInt64 x
  have hls := lsub1 (n := 1 <<< al 0) (by omega)
  refine lv_aload_n hx hb dX6_known_0 rfl (lv_at hl 0 rfl) ?_
  refine zcVv (rest := []) S K hP hD hS hA hl.1 (c_X6_judges l G e0 ea ek eh es ei el ew et er ed ep ex eu hq lf md pn sp rm la al le wh ms mr (by first | assumption | omega)) rfl rfl gX6_known_X6_judges rfl eX6_judges [0, 1, 2, 3, 4, 5] (by decide +kernel) rfl (fun _ => rfl) 6 0 rfl rfl rfl rfl rfl (Nat.le_of_ble_eq_true rfl) (Nat.le_of_ble_eq_true rfl) (Nat.le_of_ble_eq_true rfl) ⟨Nat.zero_le _, Nat.zero_le _⟩ dX6_known_1 (fun u_1 H locs hw_1 hP hD hS => ?_)
  obtain ⟨hP, hD⟩ := mx_ok [some 0, some 1, some 2, some 3, some 4, some 5] (by decide +kernel) rfl rfl hP hD
  obtain ⟨lf2_1, md2_1, le2_1, wh2_1, ms2_1, mr2_1⟩ := u_1
  replace hw_1 : MV (fun j => al (2 + j)) (fun j => al (22 + j)) (al 1) ms2_1 mr2_1 le2_1 wh2_1 := hw_1
  have hP : va_P (gD G) vwCl [(e0, .inr (6, [.ref ea, .ref ek, .ref eh, .int hq, .ref es, .ref ei, .ref el, .ref ew, .ref et, .ref er, .int lf2_1, .int md2_1, .ref ed, .ref ep, .int pn, .int sp, .ref ex, .ref eu, .int rm, .int la])), (ea, .inl (gI G, 42, .inl (nA al))), (el, .inl (gI G, 12, .inl (nA le2_1))), (ew, .inl (gI G, 12, .inl (nA wh2_1))), (et, .inl (gI G, 20, .inl (nA ms2_1))), (er, .inl (gI G, 20, .inl (nA mr2_1)))] H := hP
  have hD : va_D A [(e0, .inr (6, [.ref ea, .ref ek, .ref eh, .int hq, .ref es, .ref ei, .ref el, .ref ew, .ref et, .ref er, .int lf2_1, .int md2_1, .ref ed, .ref ep, .int pn, .int sp, .ref ex, .ref eu, .int rm, .int la])), (ea, .inl (gI G, 42, .inl (nA al))), (el, .inl (gI G, 12, .inl (nA le2_1))), (ew, .inl (gI G, 12, .inl (nA wh2_1))), (et, .inl (gI G, 20, .inl (nA ms2_1))), (er, .inl (gI G, 20, .inl (nA mr2_1)))] := hD
  refine lv_iload_n hx hb dX6_known_4 rfl (lv_at hl 1 rfl) ?_
  refine lv_i2l (v := Int32.toInt64 x) hx hb dX6_known_5 rfl ?_
  refine lv_lconst (v := lN 0) hx hb dX6_known_6 (by decide +kernel) ?_
  refine lv_aload_n hx hb dX6_known_7 rfl (lv_at hl 0 rfl) ?_
  refine zcVi (rest := [.long (lN 0), .long (Int32.toInt64 x)]) S K hP hD hS hA hl.1 (c_X6_masks l G e0 ea ek eh es ei el ew et er ed ep ex eu hq lf2_1 md2_1 pn sp rm la al (by first | assumption | omega)) rfl rfl gX6_known_X6_masks rfl eX6_masks [0, 1] (by decide +kernel) rfl (fun _ => rfl) 6 0 rfl rfl rfl rfl rfl (Nat.le_of_ble_eq_true rfl) (Nat.le_of_ble_eq_true rfl) (Nat.le_of_ble_eq_true rfl) ⟨Nat.zero_le _, Nat.zero_le _⟩ dX6_known_8 (fun r_8 u_8 H locs hw_8 hP hD hS => ?_)
  obtain ⟨hP, hD⟩ := mx_ok [some 0, some 1, none, none, none, none] (by decide +kernel) rfl rfl hP hD
  replace hw_8 : r_8 = nI (1 <<< al 0) := hw_8
  obtain rfl := hw_8
  have hP : va_P (gD G) vwCl [(e0, .inr (6, [.ref ea, .ref ek, .ref eh, .int hq, .ref es, .ref ei, .ref el, .ref ew, .ref et, .ref er, .int lf2_1, .int md2_1, .ref ed, .ref ep, .int pn, .int sp, .ref ex, .ref eu, .int rm, .int la])), (ea, .inl (gI G, 42, .inl (nA al))), (el, .inl (gI G, 12, .inl (nA le2_1))), (ew, .inl (gI G, 12, .inl (nA wh2_1))), (et, .inl (gI G, 20, .inl (nA ms2_1))), (er, .inl (gI G, 20, .inl (nA mr2_1)))] H := hP
  have hD : va_D A [(e0, .inr (6, [.ref ea, .ref ek, .ref eh, .int hq, .ref es, .ref ei, .ref el, .ref ew, .ref et, .ref er, .int lf2_1, .int md2_1, .ref ed, .ref ep, .int pn, .int sp, .ref ex, .ref eu, .int rm, .int la])), (ea, .inl (gI G, 42, .inl (nA al))), (el, .inl (gI G, 12, .inl (nA le2_1))), (ew, .inl (gI G, 12, .inl (nA wh2_1))), (et, .inl (gI G, 20, .inl (nA ms2_1))), (er, .inl (gI G, 20, .inl (nA mr2_1)))] := hD
  refine lv_i2l (v := lN (1 <<< al 0)) hx hb dX6_known_11 (nI_l (by omega)) ?_
  refine lv_lconst (v := lN 1) hx hb dX6_known_12 (by decide +kernel) ?_
  refine lv_lsub hx hb dX6_known_13 ?_
  refine zcSi (rest := []) S K hP hD hS hA hl.1 (c_X6_in l G (Int32.toInt64 x) (lN 0) ((lN (1 <<< al 0)) - (lN 1)) ) rfl rfl gX6_known_X6_in rfl eX6_in.2 [] (by decide +kernel) rfl (fun _ => rfl) rfl rfl (Nat.le_of_ble_eq_true rfl) (Nat.le_of_ble_eq_true rfl) (Nat.le_of_ble_eq_true rfl) ⟨Nat.zero_le _, Nat.zero_le _⟩ dX6_known_14 (fun r_14 u_14 H locs hw_14 hP hD hS => ?_)
  replace hw_14 : r_14 = nI (bN (decide ((lN 0).toInt ≤ (Int32.toInt64 x).toInt ∧ (Int32.toInt64 x).toInt ≤ ((lN (1 <<< al 0)) - (lN 1)).toInt))) := hw_14
  obtain rfl := hw_14
  have hP : va_P (gD G) vwCl [(e0, .inr (6, [.ref ea, .ref ek, .ref eh, .int hq, .ref es, .ref ei, .ref el, .ref ew, .ref et, .ref er, .int lf2_1, .int md2_1, .ref ed, .ref ep, .int pn, .int sp, .ref ex, .ref eu, .int rm, .int la])), (ea, .inl (gI G, 42, .inl (nA al))), (el, .inl (gI G, 12, .inl (nA le2_1))), (ew, .inl (gI G, 12, .inl (nA wh2_1))), (et, .inl (gI G, 20, .inl (nA ms2_1))), (er, .inl (gI G, 20, .inl (nA mr2_1)))] H := hP
  have hD : va_D A [(e0, .inr (6, [.ref ea, .ref ek, .ref eh, .int hq, .ref es, .ref ei, .ref el, .ref ew, .ref et, .ref er, .int lf2_1, .int md2_1, .ref ed, .ref ep, .int pn, .int sp, .ref ex, .ref eu, .int rm, .int la])), (ea, .inl (gI G, 42, .inl (nA al))), (el, .inl (gI G, 12, .inl (nA le2_1))), (ew, .inl (gI G, 12, .inl (nA wh2_1))), (et, .inl (gI G, 20, .inl (nA ms2_1))), (er, .inl (gI G, 20, .inl (nA mr2_1)))] := hD
  refine zf_eq (tgt := 28) S dX6_known_17 (by decide) (bN_31 _) (fun c_17 => ?_) (fun c_17 => ?_)
  · skip
    have c_17 := of_decide_eq_false (bN_eq0 c_17)
    refine lv_bipush (v := -2) hx hb dX6_known_28 (by decide +kernel) ?_
    refine z_top (y := (r_known (mR al) x)) (kw_n (R := mR al) (by show ¬ (0 ≤ x.toInt ∧ x.toInt < ((2 ^ al 0 : Nat) : Int)); omega)) ?_
    exact z_iret S hrt hlk hP hD hS (lf2_1, md2_1, le2_1, wh2_1, ms2_1, mr2_1) rfl rfl dX6_known_30
  · skip
    have c_17 := of_decide_eq_true (bN_ne0 c_17)
    obtain ⟨a, ha1, ha2, ha3⟩ := z_of (x := x) (by omega)
    have hl : lv_has ls 2 [(0, .ref e0), (1, .int (nI a))] := by rw [ha2] at hl; exact hl
    refine lv_aload_n hx hb dX6_known_20 rfl (lv_at hl 0 rfl) ?_
    refine lv_iload_n hx hb dX6_known_21 rfl (lv_at hl 1 rfl) ?_
    refine zcVi (rest := []) S K hP hD hS hA hl.1 (c_X6_knownOf l G e0 ea ek eh es ei el ew et er ed ep ex eu hq lf2_1 md2_1 pn sp rm la al le2_1 wh2_1 a (by first | assumption | omega) hw_1.2.2 (by omega)) rfl rfl gX6_known_X6_knownOf rfl eX6_knownOf [0, 1, 2, 3] (by decide +kernel) rfl (fun _ => rfl) 6 0 rfl rfl rfl rfl rfl (Nat.le_of_ble_eq_true rfl) (Nat.le_of_ble_eq_true rfl) (Nat.le_of_ble_eq_true rfl) ⟨Nat.zero_le _, Nat.zero_le _⟩ dX6_known_22 (fun r_22 u_22 H locs hw_22 hP hD hS => ?_)
    obtain ⟨hP, hD⟩ := mx_ok [some 0, some 1, some 2, some 3, none, none] (by decide +kernel) rfl rfl hP hD
    obtain ⟨lf2_22, md2_22⟩ := u_22
    replace hw_22 : r_22 = (knS (mR al) a) := hw_22
    obtain rfl := hw_22
    have hP : va_P (gD G) vwCl [(e0, .inr (6, [.ref ea, .ref ek, .ref eh, .int hq, .ref es, .ref ei, .ref el, .ref ew, .ref et, .ref er, .int lf2_22, .int md2_22, .ref ed, .ref ep, .int pn, .int sp, .ref ex, .ref eu, .int rm, .int la])), (ea, .inl (gI G, 42, .inl (nA al))), (el, .inl (gI G, 12, .inl (nA le2_1))), (ew, .inl (gI G, 12, .inl (nA wh2_1))), (et, .inl (gI G, 20, .inl (nA ms2_1))), (er, .inl (gI G, 20, .inl (nA mr2_1)))] H := hP
    have hD : va_D A [(e0, .inr (6, [.ref ea, .ref ek, .ref eh, .int hq, .ref es, .ref ei, .ref el, .ref ew, .ref et, .ref er, .int lf2_22, .int md2_22, .ref ed, .ref ep, .int pn, .int sp, .ref ex, .ref eu, .int rm, .int la])), (ea, .inl (gI G, 42, .inl (nA al))), (el, .inl (gI G, 12, .inl (nA le2_1))), (ew, .inl (gI G, 12, .inl (nA wh2_1))), (et, .inl (gI G, 20, .inl (nA ms2_1))), (er, .inl (gI G, 20, .inl (nA mr2_1)))] := hD
    refine lv_goto (tgt := 30) hx hb dX6_known_25 (by decide) ?_
    refine z_top (y := (r_known (mR al) x)) (kw_y (R := mR al) ha2 (show a < 2 ^ al 0 by omega) hc2 rfl) ?_
    exact z_iret S hrt hlk hP hD hS (lf2_22, md2_22, le2_1, wh2_1, ms2_1, mr2_1) rfl rfl dX6_known_30
