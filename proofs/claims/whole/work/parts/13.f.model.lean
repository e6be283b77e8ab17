set_option maxHeartbeats 4000000 in
set_option maxRecDepth 100000 in
theorem c_X6_stateOf (l : Launch) (G : gT) (e0 ea ek eh es ei el ew et er ed ep ex eu : Nat) (hq : Int32) (lf : Int32) (md : Int32) (pn : Int32) (sp : Int32) (rm : Int32) (la : Int32) (al : Nat → Nat) (le : Nat → Nat) (wh : Nat → Nat) (x : Nat) (y : Nat) (q1 : Nat) (q3 : Nat) (hx0 : x < 4096) (hy1 : y ≤ 1) (hss : ∀ j, le j < 4096) (hrq : redo ox le z0 wh 12 (x, 0, 0) = (q1, 0, q3)) (hq1 : q1 < 4096) (hq3 : q3 < 2147483648) (hn3 : al 1 ≤ 20) (hg6 : ∀ j, j < al 1 → al (22 + j) ≤ 1) : CI l yX6_stateOf wsX6_stateOf ({ frames := 1, cells := 0, slots := 0, locals := 23 } : Room) G [.ref e0, .int (nI x), .int (nI y)] [(e0, .inr (6, [.ref ea, .ref ek, .ref eh, .int hq, .ref es, .ref ei, .ref el, .ref ew, .ref et, .ref er, .int lf, .int md, .ref ed, .ref ep, .int pn, .int sp, .ref ex, .ref eu, .int rm, .int la])), (ea, .inl (gI G, 42, .inl (nA al))), (el, .inl (gI G, 12, .inl (nA le))), (ew, .inl (gI G, 12, .inl (nA wh)))] 0 0 (fun (r : Int32) (u : Unit) => r = nI (mst al q1 q3 y)) (fun (u : Unit) => [(e0, .inr (6, [.ref ea, .ref ek, .ref eh, .int hq, .ref es, .ref ei, .ref el, .ref ew, .ref et, .ref er, .int (nI q1), .int (nI q3), .ref ed, .ref ep, .int pn, .int sp, .ref ex, .ref eu, .int rm, .int la])), (ea, .inl (gI G, 42, .inl (nA al))), (el, .inl (gI G, 12, .inl (nA le))), (ew, .inl (gI G, 12, .inl (nA wh)))]) := by
  refine CI.of (cc := cX6_stateOf) (maxL := 3) (ret := (some .int)) (by decide +kernel) rfl (Nat.le_of_ble_eq_true rfl) rfl (fun p e s m args below meth c A S hrt hlk hnm K hA hP hD hS ls hl => ?_)
  have hx := S.1
  have hb := S.2.1
  have hl : lv_has ls 3 [(0, .ref e0), (1, .int (nI x)), (2, .int (nI y))] := hl
  refine lv_aload_n hx hb dX6_stateOf_0 rfl (lv_at hl 0 rfl) ?_
  refine lv_iload_n hx hb dX6_stateOf_1 rfl (lv_at hl 1 rfl) ?_
  refine zcVv (rest := []) S K hP hD hS hA hl.1 (c_X6_reduces l G e0 ea ek eh es ei el ew et er ed ep ex eu hq lf md pn sp rm la le wh x q1 q3 hx0 hss hrq) rfl rfl gX6_stateOf_X6_reduces rfl eX6_reduces [0, 2, 3] (by decide +kernel) rfl (fun _ => rfl) 6 0 rfl rfl rfl rfl rfl (Nat.le_of_ble_eq_true rfl) (Nat.le_of_ble_eq_true rfl) (Nat.le_of_ble_eq_true rfl) ⟨Nat.zero_le _, Nat.zero_le _⟩ dX6_stateOf_2 (fun u_2 H locs hw_2 hP hD hS => ?_)
  obtain ⟨hP, hD⟩ := mx_ok [some 0, none, some 1, some 2] (by decide +kernel) rfl rfl hP hD
  have hP : va_P (gD G) vwCl [(e0, .inr (6, [.ref ea, .ref ek, .ref eh, .int hq, .ref es, .ref ei, .ref el, .ref ew, .ref et, .ref er, .int (nI q1), .int (nI q3), .ref ed, .ref ep, .int pn, .int sp, .ref ex, .ref eu, .int rm, .int la])), (ea, .inl (gI G, 42, .inl (nA al))), (el, .inl (gI G, 12, .inl (nA le))), (ew, .inl (gI G, 12, .inl (nA wh)))] H := hP
  have hD : va_D A [(e0, .inr (6, [.ref ea, .ref ek, .ref eh, .int hq, .ref es, .ref ei, .ref el, .ref ew, .ref et, .ref er, .int (nI q1), .int (nI q3), .ref ed, .ref ep, .int pn, .int sp, .ref ex, .ref eu, .int rm, .int la])), (ea, .inl (gI G, 42, .inl (nA al))), (el, .inl (gI G, 12, .inl (nA le))), (ew, .inl (gI G, 12, .inl (nA wh)))] := hD
  refine lv_aload_n hx hb dX6_stateOf_5 rfl (lv_at hl 0 rfl) ?_
  refine z_get S K hP hX6_stateOf_X6 0 rfl rfl 10 (by decide) kX6_stateOf_1 rfl rfl dX6_stateOf_6 ?_
  refine zf_eq (tgt := 16) S dX6_stateOf_9 (by decide) (by omega) (fun c_9 => ?_) (fun c_9 => ?_)
  · skip
    refine lv_aload_n hx hb dX6_stateOf_16 rfl (lv_at hl 0 rfl) ?_
    refine lv_aload_n hx hb dX6_stateOf_17 rfl (lv_at hl 0 rfl) ?_
    refine z_get S K hP hX6_stateOf_X6 0 rfl rfl 11 (by decide) kX6_stateOf_2 rfl rfl dX6_stateOf_18 ?_
    refine zcVi (rest := []) S K hP hD hS hA hl.1 (c_X6_sumOf l G e0 ea ek eh es ei el ew et er ed ep ex eu hq (nI q1) (nI q3) pn sp rm la al q3 hn3 hq3) rfl rfl gX6_stateOf_X6_sumOf rfl eX6_sumOf [0, 1] (by decide +kernel) rfl (fun _ => rfl) 6 0 rfl rfl rfl rfl rfl (Nat.le_of_ble_eq_true rfl) (Nat.le_of_ble_eq_true rfl) (Nat.le_of_ble_eq_true rfl) ⟨Nat.zero_le _, Nat.zero_le _⟩ dX6_stateOf_21 (fun r_21 u_21 H locs hw_21 hP hD hS => ?_)
    obtain ⟨hP, hD⟩ := mx_ok [some 0, some 1, none, none] (by decide +kernel) rfl rfl hP hD
    replace hw_21 : r_21 = nI (cmb (fun j => al (22 + j)) (al 1) q3) := hw_21
    obtain rfl := hw_21
    have hP : va_P (gD G) vwCl [(e0, .inr (6, [.ref ea, .ref ek, .ref eh, .int hq, .ref es, .ref ei, .ref el, .ref ew, .ref et, .ref er, .int (nI q1), .int (nI q3), .ref ed, .ref ep, .int pn, .int sp, .ref ex, .ref eu, .int rm, .int la])), (ea, .inl (gI G, 42, .inl (nA al))), (el, .inl (gI G, 12, .inl (nA le))), (ew, .inl (gI G, 12, .inl (nA wh)))] H := hP
    have hD : va_D A [(e0, .inr (6, [.ref ea, .ref ek, .ref eh, .int hq, .ref es, .ref ei, .ref el, .ref ew, .ref et, .ref er, .int (nI q1), .int (nI q3), .ref ed, .ref ep, .int pn, .int sp, .ref ex, .ref eu, .int rm, .int la])), (ea, .inl (gI G, 42, .inl (nA al))), (el, .inl (gI G, 12, .inl (nA le))), (ew, .inl (gI G, 12, .inl (nA wh)))] := hD
    refine lv_iload_n hx hb dX6_stateOf_24 rfl (lv_at hl 2 rfl) ?_
    refine zb_ne (tgt := 32) S dX6_stateOf_25 (by decide) (Nat.lt_of_le_of_lt (cmb_le1 (g := fun j => al (22 + j)) hg6 _) (by decide)) (by omega) (fun c_25 => ?_) (fun c_25 => ?_)
    · skip
      refine lv_iconst (v := nI 2) hx hb dX6_stateOf_32 (by decide +kernel) ?_
      refine z_top (y := nI (mst al q1 q3 y)) (congrArg nI (by unfold mst; first | rw [if_neg c_9] | rw [if_pos c_9, if_neg c_25] | rw [if_pos c_9, if_pos c_25])) ?_
      exact z_iret S hrt hlk hP hD hS () rfl rfl dX6_stateOf_33
    · skip
      refine lv_iconst (v := nI 1) hx hb dX6_stateOf_28 (by decide +kernel) ?_
      refine lv_goto (tgt := 33) hx hb dX6_stateOf_29 (by decide) ?_
      refine z_top (y := nI (mst al q1 q3 y)) (congrArg nI (by unfold mst; first | rw [if_neg c_9] | rw [if_pos c_9, if_neg c_25] | rw [if_pos c_9, if_pos c_25])) ?_
      exact z_iret S hrt hlk hP hD hS () rfl rfl dX6_stateOf_33
  · skip
    refine lv_iconst (v := nI 0) hx hb dX6_stateOf_12 (by decide +kernel) ?_
    refine lv_goto (tgt := 33) hx hb dX6_stateOf_13 (by decide) ?_
    refine z_top (y := nI (mst al q1 q3 y)) (congrArg nI (by unfold mst; first | rw [if_neg c_9] | rw [if_pos c_9, if_neg c_25] | rw [if_pos c_9, if_pos c_25])) ?_
    exact z_iret S hrt hlk hP hD hS () rfl rfl dX6_stateOf_33
set_option maxHeartbeats 4000000 in
set_option maxRecDepth 100000 in
theorem c_X6_judges (l : Launch) (G : gT) (e0 ea ek eh es ei el ew et er ed ep ex eu : Nat) (hq : Int32) (lf : Int32) (md : Int32) (pn : Int32) (sp : Int32) (rm : Int32) (la : Int32) (al : Nat → Nat) (le : Nat → Nat) (wh : Nat → Nat) (ms : Nat → Nat) (mr : Nat → Nat) (hR : RowOK (mR al)) : CV l yX6_judges wsX6_judges ({ frames := 2, cells := 0, slots := 0, locals := 45 } : Room) G [.ref e0] [(e0, .inr (6, [.ref ea, .ref ek, .ref eh, .int hq, .ref es, .ref ei, .ref el, .ref ew, .ref et, .ref er, .int lf, .int md, .ref ed, .ref ep, .int pn, .int sp, .ref ex, .ref eu, .int rm, .int la])), (ea, .inl (gI G, 42, .inl (nA al))), (el, .inl (gI G, 12, .inl (nA le))), (ew, .inl (gI G, 12, .inl (nA wh))), (et, .inl (gI G, 20, .inl (nA ms))), (er, .inl (gI G, 20, .inl (nA mr)))] 0 0 (fun (u : Int32 × Int32 × (Nat → Nat) × (Nat → Nat) × (Nat → Nat) × (Nat → Nat)) => MV (fun j => al (2 + j)) (fun j => al (22 + j)) (al 1) u.2.2.2.2.1 u.2.2.2.2.2 u.2.2.1 u.2.2.2.1) (fun (u : Int32 × Int32 × (Nat → Nat) × (Nat → Nat) × (Nat → Nat) × (Nat → Nat)) => [(e0, .inr (6, [.ref ea, .ref ek, .ref eh, .int hq, .ref es, .ref ei, .ref el, .ref ew, .ref et, .ref er, .int u.1, .int u.2.1, .ref ed, .ref ep, .int pn, .int sp, .ref ex, .ref eu, .int rm, .int la])), (ea, .inl (gI G, 42, .inl (nA al))), (el, .inl (gI G, 12, .inl (nA u.2.2.1))), (ew, .inl (gI G, 12, .inl (nA u.2.2.2.1))), (et, .inl (gI G, 20, .inl (nA u.2.2.2.2.1))), (er, .inl (gI G, 20, .inl (nA u.2.2.2.2.2)))]) := by
  refine CV.of (cc := cX6_judges) (maxL := 3) (ret := none) (by decide +kernel) rfl (Nat.le_of_ble_eq_true rfl) rfl (fun p e s m args below meth c A S hrt hlk hnm K hA hP hD hS ls hl => ?_)
  have hx := S.1
  have hb := S.2.1
  have hl : lv_has ls 3 [(0, .ref e0)] := hl
  obtain ⟨hc1, hc2, hn3, hf4, hf5, hg6⟩ := mrow hR
  have hp2 := p12 hc2
  have h1s : 1 <<< al 0 = 2 ^ al 0 := Nat.one_shiftLeft _
  refine lv_iconst (v := nI 0) hx hb dX6_judges_0 (by decide +kernel) ?_
  refine lv_istore_n (lv' := [(1, .int (nI 0)), (0, .ref e0)]) hx hb dX6_judges_1 rfl hl (by decide) rfl (fun ls hl => ?_)
  have lp_2 : ∀ (n_2 : Nat) (i : Nat) (le1 : Nat → Nat) (wh1 : Nat → Nat), 12 - i < n_2 → (i ≤ 12) → (∀ j, j < i → le1 j = 0) → ∀ (H : Heap) (locs : List Loc), va_P (gD G) vwCl [(e0, .inr (6, [.ref ea, .ref ek, .ref eh, .int hq, .ref es, .ref ei, .ref el, .ref ew, .ref et, .ref er, .int lf, .int md, .ref ed, .ref ep, .int pn, .int sp, .ref ex, .ref eu, .int rm, .int la])), (ea, .inl (gI G, 42, .inl (nA al))), (el, .inl (gI G, 12, .inl (nA le1))), (ew, .inl (gI G, 12, .inl (nA wh1))), (et, .inl (gI G, 20, .inl (nA ms))), (er, .inl (gI G, 20, .inl (nA mr)))] H → va_D A [(e0, .inr (6, [.ref ea, .ref ek, .ref eh, .int hq, .ref es, .ref ei, .ref el, .ref ew, .ref et, .ref er, .int lf, .int md, .ref ed, .ref ep, .int pn, .int sp, .ref ex, .ref eu, .int rm, .int la])), (ea, .inl (gI G, 42, .inl (nA al))), (el, .inl (gI G, 12, .inl (nA le1))), (ew, .inl (gI G, 12, .inl (nA wh1))), (et, .inl (gI G, 20, .inl (nA ms))), (er, .inl (gI G, 20, .inl (nA mr)))] → va_S A s.heap H locs → ∀ ls : Array Slot, lv_has ls 3 [(1, .int (nI i)), (0, .ref e0)] → W p l e ({ frames := 2, cells := 0, slots := 0, locals := 45 } : Room) s m args below meth c H locs 0 0 (MQ below (va_Qv (fun (u : Int32 × Int32 × (Nat → Nat) × (Nat → Nat) × (Nat → Nat) × (Nat → Nat)) => MV (fun j => al (2 + j)) (fun j => al (22 + j)) (al 1) u.2.2.2.2.1 u.2.2.2.2.2 u.2.2.1 u.2.2.2.1) (cB G A (fun (u : Int32 × Int32 × (Nat → Nat) × (Nat → Nat) × (Nat → Nat) × (Nat → Nat)) => [(e0, .inr (6, [.ref ea, .ref ek, .ref eh, .int hq, .ref es, .ref ei, .ref el, .ref ew, .ref et, .ref er, .int u.1, .int u.2.1, .ref ed, .ref ep, .int pn, .int sp, .ref ex, .ref eu, .int rm, .int la])), (ea, .inl (gI G, 42, .inl (nA al))), (el, .inl (gI G, 12, .inl (nA u.2.2.1))), (ew, .inl (gI G, 12, .inl (nA u.2.2.2.1))), (et, .inl (gI G, 20, .inl (nA u.2.2.2.2.1))), (er, .inl (gI G, 20, .inl (nA u.2.2.2.2.2)))])) A) args s 0 0 A) (F0 m 2 ls []) := by
    intro n_2
    induction n_2 with
    | zero =>
      intro i le1 wh1 h0
      exact absurd h0 (Nat.not_lt_zero _)
    | succ n_2 ih_2 =>
      intro i le1 wh1 hm_2 hi hz H locs hP hD hS ls hl
      refine lv_iload_n hx hb dX6_judges_2 rfl (lv_at hl 0 rfl) ?_
      refine lv_bipush (v := nI 12) hx hb dX6_judges_3 (by decide +kernel) ?_
      refine zb_ge (tgt := 28) S dX6_judges_5 (by decide) (by omega) (by decide) (fun c_5 => ?_) (fun c_5 => ?_)
      · skip
        have hi12 : i = 12 := by omega
        obtain rfl : i = 12 := hi12
        have hz2 := z_arrP hP hD (k := 2) rfl (nA z0) (fun j hj => congrArg nI (hz j (by omega)))
        obtain ⟨hP, hD⟩ := hz2
        have hP : va_P (gD G) vwCl [(e0, .inr (6, [.ref ea, .ref ek, .ref eh, .int hq, .ref es, .ref ei, .ref el, .ref ew, .ref et, .ref er, .int lf, .int md, .ref ed, .ref ep, .int pn, .int sp, .ref ex, .ref eu, .int rm, .int la])), (ea, .inl (gI G, 42, .inl (nA al))), (el, .inl (gI G, 12, .inl (nA z0))), (ew, .inl (gI G, 12, .inl (nA wh1))), (et, .inl (gI G, 20, .inl (nA ms))), (er, .inl (gI G, 20, .inl (nA mr)))] H := hP
        have hD : va_D A [(e0, .inr (6, [.ref ea, .ref ek, .ref eh, .int hq, .ref es, .ref ei, .ref el, .ref ew, .ref et, .ref er, .int lf, .int md, .ref ed, .ref ep, .int pn, .int sp, .ref ex, .ref eu, .int rm, .int la])), (ea, .inl (gI G, 42, .inl (nA al))), (el, .inl (gI G, 12, .inl (nA z0))), (ew, .inl (gI G, 12, .inl (nA wh1))), (et, .inl (gI G, 20, .inl (nA ms))), (er, .inl (gI G, 20, .inl (nA mr)))] := hD
        refine lv_iconst (v := nI 0) hx hb dX6_judges_28 (by decide +kernel) ?_
        refine lv_istore_n (lv' := [(1, .int (nI 0)), (0, .ref e0)]) hx hb dX6_judges_29 rfl hl (by decide) rfl (fun ls hl => ?_)
        have lp_30 : ∀ (n_30 : Nat) (i3 : Nat) (lf3 : Int32) (md3 : Int32) (le3 : Nat → Nat) (wh3 : Nat → Nat) (ms3 : Nat → Nat) (mr3 : Nat → Nat), al 1 - i3 < n_30 → (i3 ≤ al 1) → (MV (fun j => al (2 + j)) (fun j => al (22 + j)) i3 ms3 mr3 le3 wh3) → ∀ (H : Heap) (locs : List Loc), va_P (gD G) vwCl [(e0, .inr (6, [.ref ea, .ref ek, .ref eh, .int hq, .ref es, .ref ei, .ref el, .ref ew, .ref et, .ref er, .int lf3, .int md3, .ref ed, .ref ep, .int pn, .int sp, .ref ex, .ref eu, .int rm, .int la])), (ea, .inl (gI G, 42, .inl (nA al))), (el, .inl (gI G, 12, .inl (nA le3))), (ew, .inl (gI G, 12, .inl (nA wh3))), (et, .inl (gI G, 20, .inl (nA ms3))), (er, .inl (gI G, 20, .inl (nA mr3)))] H → va_D A [(e0, .inr (6, [.ref ea, .ref ek, .ref eh, .int hq, .ref es, .ref ei, .ref el, .ref ew, .ref et, .ref er, .int lf3, .int md3, .ref ed, .ref ep, .int pn, .int sp, .ref ex, .ref eu, .int rm, .int la])), (ea, .inl (gI G, 42, .inl (nA al))), (el, .inl (gI G, 12, .inl (nA le3))), (ew, .inl (gI G, 12, .inl (nA wh3))), (et, .inl (gI G, 20, .inl (nA ms3))), (er, .inl (gI G, 20, .inl (nA mr3)))] → va_S A s.heap H locs → ∀ ls : Array Slot, lv_has ls 3 [(1, .int (nI i3)), (0, .ref e0)] → W p l e ({ frames := 2, cells := 0, slots := 0, locals := 45 } : Room) s m args below meth c H locs 0 0 (MQ below (va_Qv (fun (u : Int32 × Int32 × (Nat → Nat) × (Nat → Nat) × (Nat → Nat) × (Nat → Nat)) => MV (fun j => al (2 + j)) (fun j => al (22 + j)) (al 1) u.2.2.2.2.1 u.2.2.2.2.2 u.2.2.1 u.2.2.2.1) (cB G A (fun (u : Int32 × Int32 × (Nat → Nat) × (Nat → Nat) × (Nat → Nat) × (Nat → Nat)) => [(e0, .inr (6, [.ref ea, .ref ek, .ref eh, .int hq, .ref es, .ref ei, .ref el, .ref ew, .ref et, .ref er, .int u.1, .int u.2.1, .ref ed, .ref ep, .int pn, .int sp, .ref ex, .ref eu, .int rm, .int la])), (ea, .inl (gI G, 42, .inl (nA al))), (el, .inl (gI G, 12, .inl (nA u.2.2.1))), (ew, .inl (gI G, 12, .inl (nA u.2.2.2.1))), (et, .inl (gI G, 20, .inl (nA u.2.2.2.2.1))), (er, .inl (gI G, 20, .inl (nA u.2.2.2.2.2)))])) A) args s 0 0 A) (F0 m 30 ls []) := by
          intro n_30
          induction n_30 with
          | zero =>
            intro i3 lf3 md3 le3 wh3 ms3 mr3 h0
            exact absurd h0 (Nat.not_lt_zero _)
          | succ n_30 ih_30 =>
            intro i3 lf3 md3 le3 wh3 ms3 mr3 hm_30 hi3 hV H locs hP hD hS ls hl
            refine lv_iload_n hx hb dX6_judges_30 rfl (lv_at hl 0 rfl) ?_
            refine lv_aload_n hx hb dX6_judges_31 rfl (lv_at hl 1 rfl) ?_
            refine z_get S K hP hX6_judges_X6 0 rfl rfl 0 (by decide) kX6_judges_3 rfl rfl dX6_judges_32 ?_
            refine lv_iconst (v := nI 1) hx hb dX6_judges_35 (by decide +kernel) ?_
            refine z_iald S K hP 1 rfl (by omega) (by decide) dX6_judges_36 ?_
            refine zb_ge (tgt := 136) S dX6_judges_37 (by decide) (by omega) (by omega) (fun c_37 => ?_) (fun c_37 => ?_)
            · skip
              have hi3n : i3 = al 1 := by omega
              rw [hi3n] at hV
              exact z_vret S hrt hlk hP hD hS (lf3, md3, le3, wh3, ms3, mr3) rfl hV dX6_judges_136
            · skip
              obtain ⟨q1, q3, hrq⟩ := mred_ex le3 wh3 (al (2 + i3))
              have hx0 := hf5 i3 (by omega)
              have hq1 := mq1 hV.2.2.2 hx0 hrq
              have hq3 := mq3 hV.2.2 (by omega) hrq
              have hms := mst_ok (y := al (22 + i3)) hV.2.2 (by omega) hrq
              have hml := mst_le al q1 q3 (al (22 + i3))
              refine lv_aload_n hx hb dX6_judges_40 rfl (lv_at hl 1 rfl) ?_
              refine z_get S K hP hX6_judges_X6 0 rfl rfl 8 (by decide) kX6_judges_4 rfl rfl dX6_judges_41 ?_
              refine lv_iload_n hx hb dX6_judges_44 rfl (lv_at hl 0 rfl) ?_
              refine lv_aload_n hx hb dX6_judges_45 rfl (lv_at hl 1 rfl) ?_
              refine lv_aload_n hx hb dX6_judges_46 rfl (lv_at hl 1 rfl) ?_
              refine z_get S K hP hX6_judges_X6 0 rfl rfl 0 (by decide) kX6_judges_3 rfl rfl dX6_judges_47 ?_
              refine lv_iconst (v := nI 2) hx hb dX6_judges_50 (by decide +kernel) ?_
              refine lv_iload_n hx hb dX6_judges_51 rfl (lv_at hl 0 rfl) ?_
              refine zi_add S dX6_judges_52 ?_
              refine z_iald S K hP 1 rfl (by omega) (by decide) dX6_judges_53 ?_
              refine lv_aload_n hx hb dX6_judges_54 rfl (lv_at hl 1 rfl) ?_
              refine z_get S K hP hX6_judges_X6 0 rfl rfl 0 (by decide) kX6_judges_3 rfl rfl dX6_judges_55 ?_
              refine lv_bipush (v := nI 22) hx hb dX6_judges_58 (by decide +kernel) ?_
              refine lv_iload_n hx hb dX6_judges_60 rfl (lv_at hl 0 rfl) ?_
              refine zi_add S dX6_judges_61 ?_
              refine z_iald S K hP 1 rfl (by omega) (by decide) dX6_judges_62 ?_
              refine zcVi (rest := [.int (nI i3), .ref et]) S K hP hD hS hA hl.1 (c_X6_stateOf l G e0 ea ek eh es ei el ew et er ed ep ex eu hq lf3 md3 pn sp rm la al le3 wh3 (al (2 + i3)) (al (22 + i3)) q1 q3 hx0 (hg6 i3 (by omega)) hV.2.2.2 hrq hq1 hq3 hn3 hg6) rfl rfl gX6_judges_X6_stateOf rfl eX6_stateOf [0, 1, 2, 3] (by decide +kernel) rfl (fun _ => rfl) 6 0 rfl rfl rfl rfl rfl (Nat.le_of_ble_eq_true rfl) (Nat.le_of_ble_eq_true rfl) (Nat.le_of_ble_eq_true rfl) ⟨Nat.zero_le _, Nat.zero_le _⟩ dX6_judges_63 (fun r_63 u_63 H locs hw_63 hP hD hS => ?_)
              obtain ⟨hP, hD⟩ := mx_ok [some 0, some 1, some 2, some 3, none, none] (by decide +kernel) rfl rfl hP hD
              replace hw_63 : r_63 = nI (mst al q1 q3 (al (22 + i3))) := hw_63
              obtain rfl := hw_63
              have hP : va_P (gD G) vwCl [(e0, .inr (6, [.ref ea, .ref ek, .ref eh, .int hq, .ref es, .ref ei, .ref el, .ref ew, .ref et, .ref er, .int (nI q1), .int (nI q3), .ref ed, .ref ep, .int pn, .int sp, .ref ex, .ref eu, .int rm, .int la])), (ea, .inl (gI G, 42, .inl (nA al))), (el, .inl (gI G, 12, .inl (nA le3))), (ew, .inl (gI G, 12, .inl (nA wh3))), (et, .inl (gI G, 20, .inl (nA ms3))), (er, .inl (gI G, 20, .inl (nA mr3)))] H := hP
              have hD : va_D A [(e0, .inr (6, [.ref ea, .ref ek, .ref eh, .int hq, .ref es, .ref ei, .ref el, .ref ew, .ref et, .ref er, .int (nI q1), .int (nI q3), .ref ed, .ref ep, .int pn, .int sp, .ref ex, .ref eu, .int rm, .int la])), (ea, .inl (gI G, 42, .inl (nA al))), (el, .inl (gI G, 12, .inl (nA le3))), (ew, .inl (gI G, 12, .inl (nA wh3))), (et, .inl (gI G, 20, .inl (nA ms3))), (er, .inl (gI G, 20, .inl (nA mr3)))] := hD
              refine z_iast S K hP hD hS 4 rfl (by omega) (by decide) dX6_judges_66 (fun H locs hP hD hS => ?_)
              have hP : va_P (gD G) vwCl [(e0, .inr (6, [.ref ea, .ref ek, .ref eh, .int hq, .ref es, .ref ei, .ref el, .ref ew, .ref et, .ref er, .int (nI q1), .int (nI q3), .ref ed, .ref ep, .int pn, .int sp, .ref ex, .ref eu, .int rm, .int la])), (ea, .inl (gI G, 42, .inl (nA al))), (el, .inl (gI G, 12, .inl (nA le3))), (ew, .inl (gI G, 12, .inl (nA wh3))), (et, .inl (gI G, 20, .inl (nA (pu ms3 i3 (mst al q1 q3 (al (22 + i3))))))), (er, .inl (gI G, 20, .inl (nA mr3)))] H := hP
              have hD : va_D A [(e0, .inr (6, [.ref ea, .ref ek, .ref eh, .int hq, .ref es, .ref ei, .ref el, .ref ew, .ref et, .ref er, .int (nI q1), .int (nI q3), .ref ed, .ref ep, .int pn, .int sp, .ref ex, .ref eu, .int rm, .int la])), (ea, .inl (gI G, 42, .inl (nA al))), (el, .inl (gI G, 12, .inl (nA le3))), (ew, .inl (gI G, 12, .inl (nA wh3))), (et, .inl (gI G, 20, .inl (nA (pu ms3 i3 (mst al q1 q3 (al (22 + i3))))))), (er, .inl (gI G, 20, .inl (nA mr3)))] := hD
              refine lv_aload_n hx hb dX6_judges_67 rfl (lv_at hl 1 rfl) ?_
              refine z_get S K hP hX6_judges_X6 0 rfl rfl 9 (by decide) kX6_judges_5 rfl rfl dX6_judges_68 ?_
              refine lv_iload_n hx hb dX6_judges_71 rfl (lv_at hl 0 rfl) ?_
              refine lv_aload_n hx hb dX6_judges_72 rfl (lv_at hl 1 rfl) ?_
              refine z_get S K hP hX6_judges_X6 0 rfl rfl 11 (by decide) kX6_judges_6 rfl rfl dX6_judges_73 ?_
              refine z_iast S K hP hD hS 5 rfl (by omega) (by decide) dX6_judges_76 (fun H locs hP hD hS => ?_)
              have hP : va_P (gD G) vwCl [(e0, .inr (6, [.ref ea, .ref ek, .ref eh, .int hq, .ref es, .ref ei, .ref el, .ref ew, .ref et, .ref er, .int (nI q1), .int (nI q3), .ref ed, .ref ep, .int pn, .int sp, .ref ex, .ref eu, .int rm, .int la])), (ea, .inl (gI G, 42, .inl (nA al))), (el, .inl (gI G, 12, .inl (nA le3))), (ew, .inl (gI G, 12, .inl (nA wh3))), (et, .inl (gI G, 20, .inl (nA (pu ms3 i3 (mst al q1 q3 (al (22 + i3))))))), (er, .inl (gI G, 20, .inl (nA (pu mr3 i3 q3))))] H := hP
              have hD : va_D A [(e0, .inr (6, [.ref ea, .ref ek, .ref eh, .int hq, .ref es, .ref ei, .ref el, .ref ew, .ref et, .ref er, .int (nI q1), .int (nI q3), .ref ed, .ref ep, .int pn, .int sp, .ref ex, .ref eu, .int rm, .int la])), (ea, .inl (gI G, 42, .inl (nA al))), (el, .inl (gI G, 12, .inl (nA le3))), (ew, .inl (gI G, 12, .inl (nA wh3))), (et, .inl (gI G, 20, .inl (nA (pu ms3 i3 (mst al q1 q3 (al (22 + i3))))))), (er, .inl (gI G, 20, .inl (nA (pu mr3 i3 q3))))] := hD
              refine lv_aload_n hx hb dX6_judges_77 rfl (lv_at hl 1 rfl) ?_
              refine z_get S K hP hX6_judges_X6 0 rfl rfl 8 (by decide) kX6_judges_4 rfl rfl dX6_judges_78 ?_
              refine lv_iload_n hx hb dX6_judges_81 rfl (lv_at hl 0 rfl) ?_
              refine z_iald S K hP 4 rfl (by omega) (by decide) dX6_judges_82 ?_
              refine z_top (y := nI (mst al q1 q3 (al (22 + i3)))) (congrArg nI pu_s) ?_
              refine zf_ne (tgt := 130) S dX6_judges_83 (by decide) (by omega) (fun c_83 => ?_) (fun c_83 => ?_)
              · skip
                refine lv_iinc (v := (nI (i3 + 1))) (lv' := [(1, .int (nI (i3 + 1))), (0, .ref e0)]) hx hb dX6_judges_130 hl (k := 0) rfl (z_i1 _) (by decide) rfl (fun ls hl => ?_)
                refine lv_goto (tgt := 30) hx hb dX6_judges_133 (by decide) ?_
                exact ih_30 (i3 + 1) (nI q1) (nI q3) le3 wh3 (pu ms3 i3 (mst al q1 q3 (al (22 + i3)))) (pu mr3 i3 q3) (by omega) (by omega) (by first | exact mv_s hV hrq hms (mst_0 c_83) | exact mv_up hV hrq hms (mb_add hV.2.2 hrq (mst_1 c_83) hq1 hb12 (bnz c_97) hbh)) _ _ hP hD hS _ (lv_sub hl [0, 1] rfl)
              · skip
                refine lv_bipush (v := nI 11) hx hb dX6_judges_86 (by decide +kernel) ?_
                refine lv_istore_n (lv' := [(2, .int (nI 11)), (1, .int (nI i3)), (0, .ref e0)]) hx hb dX6_judges_88 rfl hl (by decide) rfl (fun ls hl => ?_)
                have lp_89 : ∀ (n_89 : Nat) (b : Nat), b < n_89 → (b < 12) → (∀ j, b < j → j < 12 → q1.testBit j = false) → ∀ (H : Heap) (locs : List Loc), va_P (gD G) vwCl [(e0, .inr (6, [.ref ea, .ref ek, .ref eh, .int hq, .ref es, .ref ei, .ref el, .ref ew, .ref et, .ref er, .int (nI q1), .int (nI q3), .ref ed, .ref ep, .int pn, .int sp, .ref ex, .ref eu, .int rm, .int la])), (ea, .inl (gI G, 42, .inl (nA al))), (el, .inl (gI G, 12, .inl (nA le3))), (ew, .inl (gI G, 12, .inl (nA wh3))), (et, .inl (gI G, 20, .inl (nA (pu ms3 i3 (mst al q1 q3 (al (22 + i3))))))), (er, .inl (gI G, 20, .inl (nA (pu mr3 i3 q3))))] H → va_D A [(e0, .inr (6, [.ref ea, .ref ek, .ref eh, .int hq, .ref es, .ref ei, .ref el, .ref ew, .ref et, .ref er, .int (nI q1), .int (nI q3), .ref ed, .ref ep, .int pn, .int sp, .ref ex, .ref eu, .int rm, .int la])), (ea, .inl (gI G, 42, .inl (nA al))), (el, .inl (gI G, 12, .inl (nA le3))), (ew, .inl (gI G, 12, .inl (nA wh3))), (et, .inl (gI G, 20, .inl (nA (pu ms3 i3 (mst al q1 q3 (al (22 + i3))))))), (er, .inl (gI G, 20, .inl (nA (pu mr3 i3 q3))))] → va_S A s.heap H locs → ∀ ls : Array Slot, lv_has ls 3 [(2, .int (nI b)), (1, .int (nI i3)), (0, .ref e0)] → W p l e ({ frames := 2, cells := 0, slots := 0, locals := 45 } : Room) s m args below meth c H locs 0 0 (MQ below (va_Qv (fun (u : Int32 × Int32 × (Nat → Nat) × (Nat → Nat) × (Nat → Nat) × (Nat → Nat)) => MV (fun j => al (2 + j)) (fun j => al (22 + j)) (al 1) u.2.2.2.2.1 u.2.2.2.2.2 u.2.2.1 u.2.2.2.1) (cB G A (fun (u : Int32 × Int32 × (Nat → Nat) × (Nat → Nat) × (Nat → Nat) × (Nat → Nat)) => [(e0, .inr (6, [.ref ea, .ref ek, .ref eh, .int hq, .ref es, .ref ei, .ref el, .ref ew, .ref et, .ref er, .int u.1, .int u.2.1, .ref ed, .ref ep, .int pn, .int sp, .ref ex, .ref eu, .int rm, .int la])), (ea, .inl (gI G, 42, .inl (nA al))), (el, .inl (gI G, 12, .inl (nA u.2.2.1))), (ew, .inl (gI G, 12, .inl (nA u.2.2.2.1))), (et, .inl (gI G, 20, .inl (nA u.2.2.2.2.1))), (er, .inl (gI G, 20, .inl (nA u.2.2.2.2.2)))])) A) args s 0 0 A) (F0 m 89 ls []) := by
                  intro n_89
                  induction n_89 with
                  | zero =>
                    intro b h0
                    exact absurd h0 (Nat.not_lt_zero _)
                  | succ n_89 ih_89 =>
                    intro b hm_89 hb12 hbh H locs hP hD hS ls hl
                    refine lv_aload_n hx hb dX6_judges_89 rfl (lv_at hl 2 rfl) ?_
                    refine z_get S K hP hX6_judges_X6 0 rfl rfl 10 (by decide) kX6_judges_7 rfl rfl dX6_judges_90 ?_
                    refine lv_iload_n hx hb dX6_judges_93 rfl (lv_at hl 0 rfl) ?_
                    refine zi_shr S dX6_judges_94 (by omega) (by omega) ?_
                    refine lv_iconst (v := nI 1) hx hb dX6_judges_95 (by decide +kernel) ?_
                    refine zi_and S dX6_judges_96 ?_
                    refine zf_ne (tgt := 106) S dX6_judges_97 (by decide) and1_31 (fun c_97 => ?_) (fun c_97 => ?_)
                    · skip
                      refine lv_aload_n hx hb dX6_judges_106 rfl (lv_at hl 2 rfl) ?_
                      refine z_get S K hP hX6_judges_X6 0 rfl rfl 6 (by decide) kX6_judges_1 rfl rfl dX6_judges_107 ?_
                      refine lv_iload_n hx hb dX6_judges_110 rfl (lv_at hl 0 rfl) ?_
                      refine lv_aload_n hx hb dX6_judges_111 rfl (lv_at hl 2 rfl) ?_
                      refine z_get S K hP hX6_judges_X6 0 rfl rfl 10 (by decide) kX6_judges_7 rfl rfl dX6_judges_112 ?_
                      refine z_iast S K hP hD hS 2 rfl (by omega) (by decide) dX6_judges_115 (fun H locs hP hD hS => ?_)
                      have hP : va_P (gD G) vwCl [(e0, .inr (6, [.ref ea, .ref ek, .ref eh, .int hq, .ref es, .ref ei, .ref el, .ref ew, .ref et, .ref er, .int (nI q1), .int (nI q3), .ref ed, .ref ep, .int pn, .int sp, .ref ex, .ref eu, .int rm, .int la])), (ea, .inl (gI G, 42, .inl (nA al))), (el, .inl (gI G, 12, .inl (nA (pu le3 b q1)))), (ew, .inl (gI G, 12, .inl (nA wh3))), (et, .inl (gI G, 20, .inl (nA (pu ms3 i3 (mst al q1 q3 (al (22 + i3))))))), (er, .inl (gI G, 20, .inl (nA (pu mr3 i3 q3))))] H := hP
                      have hD : va_D A [(e0, .inr (6, [.ref ea, .ref ek, .ref eh, .int hq, .ref es, .ref ei, .ref el, .ref ew, .ref et, .ref er, .int (nI q1), .int (nI q3), .ref ed, .ref ep, .int pn, .int sp, .ref ex, .ref eu, .int rm, .int la])), (ea, .inl (gI G, 42, .inl (nA al))), (el, .inl (gI G, 12, .inl (nA (pu le3 b q1)))), (ew, .inl (gI G, 12, .inl (nA wh3))), (et, .inl (gI G, 20, .inl (nA (pu ms3 i3 (mst al q1 q3 (al (22 + i3))))))), (er, .inl (gI G, 20, .inl (nA (pu mr3 i3 q3))))] := hD
                      refine lv_aload_n hx hb dX6_judges_116 rfl (lv_at hl 2 rfl) ?_
                      refine z_get S K hP hX6_judges_X6 0 rfl rfl 7 (by decide) kX6_judges_2 rfl rfl dX6_judges_117 ?_
                      refine lv_iload_n hx hb dX6_judges_120 rfl (lv_at hl 0 rfl) ?_
                      refine lv_aload_n hx hb dX6_judges_121 rfl (lv_at hl 2 rfl) ?_
                      refine z_get S K hP hX6_judges_X6 0 rfl rfl 11 (by decide) kX6_judges_6 rfl rfl dX6_judges_122 ?_
                      refine lv_iconst (v := nI 1) hx hb dX6_judges_125 (by decide +kernel) ?_
                      refine lv_iload_n hx hb dX6_judges_126 rfl (lv_at hl 1 rfl) ?_
                      refine zi_shl S dX6_judges_127 (by omega) ?_
                      refine zi_xor S dX6_judges_128 ?_
                      refine z_iast S K hP hD hS 3 rfl (by omega) (by decide) dX6_judges_129 (fun H locs hP hD hS => ?_)
                      have hP : va_P (gD G) vwCl [(e0, .inr (6, [.ref ea, .ref ek, .ref eh, .int hq, .ref es, .ref ei, .ref el, .ref ew, .ref et, .ref er, .int (nI q1), .int (nI q3), .ref ed, .ref ep, .int pn, .int sp, .ref ex, .ref eu, .int rm, .int la])), (ea, .inl (gI G, 42, .inl (nA al))), (el, .inl (gI G, 12, .inl (nA (pu le3 b q1)))), (ew, .inl (gI G, 12, .inl (nA (pu wh3 b (q3 ^^^ (1 <<< i3)))))), (et, .inl (gI G, 20, .inl (nA (pu ms3 i3 (mst al q1 q3 (al (22 + i3))))))), (er, .inl (gI G, 20, .inl (nA (pu mr3 i3 q3))))] H := hP
                      have hD : va_D A [(e0, .inr (6, [.ref ea, .ref ek, .ref eh, .int hq, .ref es, .ref ei, .ref el, .ref ew, .ref et, .ref er, .int (nI q1), .int (nI q3), .ref ed, .ref ep, .int pn, .int sp, .ref ex, .ref eu, .int rm, .int la])), (ea, .inl (gI G, 42, .inl (nA al))), (el, .inl (gI G, 12, .inl (nA (pu le3 b q1)))), (ew, .inl (gI G, 12, .inl (nA (pu wh3 b (q3 ^^^ (1 <<< i3)))))), (et, .inl (gI G, 20, .inl (nA (pu ms3 i3 (mst al q1 q3 (al (22 + i3))))))), (er, .inl (gI G, 20, .inl (nA (pu mr3 i3 q3))))] := hD
                      refine lv_iinc (v := (nI (i3 + 1))) (lv' := [(1, .int (nI (i3 + 1))), (2, .int (nI b)), (0, .ref e0)]) hx hb dX6_judges_130 hl (k := 1) rfl (z_i1 _) (by decide) rfl (fun ls hl => ?_)
                      refine lv_goto (tgt := 30) hx hb dX6_judges_133 (by decide) ?_
                      exact ih_30 (i3 + 1) (nI q1) (nI q3) (pu le3 b q1) (pu wh3 b (q3 ^^^ (1 <<< i3))) (pu ms3 i3 (mst al q1 q3 (al (22 + i3)))) (pu mr3 i3 q3) (by omega) (by omega) (by first | exact mv_s hV hrq hms (mst_0 c_83) | exact mv_up hV hrq hms (mb_add hV.2.2 hrq (mst_1 c_83) hq1 hb12 (bnz c_97) hbh)) _ _ hP hD hS _ (lv_sub hl [0, 2] rfl)
                    · skip
                      have hbp := top_pos (mst_1 c_83) hq1 c_97 hbh
                      refine lv_iinc (v := (nI (b - 1))) (lv' := [(2, .int (nI (b - 1))), (1, .int (nI i3)), (0, .ref e0)]) hx hb dX6_judges_100 hl (k := 0) rfl (z_im1 hbp) (by decide) rfl (fun ls hl => ?_)
                      refine lv_goto (tgt := 89) hx hb dX6_judges_103 (by decide) ?_
                      exact ih_89 (b - 1) (by omega) (by omega) (top_nx c_97 hbh) _ _ hP hD hS _ (lv_sub hl [0, 1, 2] rfl)
                exact lp_89 _ 11 (Nat.lt_succ_self _) (by omega) (fun j h1 h2 => by omega) _ _ hP hD hS _ (lv_sub hl [0, 1, 2] rfl)
        exact lp_30 _ 0 lf md z0 wh1 ms mr (Nat.lt_succ_self _) (by omega) (mv_0 (fun j _ => rfl) (fun j => by show 0 < 4096; omega)) _ _ hP hD hS _ (lv_sub hl [0, 1] rfl)
      · skip
        refine lv_aload_n hx hb dX6_judges_8 rfl (lv_at hl 1 rfl) ?_
        refine z_get S K hP hX6_judges_X6 0 rfl rfl 6 (by decide) kX6_judges_1 rfl rfl dX6_judges_9 ?_
        refine lv_iload_n hx hb dX6_judges_12 rfl (lv_at hl 0 rfl) ?_
        refine lv_iconst (v := nI 0) hx hb dX6_judges_13 (by decide +kernel) ?_
        refine z_iast S K hP hD hS 2 rfl (by omega) (by decide) dX6_judges_14 (fun H locs hP hD hS => ?_)
        have hP : va_P (gD G) vwCl [(e0, .inr (6, [.ref ea, .ref ek, .ref eh, .int hq, .ref es, .ref ei, .ref el, .ref ew, .ref et, .ref er, .int lf, .int md, .ref ed, .ref ep, .int pn, .int sp, .ref ex, .ref eu, .int rm, .int la])), (ea, .inl (gI G, 42, .inl (nA al))), (el, .inl (gI G, 12, .inl (nA (pu le1 i 0)))), (ew, .inl (gI G, 12, .inl (nA wh1))), (et, .inl (gI G, 20, .inl (nA ms))), (er, .inl (gI G, 20, .inl (nA mr)))] H := hP
        have hD : va_D A [(e0, .inr (6, [.ref ea, .ref ek, .ref eh, .int hq, .ref es, .ref ei, .ref el, .ref ew, .ref et, .ref er, .int lf, .int md, .ref ed, .ref ep, .int pn, .int sp, .ref ex, .ref eu, .int rm, .int la])), (ea, .inl (gI G, 42, .inl (nA al))), (el, .inl (gI G, 12, .inl (nA (pu le1 i 0)))), (ew, .inl (gI G, 12, .inl (nA wh1))), (et, .inl (gI G, 20, .inl (nA ms))), (er, .inl (gI G, 20, .inl (nA mr)))] := hD
        refine lv_aload_n hx hb dX6_judges_15 rfl (lv_at hl 1 rfl) ?_
        refine z_get S K hP hX6_judges_X6 0 rfl rfl 7 (by decide) kX6_judges_2 rfl rfl dX6_judges_16 ?_
        refine lv_iload_n hx hb dX6_judges_19 rfl (lv_at hl 0 rfl) ?_
        refine lv_iconst (v := nI 0) hx hb dX6_judges_20 (by decide +kernel) ?_
        refine z_iast S K hP hD hS 3 rfl (by omega) (by decide) dX6_judges_21 (fun H locs hP hD hS => ?_)
        have hP : va_P (gD G) vwCl [(e0, .inr (6, [.ref ea, .ref ek, .ref eh, .int hq, .ref es, .ref ei, .ref el, .ref ew, .ref et, .ref er, .int lf, .int md, .ref ed, .ref ep, .int pn, .int sp, .ref ex, .ref eu, .int rm, .int la])), (ea, .inl (gI G, 42, .inl (nA al))), (el, .inl (gI G, 12, .inl (nA (pu le1 i 0)))), (ew, .inl (gI G, 12, .inl (nA (pu wh1 i 0)))), (et, .inl (gI G, 20, .inl (nA ms))), (er, .inl (gI G, 20, .inl (nA mr)))] H := hP
        have hD : va_D A [(e0, .inr (6, [.ref ea, .ref ek, .ref eh, .int hq, .ref es, .ref ei, .ref el, .ref ew, .ref et, .ref er, .int lf, .int md, .ref ed, .ref ep, .int pn, .int sp, .ref ex, .ref eu, .int rm, .int la])), (ea, .inl (gI G, 42, .inl (nA al))), (el, .inl (gI G, 12, .inl (nA (pu le1 i 0)))), (ew, .inl (gI G, 12, .inl (nA (pu wh1 i 0)))), (et, .inl (gI G, 20, .inl (nA ms))), (er, .inl (gI G, 20, .inl (nA mr)))] := hD
        refine lv_iinc (v := (nI (i + 1))) (lv' := [(1, .int (nI (i + 1))), (0, .ref e0)]) hx hb dX6_judges_22 hl (k := 0) rfl (z_i1 _) (by decide) rfl (fun ls hl => ?_)
        refine lv_goto (tgt := 2) hx hb dX6_judges_25 (by decide) ?_
        exact ih_2 (i + 1) (pu le1 i 0) (pu wh1 i 0) (by omega) (by omega) (z_fill hz) _ _ hP hD hS _ (lv_sub hl [0, 1] rfl)
  exact lp_2 _ 0 le wh (Nat.lt_succ_self _) (by omega) (fun j hj => absurd hj (Nat.not_lt_zero _)) _ _ hP hD hS _ (lv_sub hl [0, 1] rfl)
