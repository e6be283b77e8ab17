theorem put_0 {w y gd : Nat} (h : (gd = 1 ∧ ∀ k, k < y → 33 ≤ byt w k ∧ byt w k ≤ 126) ∨ (gd = 0 ∧ ∃ k, ¬ byt w k = 0 ∧ (byt w k < 33 ∨ 126 < byt w k))) (h0 : gd = 0) : (0 = 1 ∧ ∀ k, k < y + 1 → 33 ≤ byt w k ∧ byt w k ≤ 126) ∨ (0 = 0 ∧ ∃ k, ¬ byt w k = 0 ∧ (byt w k < 33 ∨ 126 < byt w k)) := by
  rcases h with ⟨q, -⟩ | ⟨-, q⟩
  · omega
  · exact Or.inr ⟨rfl, q⟩
theorem put_1 {w y gd : Nat} (h : (gd = 1 ∧ ∀ k, k < y → 33 ≤ byt w k ∧ byt w k ≤ 126) ∨ (gd = 0 ∧ ∃ k, ¬ byt w k = 0 ∧ (byt w k < 33 ∨ 126 < byt w k))) (h0 : ¬ gd = 0) (h1 : 33 ≤ byt w y) (h2 : byt w y ≤ 126) : (1 = 1 ∧ ∀ k, k < y + 1 → 33 ≤ byt w k ∧ byt w k ≤ 126) ∨ (1 = 0 ∧ ∃ k, ¬ byt w k = 0 ∧ (byt w k < 33 ∨ 126 < byt w k)) := by
  rcases h with ⟨-, q⟩ | ⟨q, -⟩
  · refine Or.inl ⟨rfl, fun k hk => ?_⟩
    by_cases e : k = y
    · subst e; exact ⟨h1, h2⟩
    · exact q k (by omega)
  · exact absurd q h0
theorem put_2 {w y : Nat} (h1 : ¬ byt w y = 0) (h2 : byt w y < 33 ∨ 126 < byt w y) : (0 = 1 ∧ ∀ k, k < y + 1 → 33 ≤ byt w k ∧ byt w k ≤ 126) ∨ (0 = 0 ∧ ∃ k, ¬ byt w k = 0 ∧ (byt w k < 33 ∨ 126 < byt w k)) := Or.inr ⟨rfl, y, h1, h2⟩
set_option maxHeartbeats 4000000 in
set_option maxRecDepth 100000 in
theorem c_X6_read (l : Launch) (G : gT) (e0 ea ek eh es ei el ew et er ed ep ex eu : Nat) (lf : Int32) (md : Int32) (sp : Int32) (rm : Int32) (la : Int32) (al : Nat → Nat) (ka : Nat → Nat) (hy : Nat → Nat) (mt : Nat → Nat) (mq : Nat → Nat) (mv : Nat → Nat) (hq : Nat) (pn : Nat) (hR : RowOK (mR al)) (hq6 : hq ≤ 6) (hn : ∀ k, k < hq → hy (42 * k + 1) ≤ 20) (hpn : pn ≤ 80) (hch : ∀ j, j < pn → mt j < 127) : CI l yX6_read wsX6_read ({ frames := 5, cells := 0, slots := 0, locals := 113 } : Room) G [.ref e0] [(e0, .inr (6, [.ref ea, .ref ek, .ref eh, .int (nI hq), .ref es, .ref ei, .ref el, .ref ew, .ref et, .ref er, .int lf, .int md, .ref ed, .ref ep, .int (nI pn), .int sp, .ref ex, .ref eu, .int rm, .int la])), (ea, .inl (gI G, 42, .inl (nA al))), (ek, .inl (gI G, 42, .inl (nA ka))), (eh, .inl (gI G, 252, .inl (nA hy))), (ep, .inl (gI G, 80, .inl (nA mt))), (ex, .inl (gI G, 40, .inl (nA mq))), (eu, .inl (gI G, 40, .inl (nA mv)))] 0 0 (fun (r : Int32) (u : Nat × Nat × Int32 × Int32 × Int32 × (Nat → Nat) × (Nat → Nat) × (Nat → Nat) × (Nat → Nat) × (Nat → Nat)) => r = (r_read (mR al) pn (nrm pn mt)) ∧ ((mR u.2.2.2.2.2.1, mH u.1 u.2.2.2.2.2.2.2.1), u.2.1, nrm u.2.1 mt) = n_read (mR al) (mH hq hy) pn (nrm pn mt) ∧ (u.2.1 = pn ∨ u.2.1 = 0)) (fun (u : Nat × Nat × Int32 × Int32 × Int32 × (Nat → Nat) × (Nat → Nat) × (Nat → Nat) × (Nat → Nat) × (Nat → Nat)) => [(e0, .inr (6, [.ref ea, .ref ek, .ref eh, .int (nI u.1), .ref es, .ref ei, .ref el, .ref ew, .ref et, .ref er, .int lf, .int md, .ref ed, .ref ep, .int (nI u.2.1), .int u.2.2.1, .ref ex, .ref eu, .int u.2.2.2.1, .int u.2.2.2.2.1])), (ea, .inl (gI G, 42, .inl (nA u.2.2.2.2.2.1))), (ek, .inl (gI G, 42, .inl (nA u.2.2.2.2.2.2.1))), (eh, .inl (gI G, 252, .inl (nA u.2.2.2.2.2.2.2.1))), (ep, .inl (gI G, 80, .inl (nA mt))), (ex, .inl (gI G, 40, .inl (nA u.2.2.2.2.2.2.2.2.1))), (eu, .inl (gI G, 40, .inl (nA u.2.2.2.2.2.2.2.2.2)))]) := by
  refine CI.of (cc := cX6_read) (maxL := 2) (ret := (some .int)) (by decide +kernel) rfl (Nat.le_of_ble_eq_true rfl) rfl (fun p e s m args below meth c A S hrt hlk hnm K hA hP hD hS ls hl => ?_)
  have hx := S.1
  have hb := S.2.1
  have hl : lv_has ls 2 [(0, .ref e0)] := hl
  obtain ⟨hc1, hc2, hn3, hf4, hf5, hg6⟩ := mrow hR
  have hp2 := p12 hc2
  have h1s : 1 <<< al 0 = 2 ^ al 0 := Nat.one_shiftLeft _
  refine lv_aload_n hx hb dX6_read_0 rfl (lv_at hl 0 rfl) ?_
  refine zcVi (rest := []) S K hP hD hS hA hl.1 (c_X6_fault l G e0 ea ek eh es ei el ew et er ed ep ex eu (nI hq) lf md sp rm la mt mq mv pn hpn hch) rfl rfl gX6_read_X6_fault rfl eX6_fault [0, 4, 5, 6] (by decide +kernel) rfl (fun _ => rfl) 6 0 rfl rfl rfl rfl rfl (Nat.le_of_ble_eq_true rfl) (Nat.le_of_ble_eq_true rfl) (Nat.le_of_ble_eq_true rfl) ⟨Nat.zero_le _, Nat.zero_le _⟩ dX6_read_1 (fun r_1 u_1 H locs hw_1 hP hD hS => ?_)
  obtain ⟨hP, hD⟩ := mx_ok [some 0, none, none, none, some 1, some 2, some 3] (by decide +kernel) rfl rfl hP hD
  obtain ⟨sp2_1, m2_1, la2_1, mq2_1, mv2_1⟩ := u_1
  replace hw_1 : FT mq mv mt pn r_1 m2_1 mq2_1 mv2_1 := hw_1
  have hP : va_P (gD G) vwCl [(e0, .inr (6, [.ref ea, .ref ek, .ref eh, .int (nI hq), .ref es, .ref ei, .ref el, .ref ew, .ref et, .ref er, .int lf, .int md, .ref ed, .ref ep, .int (nI pn), .int (nI sp2_1), .ref ex, .ref eu, .int (nI m2_1), .int la2_1])), (ea, .inl (gI G, 42, .inl (nA al))), (ek, .inl (gI G, 42, .inl (nA ka))), (eh, .inl (gI G, 252, .inl (nA hy))), (ep, .inl (gI G, 80, .inl (nA mt))), (ex, .inl (gI G, 40, .inl (nA mq2_1))), (eu, .inl (gI G, 40, .inl (nA mv2_1)))] H := hP
  have hD : va_D A [(e0, .inr (6, [.ref ea, .ref ek, .ref eh, .int (nI hq), .ref es, .ref ei, .ref el, .ref ew, .ref et, .ref er, .int lf, .int md, .ref ed, .ref ep, .int (nI pn), .int (nI sp2_1), .ref ex, .ref eu, .int (nI m2_1), .int la2_1])), (ea, .inl (gI G, 42, .inl (nA al))), (ek, .inl (gI G, 42, .inl (nA ka))), (eh, .inl (gI G, 252, .inl (nA hy))), (ep, .inl (gI G, 80, .inl (nA mt))), (ex, .inl (gI G, 40, .inl (nA mq2_1))), (eu, .inl (gI G, 40, .inl (nA mv2_1)))] := hD
  obtain ⟨hft1, hft2⟩ := ft_is hpn hw_1
  refine lv_bipush (v := -6) hx hb dX6_read_4 (by decide +kernel) ?_
  refine zr_eq (tgt := 12) S dX6_read_6 (by decide) rfl (by decide : (-6 : Int32).toInt = -6) (fun c_6 => ?_) (fun c_6 => ?_)
  · skip
    have hr6 : r_1 = -6 := Int32.toInt_inj.mp (by rw [c_6]; rfl)
    obtain ⟨hm20, hmok⟩ := ft_ok hpn hw_1 hr6
    refine lv_iconst (v := nI 0) hx hb dX6_read_12 (by decide +kernel) ?_
    refine lv_istore_n (lv' := [(1, .int (nI 0)), (0, .ref e0)]) hx hb dX6_read_13 rfl hl (by decide) rfl (fun ls hl => ?_)
    have lp_14 : ∀ (n_14 : Nat) (i : Nat), m2_1 - i < n_14 → (i ≤ m2_1) → (∀ j, j < i → mq2_1 j >>> al 0 = 0) → ∀ (H : Heap) (locs : List Loc), va_P (gD G) vwCl [(e0, .inr (6, [.ref ea, .ref ek, .ref eh, .int (nI hq), .ref es, .ref ei, .ref el, .ref ew, .ref et, .ref er, .int lf, .int md, .ref ed, .ref ep, .int (nI pn), .int (nI sp2_1), .ref ex, .ref eu, .int (nI m2_1), .int la2_1])), (ea, .inl (gI G, 42, .inl (nA al))), (ek, .inl (gI G, 42, .inl (nA ka))), (eh, .inl (gI G, 252, .inl (nA hy))), (ep, .inl (gI G, 80, .inl (nA mt))), (ex, .inl (gI G, 40, .inl (nA mq2_1))), (eu, .inl (gI G, 40, .inl (nA mv2_1)))] H → va_D A [(e0, .inr (6, [.ref ea, .ref ek, .ref eh, .int (nI hq), .ref es, .ref ei, .ref el, .ref ew, .ref et, .ref er, .int lf, .int md, .ref ed, .ref ep, .int (nI pn), .int (nI sp2_1), .ref ex, .ref eu, .int (nI m2_1), .int la2_1])), (ea, .inl (gI G, 42, .inl (nA al))), (ek, .inl (gI G, 42, .inl (nA ka))), (eh, .inl (gI G, 252, .inl (nA hy))), (ep, .inl (gI G, 80, .inl (nA mt))), (ex, .inl (gI G, 40, .inl (nA mq2_1))), (eu, .inl (gI G, 40, .inl (nA mv2_1)))] → va_S A s.heap H locs → ∀ ls : Array Slot, lv_has ls 2 [(1, .int (nI i)), (0, .ref e0)] → W p l e ({ frames := 5, cells := 0, slots := 0, locals := 113 } : Room) s m args below meth c H locs 0 0 (MQ below (va_Qi (fun (r : Int32) (u : Nat × Nat × Int32 × Int32 × Int32 × (Nat → Nat) × (Nat → Nat) × (Nat → Nat) × (Nat → Nat) × (Nat → Nat)) => r = (r_read (mR al) pn (nrm pn mt)) ∧ ((mR u.2.2.2.2.2.1, mH u.1 u.2.2.2.2.2.2.2.1), u.2.1, nrm u.2.1 mt) = n_read (mR al) (mH hq hy) pn (nrm pn mt) ∧ (u.2.1 = pn ∨ u.2.1 = 0)) (cB G A (fun (u : Nat × Nat × Int32 × Int32 × Int32 × (Nat → Nat) × (Nat → Nat) × (Nat → Nat) × (Nat → Nat) × (Nat → Nat)) => [(e0, .inr (6, [.ref ea, .ref ek, .ref eh, .int (nI u.1), .ref es, .ref ei, .ref el, .ref ew, .ref et, .ref er, .int lf, .int md, .ref ed, .ref ep, .int (nI u.2.1), .int u.2.2.1, .ref ex, .ref eu, .int u.2.2.2.1, .int u.2.2.2.2.1])), (ea, .inl (gI G, 42, .inl (nA u.2.2.2.2.2.1))), (ek, .inl (gI G, 42, .inl (nA u.2.2.2.2.2.2.1))), (eh, .inl (gI G, 252, .inl (nA u.2.2.2.2.2.2.2.1))), (ep, .inl (gI G, 80, .inl (nA mt))), (ex, .inl (gI G, 40, .inl (nA u.2.2.2.2.2.2.2.2.1))), (eu, .inl (gI G, 40, .inl (nA u.2.2.2.2.2.2.2.2.2)))])) A) args s 0 0 A) (F0 m 14 ls []) := by
      intro n_14
      induction n_14 with
      | zero =>
        intro i h0
        exact absurd h0 (Nat.not_lt_zero _)
      | succ n_14 ih_14 =>
        intro i hm_14 hi hbl H locs hP hD hS ls hl
        refine lv_iload_n hx hb dX6_read_14 rfl (lv_at hl 0 rfl) ?_
        refine lv_aload_n hx hb dX6_read_15 rfl (lv_at hl 1 rfl) ?_
        refine z_get S K hP hX6_read_X6 0 rfl rfl 18 (by decide) kX6_read_1 rfl rfl dX6_read_16 ?_
        refine zb_ge (tgt := 44) S dX6_read_19 (by decide) (by omega) (by omega) (fun c_19 => ?_) (fun c_19 => ?_)
        · skip
          have hbel : ∀ j, j < m2_1 → mq2_1 j >>> al 0 = 0 := fun j hj => hbl j (by omega)
          refine lv_aload_n hx hb dX6_read_44 rfl (lv_at hl 1 rfl) ?_
          refine z_get S K hP hX6_read_X6 0 rfl rfl 0 (by decide) kX6_read_3 rfl rfl dX6_read_45 ?_
          refine lv_iconst (v := nI 1) hx hb dX6_read_48 (by decide +kernel) ?_
          refine z_iald S K hP 1 rfl (by omega) (by decide) dX6_read_49 ?_
          refine lv_aload_n hx hb dX6_read_50 rfl (lv_at hl 1 rfl) ?_
          refine z_get S K hP hX6_read_X6 0 rfl rfl 18 (by decide) kX6_read_1 rfl rfl dX6_read_51 ?_
          refine zi_add S dX6_read_54 ?_
          refine lv_bipush (v := nI 20) hx hb dX6_read_55 (by decide +kernel) ?_
          refine zb_le (tgt := 63) S dX6_read_57 (by decide) (by omega) (by decide) (fun c_57 => ?_) (fun c_57 => ?_)
          · skip
            refine lv_aload_n hx hb dX6_read_63 rfl (lv_at hl 1 rfl) ?_
            refine zcVv (rest := []) S K hP hD hS hA hl.1 (c_X6_keep l G e0 ea ek eh es ei el ew et er ed ep ex eu (nI hq) lf md (nI pn) (nI sp2_1) (nI m2_1) la2_1 al ka ) rfl rfl gX6_read_X6_keep rfl eX6_keep [0, 1, 2] (by decide +kernel) rfl (fun _ => rfl) 6 0 rfl rfl rfl rfl rfl (Nat.le_of_ble_eq_true rfl) (Nat.le_of_ble_eq_true rfl) (Nat.le_of_ble_eq_true rfl) ⟨Nat.zero_le _, Nat.zero_le _⟩ dX6_read_64 (fun u_64 H locs hw_64 hP hD hS => ?_)
            obtain ⟨hP, hD⟩ := mx_ok [some 0, some 1, some 2, none, none, none, none] (by decide +kernel) rfl rfl hP hD
            obtain ⟨ka2_64, rfl⟩ : ∃ z, z = u_64 := ⟨_, rfl⟩
            replace hw_64 : ∀ j, j < 42 → ka2_64 j = al j := hw_64
            have hP : va_P (gD G) vwCl [(e0, .inr (6, [.ref ea, .ref ek, .ref eh, .int (nI hq), .ref es, .ref ei, .ref el, .ref ew, .ref et, .ref er, .int lf, .int md, .ref ed, .ref ep, .int (nI pn), .int (nI sp2_1), .ref ex, .ref eu, .int (nI m2_1), .int la2_1])), (ea, .inl (gI G, 42, .inl (nA al))), (ek, .inl (gI G, 42, .inl (nA ka2_64))), (eh, .inl (gI G, 252, .inl (nA hy))), (ep, .inl (gI G, 80, .inl (nA mt))), (ex, .inl (gI G, 40, .inl (nA mq2_1))), (eu, .inl (gI G, 40, .inl (nA mv2_1)))] H := hP
            have hD : va_D A [(e0, .inr (6, [.ref ea, .ref ek, .ref eh, .int (nI hq), .ref es, .ref ei, .ref el, .ref ew, .ref et, .ref er, .int lf, .int md, .ref ed, .ref ep, .int (nI pn), .int (nI sp2_1), .ref ex, .ref eu, .int (nI m2_1), .int la2_1])), (ea, .inl (gI G, 42, .inl (nA al))), (ek, .inl (gI G, 42, .inl (nA ka2_64))), (eh, .inl (gI G, 252, .inl (nA hy))), (ep, .inl (gI G, 80, .inl (nA mt))), (ex, .inl (gI G, 40, .inl (nA mq2_1))), (eu, .inl (gI G, 40, .inl (nA mv2_1)))] := hD
            obtain ⟨hkR, hkk⟩ := keep_R hw_64 hn3
            refine lv_iconst (v := nI 0) hx hb dX6_read_67 (by decide +kernel) ?_
            refine lv_istore_n (lv' := [(1, .int (nI 0)), (0, .ref e0)]) hx hb dX6_read_68 rfl hl (by decide) rfl (fun ls hl => ?_)
            have lp_69 : ∀ (n_69 : Nat) (i : Nat) (al3 : Nat → Nat), m2_1 - i < n_69 → (i ≤ m2_1) → (RI al mq2_1 mv2_1 al3 i) → ∀ (H : Heap) (locs : List Loc), va_P (gD G) vwCl [(e0, .inr (6, [.ref ea, .ref ek, .ref eh, .int (nI hq), .ref es, .ref ei, .ref el, .ref ew, .ref et, .ref er, .int lf, .int md, .ref ed, .ref ep, .int (nI pn), .int (nI sp2_1), .ref ex, .ref eu, .int (nI m2_1), .int la2_1])), (ea, .inl (gI G, 42, .inl (nA al3))), (ek, .inl (gI G, 42, .inl (nA ka2_64))), (eh, .inl (gI G, 252, .inl (nA hy))), (ep, .inl (gI G, 80, .inl (nA mt))), (ex, .inl (gI G, 40, .inl (nA mq2_1))), (eu, .inl (gI G, 40, .inl (nA mv2_1)))] H → va_D A [(e0, .inr (6, [.ref ea, .ref ek, .ref eh, .int (nI hq), .ref es, .ref ei, .ref el, .ref ew, .ref et, .ref er, .int lf, .int md, .ref ed, .ref ep, .int (nI pn), .int (nI sp2_1), .ref ex, .ref eu, .int (nI m2_1), .int la2_1])), (ea, .inl (gI G, 42, .inl (nA al3))), (ek, .inl (gI G, 42, .inl (nA ka2_64))), (eh, .inl (gI G, 252, .inl (nA hy))), (ep, .inl (gI G, 80, .inl (nA mt))), (ex, .inl (gI G, 40, .inl (nA mq2_1))), (eu, .inl (gI G, 40, .inl (nA mv2_1)))] → va_S A s.heap H locs → ∀ ls : Array Slot, lv_has ls 2 [(1, .int (nI i)), (0, .ref e0)] → W p l e ({ frames := 5, cells := 0, slots := 0, locals := 113 } : Room) s m args below meth c H locs 0 0 (MQ below (va_Qi (fun (r : Int32) (u : Nat × Nat × Int32 × Int32 × Int32 × (Nat → Nat) × (Nat → Nat) × (Nat → Nat) × (Nat → Nat) × (Nat → Nat)) => r = (r_read (mR al) pn (nrm pn mt)) ∧ ((mR u.2.2.2.2.2.1, mH u.1 u.2.2.2.2.2.2.2.1), u.2.1, nrm u.2.1 mt) = n_read (mR al) (mH hq hy) pn (nrm pn mt) ∧ (u.2.1 = pn ∨ u.2.1 = 0)) (cB G A (fun (u : Nat × Nat × Int32 × Int32 × Int32 × (Nat → Nat) × (Nat → Nat) × (Nat → Nat) × (Nat → Nat) × (Nat → Nat)) => [(e0, .inr (6, [.ref ea, .ref ek, .ref eh, .int (nI u.1), .ref es, .ref ei, .ref el, .ref ew, .ref et, .ref er, .int lf, .int md, .ref ed, .ref ep, .int (nI u.2.1), .int u.2.2.1, .ref ex, .ref eu, .int u.2.2.2.1, .int u.2.2.2.2.1])), (ea, .inl (gI G, 42, .inl (nA u.2.2.2.2.2.1))), (ek, .inl (gI G, 42, .inl (nA u.2.2.2.2.2.2.1))), (eh, .inl (gI G, 252, .inl (nA u.2.2.2.2.2.2.2.1))), (ep, .inl (gI G, 80, .inl (nA mt))), (ex, .inl (gI G, 40, .inl (nA u.2.2.2.2.2.2.2.2.1))), (eu, .inl (gI G, 40, .inl (nA u.2.2.2.2.2.2.2.2.2)))])) A) args s 0 0 A) (F0 m 69 ls []) := by
              intro n_69
              induction n_69 with
              | zero =>
                intro i al3 h0
                exact absurd h0 (Nat.not_lt_zero _)
              | succ n_69 ih_69 =>
                intro i al3 hm_69 hi hI H locs hP hD hS ls hl
                refine lv_iload_n hx hb dX6_read_69 rfl (lv_at hl 0 rfl) ?_
                refine lv_aload_n hx hb dX6_read_70 rfl (lv_at hl 1 rfl) ?_
                refine z_get S K hP hX6_read_X6 0 rfl rfl 18 (by decide) kX6_read_1 rfl rfl dX6_read_71 ?_
                refine zb_ge (tgt := 99) S dX6_read_74 (by decide) (by omega) (by omega) (fun c_74 => ?_) (fun c_74 => ?_)
                · skip
                  have him : i = m2_1 := by omega
                  obtain rfl : m2_1 = i := Eq.symm (him)
                  refine lv_aload_n hx hb dX6_read_99 rfl (lv_at hl 1 rfl) ?_
                  refine lv_iconst (v := nI 0) hx hb dX6_read_100 (by decide +kernel) ?_
                  refine z_put S K hP hD hS (ty0 := tyX6) hX6_read_X6 tyX6_ok nmX6 0 rfl rfl 14 (by decide) kX6_read_5 rfl rfl rfl rfl (Nat.le_of_ble_eq_true rfl) dX6_read_101 (fun H locs hP hD hS => ?_)
                  have hP : va_P (gD G) vwCl [(e0, .inr (6, [.ref ea, .ref ek, .ref eh, .int (nI hq), .ref es, .ref ei, .ref el, .ref ew, .ref et, .ref er, .int lf, .int md, .ref ed, .ref ep, .int (nI 0), .int (nI sp2_1), .ref ex, .ref eu, .int (nI m2_1), .int la2_1])), (ea, .inl (gI G, 42, .inl (nA al3))), (ek, .inl (gI G, 42, .inl (nA ka2_64))), (eh, .inl (gI G, 252, .inl (nA hy))), (ep, .inl (gI G, 80, .inl (nA mt))), (ex, .inl (gI G, 40, .inl (nA mq2_1))), (eu, .inl (gI G, 40, .inl (nA mv2_1)))] H := hP
                  have hD : va_D A [(e0, .inr (6, [.ref ea, .ref ek, .ref eh, .int (nI hq), .ref es, .ref ei, .ref el, .ref ew, .ref et, .ref er, .int lf, .int md, .ref ed, .ref ep, .int (nI 0), .int (nI sp2_1), .ref ex, .ref eu, .int (nI m2_1), .int la2_1])), (ea, .inl (gI G, 42, .inl (nA al3))), (ek, .inl (gI G, 42, .inl (nA ka2_64))), (eh, .inl (gI G, 252, .inl (nA hy))), (ep, .inl (gI G, 80, .inl (nA mt))), (ex, .inl (gI G, 40, .inl (nA mq2_1))), (eu, .inl (gI G, 40, .inl (nA mv2_1)))] := hD
                  refine lv_aload_n hx hb dX6_read_104 rfl (lv_at hl 1 rfl) ?_
                  refine lv_aload_n hx hb dX6_read_105 rfl (lv_at hl 1 rfl) ?_
                  refine z_get S K hP hX6_read_X6 0 rfl rfl 0 (by decide) kX6_read_3 rfl rfl dX6_read_106 ?_
                  refine lv_iconst (v := nI 1) hx hb dX6_read_109 (by decide +kernel) ?_
                  refine z_iald S K hP 1 rfl (by omega) (by decide) dX6_read_110 ?_
                  refine zcVi (rest := []) S K hP hD hS hA hl.1 (c_X6_changed l G e0 ea ek eh es ei el ew et er ed ep ex eu lf md (nI 0) (nI sp2_1) (nI m2_1) la2_1 ka2_64 hy hq (nI (al3 1)) hq6 hn hkk) rfl rfl gX6_read_X6_changed rfl eX6_changed [0, 2, 3] (by decide +kernel) rfl (fun _ => rfl) 6 0 rfl rfl rfl rfl rfl (Nat.le_of_ble_eq_true rfl) (Nat.le_of_ble_eq_true rfl) (Nat.le_of_ble_eq_true rfl) ⟨Nat.zero_le _, Nat.zero_le _⟩ dX6_read_111 (fun r_111 u_111 H locs hw_111 hP hD hS => ?_)
                  obtain ⟨hP, hD⟩ := mx_ok [some 0, none, some 1, some 2, none, none, none] (by decide +kernel) rfl rfl hP hD
                  obtain ⟨hq2_111, hy2_111⟩ := u_111
                  replace hw_111 : r_111 = ((nI (al3 1))) ∧ mH hq2_111 hy2_111 = pushH (mH hq hy) (mR ka2_64) := hw_111
                  obtain ⟨rfl, hw_111⟩ := hw_111
                  have hP : va_P (gD G) vwCl [(e0, .inr (6, [.ref ea, .ref ek, .ref eh, .int (nI hq2_111), .ref es, .ref ei, .ref el, .ref ew, .ref et, .ref er, .int lf, .int md, .ref ed, .ref ep, .int (nI 0), .int (nI sp2_1), .ref ex, .ref eu, .int (nI m2_1), .int la2_1])), (ea, .inl (gI G, 42, .inl (nA al3))), (ek, .inl (gI G, 42, .inl (nA ka2_64))), (eh, .inl (gI G, 252, .inl (nA hy2_111))), (ep, .inl (gI G, 80, .inl (nA mt))), (ex, .inl (gI G, 40, .inl (nA mq2_1))), (eu, .inl (gI G, 40, .inl (nA mv2_1)))] H := hP
                  have hD : va_D A [(e0, .inr (6, [.ref ea, .ref ek, .ref eh, .int (nI hq2_111), .ref es, .ref ei, .ref el, .ref ew, .ref et, .ref er, .int lf, .int md, .ref ed, .ref ep, .int (nI 0), .int (nI sp2_1), .ref ex, .ref eu, .int (nI m2_1), .int la2_1])), (ea, .inl (gI G, 42, .inl (nA al3))), (ek, .inl (gI G, 42, .inl (nA ka2_64))), (eh, .inl (gI G, 252, .inl (nA hy2_111))), (ep, .inl (gI G, 80, .inl (nA mt))), (ex, .inl (gI G, 40, .inl (nA mq2_1))), (eu, .inl (gI G, 40, .inl (nA mv2_1)))] := hD
                  refine z_top (y := (r_read (mR al) pn (nrm pn mt))) (mrd_3 (h := (0, fun _ => R0)) (by rw [← hft1, hr6]) (hft2 hr6) hbel (by omega) hI).1 ?_
                  exact z_iret S hrt hlk hP hD hS (hq2_111, 0, nI sp2_1, nI m2_1, la2_1, al3, ka2_64, hy2_111, mq2_1, mv2_1) rfl ⟨rfl, ⟨by rw [hw_111, hkR, nrm_00 mt pn]; exact (mrd_3 (by rw [← hft1, hr6]) (hft2 hr6) hbel (by omega) hI).2, Or.inr rfl⟩⟩ dX6_read_114
                · skip
                  refine lv_aload_n hx hb dX6_read_77 rfl (lv_at hl 1 rfl) ?_
                  refine lv_aload_n hx hb dX6_read_78 rfl (lv_at hl 1 rfl) ?_
                  refine z_get S K hP hX6_read_X6 0 rfl rfl 16 (by decide) kX6_read_2 rfl rfl dX6_read_79 ?_
                  refine lv_iload_n hx hb dX6_read_82 rfl (lv_at hl 0 rfl) ?_
                  refine z_iald S K hP 5 rfl (by omega) (by decide) dX6_read_83 ?_
                  refine lv_aload_n hx hb dX6_read_84 rfl (lv_at hl 1 rfl) ?_
                  refine z_get S K hP hX6_read_X6 0 rfl rfl 17 (by decide) kX6_read_4 rfl rfl dX6_read_85 ?_
                  refine lv_iload_n hx hb dX6_read_88 rfl (lv_at hl 0 rfl) ?_
                  refine z_iald S K hP 6 rfl (by omega) (by decide) dX6_read_89 ?_
                  refine zcVv (rest := []) S K hP hD hS hA hl.1 (c_X6_adds l G e0 ea ek eh es ei el ew et er ed ep ex eu (nI hq) lf md (nI pn) (nI sp2_1) (nI m2_1) la2_1 al3 (mq2_1 i) (mv2_1 i) (by rw [hI.2.1]; omega)) rfl rfl gX6_read_X6_adds rfl eX6_adds [0, 1] (by decide +kernel) rfl (fun _ => rfl) 6 0 rfl rfl rfl rfl rfl (Nat.le_of_ble_eq_true rfl) (Nat.le_of_ble_eq_true rfl) (Nat.le_of_ble_eq_true rfl) ⟨Nat.zero_le _, Nat.zero_le _⟩ dX6_read_90 (fun u_90 H locs hw_90 hP hD hS => ?_)
                  obtain ⟨hP, hD⟩ := mx_ok [some 0, some 1, none, none, none, none, none] (by decide +kernel) rfl rfl hP hD
                  have hP : va_P (gD G) vwCl [(e0, .inr (6, [.ref ea, .ref ek, .ref eh, .int (nI hq), .ref es, .ref ei, .ref el, .ref ew, .ref et, .ref er, .int lf, .int md, .ref ed, .ref ep, .int (nI pn), .int (nI sp2_1), .ref ex, .ref eu, .int (nI m2_1), .int la2_1])), (ea, .inl (gI G, 42, .inl (nA (pu (pu (pu al3 (2 + al3 1) (mq2_1 i)) (22 + al3 1) (mv2_1 i)) 1 (al3 1 + 1))))), (ek, .inl (gI G, 42, .inl (nA ka2_64))), (eh, .inl (gI G, 252, .inl (nA hy))), (ep, .inl (gI G, 80, .inl (nA mt))), (ex, .inl (gI G, 40, .inl (nA mq2_1))), (eu, .inl (gI G, 40, .inl (nA mv2_1)))] H := hP
                  have hD : va_D A [(e0, .inr (6, [.ref ea, .ref ek, .ref eh, .int (nI hq), .ref es, .ref ei, .ref el, .ref ew, .ref et, .ref er, .int lf, .int md, .ref ed, .ref ep, .int (nI pn), .int (nI sp2_1), .ref ex, .ref eu, .int (nI m2_1), .int la2_1])), (ea, .inl (gI G, 42, .inl (nA (pu (pu (pu al3 (2 + al3 1) (mq2_1 i)) (22 + al3 1) (mv2_1 i)) 1 (al3 1 + 1))))), (ek, .inl (gI G, 42, .inl (nA ka2_64))), (eh, .inl (gI G, 252, .inl (nA hy))), (ep, .inl (gI G, 80, .inl (nA mt))), (ex, .inl (gI G, 40, .inl (nA mq2_1))), (eu, .inl (gI G, 40, .inl (nA mv2_1)))] := hD
                  refine lv_iinc (v := (nI (i + 1))) (lv' := [(1, .int (nI (i + 1))), (0, .ref e0)]) hx hb dX6_read_93 hl (k := 0) rfl (z_i1 _) (by decide) rfl (fun ls hl => ?_)
                  refine lv_goto (tgt := 69) hx hb dX6_read_96 (by decide) ?_
                  exact ih_69 (i + 1) (pu (pu (pu al3 (2 + al3 1) (mq2_1 i)) (22 + al3 1) (mv2_1 i)) 1 (al3 1 + 1)) (by omega) (by omega) (ri_s hI (by omega)) _ _ hP hD hS _ (lv_sub hl [0, 1] rfl)
            exact lp_69 _ 0 al (Nat.lt_succ_self _) (by omega) ri_0 _ _ hP hD hS _ (lv_sub hl [0, 1] rfl)
          · skip
            refine lv_bipush (v := -4) hx hb dX6_read_60 (by decide +kernel) ?_
            refine z_top (y := (r_read (mR al) pn (nrm pn mt))) (rd_2 (n := al 1) (f := fun j => al (2 + j)) (g := fun j => al (22 + j)) (h := (0, fun _ => R0)) (by rw [← hft1, hr6]) (hft2 hr6) hbel (by omega)).1 ?_
            exact z_iret S hrt hlk hP hD hS (hq, pn, nI sp2_1, nI m2_1, la2_1, al, ka, hy, mq2_1, mv2_1) rfl ⟨rfl, ⟨(rd_2 (n := al 1) (f := fun j => al (2 + j)) (g := fun j => al (22 + j)) (by rw [← hft1, hr6]) (hft2 hr6) hbel (by omega)).2, Or.inl rfl⟩⟩ dX6_read_62
        · skip
          have hqi := hmok i (by omega)
          have hti := nI_toInt (n := mq2_1 i) (by omega)
          refine lv_aload_n hx hb dX6_read_22 rfl (lv_at hl 1 rfl) ?_
          refine lv_aload_n hx hb dX6_read_23 rfl (lv_at hl 1 rfl) ?_
          refine z_get S K hP hX6_read_X6 0 rfl rfl 16 (by decide) kX6_read_2 rfl rfl dX6_read_24 ?_
          refine lv_iload_n hx hb dX6_read_27 rfl (lv_at hl 0 rfl) ?_
          refine z_iald S K hP 5 rfl (by omega) (by decide) dX6_read_28 ?_
          refine zcVi (rest := []) S K hP hD hS hA hl.1 (c_X6_isSet l G e0 ea ek eh es ei el ew et er ed ep ex eu (nI hq) lf md (nI pn) (nI sp2_1) (nI m2_1) la2_1 al (nI (mq2_1 i)) hc2) rfl rfl gX6_read_X6_isSet rfl eX6_isSet [0, 1] (by decide +kernel) rfl (fun _ => rfl) 6 0 rfl rfl rfl rfl rfl (Nat.le_of_ble_eq_true rfl) (Nat.le_of_ble_eq_true rfl) (Nat.le_of_ble_eq_true rfl) ⟨Nat.zero_le _, Nat.zero_le _⟩ dX6_read_29 (fun r_29 u_29 H locs hw_29 hP hD hS => ?_)
          obtain ⟨hP, hD⟩ := mx_ok [some 0, some 1, none, none, none, none, none] (by decide +kernel) rfl rfl hP hD
          replace hw_29 : r_29 = nI (bN (decide (1 ≤ (nI (mq2_1 i)).toInt ∧ (nI (mq2_1 i)).toInt < ((2 ^ al 0 : Nat) : Int)))) := hw_29
          obtain rfl := hw_29
          have hP : va_P (gD G) vwCl [(e0, .inr (6, [.ref ea, .ref ek, .ref eh, .int (nI hq), .ref es, .ref ei, .ref el, .ref ew, .ref et, .ref er, .int lf, .int md, .ref ed, .ref ep, .int (nI pn), .int (nI sp2_1), .ref ex, .ref eu, .int (nI m2_1), .int la2_1])), (ea, .inl (gI G, 42, .inl (nA al))), (ek, .inl (gI G, 42, .inl (nA ka))), (eh, .inl (gI G, 252, .inl (nA hy))), (ep, .inl (gI G, 80, .inl (nA mt))), (ex, .inl (gI G, 40, .inl (nA mq2_1))), (eu, .inl (gI G, 40, .inl (nA mv2_1)))] H := hP
          have hD : va_D A [(e0, .inr (6, [.ref ea, .ref ek, .ref eh, .int (nI hq), .ref es, .ref ei, .ref el, .ref ew, .ref et, .ref er, .int lf, .int md, .ref ed, .ref ep, .int (nI pn), .int (nI sp2_1), .ref ex, .ref eu, .int (nI m2_1), .int la2_1])), (ea, .inl (gI G, 42, .inl (nA al))), (ek, .inl (gI G, 42, .inl (nA ka))), (eh, .inl (gI G, 252, .inl (nA hy))), (ep, .inl (gI G, 80, .inl (nA mt))), (ex, .inl (gI G, 40, .inl (nA mq2_1))), (eu, .inl (gI G, 40, .inl (nA mv2_1)))] := hD
          refine zf_ne (tgt := 38) S dX6_read_32 (by decide) (bN_31 _) (fun c_32 => ?_) (fun c_32 => ?_)
          · skip
            have c_32 := of_decide_eq_true (bN_ne0 c_32)
            refine lv_iinc (v := (nI (i + 1))) (lv' := [(1, .int (nI (i + 1))), (0, .ref e0)]) hx hb dX6_read_38 hl (k := 0) rfl (z_i1 _) (by decide) rfl (fun ls hl => ?_)
            refine lv_goto (tgt := 14) hx hb dX6_read_41 (by decide) ?_
            exact ih_14 (i + 1) (by omega) (by omega) (fun j hj => by by_cases e : j = i; rw [e]; exact shr_bel.mpr (by omega); exact hbl j (by omega)) _ _ hP hD hS _ (lv_sub hl [0, 1] rfl)
          · skip
            have c_32 := of_decide_eq_false (bN_eq0 c_32)
            refine lv_bipush (v := -2) hx hb dX6_read_35 (by decide +kernel) ?_
            refine z_top (y := (r_read (mR al) pn (nrm pn mt))) (rd_1 (n := al 1) (f := fun j => al (2 + j)) (g := fun j => al (22 + j)) (h := (0, fun _ => R0)) (by rw [← hft1, hr6]) (hft2 hr6) (fun z => c_32 ⟨by omega, by have := shr_bel.mp (z i (by omega)); omega⟩)).1 ?_
            exact z_iret S hrt hlk hP hD hS (hq, pn, nI sp2_1, nI m2_1, la2_1, al, ka, hy, mq2_1, mv2_1) rfl ⟨rfl, ⟨(rd_1 (c := al 0) (m := m2_1) (qf := mq2_1) (qg := mv2_1) (n := al 1) (f := fun j => al (2 + j)) (g := fun j => al (22 + j)) (by rw [← hft1, hr6]) (hft2 hr6) (fun z => c_32 ⟨by omega, by have := shr_bel.mp (z i (by omega)); omega⟩)).2, Or.inl rfl⟩⟩ dX6_read_37
    exact lp_14 _ 0 (Nat.lt_succ_self _) (by omega) (fun j hj => absurd hj (Nat.not_lt_zero _)) _ _ hP hD hS _ (lv_sub hl [0, 1] rfl)
  · skip
    refine lv_bipush (v := -3) hx hb dX6_read_9 (by decide +kernel) ?_
    refine z_top (y := (r_read (mR al) pn (nrm pn mt))) (rd_0 (R := mR al) (h := (0, fun _ => R0)) (fun q => c_6 (by rw [hft1, q]; rfl))).1 ?_
    exact z_iret S hrt hlk hP hD hS (hq, pn, nI sp2_1, nI m2_1, la2_1, al, ka, hy, mq2_1, mv2_1) rfl ⟨rfl, ⟨(rd_0 (R := mR al) (fun q => c_6 (by rw [hft1, q]; rfl))).2, Or.inl rfl⟩⟩ dX6_read_11
set_option maxHeartbeats 4000000 in
set_option maxRecDepth 100000 in
theorem c_X6_put (l : Launch) (G : gT) (e0 ea ek eh es ei el ew et er ed ep ex eu : Nat) (hq : Int32) (lf : Int32) (md : Int32) (sp : Int32) (rm : Int32) (la : Int32) (mt : Nat → Nat) (pn : Nat) (z : Int64) (hpn : pn ≤ 80) (hch : ∀ j, j < pn → mt j < 127) : CI l yX6_put wsX6_put ({ frames := 1, cells := 0, slots := 0, locals := 25 } : Room) G [.ref e0, .long z] [(e0, .inr (6, [.ref ea, .ref ek, .ref eh, .int hq, .ref es, .ref ei, .ref el, .ref ew, .ref et, .ref er, .int lf, .int md, .ref ed, .ref ep, .int (nI pn), .int sp, .ref ex, .ref eu, .int rm, .int la])), (ep, .inl (gI G, 80, .inl (nA mt)))] 0 0 (fun (r : Int32) (u : Nat × (Nat → Nat)) => r = (r_put pn (uN z)) ∧ (u.1, nrm u.1 u.2) = n_put pn (nrm pn mt) (uN z) ∧ u.1 ≤ 80 ∧ ∀ j, j < u.1 → u.2 j < 127) (fun (u : Nat × (Nat → Nat)) => [(e0, .inr (6, [.ref ea, .ref ek, .ref eh, .int hq, .ref es, .ref ei, .ref el, .ref ew, .ref et, .ref er, .int lf, .int md, .ref ed, .ref ep, .int (nI u.1), .int sp, .ref ex, .ref eu, .int rm, .int la])), (ep, .inl (gI G, 80, .inl (nA u.2)))]) := by
  refine CI.of (cc := cX6_put) (maxL := 8) (ret := (some .int)) (by decide +kernel) rfl (Nat.le_of_ble_eq_true rfl) rfl (fun p e s m args below meth c A S hrt hlk hnm K hA hP hD hS ls hl => ?_)
  have hx := S.1
  have hb := S.2.1
  have hl : lv_has ls 8 [(0, .ref e0), (1, .long z)] := hl
  have hL33 := lN_toInt (n := 33) (by decide)
  have hL126 := lN_toInt (n := 126) (by decide)
  have hz0 : uN z >>> (8 * 0) = uN z := rfl
  have hu := uN_lt z
  have hl : lv_has ls 8 [(0, .ref e0), (1, .long (lN (uN z)))] := by rw [lN_uN]; exact hl
  refine lv_iconst (v := nI 0) hx hb dX6_put_0 (by decide +kernel) ?_
  refine lv_istore_n (lv' := [(3, .int (nI 0)), (0, .ref e0), (1, .long (lN (uN z)))]) hx hb dX6_put_1 rfl hl (by decide) rfl (fun ls hl => ?_)
  refine lv_iconst (v := nI 1) hx hb dX6_put_2 (by decide +kernel) ?_
  refine lv_istore (lv' := [(4, .int (nI 1)), (3, .int (nI 0)), (0, .ref e0), (1, .long (lN (uN z)))]) hx hb dX6_put_3 hl (by decide) rfl (fun ls hl => ?_)
  refine lv_lload_n hx hb dX6_put_5 rfl (lv_at hl 3 rfl) ?_
  refine lv_lstore (lv' := [(5, .long (lN (uN z))), (4, .int (nI 1)), (3, .int (nI 0)), (0, .ref e0), (1, .long (lN (uN z)))]) hx hb dX6_put_6 hl (by decide) rfl (fun ls hl => ?_)
  have lp_8 : ∀ (n_8 : Nat) (y : Nat) (gd : Nat), 9 - y < n_8 → (y ≤ 8) → (gd ≤ 1) → ((gd = 1 ∧ ∀ k, k < y → 33 ≤ byt (uN z) k ∧ byt (uN z) k ≤ 126) ∨ (gd = 0 ∧ ∃ k, ¬ byt (uN z) k = 0 ∧ (byt (uN z) k < 33 ∨ 126 < byt (uN z) k))) → ∀ (H : Heap) (locs : List Loc), va_P (gD G) vwCl [(e0, .inr (6, [.ref ea, .ref ek, .ref eh, .int hq, .ref es, .ref ei, .ref el, .ref ew, .ref et, .ref er, .int lf, .int md, .ref ed, .ref ep, .int (nI pn), .int sp, .ref ex, .ref eu, .int rm, .int la])), (ep, .inl (gI G, 80, .inl (nA mt)))] H → va_D A [(e0, .inr (6, [.ref ea, .ref ek, .ref eh, .int hq, .ref es, .ref ei, .ref el, .ref ew, .ref et, .ref er, .int lf, .int md, .ref ed, .ref ep, .int (nI pn), .int sp, .ref ex, .ref eu, .int rm, .int la])), (ep, .inl (gI G, 80, .inl (nA mt)))] → va_S A s.heap H locs → ∀ ls : Array Slot, lv_has ls 8 [(5, .long (lN (uN z >>> (8 * y)))), (4, .int (nI gd)), (3, .int (nI y)), (0, .ref e0), (1, .long (lN (uN z)))] → W p l e ({ frames := 1, cells := 0, slots := 0, locals := 25 } : Room) s m args below meth c H locs 0 0 (MQ below (va_Qi (fun (r : Int32) (u : Nat × (Nat → Nat)) => r = (r_put pn (uN z)) ∧ (u.1, nrm u.1 u.2) = n_put pn (nrm pn mt) (uN z) ∧ u.1 ≤ 80 ∧ ∀ j, j < u.1 → u.2 j < 127) (cB G A (fun (u : Nat × (Nat → Nat)) => [(e0, .inr (6, [.ref ea, .ref ek, .ref eh, .int hq, .ref es, .ref ei, .ref el, .ref ew, .ref et, .ref er, .int lf, .int md, .ref ed, .ref ep, .int (nI u.1), .int sp, .ref ex, .ref eu, .int rm, .int la])), (ep, .inl (gI G, 80, .inl (nA u.2)))])) A) args s 0 0 A) (F0 m 8 ls []) := by
    intro n_8
    induction n_8 with
    | zero =>
      intro y gd h0
      exact absurd h0 (Nat.not_lt_zero _)
    | succ n_8 ih_8 =>
      intro y gd hm_8 hy8 hgd hg H locs hP hD hS ls hl
      refine lv_iload_n hx hb dX6_put_8 rfl (lv_at hl 2 rfl) ?_
      refine lv_bipush (v := nI 8) hx hb dX6_put_9 (by decide +kernel) ?_
      refine zb_ge (tgt := 68) S dX6_put_11 (by decide) (by omega) (by decide) (fun c_11 => ?_) (fun c_11 => ?_)
      · skip
        have hrs : uN z >>> (8 * y) ≤ uN z := Nat.shiftRight_le _ _
        have hbl := byt_le (uN z) y
        have hcn := cin_le (uN z)
        refine lv_iload_n hx hb dX6_put_68 rfl (lv_at hl 2 rfl) ?_
        refine zf_eq (tgt := 84) S dX6_put_69 (by decide) (by omega) (fun c_69 => ?_) (fun c_69 => ?_)
        · skip
          have hc0 : cin (uN z) = 0 := by first | exact cin_left (m := y) (by omega) (fun q => c_76 ((lN_0 (by omega)).mpr q)) | (rcases hg with ⟨q, -⟩ | ⟨-, k, q1, q2⟩; exact absurd (q.symm.trans c_81) (by decide); exact cin_bad q1 q2) | (subst c_69; exact cin_00 (by omega))
          refine lv_bipush (v := -2) hx hb dX6_put_84 (by decide +kernel) ?_
          refine z_top (y := (r_put pn (uN z))) (pt_0 (pc := z0) hc0).1 ?_
          exact z_iret S hrt hlk hP hD hS (pn, mt) rfl ⟨rfl, ⟨(pt_0 hc0).2, hpn, hch⟩⟩ dX6_put_86
        · skip
          refine lv_lload hx hb dX6_put_72 (lv_at hl 0 rfl) ?_
          refine lv_lconst (v := lN 0) hx hb dX6_put_74 (by decide +kernel) ?_
          refine zl_ne (tgt := 84) S dX6_put_75 dX6_put_76 (by decide) rfl (lN_toInt (by decide)) (fun c_76 => ?_) (fun c_76 => ?_)
          · skip
            have hc0 : cin (uN z) = 0 := by first | exact cin_left (m := y) (by omega) (fun q => c_76 ((lN_0 (by omega)).mpr q)) | (rcases hg with ⟨q, -⟩ | ⟨-, k, q1, q2⟩; exact absurd (q.symm.trans c_81) (by decide); exact cin_bad q1 q2) | (subst c_69; exact cin_00 (by omega))
            refine lv_bipush (v := -2) hx hb dX6_put_84 (by decide +kernel) ?_
            refine z_top (y := (r_put pn (uN z))) (pt_0 (pc := z0) hc0).1 ?_
            exact z_iret S hrt hlk hP hD hS (pn, mt) rfl ⟨rfl, ⟨(pt_0 hc0).2, hpn, hch⟩⟩ dX6_put_86
          · skip
            refine lv_iload hx hb dX6_put_79 (lv_at hl 1 rfl) ?_
            refine zf_ne (tgt := 87) S dX6_put_81 (by decide) (by omega) (fun c_81 => ?_) (fun c_81 => ?_)
            · skip
              have hcy : cin (uN z) = y := by rcases hg with ⟨-, q⟩ | ⟨q, -⟩; exact cin_eq ⟨hy8, q, (lN_0 (by omega)).mp c_76⟩; exact absurd q c_81
              refine lv_aload_n hx hb dX6_put_87 rfl (lv_at hl 3 rfl) ?_
              refine z_get S K hP hX6_put_X6 0 rfl rfl 14 (by decide) kX6_put_4 rfl rfl dX6_put_88 ?_
              refine lv_iload_n hx hb dX6_put_91 rfl (lv_at hl 2 rfl) ?_
              refine zi_add S dX6_put_92 ?_
              refine lv_bipush (v := nI 80) hx hb dX6_put_93 (by decide +kernel) ?_
              refine zb_le (tgt := 101) S dX6_put_95 (by decide) (by omega) (by decide) (fun c_95 => ?_) (fun c_95 => ?_)
              · skip
                refine lv_iload_n hx hb dX6_put_101 rfl (lv_at hl 2 rfl) ?_
                refine lv_iconst (v := nI 1) hx hb dX6_put_102 (by decide +kernel) ?_
                refine lv_isub hx hb dX6_put_103 ?_
                refine z_top (z_subd _) ?_
                refine lv_istore (lv' := [(7, .int (dn y)), (5, .long (lN (uN z >>> (8 * y)))), (4, .int (nI gd)), (3, .int (nI y)), (0, .ref e0), (1, .long (lN (uN z)))]) hx hb dX6_put_104 hl (by decide) rfl (fun ls hl => ?_)
                have lp_106 : ∀ (n_106 : Nat) (k t : Nat) (cc : Nat → Nat), k + 1 < n_106 → (t + k = pn + cin (uN z)) → (pn ≤ t) → (∀ j, j < t → cc j = if j < pn then mt j else byt (uN z) (pn + cin (uN z) - 1 - j)) → ∀ (H : Heap) (locs : List Loc), va_P (gD G) vwCl [(e0, .inr (6, [.ref ea, .ref ek, .ref eh, .int hq, .ref es, .ref ei, .ref el, .ref ew, .ref et, .ref er, .int lf, .int md, .ref ed, .ref ep, .int (nI t), .int sp, .ref ex, .ref eu, .int rm, .int la])), (ep, .inl (gI G, 80, .inl (nA cc)))] H → va_D A [(e0, .inr (6, [.ref ea, .ref ek, .ref eh, .int hq, .ref es, .ref ei, .ref el, .ref ew, .ref et, .ref er, .int lf, .int md, .ref ed, .ref ep, .int (nI t), .int sp, .ref ex, .ref eu, .int rm, .int la])), (ep, .inl (gI G, 80, .inl (nA cc)))] → va_S A s.heap H locs → ∀ ls : Array Slot, lv_has ls 8 [(7, .int (dn k)), (5, .long (lN (uN z >>> (8 * y)))), (4, .int (nI gd)), (3, .int (nI y)), (0, .ref e0), (1, .long (lN (uN z)))] → W p l e ({ frames := 1, cells := 0, slots := 0, locals := 25 } : Room) s m args below meth c H locs 0 0 (MQ below (va_Qi (fun (r : Int32) (u : Nat × (Nat → Nat)) => r = (r_put pn (uN z)) ∧ (u.1, nrm u.1 u.2) = n_put pn (nrm pn mt) (uN z) ∧ u.1 ≤ 80 ∧ ∀ j, j < u.1 → u.2 j < 127) (cB G A (fun (u : Nat × (Nat → Nat)) => [(e0, .inr (6, [.ref ea, .ref ek, .ref eh, .int hq, .ref es, .ref ei, .ref el, .ref ew, .ref et, .ref er, .int lf, .int md, .ref ed, .ref ep, .int (nI u.1), .int sp, .ref ex, .ref eu, .int rm, .int la])), (ep, .inl (gI G, 80, .inl (nA u.2)))])) A) args s 0 0 A) (F0 m 106 ls []) := by
                  intro n_106
                  induction n_106 with
                  | zero =>
                    intro k t cc h0
                    exact absurd h0 (Nat.not_lt_zero _)
                  | succ n_106 ih_106 =>
                    intro k t cc hm_106 ht htp hcc H locs hP hD hS ls hl
                    rcases k with _ | k
                    · skip
                      have hl : lv_has ls 8 [(7, .int (-1)), (5, .long (lN (uN z >>> (8 * y)))), (4, .int (nI gd)), (3, .int (nI y)), (0, .ref e0), (1, .long (lN (uN z)))] := hl
                      have hP : va_P (gD G) vwCl [(e0, .inr (6, [.ref ea, .ref ek, .ref eh, .int hq, .ref es, .ref ei, .ref el, .ref ew, .ref et, .ref er, .int lf, .int md, .ref ed, .ref ep, .int (nI t), .int sp, .ref ex, .ref eu, .int rm, .int la])), (ep, .inl (gI G, 80, .inl (nA cc)))] H := hP
                      have hD : va_D A [(e0, .inr (6, [.ref ea, .ref ek, .ref eh, .int hq, .ref es, .ref ei, .ref el, .ref ew, .ref et, .ref er, .int lf, .int md, .ref ed, .ref ep, .int (nI t), .int sp, .ref ex, .ref eu, .int rm, .int la])), (ep, .inl (gI G, 80, .inl (nA cc)))] := hD
                      refine lv_iload hx hb dX6_put_106 (lv_at hl 0 rfl) ?_
                      refine zq_lt (tgt := 148) S dX6_put_108 (by decide) (by decide : (-1 : Int32).toInt = -1) (fun c_108 => ?_) (fun c_108 => ?_)
                      · skip
                        refine lv_aload_n hx hb dX6_put_148 rfl (lv_at hl 4 rfl) ?_
                        refine z_get S K hP hX6_put_X6 0 rfl rfl 14 (by decide) kX6_put_4 rfl rfl dX6_put_149 ?_
                        refine z_top (y := (r_put pn (uN z))) (pt_2 (by omega) (by omega) (by omega) hcc).1 ?_
                        exact z_iret S hrt hlk hP hD hS (t, cc) rfl ⟨rfl, ⟨(pt_2 (by omega) (by omega) (show t = pn + cin (uN z) by omega) hcc).2, show t ≤ 80 by omega, pt_127 hch (show t = pn + cin (uN z) by omega) hcc⟩⟩ dX6_put_152
                      · skip
                        exact absurd c_108 (by omega)
                    · skip
                      have hl : lv_has ls 8 [(7, .int (nI k)), (5, .long (lN (uN z >>> (8 * y)))), (4, .int (nI gd)), (3, .int (nI y)), (0, .ref e0), (1, .long (lN (uN z)))] := hl
                      have hP : va_P (gD G) vwCl [(e0, .inr (6, [.ref ea, .ref ek, .ref eh, .int hq, .ref es, .ref ei, .ref el, .ref ew, .ref et, .ref er, .int lf, .int md, .ref ed, .ref ep, .int (nI t), .int sp, .ref ex, .ref eu, .int rm, .int la])), (ep, .inl (gI G, 80, .inl (nA cc)))] H := hP
                      have hD : va_D A [(e0, .inr (6, [.ref ea, .ref ek, .ref eh, .int hq, .ref es, .ref ei, .ref el, .ref ew, .ref et, .ref er, .int lf, .int md, .ref ed, .ref ep, .int (nI t), .int sp, .ref ex, .ref eu, .int rm, .int la])), (ep, .inl (gI G, 80, .inl (nA cc)))] := hD
                      refine lv_iload hx hb dX6_put_106 (lv_at hl 0 rfl) ?_
                      refine zq_lt (tgt := 148) S dX6_put_108 (by decide) (z_toInt (by omega)) (fun c_108 => ?_) (fun c_108 => ?_)
                      · skip
                        exact absurd c_108 (by omega)
                      · skip
                        refine lv_aload_n hx hb dX6_put_111 rfl (lv_at hl 4 rfl) ?_
                        refine z_get S K hP hX6_put_X6 0 rfl rfl 13 (by decide) kX6_put_5 rfl rfl dX6_put_112 ?_
                        refine lv_aload_n hx hb dX6_put_115 rfl (lv_at hl 4 rfl) ?_
                        refine z_get S K hP hX6_put_X6 0 rfl rfl 14 (by decide) kX6_put_4 rfl rfl dX6_put_116 ?_
                        have hby := byt_le (uN z) k
                        refine lv_lload_n hx hb dX6_put_119 rfl (lv_at hl 5 rfl) ?_
                        refine lv_bipush (v := nI 8) hx hb dX6_put_120 (by decide +kernel) ?_
                        refine lv_iload hx hb dX6_put_122 (lv_at hl 0 rfl) ?_
                        refine zi_mul S dX6_put_124 ?_
                        refine lv_lushr (v := lN ((uN z) >>> (8 * k))) hx hb dX6_put_125 (lN_shr (by omega) (by omega)) ?_
                        refine lv_ldc2 (v := lN 255) hx hb S.2.2.2.1 (S.2.2.2.2 _ kX6_put_1) dX6_put_126 ?_
                        refine lv_land hx hb dX6_put_129 ?_
                        refine z_topl (lN_and (Nat.lt_of_le_of_lt (Nat.shiftRight_le _ _) hu) (by decide)) ?_
                        refine z_topl (y := lN (byt (uN z) k)) rfl ?_
                        refine lv_l2i (v := nI (byt (uN z) k)) hx hb dX6_put_130 (lN_i _) ?_
                        refine z_iast S K hP hD hS 1 rfl (by omega) (by decide) dX6_put_131 (fun H locs hP hD hS => ?_)
                        have hP : va_P (gD G) vwCl [(e0, .inr (6, [.ref ea, .ref ek, .ref eh, .int hq, .ref es, .ref ei, .ref el, .ref ew, .ref et, .ref er, .int lf, .int md, .ref ed, .ref ep, .int (nI t), .int sp, .ref ex, .ref eu, .int rm, .int la])), (ep, .inl (gI G, 80, .inl (nA (pu cc t (byt (uN z) k)))))] H := hP
                        have hD : va_D A [(e0, .inr (6, [.ref ea, .ref ek, .ref eh, .int hq, .ref es, .ref ei, .ref el, .ref ew, .ref et, .ref er, .int lf, .int md, .ref ed, .ref ep, .int (nI t), .int sp, .ref ex, .ref eu, .int rm, .int la])), (ep, .inl (gI G, 80, .inl (nA (pu cc t (byt (uN z) k)))))] := hD
                        refine lv_aload_n hx hb dX6_put_132 rfl (lv_at hl 4 rfl) ?_
                        refine lv_dup hx hb dX6_put_133 rfl ?_
                        refine z_get S K hP hX6_put_X6 0 rfl rfl 14 (by decide) kX6_put_4 rfl rfl dX6_put_134 ?_
                        refine lv_iconst (v := nI 1) hx hb dX6_put_137 (by decide +kernel) ?_
                        refine zi_add S dX6_put_138 ?_
                        refine z_put S K hP hD hS (ty0 := tyX6) hX6_put_X6 tyX6_ok nmX6 0 rfl rfl 14 (by decide) kX6_put_4 rfl rfl rfl rfl (Nat.le_of_ble_eq_true rfl) dX6_put_139 (fun H locs hP hD hS => ?_)
                        have hP : va_P (gD G) vwCl [(e0, .inr (6, [.ref ea, .ref ek, .ref eh, .int hq, .ref es, .ref ei, .ref el, .ref ew, .ref et, .ref er, .int lf, .int md, .ref ed, .ref ep, .int (nI (t + 1)), .int sp, .ref ex, .ref eu, .int rm, .int la])), (ep, .inl (gI G, 80, .inl (nA (pu cc t (byt (uN z) k)))))] H := hP
                        have hD : va_D A [(e0, .inr (6, [.ref ea, .ref ek, .ref eh, .int hq, .ref es, .ref ei, .ref el, .ref ew, .ref et, .ref er, .int lf, .int md, .ref ed, .ref ep, .int (nI (t + 1)), .int sp, .ref ex, .ref eu, .int rm, .int la])), (ep, .inl (gI G, 80, .inl (nA (pu cc t (byt (uN z) k)))))] := hD
                        refine lv_iinc (v := (dn k)) (lv' := [(7, .int (dn k)), (5, .long (lN (uN z >>> (8 * y)))), (4, .int (nI gd)), (3, .int (nI y)), (0, .ref e0), (1, .long (lN (uN z)))]) hx hb dX6_put_142 hl (k := 0) rfl (z_imd _) (by decide) rfl (fun ls hl => ?_)
                        refine lv_goto (tgt := 106) hx hb dX6_put_145 (by decide) ?_
                        exact ih_106 k (t + 1) (pu cc t (byt (uN z) k)) (by omega) (by omega) (by omega) (pt_bk hcc htp (by omega) rfl) _ _ hP hD hS _ (lv_sub hl [0, 1, 2, 3, 4, 5] rfl)
                exact lp_106 _ y pn mt (Nat.lt_succ_self _) (by omega) (by omega) (fun j hj => (if_pos hj).symm) _ _ hP hD hS _ (lv_sub hl [0, 1, 2, 3, 4, 5] rfl)
              · skip
                refine lv_bipush (v := -4) hx hb dX6_put_98 (by decide +kernel) ?_
                refine z_top (y := (r_put pn (uN z))) (pt_1 (pc := z0) (by omega) (show 80 < pn + cin (uN z) by omega)).1 ?_
                exact z_iret S hrt hlk hP hD hS (pn, mt) rfl ⟨rfl, ⟨(pt_1 (by omega) (show 80 < pn + cin (uN z) by omega)).2, hpn, hch⟩⟩ dX6_put_100
            · skip
              have hc0 : cin (uN z) = 0 := by first | exact cin_left (m := y) (by omega) (fun q => c_76 ((lN_0 (by omega)).mpr q)) | (rcases hg with ⟨q, -⟩ | ⟨-, k, q1, q2⟩; exact absurd (q.symm.trans c_81) (by decide); exact cin_bad q1 q2) | (subst c_69; exact cin_00 (by omega))
              refine lv_bipush (v := -2) hx hb dX6_put_84 (by decide +kernel) ?_
              refine z_top (y := (r_put pn (uN z))) (pt_0 (pc := z0) hc0).1 ?_
              exact z_iret S hrt hlk hP hD hS (pn, mt) rfl ⟨rfl, ⟨(pt_0 hc0).2, hpn, hch⟩⟩ dX6_put_86
      · skip
        have hrs : uN z >>> (8 * y) ≤ uN z := Nat.shiftRight_le _ _
        have hbl := byt_le (uN z) y
        have hLb := lN_toInt (n := byt (uN z) y) (by omega)
        refine lv_lload hx hb dX6_put_14 (lv_at hl 0 rfl) ?_
        refine lv_ldc2 (v := lN 255) hx hb S.2.2.2.1 (S.2.2.2.2 _ kX6_put_1) dX6_put_16 ?_
        refine lv_land hx hb dX6_put_19 ?_
        refine z_topl (lN_and (by omega) (by decide)) ?_
        refine z_topl (y := lN (byt (uN z) y)) rfl ?_
        refine lv_lconst (v := lN 0) hx hb dX6_put_20 (by decide +kernel) ?_
        refine zl_eq (tgt := 68) S dX6_put_21 dX6_put_22 (by decide) (lN_toInt (by omega)) (lN_toInt (by decide)) (fun c_22 => ?_) (fun c_22 => ?_)
        · skip
          have hrs : uN z >>> (8 * y) ≤ uN z := Nat.shiftRight_le _ _
          have hbl := byt_le (uN z) y
          have hcn := cin_le (uN z)
          refine lv_iload_n hx hb dX6_put_68 rfl (lv_at hl 2 rfl) ?_
          refine zf_eq (tgt := 84) S dX6_put_69 (by decide) (by omega) (fun c_69 => ?_) (fun c_69 => ?_)
          · skip
            have hc0 : cin (uN z) = 0 := by first | exact cin_left (m := y) (by omega) (fun q => c_76 ((lN_0 (by omega)).mpr q)) | (rcases hg with ⟨q, -⟩ | ⟨-, k, q1, q2⟩; exact absurd (q.symm.trans c_81) (by decide); exact cin_bad q1 q2) | (subst c_69; exact cin_00 (by omega))
            refine lv_bipush (v := -2) hx hb dX6_put_84 (by decide +kernel) ?_
            refine z_top (y := (r_put pn (uN z))) (pt_0 (pc := z0) hc0).1 ?_
            exact z_iret S hrt hlk hP hD hS (pn, mt) rfl ⟨rfl, ⟨(pt_0 hc0).2, hpn, hch⟩⟩ dX6_put_86
          · skip
            refine lv_lload hx hb dX6_put_72 (lv_at hl 0 rfl) ?_
            refine lv_lconst (v := lN 0) hx hb dX6_put_74 (by decide +kernel) ?_
            refine zl_ne (tgt := 84) S dX6_put_75 dX6_put_76 (by decide) rfl (lN_toInt (by decide)) (fun c_76 => ?_) (fun c_76 => ?_)
            · skip
              have hc0 : cin (uN z) = 0 := by first | exact cin_left (m := y) (by omega) (fun q => c_76 ((lN_0 (by omega)).mpr q)) | (rcases hg with ⟨q, -⟩ | ⟨-, k, q1, q2⟩; exact absurd (q.symm.trans c_81) (by decide); exact cin_bad q1 q2) | (subst c_69; exact cin_00 (by omega))
              refine lv_bipush (v := -2) hx hb dX6_put_84 (by decide +kernel) ?_
              refine z_top (y := (r_put pn (uN z))) (pt_0 (pc := z0) hc0).1 ?_
              exact z_iret S hrt hlk hP hD hS (pn, mt) rfl ⟨rfl, ⟨(pt_0 hc0).2, hpn, hch⟩⟩ dX6_put_86
            · skip
              refine lv_iload hx hb dX6_put_79 (lv_at hl 1 rfl) ?_
              refine zf_ne (tgt := 87) S dX6_put_81 (by decide) (by omega) (fun c_81 => ?_) (fun c_81 => ?_)
              · skip
                have hcy : cin (uN z) = y := by rcases hg with ⟨-, q⟩ | ⟨q, -⟩; exact cin_eq ⟨hy8, q, (lN_0 (by omega)).mp c_76⟩; exact absurd q c_81
                refine lv_aload_n hx hb dX6_put_87 rfl (lv_at hl 3 rfl) ?_
                refine z_get S K hP hX6_put_X6 0 rfl rfl 14 (by decide) kX6_put_4 rfl rfl dX6_put_88 ?_
                refine lv_iload_n hx hb dX6_put_91 rfl (lv_at hl 2 rfl) ?_
                refine zi_add S dX6_put_92 ?_
                refine lv_bipush (v := nI 80) hx hb dX6_put_93 (by decide +kernel) ?_
                refine zb_le (tgt := 101) S dX6_put_95 (by decide) (by omega) (by decide) (fun c_95 => ?_) (fun c_95 => ?_)
                · skip
                  refine lv_iload_n hx hb dX6_put_101 rfl (lv_at hl 2 rfl) ?_
                  refine lv_iconst (v := nI 1) hx hb dX6_put_102 (by decide +kernel) ?_
                  refine lv_isub hx hb dX6_put_103 ?_
                  refine z_top (z_subd _) ?_
                  refine lv_istore (lv' := [(7, .int (dn y)), (5, .long (lN (uN z >>> (8 * y)))), (4, .int (nI gd)), (3, .int (nI y)), (0, .ref e0), (1, .long (lN (uN z)))]) hx hb dX6_put_104 hl (by decide) rfl (fun ls hl => ?_)
                  have lp_106 : ∀ (n_106 : Nat) (k t : Nat) (cc : Nat → Nat), k + 1 < n_106 → (t + k = pn + cin (uN z)) → (pn ≤ t) → (∀ j, j < t → cc j = if j < pn then mt j else byt (uN z) (pn + cin (uN z) - 1 - j)) → ∀ (H : Heap) (locs : List Loc), va_P (gD G) vwCl [(e0, .inr (6, [.ref ea, .ref ek, .ref eh, .int hq, .ref es, .ref ei, .ref el, .ref ew, .ref et, .ref er, .int lf, .int md, .ref ed, .ref ep, .int (nI t), .int sp, .ref ex, .ref eu, .int rm, .int la])), (ep, .inl (gI G, 80, .inl (nA cc)))] H → va_D A [(e0, .inr (6, [.ref ea, .ref ek, .ref eh, .int hq, .ref es, .ref ei, .ref el, .ref ew, .ref et, .ref er, .int lf, .int md, .ref ed, .ref ep, .int (nI t), .int sp, .ref ex, .ref eu, .int rm, .int la])), (ep, .inl (gI G, 80, .inl (nA cc)))] → va_S A s.heap H locs → ∀ ls : Array Slot, lv_has ls 8 [(7, .int (dn k)), (5, .long (lN (uN z >>> (8 * y)))), (4, .int (nI gd)), (3, .int (nI y)), (0, .ref e0), (1, .long (lN (uN z)))] → W p l e ({ frames := 1, cells := 0, slots := 0, locals := 25 } : Room) s m args below meth c H locs 0 0 (MQ below (va_Qi (fun (r : Int32) (u : Nat × (Nat → Nat)) => r = (r_put pn (uN z)) ∧ (u.1, nrm u.1 u.2) = n_put pn (nrm pn mt) (uN z) ∧ u.1 ≤ 80 ∧ ∀ j, j < u.1 → u.2 j < 127) (cB G A (fun (u : Nat × (Nat → Nat)) => [(e0, .inr (6, [.ref ea, .ref ek, .ref eh, .int hq, .ref es, .ref ei, .ref el, .ref ew, .ref et, .ref er, .int lf, .int md, .ref ed, .ref ep, .int (nI u.1), .int sp, .ref ex, .ref eu, .int rm, .int la])), (ep, .inl (gI G, 80, .inl (nA u.2)))])) A) args s 0 0 A) (F0 m 106 ls []) := by
                    intro n_106
                    induction n_106 with
                    | zero =>
                      intro k t cc h0
                      exact absurd h0 (Nat.not_lt_zero _)
                    | succ n_106 ih_106 =>
                      intro k t cc hm_106 ht htp hcc H locs hP hD hS ls hl
                      rcases k with _ | k
                      · skip
                        have hl : lv_has ls 8 [(7, .int (-1)), (5, .long (lN (uN z >>> (8 * y)))), (4, .int (nI gd)), (3, .int (nI y)), (0, .ref e0), (1, .long (lN (uN z)))] := hl
                        have hP : va_P (gD G) vwCl [(e0, .inr (6, [.ref ea, .ref ek, .ref eh, .int hq, .ref es, .ref ei, .ref el, .ref ew, .ref et, .ref er, .int lf, .int md, .ref ed, .ref ep, .int (nI t), .int sp, .ref ex, .ref eu, .int rm, .int la])), (ep, .inl (gI G, 80, .inl (nA cc)))] H := hP
                        have hD : va_D A [(e0, .inr (6, [.ref ea, .ref ek, .ref eh, .int hq, .ref es, .ref ei, .ref el, .ref ew, .ref et, .ref er, .int lf, .int md, .ref ed, .ref ep, .int (nI t), .int sp, .ref ex, .ref eu, .int rm, .int la])), (ep, .inl (gI G, 80, .inl (nA cc)))] := hD
                        refine lv_iload hx hb dX6_put_106 (lv_at hl 0 rfl) ?_
                        refine zq_lt (tgt := 148) S dX6_put_108 (by decide) (by decide : (-1 : Int32).toInt = -1) (fun c_108 => ?_) (fun c_108 => ?_)
                        · skip
                          refine lv_aload_n hx hb dX6_put_148 rfl (lv_at hl 4 rfl) ?_
                          refine z_get S K hP hX6_put_X6 0 rfl rfl 14 (by decide) kX6_put_4 rfl rfl dX6_put_149 ?_
                          refine z_top (y := (r_put pn (uN z))) (pt_2 (by omega) (by omega) (by omega) hcc).1 ?_
                          exact z_iret S hrt hlk hP hD hS (t, cc) rfl ⟨rfl, ⟨(pt_2 (by omega) (by omega) (show t = pn + cin (uN z) by omega) hcc).2, show t ≤ 80 by omega, pt_127 hch (show t = pn + cin (uN z) by omega) hcc⟩⟩ dX6_put_152
                        · skip
                          exact absurd c_108 (by omega)
                      · skip
                        have hl : lv_has ls 8 [(7, .int (nI k)), (5, .long (lN (uN z >>> (8 * y)))), (4, .int (nI gd)), (3, .int (nI y)), (0, .ref e0), (1, .long (lN (uN z)))] := hl
                        have hP : va_P (gD G) vwCl [(e0, .inr (6, [.ref ea, .ref ek, .ref eh, .int hq, .ref es, .ref ei, .ref el, .ref ew, .ref et, .ref er, .int lf, .int md, .ref ed, .ref ep, .int (nI t), .int sp, .ref ex, .ref eu, .int rm, .int la])), (ep, .inl (gI G, 80, .inl (nA cc)))] H := hP
                        have hD : va_D A [(e0, .inr (6, [.ref ea, .ref ek, .ref eh, .int hq, .ref es, .ref ei, .ref el, .ref ew, .ref et, .ref er, .int lf, .int md, .ref ed, .ref ep, .int (nI t), .int sp, .ref ex, .ref eu, .int rm, .int la])), (ep, .inl (gI G, 80, .inl (nA cc)))] := hD
                        refine lv_iload hx hb dX6_put_106 (lv_at hl 0 rfl) ?_
                        refine zq_lt (tgt := 148) S dX6_put_108 (by decide) (z_toInt (by omega)) (fun c_108 => ?_) (fun c_108 => ?_)
                        · skip
                          exact absurd c_108 (by omega)
                        · skip
                          refine lv_aload_n hx hb dX6_put_111 rfl (lv_at hl 4 rfl) ?_
                          refine z_get S K hP hX6_put_X6 0 rfl rfl 13 (by decide) kX6_put_5 rfl rfl dX6_put_112 ?_
                          refine lv_aload_n hx hb dX6_put_115 rfl (lv_at hl 4 rfl) ?_
                          refine z_get S K hP hX6_put_X6 0 rfl rfl 14 (by decide) kX6_put_4 rfl rfl dX6_put_116 ?_
                          have hby := byt_le (uN z) k
                          refine lv_lload_n hx hb dX6_put_119 rfl (lv_at hl 5 rfl) ?_
                          refine lv_bipush (v := nI 8) hx hb dX6_put_120 (by decide +kernel) ?_
                          refine lv_iload hx hb dX6_put_122 (lv_at hl 0 rfl) ?_
                          refine zi_mul S dX6_put_124 ?_
                          refine lv_lushr (v := lN ((uN z) >>> (8 * k))) hx hb dX6_put_125 (lN_shr (by omega) (by omega)) ?_
                          refine lv_ldc2 (v := lN 255) hx hb S.2.2.2.1 (S.2.2.2.2 _ kX6_put_1) dX6_put_126 ?_
                          refine lv_land hx hb dX6_put_129 ?_
                          refine z_topl (lN_and (Nat.lt_of_le_of_lt (Nat.shiftRight_le _ _) hu) (by decide)) ?_
                          refine z_topl (y := lN (byt (uN z) k)) rfl ?_
                          refine lv_l2i (v := nI (byt (uN z) k)) hx hb dX6_put_130 (lN_i _) ?_
                          refine z_iast S K hP hD hS 1 rfl (by omega) (by decide) dX6_put_131 (fun H locs hP hD hS => ?_)
                          have hP : va_P (gD G) vwCl [(e0, .inr (6, [.ref ea, .ref ek, .ref eh, .int hq, .ref es, .ref ei, .ref el, .ref ew, .ref et, .ref er, .int lf, .int md, .ref ed, .ref ep, .int (nI t), .int sp, .ref ex, .ref eu, .int rm, .int la])), (ep, .inl (gI G, 80, .inl (nA (pu cc t (byt (uN z) k)))))] H := hP
                          have hD : va_D A [(e0, .inr (6, [.ref ea, .ref ek, .ref eh, .int hq, .ref es, .ref ei, .ref el, .ref ew, .ref et, .ref er, .int lf, .int md, .ref ed, .ref ep, .int (nI t), .int sp, .ref ex, .ref eu, .int rm, .int la])), (ep, .inl (gI G, 80, .inl (nA (pu cc t (byt (uN z) k)))))] := hD
                          refine lv_aload_n hx hb dX6_put_132 rfl (lv_at hl 4 rfl) ?_
                          refine lv_dup hx hb dX6_put_133 rfl ?_
                          refine z_get S K hP hX6_put_X6 0 rfl rfl 14 (by decide) kX6_put_4 rfl rfl dX6_put_134 ?_
                          refine lv_iconst (v := nI 1) hx hb dX6_put_137 (by decide +kernel) ?_
                          refine zi_add S dX6_put_138 ?_
                          refine z_put S K hP hD hS (ty0 := tyX6) hX6_put_X6 tyX6_ok nmX6 0 rfl rfl 14 (by decide) kX6_put_4 rfl rfl rfl rfl (Nat.le_of_ble_eq_true rfl) dX6_put_139 (fun H locs hP hD hS => ?_)
                          have hP : va_P (gD G) vwCl [(e0, .inr (6, [.ref ea, .ref ek, .ref eh, .int hq, .ref es, .ref ei, .ref el, .ref ew, .ref et, .ref er, .int lf, .int md, .ref ed, .ref ep, .int (nI (t + 1)), .int sp, .ref ex, .ref eu, .int rm, .int la])), (ep, .inl (gI G, 80, .inl (nA (pu cc t (byt (uN z) k)))))] H := hP
                          have hD : va_D A [(e0, .inr (6, [.ref ea, .ref ek, .ref eh, .int hq, .ref es, .ref ei, .ref el, .ref ew, .ref et, .ref er, .int lf, .int md, .ref ed, .ref ep, .int (nI (t + 1)), .int sp, .ref ex, .ref eu, .int rm, .int la])), (ep, .inl (gI G, 80, .inl (nA (pu cc t (byt (uN z) k)))))] := hD
                          refine lv_iinc (v := (dn k)) (lv' := [(7, .int (dn k)), (5, .long (lN (uN z >>> (8 * y)))), (4, .int (nI gd)), (3, .int (nI y)), (0, .ref e0), (1, .long (lN (uN z)))]) hx hb dX6_put_142 hl (k := 0) rfl (z_imd _) (by decide) rfl (fun ls hl => ?_)
                          refine lv_goto (tgt := 106) hx hb dX6_put_145 (by decide) ?_
                          exact ih_106 k (t + 1) (pu cc t (byt (uN z) k)) (by omega) (by omega) (by omega) (pt_bk hcc htp (by omega) rfl) _ _ hP hD hS _ (lv_sub hl [0, 1, 2, 3, 4, 5] rfl)
                  exact lp_106 _ y pn mt (Nat.lt_succ_self _) (by omega) (by omega) (fun j hj => (if_pos hj).symm) _ _ hP hD hS _ (lv_sub hl [0, 1, 2, 3, 4, 5] rfl)
                · skip
                  refine lv_bipush (v := -4) hx hb dX6_put_98 (by decide +kernel) ?_
                  refine z_top (y := (r_put pn (uN z))) (pt_1 (pc := z0) (by omega) (show 80 < pn + cin (uN z) by omega)).1 ?_
                  exact z_iret S hrt hlk hP hD hS (pn, mt) rfl ⟨rfl, ⟨(pt_1 (by omega) (show 80 < pn + cin (uN z) by omega)).2, hpn, hch⟩⟩ dX6_put_100
              · skip
                have hc0 : cin (uN z) = 0 := by first | exact cin_left (m := y) (by omega) (fun q => c_76 ((lN_0 (by omega)).mpr q)) | (rcases hg with ⟨q, -⟩ | ⟨-, k, q1, q2⟩; exact absurd (q.symm.trans c_81) (by decide); exact cin_bad q1 q2) | (subst c_69; exact cin_00 (by omega))
                refine lv_bipush (v := -2) hx hb dX6_put_84 (by decide +kernel) ?_
                refine z_top (y := (r_put pn (uN z))) (pt_0 (pc := z0) hc0).1 ?_
                exact z_iret S hrt hlk hP hD hS (pn, mt) rfl ⟨rfl, ⟨(pt_0 hc0).2, hpn, hch⟩⟩ dX6_put_86
        · skip
          refine lv_iload hx hb dX6_put_25 (lv_at hl 1 rfl) ?_
          refine zf_eq (tgt := 52) S dX6_put_27 (by decide) (by omega) (fun c_27 => ?_) (fun c_27 => ?_)
          · skip
            refine lv_iconst (v := nI 0) hx hb dX6_put_52 (by decide +kernel) ?_
            refine lv_istore (lv' := [(4, .int (nI 0)), (5, .long (lN (uN z >>> (8 * y)))), (3, .int (nI y)), (0, .ref e0), (1, .long (lN (uN z)))]) hx hb dX6_put_53 hl (by decide) rfl (fun ls hl => ?_)
            refine lv_lload hx hb dX6_put_55 (lv_at hl 1 rfl) ?_
            refine lv_bipush (v := nI 8) hx hb dX6_put_57 (by decide +kernel) ?_
            refine lv_lushr (v := lN ((uN z >>> (8 * y)) >>> 8)) hx hb dX6_put_59 (lN_shr (by omega) (by omega)) ?_
            refine z_topl (y := lN (uN z >>> (8 * (y + 1)))) (by rw [← Nat.shiftRight_add]; rfl) ?_
            refine lv_lstore (lv' := [(5, .long (lN (uN z >>> (8 * (y + 1))))), (4, .int (nI 0)), (3, .int (nI y)), (0, .ref e0), (1, .long (lN (uN z)))]) hx hb dX6_put_60 hl (by decide) rfl (fun ls hl => ?_)
            refine lv_iinc (v := (nI (y + 1))) (lv' := [(3, .int (nI (y + 1))), (5, .long (lN (uN z >>> (8 * (y + 1))))), (4, .int (nI 0)), (0, .ref e0), (1, .long (lN (uN z)))]) hx hb dX6_put_62 hl (k := 2) rfl (z_i1 _) (by decide) rfl (fun ls hl => ?_)
            refine lv_goto (tgt := 8) hx hb dX6_put_65 (by decide) ?_
            exact ih_8 (y + 1) 0 (by omega) (by omega) (by omega) (by first | exact put_0 hg c_27 | exact put_1 hg c_27 (by omega) (by omega) | exact put_2 (by omega) (by omega)) _ _ hP hD hS _ (lv_sub hl [1, 2, 0, 3, 4] rfl)
          · skip
            refine lv_lload hx hb dX6_put_30 (lv_at hl 0 rfl) ?_
            refine lv_ldc2 (v := lN 255) hx hb S.2.2.2.1 (S.2.2.2.2 _ kX6_put_1) dX6_put_32 ?_
            refine lv_land hx hb dX6_put_35 ?_
            refine z_topl (lN_and (by omega) (by decide)) ?_
            refine z_topl (y := lN (byt (uN z) y)) rfl ?_
            refine lv_ldc2 (v := lN 33) hx hb S.2.2.2.1 (S.2.2.2.2 _ kX6_put_2) dX6_put_36 ?_
            refine lv_ldc2 (v := lN 126) hx hb S.2.2.2.1 (S.2.2.2.2 _ kX6_put_3) dX6_put_39 ?_
            refine zcSi (rest := []) S K hP hD hS hA hl.1 (c_X6_in l G (lN (byt (uN z) y)) (lN 33) (lN 126) ) rfl rfl gX6_put_X6_in rfl eX6_in.2 [] (by decide +kernel) rfl (fun _ => rfl) rfl rfl (Nat.le_of_ble_eq_true rfl) (Nat.le_of_ble_eq_true rfl) (Nat.le_of_ble_eq_true rfl) ⟨Nat.zero_le _, Nat.zero_le _⟩ dX6_put_42 (fun r_42 u_42 H locs hw_42 hP hD hS => ?_)
            replace hw_42 : r_42 = nI (bN (decide ((lN 33).toInt ≤ (lN (byt (uN z) y)).toInt ∧ (lN (byt (uN z) y)).toInt ≤ (lN 126).toInt))) := hw_42
            obtain rfl := hw_42
            have hP : va_P (gD G) vwCl [(e0, .inr (6, [.ref ea, .ref ek, .ref eh, .int hq, .ref es, .ref ei, .ref el, .ref ew, .ref et, .ref er, .int lf, .int md, .ref ed, .ref ep, .int (nI pn), .int sp, .ref ex, .ref eu, .int rm, .int la])), (ep, .inl (gI G, 80, .inl (nA mt)))] H := hP
            have hD : va_D A [(e0, .inr (6, [.ref ea, .ref ek, .ref eh, .int hq, .ref es, .ref ei, .ref el, .ref ew, .ref et, .ref er, .int lf, .int md, .ref ed, .ref ep, .int (nI pn), .int sp, .ref ex, .ref eu, .int rm, .int la])), (ep, .inl (gI G, 80, .inl (nA mt)))] := hD
            refine zf_eq (tgt := 52) S dX6_put_45 (by decide) (bN_31 _) (fun c_45 => ?_) (fun c_45 => ?_)
            · skip
              have c_45 := of_decide_eq_false (bN_eq0 c_45)
              refine lv_iconst (v := nI 0) hx hb dX6_put_52 (by decide +kernel) ?_
              refine lv_istore (lv' := [(4, .int (nI 0)), (5, .long (lN (uN z >>> (8 * y)))), (3, .int (nI y)), (0, .ref e0), (1, .long (lN (uN z)))]) hx hb dX6_put_53 hl (by decide) rfl (fun ls hl => ?_)
              refine lv_lload hx hb dX6_put_55 (lv_at hl 1 rfl) ?_
              refine lv_bipush (v := nI 8) hx hb dX6_put_57 (by decide +kernel) ?_
              refine lv_lushr (v := lN ((uN z >>> (8 * y)) >>> 8)) hx hb dX6_put_59 (lN_shr (by omega) (by omega)) ?_
              refine z_topl (y := lN (uN z >>> (8 * (y + 1)))) (by rw [← Nat.shiftRight_add]; rfl) ?_
              refine lv_lstore (lv' := [(5, .long (lN (uN z >>> (8 * (y + 1))))), (4, .int (nI 0)), (3, .int (nI y)), (0, .ref e0), (1, .long (lN (uN z)))]) hx hb dX6_put_60 hl (by decide) rfl (fun ls hl => ?_)
              refine lv_iinc (v := (nI (y + 1))) (lv' := [(3, .int (nI (y + 1))), (5, .long (lN (uN z >>> (8 * (y + 1))))), (4, .int (nI 0)), (0, .ref e0), (1, .long (lN (uN z)))]) hx hb dX6_put_62 hl (k := 2) rfl (z_i1 _) (by decide) rfl (fun ls hl => ?_)
              refine lv_goto (tgt := 8) hx hb dX6_put_65 (by decide) ?_
              exact ih_8 (y + 1) 0 (by omega) (by omega) (by omega) (by first | exact put_0 hg c_27 | exact put_1 hg c_27 (by omega) (by omega) | exact put_2 (by omega) (by omega)) _ _ hP hD hS _ (lv_sub hl [1, 2, 0, 3, 4] rfl)
            · skip
              have c_45 := of_decide_eq_true (bN_ne0 c_45)
              refine lv_iconst (v := nI 1) hx hb dX6_put_48 (by decide +kernel) ?_
              refine lv_goto (tgt := 53) hx hb dX6_put_49 (by decide) ?_
              refine lv_istore (lv' := [(4, .int (nI 1)), (5, .long (lN (uN z >>> (8 * y)))), (3, .int (nI y)), (0, .ref e0), (1, .long (lN (uN z)))]) hx hb dX6_put_53 hl (by decide) rfl (fun ls hl => ?_)
              refine lv_lload hx hb dX6_put_55 (lv_at hl 1 rfl) ?_
              refine lv_bipush (v := nI 8) hx hb dX6_put_57 (by decide +kernel) ?_
              refine lv_lushr (v := lN ((uN z >>> (8 * y)) >>> 8)) hx hb dX6_put_59 (lN_shr (by omega) (by omega)) ?_
              refine z_topl (y := lN (uN z >>> (8 * (y + 1)))) (by rw [← Nat.shiftRight_add]; rfl) ?_
              refine lv_lstore (lv' := [(5, .long (lN (uN z >>> (8 * (y + 1))))), (4, .int (nI 1)), (3, .int (nI y)), (0, .ref e0), (1, .long (lN (uN z)))]) hx hb dX6_put_60 hl (by decide) rfl (fun ls hl => ?_)
              refine lv_iinc (v := (nI (y + 1))) (lv' := [(3, .int (nI (y + 1))), (5, .long (lN (uN z >>> (8 * (y + 1))))), (4, .int (nI 1)), (0, .ref e0), (1, .long (lN (uN z)))]) hx hb dX6_put_62 hl (k := 2) rfl (z_i1 _) (by decide) rfl (fun ls hl => ?_)
              refine lv_goto (tgt := 8) hx hb dX6_put_65 (by decide) ?_
              exact ih_8 (y + 1) 1 (by omega) (by omega) (by omega) (by first | exact put_0 hg c_27 | exact put_1 hg c_27 (by omega) (by omega) | exact put_2 (by omega) (by omega)) _ _ hP hD hS _ (lv_sub hl [1, 2, 0, 3, 4] rfl)
  have hl : lv_has ls 8 [(5, .long (lN (uN z >>> (8 * 0)))), (4, .int (nI 1)), (3, .int (nI 0)), (0, .ref e0), (1, .long (lN (uN z)))] := hl
  exact lp_8 _ 0 1 (Nat.lt_succ_self _) (by omega) (by omega) (Or.inl ⟨rfl, fun k hk => absurd hk (Nat.not_lt_zero _)⟩) _ _ hP hD hS _ (lv_sub hl [0, 1, 2, 3, 4] rfl)
