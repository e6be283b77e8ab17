/-! the law's small methods -/
def upN (v : Int32) (n : Nat) : Nat := tN (v &&& nI 2147483647) % n
theorem up_lt (v : Int32) {n : Nat} (h : 0 < n) : upN v n < n := Nat.mod_lt _ h
theorem up_ex (v : Int32) : ∃ a, a < 2147483648 ∧ v &&& nI 2147483647 = nI a := by
  refine ⟨v.toBitVec.toNat &&& 2147483647, Nat.lt_of_le_of_lt Nat.and_le_right (by decide), ?_⟩
  have e : v = nI v.toBitVec.toNat := by
    apply Int32.toBitVec_inj.1
    show v.toBitVec = BitVec.ofNat 32 v.toBitVec.toNat
    simp
  conv => lhs; rw [e]
  exact z_and _ _
theorem od_s {v i y : Nat} (hy : y = smF (fun j => v >>> j &&& 1) i % 2) : y ^^^ (v >>> i &&& 1) = smF (fun j => v >>> j &&& 1) (i + 1) % 2 := by
  have h1 : v >>> i &&& 1 ≤ 1 := Nat.and_le_right
  rw [x01 (by omega) h1, hy]
  show _ = (smF (fun j => v >>> j &&& 1) i + (v >>> i &&& 1)) % 2
  generalize smF (fun j => v >>> j &&& 1) i = a
  omega
theorem bs_e {v : Nat} (hv : v < 4096) : smF (fun j => v >>> j &&& 1) 12 = pcn v := by
  rw [pcn_sm (c := 12) (by decide) hv]
  exact smF_cong 12 (fun j _ => t1 v j)
theorem bs_le (v : Nat) : ∀ i, smF (fun j => v >>> j &&& 1) i ≤ i
  | 0 => Nat.le_refl _
  | i + 1 => by
    have ih := bs_le v i
    have h1 : v >>> i &&& 1 ≤ 1 := Nat.and_le_right
    show smF (fun j => v >>> j &&& 1) i + (v >>> i &&& 1) ≤ i + 1
    omega
set_option maxHeartbeats 4000000 in
set_option maxRecDepth 100000 in
theorem k_up (l : Launch) (G : gT) (v : Int32) (n : Nat) (h0 : 0 < n) (hn : n < 2147483648) : CI l yL_up wsL_up ({ frames := 0, cells := 0, slots := 0, locals := 0 } : Room) G [.int v, .int (nI n)] [] 0 0 (fun (r : Int32) (u : Unit) => r = nI (upN v n)) (fun (u : Unit) => []) := by
  refine CI.of (cc := cL_up) (maxL := 2) (ret := (some .int)) (by decide +kernel) rfl (Nat.le_of_ble_eq_true rfl) rfl (fun p e s m args below meth c A S hrt hlk hnm K hA hP hD hS ls hl => ?_)
  have hx := S.1
  have hb := S.2.1
  have hl : lv_has ls 2 [(0, .int v), (1, .int (nI n))] := hl
  refine lv_iload_n hx hb dL_up_0 rfl (lv_at hl 0 rfl) ?_
  refine lv_ldc (v := nI 2147483647) hx hb S.2.2.2.1 (S.2.2.2.2 _ (List.mem_of_getElem? (i := 1) rfl)) dL_up_1 ?_
  refine lv_iand hx hb dL_up_3 ?_
  obtain ⟨a, ha1, ha2⟩ := up_ex v
  refine z_top ha2 ?_
  refine lv_iload_n hx hb dL_up_4 rfl (lv_at hl 1 rfl) ?_
  refine zi_rem S dL_up_5 (by omega) (by omega) (by omega) ?_
  refine z_top (y := nI (upN v n)) (congrArg nI (by unfold upN; rw [ha2, tN_I ha1])) ?_
  exact z_iret S hrt hlk hP hD hS () rfl rfl dL_up_6
set_option maxHeartbeats 4000000 in
set_option maxRecDepth 100000 in
theorem k_odd (l : Launch) (G : gT) (v : Nat) (hv : v < 4096) : CI l yL_odd wsL_odd ({ frames := 0, cells := 0, slots := 0, locals := 0 } : Room) G [.int (nI v)] [] 0 0 (fun (r : Int32) (u : Unit) => r = nI (pty v)) (fun (u : Unit) => []) := by
  refine CI.of (cc := cL_odd) (maxL := 3) (ret := (some .int)) (by decide +kernel) rfl (Nat.le_of_ble_eq_true rfl) rfl (fun p e s m args below meth c A S hrt hlk hnm K hA hP hD hS ls hl => ?_)
  have hx := S.1
  have hb := S.2.1
  have hl : lv_has ls 3 [(0, .int (nI v))] := hl
  refine lv_iconst (v := nI 0) hx hb dL_odd_0 (by decide +kernel) ?_
  refine lv_istore_n (lv' := [(1, .int (nI 0)), (0, .int (nI v))]) hx hb dL_odd_1 rfl hl (by decide) rfl (fun ls hl => ?_)
  refine lv_iconst (v := nI 0) hx hb dL_odd_2 (by decide +kernel) ?_
  refine lv_istore_n (lv' := [(2, .int (nI 0)), (1, .int (nI 0)), (0, .int (nI v))]) hx hb dL_odd_3 rfl hl (by decide) rfl (fun ls hl => ?_)
  have lp_4 : ∀ (n_4 : Nat) (y i : Nat), 12 - i < n_4 → (i ≤ 12) → (y = smF (fun j => v >>> j &&& 1) i % 2) → ∀ (H : Heap) (locs : List Loc), va_P (gD G) vwCl [] H → va_D A [] → va_S A s.heap H locs → ∀ ls : Array Slot, lv_has ls 3 [(2, .int (nI i)), (1, .int (nI y)), (0, .int (nI v))] → W p l e ({ frames := 0, cells := 0, slots := 0, locals := 0 } : Room) s m args below meth c H locs 0 0 (MQ below (va_Qi (fun (r : Int32) (u : Unit) => r = nI (pty v)) (cB G A (fun (u : Unit) => [])) A) args s 0 0 A) (F0 m 4 ls []) := by
    intro n_4
    induction n_4 with
    | zero =>
      intro y i h0
      exact absurd h0 (Nat.not_lt_zero _)
    | succ n_4 ih_4 =>
      intro y i hm_4 hi hy H locs hP hD hS ls hl
      refine lv_iload_n hx hb dL_odd_4 rfl (lv_at hl 0 rfl) ?_
      refine lv_bipush (v := nI 12) hx hb dL_odd_5 (by decide +kernel) ?_
      refine zb_ge (tgt := 24) S dL_odd_7 (by decide) (by omega) (by decide) (fun c_7 => ?_) (fun c_7 => ?_)
      · skip
        have hi12 : i = 12 := by omega
        obtain rfl : i = 12 := hi12
        refine lv_iload_n hx hb dL_odd_24 rfl (lv_at hl 1 rfl) ?_
        refine z_top (y := nI (pty v)) (congrArg nI (by rw [hy, bs_e hv, pty_mod])) ?_
        exact z_iret S hrt hlk hP hD hS () rfl rfl dL_odd_25
      · skip
        refine lv_iload_n hx hb dL_odd_10 rfl (lv_at hl 1 rfl) ?_
        refine lv_iload_n hx hb dL_odd_11 rfl (lv_at hl 2 rfl) ?_
        refine lv_iload_n hx hb dL_odd_12 rfl (lv_at hl 0 rfl) ?_
        refine zi_shr S dL_odd_13 (by omega) (by omega) ?_
        refine lv_iconst (v := nI 1) hx hb dL_odd_14 (by decide +kernel) ?_
        refine zi_and S dL_odd_15 ?_
        refine zi_xor S dL_odd_16 ?_
        refine lv_istore_n (lv' := [(1, .int (nI (y ^^^ ((v >>> i) &&& 1)))), (2, .int (nI i)), (0, .int (nI v))]) hx hb dL_odd_17 rfl hl (by decide) rfl (fun ls hl => ?_)
        refine lv_iinc (v := (nI (i + 1))) (lv' := [(2, .int (nI (i + 1))), (1, .int (nI (y ^^^ ((v >>> i) &&& 1)))), (0, .int (nI v))]) hx hb dL_odd_18 hl (k := 1) rfl (z_i1 _) (by decide) rfl (fun ls hl => ?_)
        refine lv_goto (tgt := 4) hx hb dL_odd_21 (by decide) ?_
        exact ih_4 (y ^^^ ((v >>> i) &&& 1)) (i + 1) (by omega) (by omega) (od_s hy) _ _ hP hD hS _ (lv_sub hl [0, 1, 2] rfl)
  exact lp_4 _ 0 0 (Nat.lt_succ_self _) (by omega) rfl _ _ hP hD hS _ (lv_sub hl [0, 1, 2] rfl)
set_option maxHeartbeats 4000000 in
set_option maxRecDepth 100000 in
theorem k_bits (l : Launch) (G : gT) (v : Nat) (hv : v < 4096) : CI l yL_bits wsL_bits ({ frames := 0, cells := 0, slots := 0, locals := 0 } : Room) G [.int (nI v)] [] 0 0 (fun (r : Int32) (u : Unit) => r = nI (pcn v)) (fun (u : Unit) => []) := by
  refine CI.of (cc := cL_bits) (maxL := 3) (ret := (some .int)) (by decide +kernel) rfl (Nat.le_of_ble_eq_true rfl) rfl (fun p e s m args below meth c A S hrt hlk hnm K hA hP hD hS ls hl => ?_)
  have hx := S.1
  have hb := S.2.1
  have hl : lv_has ls 3 [(0, .int (nI v))] := hl
  refine lv_iconst (v := nI 0) hx hb dL_bits_0 (by decide +kernel) ?_
  refine lv_istore_n (lv' := [(1, .int (nI 0)), (0, .int (nI v))]) hx hb dL_bits_1 rfl hl (by decide) rfl (fun ls hl => ?_)
  refine lv_iconst (v := nI 0) hx hb dL_bits_2 (by decide +kernel) ?_
  refine lv_istore_n (lv' := [(2, .int (nI 0)), (1, .int (nI 0)), (0, .int (nI v))]) hx hb dL_bits_3 rfl hl (by decide) rfl (fun ls hl => ?_)
  have lp_4 : ∀ (n_4 : Nat) (y i : Nat), 12 - i < n_4 → (i ≤ 12) → (y = smF (fun j => v >>> j &&& 1) i) → ∀ (H : Heap) (locs : List Loc), va_P (gD G) vwCl [] H → va_D A [] → va_S A s.heap H locs → ∀ ls : Array Slot, lv_has ls 3 [(2, .int (nI i)), (1, .int (nI y)), (0, .int (nI v))] → W p l e ({ frames := 0, cells := 0, slots := 0, locals := 0 } : Room) s m args below meth c H locs 0 0 (MQ below (va_Qi (fun (r : Int32) (u : Unit) => r = nI (pcn v)) (cB G A (fun (u : Unit) => [])) A) args s 0 0 A) (F0 m 4 ls []) := by
    intro n_4
    induction n_4 with
    | zero =>
      intro y i h0
      exact absurd h0 (Nat.not_lt_zero _)
    | succ n_4 ih_4 =>
      intro y i hm_4 hi hy H locs hP hD hS ls hl
      refine lv_iload_n hx hb dL_bits_4 rfl (lv_at hl 0 rfl) ?_
      refine lv_bipush (v := nI 12) hx hb dL_bits_5 (by decide +kernel) ?_
      refine zb_ge (tgt := 24) S dL_bits_7 (by decide) (by omega) (by decide) (fun c_7 => ?_) (fun c_7 => ?_)
      · skip
        have hi12 : i = 12 := by omega
        obtain rfl : i = 12 := hi12
        refine lv_iload_n hx hb dL_bits_24 rfl (lv_at hl 1 rfl) ?_
        refine z_top (y := nI (pcn v)) (congrArg nI (by rw [hy, bs_e hv])) ?_
        exact z_iret S hrt hlk hP hD hS () rfl rfl dL_bits_25
      · skip
        refine lv_iload_n hx hb dL_bits_10 rfl (lv_at hl 1 rfl) ?_
        refine lv_iload_n hx hb dL_bits_11 rfl (lv_at hl 2 rfl) ?_
        refine lv_iload_n hx hb dL_bits_12 rfl (lv_at hl 0 rfl) ?_
        refine zi_shr S dL_bits_13 (by omega) (by omega) ?_
        refine lv_iconst (v := nI 1) hx hb dL_bits_14 (by decide +kernel) ?_
        refine zi_and S dL_bits_15 ?_
        refine zi_add S dL_bits_16 ?_
        refine lv_istore_n (lv' := [(1, .int (nI (y + ((v >>> i) &&& 1)))), (2, .int (nI i)), (0, .int (nI v))]) hx hb dL_bits_17 rfl hl (by decide) rfl (fun ls hl => ?_)
        refine lv_iinc (v := (nI (i + 1))) (lv' := [(2, .int (nI (i + 1))), (1, .int (nI (y + ((v >>> i) &&& 1)))), (0, .int (nI v))]) hx hb dL_bits_18 hl (k := 1) rfl (z_i1 _) (by decide) rfl (fun ls hl => ?_)
        refine lv_goto (tgt := 4) hx hb dL_bits_21 (by decide) ?_
        exact ih_4 (y + ((v >>> i) &&& 1)) (i + 1) (by omega) (by omega) (by rw [hy]; rfl) _ _ hP hD hS _ (lv_sub hl [0, 1, 2] rfl)
  exact lp_4 _ 0 0 (Nat.lt_succ_self _) (by omega) rfl _ _ hP hD hS _ (lv_sub hl [0, 1, 2] rfl)
set_option maxHeartbeats 4000000 in
set_option maxRecDepth 100000 in
theorem k_there (l : Launch) (G : gT) (v : Nat) (wp : Nat) (wq : Nat) (hv : v < 4096) (hc : wp + wq ≤ 12) : CI l yL_there wsL_there ({ frames := 0, cells := 0, slots := 0, locals := 0 } : Room) G [.int (nI v), .int (nI (wp + wq)), .int (nI wp)] [] 0 0 (fun (r : Int32) (u : Unit) => r = nI (thR wp wq v)) (fun (u : Unit) => []) := by
  refine CI.of (cc := cL_there) (maxL := 3) (ret := (some .int)) (by decide +kernel) rfl (Nat.le_of_ble_eq_true rfl) rfl (fun p e s m args below meth c A S hrt hlk hnm K hA hP hD hS ls hl => ?_)
  have hx := S.1
  have hb := S.2.1
  have hl : lv_has ls 3 [(0, .int (nI v)), (1, .int (nI (wp + wq))), (2, .int (nI wp))] := hl
  have hs1 := shl1_lt hc
  have hs2 : 1 ≤ 1 <<< (wp + wq) := by rw [Nat.one_shiftLeft]; exact Nat.two_pow_pos _
  refine lv_iload_n hx hb dL_there_0 rfl (lv_at hl 0 rfl) ?_
  refine lv_iload_n hx hb dL_there_1 rfl (lv_at hl 2 rfl) ?_
  refine zi_shl S dL_there_2 (by omega) ?_
  refine lv_iload_n hx hb dL_there_3 rfl (lv_at hl 0 rfl) ?_
  refine lv_iload_n hx hb dL_there_4 rfl (lv_at hl 1 rfl) ?_
  refine lv_iload_n hx hb dL_there_5 rfl (lv_at hl 2 rfl) ?_
  refine zi_sub S dL_there_6 (by omega) ?_
  refine z_top (y := nI wq) (congrArg nI (by omega)) ?_
  refine zi_shr S dL_there_7 (by omega) (by omega) ?_
  refine zi_or S dL_there_8 ?_
  refine lv_iconst (v := nI 1) hx hb dL_there_9 (by decide +kernel) ?_
  refine lv_iload_n hx hb dL_there_10 rfl (lv_at hl 1 rfl) ?_
  refine zi_shl S dL_there_11 (by omega) ?_
  refine lv_iconst (v := nI 1) hx hb dL_there_12 (by decide +kernel) ?_
  refine zi_sub S dL_there_13 (by omega) ?_
  refine zi_and S dL_there_14 ?_
  refine z_top (y := nI (thR wp wq v)) (congrArg nI (by unfold thR; rw [Nat.one_shiftLeft])) ?_
  exact z_iret S hrt hlk hP hD hS () rfl rfl dL_there_15
theorem k_cell (l : Launch) (G : gT) (b L k : Nat) (xs : Nat → Int32) (hL : L ≤ 260) (hk : k ≤ 47) : CX l yL_cell wsL_cell ({ frames := 0, cells := 0, slots := 0, locals := 0 } : Room) G [.ref b, .int (nI k)] b L xs (fun _ _ => True) := by
  refine CX.of (cc := cL_cell) (maxL := 2) (ret := (some .int)) (by decide +kernel) rfl (Nat.le_of_ble_eq_true rfl) rfl (fun p e s m args below meth c A S hrt hlk hX hbl hbA hP hD hS ls hl => ?_)
  have hx := S.1
  have hb := S.2.1
  have hl : lv_has ls 2 [(0, .ref b), (1, .int (nI k))] := hl
  refine lv_iload_n hx hb dL_cell_0 rfl (lv_at hl 1 rfl) ?_
  refine lv_aload_n hx hb dL_cell_1 rfl (lv_at hl 0 rfl) ?_
  refine va_slen hx hb hX hbl hbA hS dL_cell_2 ?_
  refine zb_ge (tgt := 12) (b := L) S dL_cell_3 (by decide) (by omega) (by omega) (fun c_3 => ?_) (fun c_3 => ?_)
  · refine lv_ldc (v := nI 1757159915) hx hb S.2.2.2.1 (S.2.2.2.2 _ (List.mem_of_getElem? (i := 1) rfl)) dL_cell_12 ?_
    refine lv_iload_n hx hb dL_cell_14 rfl (lv_at hl 1 rfl) ?_
    refine lv_sipush (v := nI 853) hx hb dL_cell_15 (by decide +kernel) ?_
    refine lv_iadd hx hb dL_cell_18 ?_
    refine lv_imul hx hb dL_cell_19 ?_
    exact z_iret S hrt hlk hP hD hS () rfl trivial dL_cell_20
  · refine lv_aload_n hx hb dL_cell_6 rfl (lv_at hl 0 rfl) ?_
    refine lv_iload_n hx hb dL_cell_7 rfl (lv_at hl 1 rfl) ?_
    refine va_sld hx hb hX hbl hbA hS (z_in (show k < L by omega) (by omega)) dL_cell_8 ?_
    refine lv_goto (tgt := 20) hx hb dL_cell_9 (by decide) ?_
    exact z_iret S hrt hlk hP hD hS () rfl trivial dL_cell_20
