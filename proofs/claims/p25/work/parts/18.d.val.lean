/-! more answers to numbers that the law gives -/
section VAL2
variable {R : RT} {h : HT} {q pl i k p o : Nat}
theorem v_an0 (hR : RowOK R) : r_answer R (nI (naS R)) = -1 := by
  have := na_le hR
  unfold r_answer
  rw [if_neg (hasP_o (Nat.le_refl _) (by omega))]
theorem v_an (hR : RowOK R) (hi : i < naS R) : r_answer R (nI i) = nI (anS R i) := by
  have := na_le hR
  unfold r_answer
  rw [if_pos (hasP_I hi this), tN_I (by omega)]
theorem v_kn (hR : RowOK R) {v : Nat} (hv : v < 2 ^ R.1) : r_known R (nI v) = knS R v := by
  have := p12 hR.2.1
  unfold r_known
  rw [if_pos (hasP_I hv this), tN_I (by omega)]
theorem v_ne0 (hR : RowOK R) {v : Nat} (hv : v < 2 ^ R.1) : r_nearest R (nI v) (nI 0) = nI (neS R v) := by
  have := p12 hR.2.1
  unfold r_nearest
  rw [if_pos (hasP_I hv this), if_pos (rfl : nI 0 = nI 0), tN_I (by omega)]
theorem v_ne1 (hR : RowOK R) {v : Nat} (hv : v < 2 ^ R.1) : r_nearest R (nI v) (nI 1) = nI (pcn (neS R v ^^^ v)) := by
  have := p12 hR.2.1
  unfold r_nearest
  rw [if_pos (hasP_I hv this), if_neg (show ¬ nI 1 = nI 0 by decide), if_pos (rfl : nI 1 = nI 1), tN_I (by omega)]
theorem v_b0 : r_best R (nI 0) = nI (brS R).1 := by
  unfold r_best
  rw [if_pos (rfl : nI 0 = nI 0)]
theorem v_b1 : r_best R (nI 1) = nI (brS R).2.1 := by
  unfold r_best
  rw [if_neg (show ¬ nI 1 = nI 0 by decide), if_pos (rfl : nI 1 = nI 1)]
theorem v_b2 : r_best R (nI 2) = nI (brS R).2.2 := by
  unfold r_best
  rw [if_neg (show ¬ nI 2 = nI 0 by decide), if_neg (show ¬ nI 2 = nI 1 by decide), if_pos (rfl : nI 2 = nI 2)]
theorem v_ch (hR : RowOK R) (hi : i < R.1) (y : Int32) : r_choice R (nI i) y = chF R i y := by
  have := hR.2.1
  unfold r_choice
  rw [if_pos (hasP_I hi (by omega)), tN_I (by omega)]
theorem v_ch0 (hR : RowOK R) (hi : i < R.1) : r_choice R (nI i) (nI 0) = knS R (1 <<< i) := by rw [v_ch hR hi, ← chF_0]
theorem v_ch1 (hR : RowOK R) (hi : i < R.1) : r_choice R (nI i) (nI 1) = nI (smF (fun j => R.2.2.1 j >>> i &&& 1) R.2.1) := by
  rw [v_ch hR hi]
  unfold chF
  rw [if_neg (show ¬ nI 1 = nI 0 by decide), if_pos (rfl : nI 1 = nI 1)]
theorem v_ch2 (hR : RowOK R) (hi : i < R.1) : r_choice R (nI i) (nI 2) = nI (boS R i) := by rw [v_ch hR hi, ← chF_2]
theorem v_ifd (hR : RowOK R) (hi : i < R.2.1) : r_ifDropped R (nI i) = nI (naS (drR R i)) := by
  have h20 := hR.2.2.1
  unfold r_ifDropped
  rw [if_pos (hasP_I hi (by omega)), tN_I (by omega)]
theorem tr_count (hR : RowOK R) (hc : R.1 = p + q) {m : Nat} {y : Int32} (hy : ¬ y = nI 5) : r_count (trR p q o R) m pl y = r_count R m pl y := by
  unfold r_count
  rw [tr_ct hR hc, tr_ct hR hc, tr_ct hR hc, tr_na hR hc, if_neg hy, if_neg hy]
  rfl
theorem tr_rule (hR : RowOK R) (hc : R.1 = p + q) (hi : i < R.2.1) {y : Int32} (h0 : ¬ y = nI 0) (h1 : ¬ y = nI 1) : r_rule (trR p q o R) (nI i) y = r_rule R (nI i) y := by
  rw [v_rule (tr_ok (o := o) hR hc) (show i < (trR p q o R).2.1 from hi), v_rule hR hi]
  unfold ruF
  rw [if_neg h0, if_neg h0, if_neg h1, if_neg h1, tr_st hR hc hi, tr_rs hR hc hi, tr_rw hR hc, tr_na hR hc]
theorem tr_ifd (hR : RowOK R) (hc : R.1 = p + q) (hi : i < R.2.1) : r_ifDropped (trR p q o R) (nI i) = r_ifDropped R (nI i) := by
  rw [v_ifd (tr_ok (o := o) hR hc) (show i < (trR p q o R).2.1 from hi), v_ifd hR hi, tr_dr hi, tr_na (dr_ok hR hi) (show (drR R i).1 = p + q from hc)]
theorem se_le (hc : R.1 = p + q) : seS R < 2 ^ (p + q) := by
  rw [← hc]
  exact se_lt _ _
theorem bo_le (hc : R.1 = p + q) : boS R i < 2 ^ (p + q) := by
  unfold boS
  split
  · exact Nat.two_pow_pos _
  · rw [← hc]
    exact se_lt _ _
theorem nI_6 {x : Nat} (h : x ≤ 1) : ¬ nI x = -6 := by
  have h2 : x = 0 ∨ x = 1 := by omega
  rcases h2 with e | e <;> subst e <;> decide
theorem rs_lt (hi : i ≤ 20) (hs : ¬ stS R i = 0) : rsS R i < 1048576 := by
  have hsp : spn R.2.2.1 i (kp R.2.2.1 i) (R.2.2.1 i) := Classical.byContradiction (fun z => hs (stt_k z))
  have h1 := sbs_lt (rsn_ok hsp).1 (kp_lt R.2.2.1 i)
  have h2 : 2 ^ i ≤ 2 ^ 20 := Nat.pow_le_pow_right (by decide) hi
  have h3 : rsS R i < 2 ^ i := h1
  omega
theorem rs_bit (hs : ¬ stS R i = 0) (hk : rsS R i >>> k &&& 1 = 1) : k < i ∧ stS R k = 0 := by
  have hsp : spn R.2.2.1 i (kp R.2.2.1 i) (R.2.2.1 i) := Classical.byContradiction (fun z => hs (stt_k z))
  exact w_rb R.2.2.2 hsp ((tb_1 _ _).mp hk)
theorem cm_1 {f : Nat → Nat} {x y : Nat} (hy : y = cmb f k x) (hk : x >>> k &&& 1 = 1) : y ^^^ f k = cmb f (k + 1) x := by
  rw [hy]
  show _ = cmb f k x ^^^ (if x.testBit k = true then f k else 0)
  rw [if_pos ((tb_1 _ _).mp hk)]
theorem cm_0 {f : Nat → Nat} {x y : Nat} (hy : y = cmb f k x) (hk : ¬ x >>> k &&& 1 = 1) : y = cmb f (k + 1) x := by
  rw [hy]
  show _ = cmb f k x ^^^ (if x.testBit k = true then f k else 0)
  rw [if_neg (fun z => hk ((tb_1 _ _).mpr z)), Nat.xor_zero]
theorem cm_e (hi : i < R.2.1) (hs : ¬ stS R i = 0) : cmb R.2.2.1 R.2.1 (rsS R i) = R.2.2.1 i ∧ (cmb R.2.2.2 R.2.1 (rsS R i) = R.2.2.2 i ↔ stS R i = 1) := by
  have hsp : spn R.2.2.1 i (kp R.2.2.1 i) (R.2.2.1 i) := Classical.byContradiction (fun z => hs (stt_k z))
  obtain ⟨h1, h2⟩ := w_end R.2.2.2 hsp (show i ≤ R.2.1 by omega)
  refine ⟨h1, ?_⟩
  have h3 : stS R i = if cmb R.2.2.2 i (rsn R.2.2.1 i (R.2.2.1 i)) = R.2.2.2 i then 1 else 2 := stt_n hsp
  show cmb R.2.2.2 R.2.1 (rsn R.2.2.1 i (R.2.2.1 i)) = R.2.2.2 i ↔ _
  rw [h2, h3]
  by_cases c : cmb R.2.2.2 i (rsn R.2.2.1 i (R.2.2.1 i)) = R.2.2.2 i
  · rw [if_pos c]
    exact ⟨fun _ => rfl, fun _ => c⟩
  · rw [if_neg c]
    exact ⟨fun z => absurd z c, fun z => by omega⟩
end VAL2
section ZD2
variable {p : Program} {l : Launch} {e : Env} {R : Room} {s : State} {m : MethodId} {args : Array Value} {below : List Frame} {meth : Method} {c : Code} {H : Heap} {locs : List Loc} {cells slots : Nat} {Q : State → Prop}
variable {cc : ByteArray} {nL : Nat} {Ts : List Cond} {own : String} {pc : Nat} {ls : Array Slot} {rest : List Value}
theorem zd_eqt (S : CallFix p m c cc nL s args Ts own) {x y : Int32} {off : Int} {tgt : Nat} (d : decode cc pc = .ok (.if_icmp .eq off, 3)) (ht : (pc : Int) + off = (tgt : Int)) (h : x = y) (kt : W p l e R s m args below meth c H locs cells slots Q (F0 m tgt ls rest)) : W p l e R s m args below meth c H locs cells slots Q (F0 m pc ls (.int y :: .int x :: rest)) :=
  zr_eq (X := x.toInt) (Y := y.toInt) S d ht rfl rfl (fun _ => kt) (fun z => absurd (congrArg Int32.toInt h) z)
theorem zd_eqf (S : CallFix p m c cc nL s args Ts own) {x y : Int32} {off : Int} {tgt : Nat} (d : decode cc pc = .ok (.if_icmp .eq off, 3)) (ht : (pc : Int) + off = (tgt : Int)) (h : ¬ x = y) (kf : W p l e R s m args below meth c H locs cells slots Q (F0 m (pc + 3) ls rest)) : W p l e R s m args below meth c H locs cells slots Q (F0 m pc ls (.int y :: .int x :: rest)) :=
  zr_eq (X := x.toInt) (Y := y.toInt) S d ht rfl rfl (fun z => absurd (Int32.toInt_inj.mp z) h) (fun _ => kf)
theorem zd_zt (S : CallFix p m c cc nL s args Ts own) {x : Int32} {off : Int} {tgt : Nat} (d : decode cc pc = .ok (.ifCond .eq off, 3)) (ht : (pc : Int) + off = (tgt : Int)) (h : x = nI 0) (kt : W p l e R s m args below meth c H locs cells slots Q (F0 m tgt ls rest)) : W p l e R s m args below meth c H locs cells slots Q (F0 m pc ls (.int x :: rest)) :=
  zq_eq (X := x.toInt) S d ht rfl (fun _ => kt) (fun z => absurd (congrArg Int32.toInt h) z)
theorem zd_zf (S : CallFix p m c cc nL s args Ts own) {x : Int32} {off : Int} {tgt : Nat} (d : decode cc pc = .ok (.ifCond .eq off, 3)) (ht : (pc : Int) + off = (tgt : Int)) (h : ¬ x = nI 0) (kf : W p l e R s m args below meth c H locs cells slots Q (F0 m (pc + 3) ls rest)) : W p l e R s m args below meth c H locs cells slots Q (F0 m pc ls (.int x :: rest)) :=
  zq_eq (X := x.toInt) S d ht rfl (fun z => absurd (Int32.toInt_inj.mp z) h) (fun _ => kf)
theorem zd_nt (S : CallFix p m c cc nL s args Ts own) {x : Int32} {off : Int} {tgt : Nat} (d : decode cc pc = .ok (.ifCond .ne off, 3)) (ht : (pc : Int) + off = (tgt : Int)) (h : ¬ x = nI 0) (kt : W p l e R s m args below meth c H locs cells slots Q (F0 m tgt ls rest)) : W p l e R s m args below meth c H locs cells slots Q (F0 m pc ls (.int x :: rest)) :=
  zq_ne (X := x.toInt) S d ht rfl (fun _ => kt) (fun z => absurd (Int32.toInt_inj.mp z) h)
theorem zd_nf (S : CallFix p m c cc nL s args Ts own) {x : Int32} {off : Int} {tgt : Nat} (d : decode cc pc = .ok (.ifCond .ne off, 3)) (ht : (pc : Int) + off = (tgt : Int)) (h : x = nI 0) (kf : W p l e R s m args below meth c H locs cells slots Q (F0 m (pc + 3) ls rest)) : W p l e R s m args below meth c H locs cells slots Q (F0 m pc ls (.int x :: rest)) :=
  zq_ne (X := x.toInt) S d ht rfl (fun z => absurd (congrArg Int32.toInt h) z) (fun _ => kf)
end ZD2
