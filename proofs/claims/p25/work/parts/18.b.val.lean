/-! what a call answers to numbers that the law gives -/
section VAL
variable {R : RT} {h : HT} {q pl i k : Nat}
theorem vc_0 : r_count R q pl (nI 0) = nI R.2.1 := by
  unfold r_count
  rw [if_pos (rfl : nI 0 = nI 0)]
theorem vc_6 : r_count R q pl (nI 6) = nI R.1 := by
  unfold r_count
  rw [if_neg (show ¬ nI 6 = nI 0 by decide), if_neg (show ¬ nI 6 = nI 1 by decide), if_neg (show ¬ nI 6 = nI 2 by decide), if_neg (show ¬ nI 6 = nI 3 by decide), if_neg (show ¬ nI 6 = nI 4 by decide), if_neg (show ¬ nI 6 = nI 5 by decide), if_pos (rfl : nI 6 = nI 6)]
theorem v_hasP {n : Nat} (hn : n ≤ 4096) (hi : i ≤ 4096) : hasP n (nI i) = true ↔ i < n := by
  constructor
  · intro z
    rcases Nat.lt_or_ge i n with c | c
    · exact c
    · exact absurd z (hasP_o c (by omega))
  · intro z
    exact hasP_I z hn
theorem v_move (hR : RowOK R) (hi : i < R.2.1) (hk : k < R.2.1) : r_move R (nI i) (nI k) = nI (mcS R i k) := by
  have h20 := hR.2.2.1
  unfold r_move
  rw [if_pos ⟨hasP_I hi (by omega), hasP_I hk (by omega)⟩, tN_I (by omega), tN_I (by omega)]
theorem v_moven (hR : RowOK R) (hi : i ≤ R.2.1) (hk : k ≤ R.2.1) (hv : ¬ (i < R.2.1 ∧ k < R.2.1)) : r_move R (nI i) (nI k) = -1 ∧ r_ifMoved R (nI i) (nI k) = -1 := by
  have h20 := hR.2.2.1
  have e : ¬ (hasP R.2.1 (nI i) = true ∧ hasP R.2.1 (nI k) = true) := fun z => hv ⟨(v_hasP (by omega) (by omega)).mp z.1, (v_hasP (by omega) (by omega)).mp z.2⟩
  unfold r_move r_ifMoved
  rw [if_neg e, if_neg e]
  exact ⟨rfl, rfl⟩
theorem v_ifm (hR : RowOK R) (hi : i < R.2.1) (hk : k < R.2.1) : r_ifMoved R (nI i) (nI k) = nI (ctS (mvR R i k) 2) ∧ (n_move R h (nI i) (nI k)).1 = mvR R i k := by
  have h20 := hR.2.2.1
  have e : hasP R.2.1 (nI i) = true ∧ hasP R.2.1 (nI k) = true := ⟨hasP_I hi (by omega), hasP_I hk (by omega)⟩
  unfold r_ifMoved n_move
  rw [if_pos e, if_pos e, tN_I (by omega), tN_I (by omega)]
  exact ⟨rfl, rfl⟩
theorem mc_le (hR : RowOK R) : mcS R i k ≤ 20 := by
  have h20 := hR.2.2.1
  have h1 : mcS R i k ≤ R.2.1 * 1 := smF_le R.2.1 (fun j _ => by split <;> omega)
  omega
theorem v_turn (hR : RowOK R) (hi : i < R.2.1) : r_turn R (nI i) = nI (if stS R i = 0 then 0 else 3 - stS R i) := by
  have h20 := hR.2.2.1
  unfold r_turn
  rw [if_pos (hasP_I hi (by omega)), tN_I (by omega), turn_st hR hi]
theorem v_turnn (hR : RowOK R) : r_turn R (nI R.2.1) = -1 := by
  have h20 := hR.2.2.1
  unfold r_turn
  rw [if_neg (hasP_o (Nat.le_refl _) (by omega))]
theorem v_rule (hR : RowOK R) (hi : i < R.2.1) (y : Int32) : r_rule R (nI i) y = ruF R i y := by
  have h20 := hR.2.2.1
  unfold r_rule
  rw [if_pos (hasP_I hi (by omega)), tN_I (by omega)]
theorem v_rule0 (hR : RowOK R) (hi : i < R.2.1) : r_rule R (nI i) (nI 0) = nI (R.2.2.1 i) := by
  rw [v_rule hR hi]
  unfold ruF
  rw [if_pos (rfl : nI 0 = nI 0)]
theorem v_rule1 (hR : RowOK R) (hi : i < R.2.1) : r_rule R (nI i) (nI 1) = nI (R.2.2.2 i) := by
  rw [v_rule hR hi]
  unfold ruF
  rw [if_neg (show ¬ nI 1 = nI 0 by decide), if_pos (rfl : nI 1 = nI 1)]
theorem v_rule2 (hR : RowOK R) (hi : i < R.2.1) : r_rule R (nI i) (nI 2) = nI (stS R i) := by rw [v_rule hR hi, ← ruF_2]
theorem v_rule3 (hR : RowOK R) (hi : i < R.2.1) : r_rule R (nI i) (nI 3) = if stS R i = 0 then -6 else nI (rsS R i) := by rw [v_rule hR hi, ← ruF_3]
theorem two_up : ∀ v, v < 512 → 3 ≤ pcnt 32 v → 0 < v &&& (v - 1) := by decide +kernel
theorem and_up {v : Nat} (hv : v < 512) (h : 3 ≤ pcn v) : 0 < v &&& (v - 1) := two_up v hv (by rw [← pcn_eq]; exact h)
end VAL
/-! the law's own steps: a test whose end is known -/
section ZD
variable {p : Program} {l : Launch} {e : Env} {R : Room} {s : State} {m : MethodId} {args : Array Value} {below : List Frame} {meth : Method} {c : Code} {H : Heap} {locs : List Loc} {cells slots : Nat} {Q : State → Prop}
variable {cc : ByteArray} {nL : Nat} {Ts : List Cond} {own : String} {pc : Nat} {ls : Array Slot} {rest : List Value}
theorem zd_ne (S : CallFix p m c cc nL s args Ts own) {x y : Int32} {off : Int} {tgt : Nat} (d : decode cc pc = .ok (.if_icmp .ne off, 3)) (ht : (pc : Int) + off = (tgt : Int)) (h : x = y) (kf : W p l e R s m args below meth c H locs cells slots Q (F0 m (pc + 3) ls rest)) : W p l e R s m args below meth c H locs cells slots Q (F0 m pc ls (.int y :: .int x :: rest)) :=
  zr_ne (X := x.toInt) (Y := y.toInt) S d ht rfl rfl (fun z => absurd (congrArg Int32.toInt h) z) (fun _ => kf)
theorem zd_net (S : CallFix p m c cc nL s args Ts own) {x y : Int32} {off : Int} {tgt : Nat} (d : decode cc pc = .ok (.if_icmp .ne off, 3)) (ht : (pc : Int) + off = (tgt : Int)) (h : ¬ x = y) (kt : W p l e R s m args below meth c H locs cells slots Q (F0 m tgt ls rest)) : W p l e R s m args below meth c H locs cells slots Q (F0 m pc ls (.int y :: .int x :: rest)) :=
  zr_ne (X := x.toInt) (Y := y.toInt) S d ht rfl rfl (fun _ => kt) (fun z => absurd (Int32.toInt_inj.mp z) h)
theorem zd_ge (S : CallFix p m c cc nL s args Ts own) {x : Int32} {off : Int} {tgt : Nat} (d : decode cc pc = .ok (.ifCond .ge off, 3)) (ht : (pc : Int) + off = (tgt : Int)) (h : 0 ≤ x.toInt) (kt : W p l e R s m args below meth c H locs cells slots Q (F0 m tgt ls rest)) : W p l e R s m args below meth c H locs cells slots Q (F0 m pc ls (.int x :: rest)) :=
  zq_ge (X := x.toInt) S d ht rfl (fun _ => kt) (fun z => absurd h (by omega))
theorem zd_lt (S : CallFix p m c cc nL s args Ts own) {x : Int32} {off : Int} {tgt : Nat} (d : decode cc pc = .ok (.ifCond .ge off, 3)) (ht : (pc : Int) + off = (tgt : Int)) (h : x.toInt < 0) (kf : W p l e R s m args below meth c H locs cells slots Q (F0 m (pc + 3) ls rest)) : W p l e R s m args below meth c H locs cells slots Q (F0 m pc ls (.int x :: rest)) :=
  zq_ge (X := x.toInt) S d ht rfl (fun z => absurd h (by omega)) (fun _ => kf)
theorem zd_gt0 (S : CallFix p m c cc nL s args Ts own) {x : Int32} {off : Int} {tgt : Nat} (d : decode cc pc = .ok (.ifCond .gt off, 3)) (ht : (pc : Int) + off = (tgt : Int)) (kt : 0 < x.toInt → W p l e R s m args below meth c H locs cells slots Q (F0 m tgt ls rest)) (kf : x.toInt ≤ 0 → W p l e R s m args below meth c H locs cells slots Q (F0 m (pc + 3) ls rest)) : W p l e R s m args below meth c H locs cells slots Q (F0 m pc ls (.int x :: rest)) :=
  zq_gt (X := x.toInt) S d ht rfl kt kf
end ZD
/-! two objects in step -/
def LW (G : gT) (wp wq ot x0 y0 : Nat) (wa wb : va_W) : Prop := ∃ (R : RT) (h : HT), OI G x0 R h wa ∧ OI G y0 (trR wp wq ot R) (trH wp wq ot h) wb ∧ LM (wp + wq) R h
theorem eL_cell : yL_cell.cls = RL ∧ yL_cell.cls ≠ "java/lang/invoke/MethodHandle" ∧ yL_cell.cls ≠ "java/lang/invoke/VarHandle" ∧ (parseMethodDescriptor yL_cell.desc).map (fun d => d.parameters.length) = some 2 := ⟨rfl, by decide +kernel, by decide +kernel, by decide +kernel⟩
theorem eL_up : yL_up.cls = RL ∧ yL_up.cls ≠ "java/lang/invoke/MethodHandle" ∧ yL_up.cls ≠ "java/lang/invoke/VarHandle" ∧ (parseMethodDescriptor yL_up.desc).map (fun d => d.parameters.length) = some 2 := ⟨rfl, by decide +kernel, by decide +kernel, by decide +kernel⟩
theorem eL_odd : yL_odd.cls = RL ∧ yL_odd.cls ≠ "java/lang/invoke/MethodHandle" ∧ yL_odd.cls ≠ "java/lang/invoke/VarHandle" ∧ (parseMethodDescriptor yL_odd.desc).map (fun d => d.parameters.length) = some 1 := ⟨rfl, by decide +kernel, by decide +kernel, by decide +kernel⟩
theorem eL_bits : yL_bits.cls = RL ∧ yL_bits.cls ≠ "java/lang/invoke/MethodHandle" ∧ yL_bits.cls ≠ "java/lang/invoke/VarHandle" ∧ (parseMethodDescriptor yL_bits.desc).map (fun d => d.parameters.length) = some 1 := ⟨rfl, by decide +kernel, by decide +kernel, by decide +kernel⟩
theorem eL_there : yL_there.cls = RL ∧ yL_there.cls ≠ "java/lang/invoke/MethodHandle" ∧ yL_there.cls ≠ "java/lang/invoke/VarHandle" ∧ (parseMethodDescriptor yL_there.desc).map (fun d => d.parameters.length) = some 3 := ⟨rfl, by decide +kernel, by decide +kernel, by decide +kernel⟩
theorem eL_isStep : yL_isStep.cls = RL ∧ yL_isStep.cls ≠ "java/lang/invoke/MethodHandle" ∧ yL_isStep.cls ≠ "java/lang/invoke/VarHandle" ∧ (parseMethodDescriptor yL_isStep.desc).map (fun d => d.parameters.length) = some 6 := ⟨rfl, by decide +kernel, by decide +kernel, by decide +kernel⟩
theorem eL_areAlike : yL_areAlike.cls = RL ∧ yL_areAlike.cls ≠ "java/lang/invoke/MethodHandle" ∧ yL_areAlike.cls ≠ "java/lang/invoke/VarHandle" ∧ (parseMethodDescriptor yL_areAlike.desc).map (fun d => d.parameters.length) = some 6 := ⟨rfl, by decide +kernel, by decide +kernel, by decide +kernel⟩
theorem eL_isWell : yL_isWell.cls = RL ∧ yL_isWell.cls ≠ "java/lang/invoke/MethodHandle" ∧ yL_isWell.cls ≠ "java/lang/invoke/VarHandle" ∧ (parseMethodDescriptor yL_isWell.desc).map (fun d => d.parameters.length) = some 3 := ⟨rfl, by decide +kernel, by decide +kernel, by decide +kernel⟩
