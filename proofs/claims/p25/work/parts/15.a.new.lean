/-! what is made anew -/
section ZN
variable {p : Program} {l : Launch} {e : Env} {R : Room} {s : State} {m : MethodId} {args : Array Value} {below : List Frame} {meth : Method} {c : Code} {H : Heap} {locs : List Loc} {cells slots : Nat} {Q : State → Prop}
variable {cc : ByteArray} {nL : Nat} {Ts : List Cond} {own : String} {pc : Nat} {ls : Array Slot} {rest : List Value}
variable {G : gT} {A : Nat → Prop} {ws : va_W} {H0 : Heap}
theorem cA_i (K : gK G s) {cB : ClassId} (h : va_RA s cB .int) : cB = gI G := Option.some.inj (Eq.trans (Eq.symm (show s.vm.findClass ("[" ++ FieldType.int.toString) = some cB from h)) (show s.vm.findClass ("[" ++ FieldType.int.toString) = some (gI G) from (K.1.2 0 _ rfl).2))
theorem cA_c (K : gK G s) {cB : ClassId} (h : va_RA s cB .char) : cB = gC G := Option.some.inj (Eq.trans (Eq.symm (show s.vm.findClass ("[" ++ FieldType.char.toString) = some cB from h)) (show s.vm.findClass ("[" ++ FieldType.char.toString) = some (gC G) from (K.1.2 1 _ rfl).2))
theorem cA_z (K : gK G s) {cB : ClassId} (h : va_RA s cB .boolean) : cB = gZ G := Option.some.inj (Eq.trans (Eq.symm (show s.vm.findClass ("[" ++ FieldType.boolean.toString) = some cB from h)) (show s.vm.findClass ("[" ++ FieldType.boolean.toString) = some (gZ G) from (K.1.2 2 _ rfl).2))
theorem cA_o (K : gK G s) {cB : ClassId} (h : va_RA s cB (.object RX3)) : cB = gO G := by
  obtain ⟨k1, c1, -, -, -, h4⟩ := h
  obtain ⟨k2, c2, -, -, -, g4⟩ := (K.1.2 3 _ rfl).2
  exact Option.some.inj (h4.symm.trans g4)
theorem nI_nn {n : Nat} (h : n ≤ 252) : ¬ nI n < 0 := by
  intro z
  have z2 := Int32.lt_iff_toInt_lt.mp z
  rw [nI_toInt (by omega), show (0 : Int32).toInt = 0 from by decide] at z2
  omega
theorem z_newi (S : CallFix p m c cc nL s args Ts own) (K : gK G s) (hP : va_P (gD G) vwCl ws H) (hD : va_D A ws) (hS : va_S A H0 H locs) (hA : ∀ q, H0.size ≤ q → A q) (harr : Cond.arrayClass .int ∈ Ts) {n : Nat} (hn : n ≤ 252) (hcells : cells + 1 ≤ R.cells) (hslots : slots + n ≤ R.slots) (d : decode cc pc = .ok (.newarray .int, 2))
    (kk : ∀ (q : Nat) (H1 : Heap), va_P (gD G) vwCl (ws ++ [(q, .inl (gI G, n, .inl (nA z0)))]) H1 → va_D A (ws ++ [(q, .inl (gI G, n, .inl (nA z0)))]) → va_S A H0 H1 locs → W p l e R s m args below meth c H1 locs (cells + 1) (slots + n) Q (F0 m (pc + 2) ls (.ref q :: rest))) : W p l e R s m args below meth c H locs cells slots Q (F0 m pc ls (.int (nI n) :: rest)) := by
  refine va_newa (atype := .int) (ty := .int) S.1 S.2.1 (S.2.2.2.2 _ harr) rfl K.1 hP hD hS hA (a0 := (n, .inl (nA z0))) (fun cA => rfl) (nI_nn hn) (nI_clamp (by omega)) (by show n * 4 ≤ _; omega) hcells hslots d (fun q cA H1 hK hP hD hS => ?_)
  obtain rfl : cA = gI G := cA_i K ((hK.2 4 _ rfl).2)
  exact kk q H1 hP hD hS
theorem z_newc (S : CallFix p m c cc nL s args Ts own) (K : gK G s) (hP : va_P (gD G) vwCl ws H) (hD : va_D A ws) (hS : va_S A H0 H locs) (hA : ∀ q, H0.size ≤ q → A q) (harr : Cond.arrayClass .char ∈ Ts) {n : Nat} (hn : n ≤ 252) (hcells : cells + 1 ≤ R.cells) (hslots : slots + n ≤ R.slots) (d : decode cc pc = .ok (.newarray .char, 2))
    (kk : ∀ (q : Nat) (H1 : Heap), va_P (gD G) vwCl (ws ++ [(q, .inl (gC G, n, .inl (nA z0)))]) H1 → va_D A (ws ++ [(q, .inl (gC G, n, .inl (nA z0)))]) → va_S A H0 H1 locs → W p l e R s m args below meth c H1 locs (cells + 1) (slots + n) Q (F0 m (pc + 2) ls (.ref q :: rest))) : W p l e R s m args below meth c H locs cells slots Q (F0 m pc ls (.int (nI n) :: rest)) := by
  refine va_newa (atype := .char) (ty := .char) S.1 S.2.1 (S.2.2.2.2 _ harr) rfl K.1 hP hD hS hA (a0 := (n, .inl (nA z0))) (fun cA => rfl) (nI_nn hn) (nI_clamp (by omega)) (by show n * 2 ≤ _; omega) hcells hslots d (fun q cA H1 hK hP hD hS => ?_)
  obtain rfl : cA = gC G := cA_c K ((hK.2 4 _ rfl).2)
  exact kk q H1 hP hD hS
theorem z_newz (S : CallFix p m c cc nL s args Ts own) (K : gK G s) (hP : va_P (gD G) vwCl ws H) (hD : va_D A ws) (hS : va_S A H0 H locs) (hA : ∀ q, H0.size ≤ q → A q) (harr : Cond.arrayClass .boolean ∈ Ts) {n : Nat} (hn : n ≤ 252) (hcells : cells + 1 ≤ R.cells) (hslots : slots + n ≤ R.slots) (d : decode cc pc = .ok (.newarray .boolean, 2))
    (kk : ∀ (q : Nat) (H1 : Heap), va_P (gD G) vwCl (ws ++ [(q, .inl (gZ G, n, .inl (nA z0)))]) H1 → va_D A (ws ++ [(q, .inl (gZ G, n, .inl (nA z0)))]) → va_S A H0 H1 locs → W p l e R s m args below meth c H1 locs (cells + 1) (slots + n) Q (F0 m (pc + 2) ls (.ref q :: rest))) : W p l e R s m args below meth c H locs cells slots Q (F0 m pc ls (.int (nI n) :: rest)) := by
  refine va_newa (atype := .boolean) (ty := .boolean) S.1 S.2.1 (S.2.2.2.2 _ harr) rfl K.1 hP hD hS hA (a0 := (n, .inl (nA z0))) (fun cA => rfl) (nI_nn hn) (nI_clamp (by omega)) (by show n * 1 ≤ _; omega) hcells hslots d (fun q cA H1 hK hP hD hS => ?_)
  obtain rfl : cA = gZ G := cA_z K ((hK.2 4 _ rfl).2)
  exact kk q H1 hP hD hS
theorem z_newq (S : CallFix p m c cc nL s args Ts own) (K : gK G s) (hAO : va_AO RX3 s) (hP : va_P (gD G) vwCl ws H) (hD : va_D A ws) (hS : va_S A H0 H locs) (hA : ∀ q, H0.size ≤ q → A q) {index : Nat} (hcl : Cond.classLink own index RX3 ∈ Ts) {n : Nat} (hn : n ≤ 252) (hcells : cells + 1 ≤ R.cells) (hslots : slots + n ≤ R.slots) (d : decode cc pc = .ok (.anewarray index, 3))
    (kk : ∀ (q : Nat) (H1 : Heap), va_P (gD G) vwCl (ws ++ [(q, .inl (gO G, n, .inr (.inr (.inr (.inr (fun _ => none))))))]) H1 → va_D A (ws ++ [(q, .inl (gO G, n, .inr (.inr (.inr (.inr (fun _ => none))))))]) → va_S A H0 H1 locs → W p l e R s m args below meth c H1 locs (cells + 1) (slots + n) Q (F0 m (pc + 3) ls (.ref q :: rest))) : W p l e R s m args below meth c H locs cells slots Q (F0 m pc ls (.int (nI n) :: rest)) := by
  refine va_newq (N' := n) S.1 S.2.1 S.2.2.2.1 (S.2.2.2.2 _ hcl) hAO K.1 hP hD hS hA (nI_nn hn) (nI_clamp (by omega)) (by omega) hcells hslots d (fun q cA H1 hK hP hD hS => ?_)
  obtain rfl : cA = gO G := cA_o K ((hK.2 4 _ rfl).2)
  exact kk q H1 hP hD hS
theorem z_new (S : CallFix p m c cc nL s args Ts own) (K : gK G s) (hP : va_P (gD G) vwCl ws H) (hD : va_D A ws) (hS : va_S A H0 H locs) (hA : ∀ q, H0.size ≤ q → A q) {C : String} {T : u_T} {N index : Nat} {ty0 : Nat → FieldType} (ci : Nat) (fs : List Value) (hin : ∀ w ∈ u_ws C T N, w ∈ Ts) (hty : ∀ k, k < N → parseFieldDescriptor (T k).2.2.1 = some (ty0 k)) (hcl : Cond.classLink own index C ∈ Ts) (hinst : Cond.instantiable C N ∈ Ts) (hini : Cond.initialized C ∈ Ts) (hc : vwCl[ci]? = some (C, T, N)) (hfs : ∀ j, j < N → defaultValue (ty0 j) = vp_V fs j) (hcells : cells + 1 ≤ R.cells) (hslots : slots + N ≤ R.slots) (d : decode cc pc = .ok (.new index, 3))
    (kk : ∀ (q : Nat) (H1 : Heap), va_P (gD G) vwCl (ws ++ [(q, .inr (ci, fs))]) H1 → va_D A (ws ++ [(q, .inr (ci, fs))]) → va_S A H0 H1 locs → W p l e R s m args below meth c H1 locs (cells + 1) (slots + N) Q (F0 m (pc + 3) ls (.ref q :: rest))) : W p l e R s m args below meth c H locs cells slots Q (F0 m pc ls rest) :=
  va_new (ci := ci) (fs := fs) S.1 S.2.1 S.2.2.2.2 hin ty0 hty S.2.2.2.1 (S.2.2.2.2 _ hcl) (S.2.2.2.2 _ hinst) (S.2.2.2.2 _ hini) K.1 hP hD hS hA hc hfs hcells hslots d kk
/-- the last cell's constructor -/
theorem last_in {D : va_G} {cl : List vw_C} {x0 : Nat × va_E} {H : Heap} (hP : va_P D cl (ws ++ [x0]) H) : va_P D cl [x0] H := by
  intro k q hk
  have h1 : k < 1 := (List.getElem?_eq_some_iff.mp hk).1
  obtain rfl : k = 0 := by omega
  cases hk
  exact hP ws.length _ (by rw [List.getElem?_append_right (Nat.le_refl _), Nat.sub_self]; rfl)
theorem last_C {x0 : Nat × va_E} : [ws.length].map (fun i => (ws ++ [x0])[i]?) = [x0].map some := by
  simp
theorem last_R {x0 : Nat × va_E} : (List.range ws.length).map (fun i => (ws ++ [x0])[i]?) = ws.map some := by
  apply List.ext_getElem?
  intro i
  rw [List.getElem?_map, List.getElem?_map]
  by_cases h : i < ws.length
  · rw [List.getElem?_range h]
    show some ((ws ++ [x0])[i]?) = _
    rw [List.getElem?_append_left h, List.getElem?_eq_getElem h]
    rfl
  · rw [List.getElem?_eq_none (by rw [List.length_range]; omega), List.getElem?_eq_none (by omega)]
    rfl
theorem nd_of : ∀ {l : List Nat}, l.Nodup → va_nd l = true
  | [], _ => rfl
  | a :: l, h => by
    obtain ⟨h1, h2⟩ := List.nodup_cons.mp h
    simp only [va_nd, Bool.and_eq_true, decide_eq_true_eq]
    exact ⟨h1, nd_of h2⟩
def cPw (G : gT) (ws : va_W) (sz : Nat) : State → Prop := fun U => cP G ws sz U ∧ va_AO RX3 U
theorem cPw_blind {av : List Value} {sz : Nat} : FrameBlind (va_Pc av (cPw G ws sz)) := fun a U g mk q => ⟨q.1, (cP_blind (av := av) a U g mk ⟨q.1, q.2.1⟩).2, va_AO.moved (u := U) (U := U.calling g mk a) (Vm.Alike.refl U.vm) q.2.2⟩
/-- a constructor's contract -/
def CW {S : Type} (l : Launch) (y : MethodName) (w : List Cond) (rm : Room) (G : gT) (av : List Value) (ws : va_W) (mc ms : Nat) (post : S → Prop) (wf : S → va_W) : Prop :=
  ∀ sz : Nat, Met l y w rm (va_Pc av (cPw G ws sz)) (va_Qv post (cB G (va_A ws sz) wf) (va_A ws sz)) mc ms (va_A ws sz)
theorem CW.of {S : Type} {y : MethodName} {w ws' : List Cond} {rm : Room} {av : List Value} {mc ms : Nat} {post : S → Prop} {wf : S → va_W} {maxL : Nat} {ret : Option FieldType} {lvl : List (Nat × Value)}
    (hy : plainName y.cls = true) (hw : w = Cond.code y cc maxL ret :: ws') (hn : (lg_sl av).length ≤ maxL) (hlv : lv_args 0 av = lvl)
    (body : ∀ (p : Program) (e : Env) (s : State) (m : MethodId) (args : Array Value) (below : List Frame) (meth : Method) (c : Code) (A : Nat → Prop), CallFix p m c cc maxL s args w y.cls → meth.sig.returnType = ret → meth.locks = false → meth.name = y.name → gK G s → va_AO RX3 s → (∀ q, s.heap.size ≤ q → A q) → va_P (gD G) vwCl ws s.heap → va_D A ws → va_S A s.heap s.heap [] → ∀ ls : Array Slot, lv_has ls maxL lvl →
      W p l e rm s m args below meth c s.heap [] 0 0 (MQ below (va_Qv post (cB G A wf) A) args s mc ms A) (F0 m 0 ls [])) : CW l y w rm G av ws mc ms post wf := by
  intro sz
  refine Met.ofW (cc := cc) (maxL := maxL) (ret := ret) hy hw ?_
  intro p e s m args below meth c s₁ B hml hv
  obtain ⟨rfl, ⟨hsz, hP, hK, hD0⟩, hAO⟩ := hv
  subst hsz
  have hl := lv_entry av (n := maxL) hn
  rw [lg_entry_eq]
  rw [hlv] at hl
  exact body p e s m _ below meth c (va_A ws s.heap.size) ⟨B.exec, B.bytes, hml, findClass_of_methodNamed B.named, atoms_spec (ws := w) B.pre⟩ B.returns B.notSynchronized (name_of_methodNamed B.named B.method).1 hK hAO (fun q h => Or.inr h) hP hD0.self va_S.rf _ hl
theorem zcI {y : MethodName} {bytes : ByteArray} {maxL index mc ms : Nat} {wsy wsy' : List Cond} {rm : Room} {Sx : Type} {wf : Sx → va_W} {post : Sx → Prop} {b : Addr} {e0 : va_E} (S : CallFix p m c cc nL s args Ts own) (K : gK G s) (hAO : va_AO RX3 s) (hP : va_P (gD G) vwCl (ws ++ [(b, e0)]) H) (hD : va_D A (ws ++ [(b, e0)])) (hS : va_S A H0 H locs) (hA : ∀ q, H0.size ≤ q → A q) (hls : ls.size = nL) (cx : CW l y wsy rm G [.ref b] [(b, e0)] mc ms post wf) (hmc : rm.cells = mc) (hms : rm.slots = ms) (g : GoodIn Ts wsy) (hw : wsy = Cond.code y bytes maxL none :: wsy') (hini : Cond.initialized y.cls ∈ Ts) (hl : Cond.methodLink own index y ∈ Ts) (hin : Cond.instanceMethod y ∈ Ts) (hy1 : y.name = "<init>") (hd : y.cls ≠ "java/lang/invoke/MethodHandle" ∧ y.cls ≠ "java/lang/invoke/VarHandle" ∧ (parseMethodDescriptor y.desc).map (fun d => d.parameters.length) = some 0) (hro : (rest.map fun v => v.category).sum ≤ 8) (hf : rm.frames + 1 ≤ R.frames) (hlo : 8 + (maxL + 11) + rm.locals ≤ R.locals) (hcs : cells + mc ≤ R.cells ∧ slots + ms ≤ R.slots) (d : decode cc pc = .ok (.invokespecial index, 3))
    (kk : ∀ (u : Sx) (H1 : Heap) (locs1 : List Loc), post u → va_P (gD G) vwCl (ws ++ wf u) H1 → va_D A (ws ++ wf u) → va_S A H0 H1 locs1 → W p l e R s m args below meth c H1 locs1 (cells + mc) (slots + ms) Q (F0 m (pc + 3) ls rest)) : W p l e R s m args below meth c H locs cells slots Q (F0 m pc ls (.ref b :: rest)) := by
  have hPc := last_in hP
  have hDc : va_D (fun _ => True) [(b, e0)] := z_partD hD [ws.length] rfl last_C
  have hFc : ∀ q, va_A [(b, e0)] H.size q → A q := va_free hD hS hA [ws.length] last_C
  refine va_callv (va_runI (As := []) (rest := rest) S (cx H.size) (cwI 0 S.2.2.2.2 g hw hmc hms (S.2.2.2.2 _ hini) (S.2.2.2.2 _ hl) (S.2.2.2.2 _ hin) hy1 hd ⟨hf, hlo⟩) ⟨cPw_blind, fun U hU hW => ⟨rfl, ⟨by rw [hU], by rw [hU]; exact hPc, K.warm hW, hDc⟩, hAO.moved hW.alike⟩⟩ rfl rfl hls rfl (lv_room hro) d hcs) hS (fun q _ h => hFc q h) hFc (fun u t H1 locs1 ht hvm hw1 hB hz1 hk1 hS1 => ?_)
  obtain ⟨hP1, hD1⟩ := hB
  rw [ht] at hP1
  obtain ⟨hP2, hD2⟩ := va_join (wc := [(b, e0)]) (wr := ws) (w1 := wf u) hP hD [ws.length] (List.range ws.length) last_C last_R (nd_of List.nodup_range) (fun i hi hj => by rw [List.mem_range] at hi; rw [List.mem_singleton] at hj; omega) hk1 hFc hP1 hD1
  exact kk u H1 locs1 hw1 hP2 hD2 hS1
theorem zcIN {y : MethodName} {bytes : ByteArray} {maxL index mc ms : Nat} {wsy wsy' : List Cond} {rm : Room} {Sx : Type} {wf : Sx → va_W} {post : Sx → Prop} {b : Addr} {e0 : va_E} {host : String} (S : CallFix p m c cc nL s args Ts own) (K : gK G s) (hAO : va_AO RX3 s) (hP : va_P (gD G) vwCl (ws ++ [(b, e0)]) H) (hD : va_D A (ws ++ [(b, e0)])) (hS : va_S A H0 H locs) (hA : ∀ q, H0.size ≤ q → A q) (hls : ls.size = nL) (cx : CW l y wsy rm G [.ref b] [(b, e0)] mc ms post wf) (hmc : rm.cells = mc) (hms : rm.slots = ms) (g : GoodIn Ts wsy) (hw : wsy = Cond.code y bytes maxL none :: wsy') (hnw : Cond.methodLinkNest own index y host ∈ nwL) (hini : Cond.initialized y.cls ∈ Ts) (hin : Cond.instanceMethod y ∈ Ts) (hy1 : y.name = "<init>") (hd : y.cls ≠ "java/lang/invoke/MethodHandle" ∧ y.cls ≠ "java/lang/invoke/VarHandle" ∧ (parseMethodDescriptor y.desc).map (fun d => d.parameters.length) = some 0) (hro : (rest.map fun v => v.category).sum ≤ 8) (hf : rm.frames + 1 ≤ R.frames) (hlo : 8 + (maxL + 11) + rm.locals ≤ R.locals) (hcs : cells + mc ≤ R.cells ∧ slots + ms ≤ R.slots) (d : decode cc pc = .ok (.invokespecial index, 3))
    (kk : ∀ (u : Sx) (H1 : Heap) (locs1 : List Loc), post u → va_P (gD G) vwCl (ws ++ wf u) H1 → va_D A (ws ++ wf u) → va_S A H0 H1 locs1 → W p l e R s m args below meth c H1 locs1 (cells + mc) (slots + ms) Q (F0 m (pc + 3) ls rest)) : W p l e R s m args below meth c H locs cells slots Q (F0 m pc ls (.ref b :: rest)) := by
  have hPc := last_in hP
  have hDc : va_D (fun _ => True) [(b, e0)] := z_partD hD [ws.length] rfl last_C
  have hFc : ∀ q, va_A [(b, e0)] H.size q → A q := va_free hD hS hA [ws.length] last_C
  refine va_callv (va_runIN (As := []) (rest := rest) S (cx H.size) ⟨va_cnB 0 S.2.2.2.2 g hw hmc hms (K.2 _ hnw) (S.2.2.2.2 _ hini) hd ⟨hf, hlo⟩, hy1, S.2.2.2.2 _ hin⟩ ⟨cPw_blind, fun U hU hW => ⟨rfl, ⟨by rw [hU], by rw [hU]; exact hPc, K.warm hW, hDc⟩, hAO.moved hW.alike⟩⟩ rfl rfl hls rfl (lv_room hro) d hcs) hS (fun q _ h => hFc q h) hFc (fun u t H1 locs1 ht hvm hw1 hB hz1 hk1 hS1 => ?_)
  obtain ⟨hP1, hD1⟩ := hB
  rw [ht] at hP1
  obtain ⟨hP2, hD2⟩ := va_join (wc := [(b, e0)]) (wr := ws) (w1 := wf u) hP hD [ws.length] (List.range ws.length) last_C last_R (nd_of List.nodup_range) (fun i hi hj => by rw [List.mem_range] at hi; rw [List.mem_singleton] at hj; omega) hk1 hFc hP1 hD1
  exact kk u H1 locs1 hw1 hP2 hD2 hS1
end ZN
