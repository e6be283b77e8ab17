/-! a contract in a larger world -/
theorem CI.frame {S S' : Type} {l : Launch} {y : MethodName} {w : List Cond} {rm : Room} {G : gT} {av : List Value} {wc ws : va_W} {mc ms : Nat} {post : Int32 → S → Prop} {wf : S → va_W} {post' : Int32 → S' → Prop} {wf' : S' → va_W} (h : CI l y w rm G av wc mc ms post wf) (is : List Nat) (hnd : va_nd is = true) (hC : is.map (fun i => ws[i]?) = wc.map some) (hlen : ∀ u, (wf u).length = is.length)
    (hq : ∀ r u, post r u → ∃ u', post' r u' ∧ ∀ (D : va_G) (A : Nat → Prop) (H : Heap), va_P D vwCl (rp ws is (wf u)) H → va_D A (rp ws is (wf u)) → va_P D vwCl (wf' u') H ∧ va_D A (wf' u')) : CI l y w rm G av ws mc ms post' wf' := by
  intro sz p e ha hc hk s m args below hf happ hpre hcl
  obtain ⟨e1, e2, hP, hK, hD⟩ := hpre
  subst e2
  have hPc := z_part hP is hC
  have hDc := z_partD hD is hnd hC
  have hFc : ∀ q, va_A wc s.heap.size q → va_A ws s.heap.size q := va_free (A0 := va_A ws s.heap.size) (hD.self (sz := s.heap.size)) va_S.rf (fun q hq => Or.inr hq) is hC
  obtain ⟨k, o, h1, h2, h3, ⟨⟨⟨r, u, ho, hp, hb⟩, hF⟩, hL⟩⟩ := h s.heap.size p e ha hc hk s m args below hf happ ⟨e1, rfl, hPc, hK, hDc⟩ hcl
  obtain ⟨u', hp', he⟩ := hq r u hp
  obtain ⟨hP1, hD1⟩ := hb
  obtain ⟨hP2, hD2⟩ := rp_ok hP (hD.self (sz := s.heap.size)) is hC (hlen u) hF.2 hFc hP1 hD1
  obtain ⟨hP3, hD3⟩ := he _ _ _ hP2 hD2
  obtain ⟨L, g1, g2⟩ := hL
  exact ⟨k, o, h1, h2, h3, ⟨⟨⟨r, u', ho, hp', hP3, hD3⟩, hF.1, fun q a b => hF.2 q a (fun z => b (hFc q z))⟩, L, g1, fun q hq => hFc _ (g2 q hq)⟩⟩
/-! a part in the middle of a world -/
theorem rp_mid : ∀ (a es pre post : va_W), es.length = a.length → rp (pre ++ (a ++ post)) (List.range' pre.length a.length) es = pre ++ (es ++ post)
  | [], es, pre, post, h => by
    obtain rfl := List.length_eq_zero_iff.mp h
    rfl
  | x :: a, [], pre, post, h => by simp at h
  | x :: a, e :: es, pre, post, h => by
    rw [List.length_cons, List.range'_succ]
    show rp ((pre ++ (x :: a ++ post)).set pre.length e) (List.range' (pre.length + 1) a.length) es = _
    have e1 : (pre ++ (x :: a ++ post)).set pre.length e = (pre ++ [e]) ++ (a ++ post) := by simp
    have ih := rp_mid a es (pre ++ [e]) post (by simpa using h)
    rw [List.length_append, List.length_singleton] at ih
    rw [e1, ih]
    simp
theorem md_C : ∀ (a pre post : va_W), (List.range' pre.length a.length).map (fun i => (pre ++ (a ++ post))[i]?) = a.map some
  | [], _, _ => rfl
  | x :: a, pre, post => by
    rw [List.length_cons, List.range'_succ, List.map_cons, List.map_cons]
    have ih := md_C a (pre ++ [x]) post
    rw [List.length_append, List.length_singleton, List.append_assoc] at ih
    congr 1
    simp
theorem md_nd (a k : Nat) : va_nd (List.range' a k) = true := nd_of List.nodup_range'
/-! an object as a whole: 59 cells -/
abbrev WU : Type := { w : va_W // w.length = 59 }
section ZO
variable {p : Program} {l : Launch} {e : Env} {R : Room} {s : State} {m : MethodId} {args : Array Value} {below : List Frame} {meth : Method} {c : Code} {H : Heap} {locs : List Loc} {cells slots : Nat} {Q : State → Prop}
variable {cc : ByteArray} {nL : Nat} {Ts : List Cond} {own : String} {pc : Nat} {ls : Array Slot} {rest : List Value}
variable {G : gT} {A : Nat → Prop} {H0 : Heap} {y : MethodName} {bytes : ByteArray} {maxL n index : Nat} {ret : Option FieldType} {wsy wsy' : List Cond} {rm : Room} {b : Addr} {As st0 : List Value}
theorem zom {post : Int32 → WU → Prop} (pre wa wb : va_W) (S : CallFix p m c cc nL s args Ts own) (K : gK G s) (hP : va_P (gD G) vwCl (pre ++ (wa ++ wb)) H) (hD : va_D A (pre ++ (wa ++ wb))) (hS : va_S A H0 H locs) (hA : ∀ q, H0.size ≤ q → A q) (hls : ls.size = nL) (cx : CI l y wsy rm G (.ref b :: As) wa 0 0 post (fun u : WU => u.1)) (hmc : rm.cells = 0) (hms : rm.slots = 0) (g : GoodIn Ts (wsV own index RX5 y wsy)) (hw : wsy = Cond.code y bytes maxL ret :: wsy') (hd : y.cls = RX5 ∧ y.cls ≠ "java/lang/invoke/MethodHandle" ∧ y.cls ≠ "java/lang/invoke/VarHandle" ∧ (parseMethodDescriptor y.desc).map (fun d => d.parameters.length) = some n) (hla : wa.length = 59) (hrc : ∃ fs, wa[0]? = some (b, .inr (5, fs))) (hn : As.length = n) (hst0 : st0 = As.reverse ++ .ref b :: rest) (hro : (rest.map fun v => v.category).sum ≤ 8) (hf : rm.frames + 1 ≤ R.frames) (hlo : 8 + (maxL + 11) + rm.locals ≤ R.locals) (hcs : cells ≤ R.cells ∧ slots ≤ R.slots) (d : decode cc pc = .ok (.invokevirtual index, 3))
    (kk : ∀ (r : Int32) (u : WU) (H1 : Heap) (locs1 : List Loc), post r u → va_P (gD G) vwCl (pre ++ (u.1 ++ wb)) H1 → va_D A (pre ++ (u.1 ++ wb)) → va_S A H0 H1 locs1 → W p l e R s m args below meth c H1 locs1 cells slots Q (F0 m (pc + 3) ls (.int r :: rest))) : W p l e R s m args below meth c H locs cells slots Q (F0 m pc ls st0) := by
  obtain ⟨fs, hrc⟩ := hrc
  have hl : ∀ u : WU, u.1.length = wa.length := fun u => u.2.trans hla.symm
  refine zcVi (C := RX5) S K hP hD hS hA hls cx hmc hms g hw hd (List.range' pre.length wa.length) (md_nd _ _) (md_C wa pre wb) (fun u => by rw [List.length_range']; exact hl u) 5 pre.length (qc := (RX5, TX5, 11)) (fs := fs) rfl ?_ rfl hn hst0 hro hf hlo hcs d (fun r u H1 locs1 hu hP1 hD1 hS1 => ?_)
  · rw [List.getElem?_append_right (Nat.le_refl _), Nat.sub_self, List.getElem?_append_left (by omega)]
    exact hrc
  · rw [rp_mid wa u.1 pre wb (hl u)] at hP1 hD1
    exact kk r u H1 locs1 hu hP1 hD1 hS1
theorem zoa {post : Int32 → WU → Prop} {wa wb : va_W} (S : CallFix p m c cc nL s args Ts own) (K : gK G s) (hP : va_P (gD G) vwCl (wa ++ wb) H) (hD : va_D A (wa ++ wb)) (hS : va_S A H0 H locs) (hA : ∀ q, H0.size ≤ q → A q) (hls : ls.size = nL) (cx : CI l y wsy rm G (.ref b :: As) wa 0 0 post (fun u : WU => u.1)) (hmc : rm.cells = 0) (hms : rm.slots = 0) (g : GoodIn Ts (wsV own index RX5 y wsy)) (hw : wsy = Cond.code y bytes maxL ret :: wsy') (hd : y.cls = RX5 ∧ y.cls ≠ "java/lang/invoke/MethodHandle" ∧ y.cls ≠ "java/lang/invoke/VarHandle" ∧ (parseMethodDescriptor y.desc).map (fun d => d.parameters.length) = some n) (hla : wa.length = 59) (hrc : ∃ fs, wa[0]? = some (b, .inr (5, fs))) (hn : As.length = n) (hst0 : st0 = As.reverse ++ .ref b :: rest) (hro : (rest.map fun v => v.category).sum ≤ 8) (hf : rm.frames + 1 ≤ R.frames) (hlo : 8 + (maxL + 11) + rm.locals ≤ R.locals) (hcs : cells ≤ R.cells ∧ slots ≤ R.slots) (d : decode cc pc = .ok (.invokevirtual index, 3))
    (kk : ∀ (r : Int32) (u : WU) (H1 : Heap) (locs1 : List Loc), post r u → va_P (gD G) vwCl (u.1 ++ wb) H1 → va_D A (u.1 ++ wb) → va_S A H0 H1 locs1 → W p l e R s m args below meth c H1 locs1 cells slots Q (F0 m (pc + 3) ls (.int r :: rest))) : W p l e R s m args below meth c H locs cells slots Q (F0 m pc ls st0) :=
  zom [] wa wb S K hP hD hS hA hls cx hmc hms g hw hd hla hrc hn hst0 hro hf hlo hcs d kk
theorem zob {post : Int32 → WU → Prop} {wa wb : va_W} (S : CallFix p m c cc nL s args Ts own) (K : gK G s) (hP : va_P (gD G) vwCl (wa ++ wb) H) (hD : va_D A (wa ++ wb)) (hS : va_S A H0 H locs) (hA : ∀ q, H0.size ≤ q → A q) (hls : ls.size = nL) (cx : CI l y wsy rm G (.ref b :: As) wb 0 0 post (fun u : WU => u.1)) (hmc : rm.cells = 0) (hms : rm.slots = 0) (g : GoodIn Ts (wsV own index RX5 y wsy)) (hw : wsy = Cond.code y bytes maxL ret :: wsy') (hd : y.cls = RX5 ∧ y.cls ≠ "java/lang/invoke/MethodHandle" ∧ y.cls ≠ "java/lang/invoke/VarHandle" ∧ (parseMethodDescriptor y.desc).map (fun d => d.parameters.length) = some n) (hla : wb.length = 59) (hrc : ∃ fs, wb[0]? = some (b, .inr (5, fs))) (hn : As.length = n) (hst0 : st0 = As.reverse ++ .ref b :: rest) (hro : (rest.map fun v => v.category).sum ≤ 8) (hf : rm.frames + 1 ≤ R.frames) (hlo : 8 + (maxL + 11) + rm.locals ≤ R.locals) (hcs : cells ≤ R.cells ∧ slots ≤ R.slots) (d : decode cc pc = .ok (.invokevirtual index, 3))
    (kk : ∀ (r : Int32) (u : WU) (H1 : Heap) (locs1 : List Loc), post r u → va_P (gD G) vwCl (wa ++ u.1) H1 → va_D A (wa ++ u.1) → va_S A H0 H1 locs1 → W p l e R s m args below meth c H1 locs1 cells slots Q (F0 m (pc + 3) ls (.int r :: rest))) : W p l e R s m args below meth c H locs cells slots Q (F0 m pc ls st0) :=
  zom wa wb [] S K (by rw [List.append_nil]; exact hP) (by rw [List.append_nil]; exact hD) hS hA hls cx hmc hms g hw hd hla hrc hn hst0 hro hf hlo hcs d (fun r u H1 locs1 hu hP1 hD1 hS1 => kk r u H1 locs1 hu (by rw [List.append_nil] at hP1; exact hP1) (by rw [List.append_nil] at hD1; exact hD1) hS1)
theorem zow {post : Int32 → WU → Prop} {wa : va_W} (S : CallFix p m c cc nL s args Ts own) (K : gK G s) (hP : va_P (gD G) vwCl wa H) (hD : va_D A wa) (hS : va_S A H0 H locs) (hA : ∀ q, H0.size ≤ q → A q) (hls : ls.size = nL) (cx : CI l y wsy rm G (.ref b :: As) wa 0 0 post (fun u : WU => u.1)) (hmc : rm.cells = 0) (hms : rm.slots = 0) (g : GoodIn Ts (wsV own index RX5 y wsy)) (hw : wsy = Cond.code y bytes maxL ret :: wsy') (hd : y.cls = RX5 ∧ y.cls ≠ "java/lang/invoke/MethodHandle" ∧ y.cls ≠ "java/lang/invoke/VarHandle" ∧ (parseMethodDescriptor y.desc).map (fun d => d.parameters.length) = some n) (hla : wa.length = 59) (hrc : ∃ fs, wa[0]? = some (b, .inr (5, fs))) (hn : As.length = n) (hst0 : st0 = As.reverse ++ .ref b :: rest) (hro : (rest.map fun v => v.category).sum ≤ 8) (hf : rm.frames + 1 ≤ R.frames) (hlo : 8 + (maxL + 11) + rm.locals ≤ R.locals) (hcs : cells ≤ R.cells ∧ slots ≤ R.slots) (d : decode cc pc = .ok (.invokevirtual index, 3))
    (kk : ∀ (r : Int32) (u : WU) (H1 : Heap) (locs1 : List Loc), post r u → va_P (gD G) vwCl u.1 H1 → va_D A u.1 → va_S A H0 H1 locs1 → W p l e R s m args below meth c H1 locs1 cells slots Q (F0 m (pc + 3) ls (.int r :: rest))) : W p l e R s m args below meth c H locs cells slots Q (F0 m pc ls st0) :=
  zom [] wa [] S K (by rw [List.append_nil]; exact hP) (by rw [List.append_nil]; exact hD) hS hA hls cx hmc hms g hw hd hla hrc hn hst0 hro hf hlo hcs d (fun r u H1 locs1 hu hP1 hD1 hS1 => kk r u H1 locs1 hu (by rw [List.append_nil] at hP1; exact hP1) (by rw [List.append_nil] at hD1; exact hD1) hS1)
/-- a static method that reads no cell -/
theorem zos {Sx : Type} {post : Int32 → Sx → Prop} {ws : va_W} (S : CallFix p m c cc nL s args Ts own) (K : gK G s) (hP : va_P (gD G) vwCl ws H) (hD : va_D A ws) (hS : va_S A H0 H locs) (hA : ∀ q, H0.size ≤ q → A q) (hls : ls.size = nL) (cx : CI l y wsy rm G As [] 0 0 post (fun _ : Sx => [])) (hmc : rm.cells = 0) (hms : rm.slots = 0) (g : GoodIn Ts (va_wsS own index y wsy)) (hw : wsy = Cond.code y bytes maxL ret :: wsy') (hd : y.cls ≠ "java/lang/invoke/MethodHandle" ∧ y.cls ≠ "java/lang/invoke/VarHandle" ∧ (parseMethodDescriptor y.desc).map (fun d => d.parameters.length) = some n) (hn : As.length = n) (hst0 : st0 = As.reverse ++ rest) (hro : (rest.map fun v => v.category).sum ≤ 8) (hf : rm.frames + 1 ≤ R.frames) (hlo : 8 + (maxL + 11) + rm.locals ≤ R.locals) (hcs : cells ≤ R.cells ∧ slots ≤ R.slots) (d : decode cc pc = .ok (.invokestatic index, 3))
    (kk : ∀ (r : Int32) (H1 : Heap) (locs1 : List Loc), (∃ u, post r u) → va_P (gD G) vwCl ws H1 → va_D A ws → va_S A H0 H1 locs1 → W p l e R s m args below meth c H1 locs1 cells slots Q (F0 m (pc + 3) ls (.int r :: rest))) : W p l e R s m args below meth c H locs cells slots Q (F0 m pc ls st0) :=
  zcSi S K hP hD hS hA hls cx hmc hms g hw hd [] rfl rfl (fun _ => rfl) hn hst0 hro hf hlo hcs d (fun r u H1 locs1 hu hP1 hD1 hS1 => kk r H1 locs1 ⟨u, hu⟩ hP1 hD1 hS1)
/-- a static method of the first object; of both -/
theorem zsa {post : Int32 → WU → Prop} {wa wb : va_W} (S : CallFix p m c cc nL s args Ts own) (K : gK G s) (hP : va_P (gD G) vwCl (wa ++ wb) H) (hD : va_D A (wa ++ wb)) (hS : va_S A H0 H locs) (hA : ∀ q, H0.size ≤ q → A q) (hls : ls.size = nL) (cx : CI l y wsy rm G As wa 0 0 post (fun u : WU => u.1)) (hmc : rm.cells = 0) (hms : rm.slots = 0) (g : GoodIn Ts (va_wsS own index y wsy)) (hw : wsy = Cond.code y bytes maxL ret :: wsy') (hd : y.cls ≠ "java/lang/invoke/MethodHandle" ∧ y.cls ≠ "java/lang/invoke/VarHandle" ∧ (parseMethodDescriptor y.desc).map (fun d => d.parameters.length) = some n) (hla : wa.length = 59) (hn : As.length = n) (hst0 : st0 = As.reverse ++ rest) (hro : (rest.map fun v => v.category).sum ≤ 8) (hf : rm.frames + 1 ≤ R.frames) (hlo : 8 + (maxL + 11) + rm.locals ≤ R.locals) (hcs : cells ≤ R.cells ∧ slots ≤ R.slots) (d : decode cc pc = .ok (.invokestatic index, 3))
    (kk : ∀ (r : Int32) (u : WU) (H1 : Heap) (locs1 : List Loc), post r u → va_P (gD G) vwCl (u.1 ++ wb) H1 → va_D A (u.1 ++ wb) → va_S A H0 H1 locs1 → W p l e R s m args below meth c H1 locs1 cells slots Q (F0 m (pc + 3) ls (.int r :: rest))) : W p l e R s m args below meth c H locs cells slots Q (F0 m pc ls st0) := by
  have hl : ∀ u : WU, u.1.length = wa.length := fun u => u.2.trans hla.symm
  refine zcSi (ws := [] ++ (wa ++ wb)) S K hP hD hS hA hls cx hmc hms g hw hd (List.range' ([] : va_W).length wa.length) (md_nd _ _) (md_C wa [] wb) (fun u => by rw [List.length_range']; exact hl u) hn hst0 hro hf hlo hcs d (fun r u H1 locs1 hu hP1 hD1 hS1 => ?_)
  rw [rp_mid wa u.1 [] wb (hl u)] at hP1 hD1
  exact kk r u H1 locs1 hu hP1 hD1 hS1
theorem zsb {post : Int32 → WU × WU → Prop} {wa wb : va_W} (S : CallFix p m c cc nL s args Ts own) (K : gK G s) (hP : va_P (gD G) vwCl (wa ++ wb) H) (hD : va_D A (wa ++ wb)) (hS : va_S A H0 H locs) (hA : ∀ q, H0.size ≤ q → A q) (hls : ls.size = nL) (cx : CI l y wsy rm G As (wa ++ wb) 0 0 post (fun u : WU × WU => u.1.1 ++ u.2.1)) (hmc : rm.cells = 0) (hms : rm.slots = 0) (g : GoodIn Ts (va_wsS own index y wsy)) (hw : wsy = Cond.code y bytes maxL ret :: wsy') (hd : y.cls ≠ "java/lang/invoke/MethodHandle" ∧ y.cls ≠ "java/lang/invoke/VarHandle" ∧ (parseMethodDescriptor y.desc).map (fun d => d.parameters.length) = some n) (hla : wa.length = 59) (hlb : wb.length = 59) (hn : As.length = n) (hst0 : st0 = As.reverse ++ rest) (hro : (rest.map fun v => v.category).sum ≤ 8) (hf : rm.frames + 1 ≤ R.frames) (hlo : 8 + (maxL + 11) + rm.locals ≤ R.locals) (hcs : cells ≤ R.cells ∧ slots ≤ R.slots) (d : decode cc pc = .ok (.invokestatic index, 3))
    (kk : ∀ (r : Int32) (u : WU × WU) (H1 : Heap) (locs1 : List Loc), post r u → va_P (gD G) vwCl (u.1.1 ++ u.2.1) H1 → va_D A (u.1.1 ++ u.2.1) → va_S A H0 H1 locs1 → W p l e R s m args below meth c H1 locs1 cells slots Q (F0 m (pc + 3) ls (.int r :: rest))) : W p l e R s m args below meth c H locs cells slots Q (F0 m pc ls st0) := by
  have hl : ∀ u : WU × WU, (u.1.1 ++ u.2.1).length = (wa ++ wb).length := fun u => by rw [List.length_append, List.length_append, u.1.2, u.2.2, hla, hlb]
  have hP' : va_P (gD G) vwCl ([] ++ ((wa ++ wb) ++ [])) H := by rw [List.append_nil]; exact hP
  have hD' : va_D A ([] ++ ((wa ++ wb) ++ [])) := by rw [List.append_nil]; exact hD
  refine zcSi S K hP' hD' hS hA hls cx hmc hms g hw hd (List.range' ([] : va_W).length (wa ++ wb).length) (md_nd _ _) (md_C (wa ++ wb) [] []) (fun u => by rw [List.length_range']; exact hl u) hn hst0 hro hf hlo hcs d (fun r u H1 locs1 hu hP1 hD1 hS1 => ?_)
  rw [rp_mid (wa ++ wb) (u.1.1 ++ u.2.1) [] [] (hl u), List.append_nil] at hP1 hD1
  exact kk r u H1 locs1 hu hP1 hD1 hS1
/-! the script in a method's hands -/
def cPx (G : gT) (b L : Nat) (xs : Nat → Int32) (sz : Nat) : State → Prop := fun U => cP G [] sz U ∧ va_X b L xs U U.heap ∧ b < sz
theorem cPx_blind {b L : Nat} {xs : Nat → Int32} {av : List Value} {sz : Nat} : FrameBlind (va_Pc av (cPx G b L xs sz)) := fun a U g mk q => ⟨q.1, (cP_blind (av := av) a U g mk ⟨q.1, q.2.1⟩).2, va_X.moved (u := U) (U := U.calling g mk a) (Vm.Alike.refl U.vm) q.2.2.1, q.2.2.2⟩
def CX (l : Launch) (y : MethodName) (w : List Cond) (rm : Room) (G : gT) (av : List Value) (b L : Nat) (xs : Nat → Int32) (post : Int32 → Unit → Prop) : Prop :=
  ∀ sz : Nat, Met l y w rm (va_Pc av (cPx G b L xs sz)) (va_Qi post (cB G (va_A [] sz) (fun _ : Unit => [])) (va_A [] sz)) 0 0 (va_A [] sz)
theorem CX.of {w ws' : List Cond} {av : List Value} {post : Int32 → Unit → Prop} {lvl : List (Nat × Value)} {b L : Nat} {xs : Nat → Int32}
    (hy : plainName y.cls = true) (hw : w = Cond.code y cc maxL ret :: ws') (hn : (lg_sl av).length ≤ maxL) (hlv : lv_args 0 av = lvl)
    (body : ∀ (p : Program) (e : Env) (s : State) (m : MethodId) (args : Array Value) (below : List Frame) (meth : Method) (c : Code) (A : Nat → Prop), CallFix p m c cc maxL s args w y.cls → meth.sig.returnType = ret → meth.locks = false → va_X b L xs s s.heap → b < s.heap.size → ¬ A b → va_P (gD G) vwCl [] s.heap → va_D A [] → va_S A s.heap s.heap [] → ∀ ls : Array Slot, lv_has ls maxL lvl →
      W p l e rm s m args below meth c s.heap [] 0 0 (MQ below (va_Qi post (cB G A (fun _ : Unit => [])) A) args s 0 0 A) (F0 m 0 ls [])) : CX l y w rm G av b L xs post := by
  intro sz
  refine Met.ofW (cc := cc) (maxL := maxL) (ret := ret) hy hw ?_
  intro p e s m args below meth c s₁ B hml hv
  obtain ⟨rfl, ⟨hsz, hP, hK, hD0⟩, hX, hbl⟩ := hv
  subst hsz
  have hl := lv_entry av (n := maxL) hn
  rw [lg_entry_eq]
  rw [hlv] at hl
  exact body p e s m _ below meth c (va_A [] s.heap.size) ⟨B.exec, B.bytes, hml, findClass_of_methodNamed B.named, atoms_spec (ws := w) B.pre⟩ B.returns B.notSynchronized hX hbl (fun z => by
    rcases z with ⟨k, e, z⟩ | z
    · simp at z
    · omega) hP hD0.self va_S.rf _ hl
theorem zcX {post : Int32 → Unit → Prop} {ws : va_W} {b L : Nat} {xs : Nat → Int32} (S : CallFix p m c cc nL s args Ts own) (K : gK G s) (hX : va_X b L xs s H0) (hbl : b < H0.size) (hbA : ¬ A b) (hP : va_P (gD G) vwCl ws H) (hD : va_D A ws) (hS : va_S A H0 H locs) (hA : ∀ q, H0.size ≤ q → A q) (hls : ls.size = nL) (cx : CX l y wsy rm G As b L xs post) (hmc : rm.cells = 0) (hms : rm.slots = 0) (g : GoodIn Ts (va_wsS own index y wsy)) (hw : wsy = Cond.code y bytes maxL ret :: wsy') (hd : y.cls ≠ "java/lang/invoke/MethodHandle" ∧ y.cls ≠ "java/lang/invoke/VarHandle" ∧ (parseMethodDescriptor y.desc).map (fun d => d.parameters.length) = some n) (hn : As.length = n) (hst0 : st0 = As.reverse ++ rest) (hro : (rest.map fun v => v.category).sum ≤ 8) (hf : rm.frames + 1 ≤ R.frames) (hlo : 8 + (maxL + 11) + rm.locals ≤ R.locals) (hcs : cells ≤ R.cells ∧ slots ≤ R.slots) (d : decode cc pc = .ok (.invokestatic index, 3))
    (kk : ∀ (r : Int32) (H1 : Heap) (locs1 : List Loc), va_P (gD G) vwCl ws H1 → va_D A ws → va_S A H0 H1 locs1 → W p l e R s m args below meth c H1 locs1 cells slots Q (F0 m (pc + 3) ls (.int r :: rest))) : W p l e R s m args below meth c H locs cells slots Q (F0 m pc ls st0) := by
  have hC : ([] : List Nat).map (fun i => ws[i]?) = ([] : va_W).map some := rfl
  have hFc : ∀ q, va_A ([] : va_W) H.size q → A q := va_free hD hS hA [] hC
  have hXH : va_X b L xs s H := hX.kept (hS.2.1 b hbl hbA)
  refine va_calli (va_runS (As := As) (rest := rest) S (cx H.size) (va_cwS n S.2.2.2.2 g hw hmc hms hd ⟨hf, hlo⟩) ⟨cPx_blind, fun U hU hW => ⟨rfl, ⟨by rw [hU], by rw [hU]; exact z_part hP [] hC, K.warm hW, z_partD hD [] rfl hC⟩, by rw [hU]; exact hXH.moved hW.alike, by have := hS.1; omega⟩⟩ rfl hn hls hst0 (lv_room hro) d hcs) hS (fun q _ h => hFc q h) hFc (fun r u t H1 locs1 ht hvm hw1 hB hz1 hk1 hS1 => ?_)
  obtain ⟨hP1, hD1⟩ := hB
  rw [ht] at hP1
  obtain ⟨hP2, hD2⟩ := rp_ok (w1 := []) hP hD [] hC rfl hk1 hFc hP1 hD1
  exact kk r H1 locs1 hP2 hD2 hS1
end ZO
