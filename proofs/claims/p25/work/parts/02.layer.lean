/-! numbers -/
def nA (f : Nat → Nat) : Nat → Int32 := fun j => nI (f j)
def bN (b : Bool) : Nat := if b then 1 else 0
def dn : Nat → Int32
  | 0 => -1
  | k + 1 => nI k
def pu (f : Nat → Nat) (k x : Nat) : Nat → Nat := fun j => if j = k then x else f j
theorem pu_s {f : Nat → Nat} {k x : Nat} : pu f k x k = x := if_pos rfl
theorem pu_n {f : Nat → Nat} {k x j : Nat} (h : j ≠ k) : pu f k x j = f j := if_neg h
theorem nA_upd (f : Nat → Nat) (k x : Nat) : upd (nA f) k (nI x) = nA (pu f k x) := by
  funext j
  simp only [upd, nA, pu]
  split <;> rfl
theorem bN_le (b : Bool) : bN b ≤ 1 := by cases b <;> decide
theorem bN_t {p : Prop} [Decidable p] (h : p) : bN (decide p) = 1 := by simp [bN, h]
theorem bN_f {p : Prop} [Decidable p] (h : ¬ p) : bN (decide p) = 0 := by simp [bN, h]
theorem bN_31 (b : Bool) : bN b < 2147483648 := by cases b <;> decide
theorem bN_eq0 {b : Bool} (h : bN b = 0) : b = false := by cases b <;> simp_all [bN]
theorem bN_ne0 {b : Bool} (h : ¬ bN b = 0) : b = true := by cases b <;> simp_all [bN]
theorem bz_t {b : Bool} (h : b = true) : nI 1 = nI (bN b) := by rw [h]; rfl
theorem bz_f {b : Bool} (h : b = false) : nI 0 = nI (bN b) := by rw [h]; rfl
theorem dn_1 (k : Nat) : dn k + nI 1 = nI k := by
  cases k with
  | zero => decide +kernel
  | succ k => exact nI_1 k
theorem z_and (a b : Nat) : nI a &&& nI b = nI (a &&& b) := by
  apply Int32.toBitVec_inj.1
  show BitVec.ofNat 32 a &&& BitVec.ofNat 32 b = BitVec.ofNat 32 (a &&& b)
  apply BitVec.eq_of_getLsbD_eq
  intro i hi
  simp [hi]
theorem z_xor (a b : Nat) : nI a ^^^ nI b = nI (a ^^^ b) := by
  apply Int32.toBitVec_inj.1
  show BitVec.ofNat 32 a ^^^ BitVec.ofNat 32 b = BitVec.ofNat 32 (a ^^^ b)
  apply BitVec.eq_of_getLsbD_eq
  intro i hi
  simp [hi]
theorem z_or (a b : Nat) : nI a ||| nI b = nI (a ||| b) := by
  apply Int32.toBitVec_inj.1
  show BitVec.ofNat 32 a ||| BitVec.ofNat 32 b = BitVec.ofNat 32 (a ||| b)
  apply BitVec.eq_of_getLsbD_eq
  intro i hi
  simp [hi]
theorem z_cnt : ∀ n, n < 32 → ((nI n &&& 31).toBitVec.smod 32).toNat = n := by decide +kernel
theorem z_shr {a n : Nat} (ha : a < 2147483648) (hn : n < 32) : nI a >>> (nI n &&& 31) = nI (a >>> n) := by
  rw [pk_shrN ha _ n (z_cnt n hn), Nat.shiftRight_eq_div_pow]
theorem z_shl {a n : Nat} (hn : n < 32) : nI a <<< (nI n &&& 31) = nI (a <<< n) := by
  apply Int32.toBitVec_inj.mp
  apply BitVec.eq_of_toNat_eq
  rw [pk_shl _ _ n (z_cnt n hn)]
  show (BitVec.ofNat 32 a).toNat * 2 ^ n % 2 ^ 32 = (BitVec.ofNat 32 (a <<< n)).toNat
  rw [BitVec.toNat_ofNat, BitVec.toNat_ofNat, Nat.shiftLeft_eq, Nat.mod_mul_mod]
theorem z_i1 (k : Nat) : nI k + Int32.ofInt 1 = nI (k + 1) := nI_add k 1
theorem z_i3 (k : Nat) : nI k + Int32.ofInt 3 = nI (k + 3) := nI_add k 3
theorem z_im (k : Nat) : nI (k + 1) + Int32.ofInt (-1) = nI k := pk_m1 k
theorem z_im1 {k : Nat} (h : 0 < k) : nI k + Int32.ofInt (-1) = nI (k - 1) := by
  obtain ⟨j, rfl⟩ : ∃ j, k = j + 1 := ⟨k - 1, by omega⟩
  exact pk_m1 j
theorem z_imd (k : Nat) : nI k + Int32.ofInt (-1) = dn k := by
  cases k with
  | zero => decide +kernel
  | succ k => exact pk_m1 k
theorem z_subd (k : Nat) : nI k - nI 1 = dn k := by
  cases k with
  | zero => decide +kernel
  | succ k => exact nI_pred k
theorem dn_toInt {k : Nat} (h : k ≤ 2147483648) : (dn k).toInt = (k : Int) - 1 := by
  cases k with
  | zero => decide +kernel
  | succ k =>
    show (nI k).toInt = _
    rw [nI_toInt (by omega)]
    omega
theorem z_toInt {n : Nat} (h : n < 2147483648) : (nI n).toInt = (n : Int) := nI_toInt h
theorem z_eq {a b : Nat} (ha : a < 2147483648) (hb : b < 2147483648) : nI a = nI b ↔ a = b := nI_eq ha hb
theorem z_eq0 {a : Nat} (ha : a < 2147483648) : nI a = 0 ↔ a = 0 := by
  rw [← nI_0]
  exact nI_eq ha (by omega)
theorem z_in {i n : Nat} (h : i < n) (hn : n < 2147483648) : vp_in (nI i) n := vp_in_nI h hn
theorem z_cl {i : Nat} (h : i < 2147483648) : (nI i).toNatClampNeg = i := nI_clamp h
theorem z_of {x : Int32} (h : 0 ≤ x.toInt) : ∃ k : Nat, k < 2147483648 ∧ x = nI k ∧ x.toInt = (k : Int) := by
  obtain ⟨j, h1, h2⟩ := nI_of (x := x) (fun q => by
    rw [Int32.lt_iff_toInt_lt] at q
    have e : (0 : Int32).toInt = 0 := by decide
    omega)
  exact ⟨j, h1, h2, by rw [h2]; exact nI_toInt h1⟩
/-! the launch's words for private members of nest mates, the classes, the array classes: what every contract carries -/
abbrev gT : Type := (Nat → ClassId) × (Nat → Nat → Nat) × ClassId × ClassId × ClassId × ClassId
abbrev gD (G : gT) : va_G := (G.1, G.2.1)
abbrev gI (G : gT) : ClassId := G.2.2.1
abbrev gC (G : gT) : ClassId := G.2.2.2.1
abbrev gZ (G : gT) : ClassId := G.2.2.2.2.1
abbrev gO (G : gT) : ClassId := G.2.2.2.2.2
abbrev gY (G : gT) : List (ClassId × FieldType) := [(gI G, .int), (gC G, .char), (gZ G, .boolean), (gO G, .object RX3)]
def nwL : List Cond := [.methodLinkNest RX5 9 yX3_init RX5, .methodLinkNest RX5 18 yX4_init RX5, .methodLinkNest RX5 35 yX0_init RX5, .methodLinkNest RX5 42 yX2_init RX5, .methodLinkNest RX0 44 yX5_lowestBit RX5, .methodLinkNest RX0 56 yX5_parity RX5, .methodLinkNest RX1 17 yX3_init RX5, .methodLinkNest RX3 31 yX5_carry RX5, .methodLinkNest RX4 61 yX5_lowestBit RX5, .methodLinkNest RX4 77 yX5_parity RX5]
def gK (G : gT) (U : State) : Prop := va_K (gD G) vwCl (gY G) U ∧ ∀ w ∈ nwL, va_Nw w U
theorem nw_form : ∀ w ∈ nwL, ∃ a i x h, w = Cond.methodLinkNest a i x h := by
  intro w hw
  simp only [nwL, List.mem_cons, List.not_mem_nil, or_false] at hw
  rcases hw with h | h | h | h | h | h | h | h | h | h <;> exact ⟨_, _, _, _, h⟩
theorem gK.warm {G : gT} {s U : State} (hW : s.WarmedH U.vm) (h : gK G s) : gK G U := by
  refine ⟨va_K.moved hW.alike h.1, fun w hw => ?_⟩
  obtain ⟨a, i, x, z, rfl⟩ := nw_form w hw
  exact va_Nw.warmM hW (h.2 _ hw)
theorem gK.same {G : gT} {u U : State} (hv : u.vm = U.vm) (h : gK G u) : gK G U := by
  refine ⟨va_K.moved (u := u) (U := U) (by rw [hv]; exact Vm.Alike.refl _) h.1, fun w hw => ?_⟩
  obtain ⟨a, i, x, z, rfl⟩ := nw_form w hw
  exact va_Nw.same rfl hv (h.2 _ hw)
/-! contracts -/
def cP (G : gT) (ws : va_W) (sz : Nat) : State → Prop := fun U => U.heap.size = sz ∧ va_P (gD G) vwCl ws U.heap ∧ gK G U ∧ va_D (fun _ => True) ws
def cB {S : Type} (G : gT) (A : Nat → Prop) (wf : S → va_W) : S → State → Prop := fun u t => va_P (gD G) vwCl (wf u) t.heap ∧ va_D A (wf u)
theorem cP_blind {G : gT} {ws : va_W} {sz : Nat} {av : List Value} : FrameBlind (va_Pc av (cP G ws sz)) := fun _ U g mk q => ⟨q.1, q.2.1, q.2.2.1, gK.same (u := U) rfl q.2.2.2.1, q.2.2.2.2⟩
/-- a method with an int or boolean answer; mc cells of ms slots are made; wf: the world behind it -/
def CI {S : Type} (l : Launch) (y : MethodName) (w : List Cond) (rm : Room) (G : gT) (av : List Value) (ws : va_W) (mc ms : Nat) (post : Int32 → S → Prop) (wf : S → va_W) : Prop :=
  ∀ sz : Nat, Met l y w rm (va_Pc av (cP G ws sz)) (va_Qi post (cB G (va_A ws sz) wf) (va_A ws sz)) mc ms (va_A ws sz)
def CV {S : Type} (l : Launch) (y : MethodName) (w : List Cond) (rm : Room) (G : gT) (av : List Value) (ws : va_W) (mc ms : Nat) (post : S → Prop) (wf : S → va_W) : Prop :=
  ∀ sz : Nat, Met l y w rm (va_Pc av (cP G ws sz)) (va_Qv post (cB G (va_A ws sz) wf) (va_A ws sz)) mc ms (va_A ws sz)

theorem CI.of {S : Type} {l : Launch} {y : MethodName} {w ws' : List Cond} {rm : Room} {G : gT} {av : List Value} {ws : va_W} {mc ms : Nat} {post : Int32 → S → Prop} {wf : S → va_W} {cc : ByteArray} {maxL : Nat} {ret : Option FieldType} {lvl : List (Nat × Value)}
    (hy : plainName y.cls = true) (hw : w = Cond.code y cc maxL ret :: ws') (hn : (lg_sl av).length ≤ maxL) (hlv : lv_args 0 av = lvl)
    (body : ∀ (p : Program) (e : Env) (s : State) (m : MethodId) (args : Array Value) (below : List Frame) (meth : Method) (c : Code) (A : Nat → Prop), CallFix p m c cc maxL s args w y.cls → meth.sig.returnType = ret → meth.locks = false → meth.name = y.name → gK G s → (∀ q, s.heap.size ≤ q → A q) → va_P (gD G) vwCl ws s.heap → va_D A ws → va_S A s.heap s.heap [] → ∀ ls : Array Slot, lv_has ls maxL lvl →
      W p l e rm s m args below meth c s.heap [] 0 0 (MQ below (va_Qi post (cB G A wf) A) args s mc ms A) (F0 m 0 ls [])) : CI l y w rm G av ws mc ms post wf := by
  intro sz
  refine Met.ofW (cc := cc) (maxL := maxL) (ret := ret) hy hw ?_
  intro p e s m args below meth c s₁ B hml hv
  obtain ⟨rfl, hsz, hP, hK, hD0⟩ := hv
  subst hsz
  have hl := lv_entry av (n := maxL) hn
  rw [lg_entry_eq]
  rw [hlv] at hl
  exact body p e s m _ below meth c (va_A ws s.heap.size) ⟨B.exec, B.bytes, hml, findClass_of_methodNamed B.named, atoms_spec (ws := w) B.pre⟩ B.returns B.notSynchronized (name_of_methodNamed B.named B.method).1 hK (fun q h => Or.inr h) hP hD0.self va_S.rf _ hl

theorem CV.of {S : Type} {l : Launch} {y : MethodName} {w ws' : List Cond} {rm : Room} {G : gT} {av : List Value} {ws : va_W} {mc ms : Nat} {post : S → Prop} {wf : S → va_W} {cc : ByteArray} {maxL : Nat} {ret : Option FieldType} {lvl : List (Nat × Value)}
    (hy : plainName y.cls = true) (hw : w = Cond.code y cc maxL ret :: ws') (hn : (lg_sl av).length ≤ maxL) (hlv : lv_args 0 av = lvl)
    (body : ∀ (p : Program) (e : Env) (s : State) (m : MethodId) (args : Array Value) (below : List Frame) (meth : Method) (c : Code) (A : Nat → Prop), CallFix p m c cc maxL s args w y.cls → meth.sig.returnType = ret → meth.locks = false → meth.name = y.name → gK G s → (∀ q, s.heap.size ≤ q → A q) → va_P (gD G) vwCl ws s.heap → va_D A ws → va_S A s.heap s.heap [] → ∀ ls : Array Slot, lv_has ls maxL lvl →
      W p l e rm s m args below meth c s.heap [] 0 0 (MQ below (va_Qv post (cB G A wf) A) args s mc ms A) (F0 m 0 ls [])) : CV l y w rm G av ws mc ms post wf := by
  intro sz
  refine Met.ofW (cc := cc) (maxL := maxL) (ret := ret) hy hw ?_
  intro p e s m args below meth c s₁ B hml hv
  obtain ⟨rfl, hsz, hP, hK, hD0⟩ := hv
  subst hsz
  have hl := lv_entry av (n := maxL) hn
  rw [lg_entry_eq]
  rw [hlv] at hl
  exact body p e s m _ below meth c (va_A ws s.heap.size) ⟨B.exec, B.bytes, hml, findClass_of_methodNamed B.named, atoms_spec (ws := w) B.pre⟩ B.returns B.notSynchronized (name_of_methodNamed B.named B.method).1 hK (fun q h => Or.inr h) hP hD0.self va_S.rf _ hl

/-- another post, the same world -/
theorem CI.mono {S S' : Type} {l : Launch} {y : MethodName} {w : List Cond} {rm : Room} {G : gT} {av : List Value} {ws : va_W} {mc ms : Nat} {post : Int32 → S → Prop} {wf : S → va_W} {post' : Int32 → S' → Prop} {wf' : S' → va_W} (h : CI l y w rm G av ws mc ms post wf) (hq : ∀ r u, post r u → ∃ u', post' r u' ∧ wf' u' = wf u) : CI l y w rm G av ws mc ms post' wf' := by
  intro sz p e ha hc hk s m args below hf happ hpre hcl
  obtain ⟨k, o, h1, h2, h3, ⟨⟨⟨r, u, ho, hp, hb⟩, hF⟩, hL⟩⟩ := h sz p e ha hc hk s m args below hf happ hpre hcl
  obtain ⟨u', hp', he⟩ := hq r u hp
  exact ⟨k, o, h1, h2, h3, ⟨⟨r, u', ho, hp', by unfold cB at hb ⊢; rw [he]; exact hb⟩, hF⟩, hL⟩
theorem CV.mono {S S' : Type} {l : Launch} {y : MethodName} {w : List Cond} {rm : Room} {G : gT} {av : List Value} {ws : va_W} {mc ms : Nat} {post : S → Prop} {wf : S → va_W} {post' : S' → Prop} {wf' : S' → va_W} (h : CV l y w rm G av ws mc ms post wf) (hq : ∀ u, post u → ∃ u', post' u' ∧ wf' u' = wf u) : CV l y w rm G av ws mc ms post' wf' := by
  intro sz p e ha hc hk s m args below hf happ hpre hcl
  obtain ⟨k, o, h1, h2, h3, ⟨⟨⟨u, ho, hp, hb⟩, hF⟩, hL⟩⟩ := h sz p e ha hc hk s m args below hf happ hpre hcl
  obtain ⟨u', hp', he⟩ := hq u hp
  exact ⟨k, o, h1, h2, h3, ⟨⟨u', ho, hp', by unfold cB at hb ⊢; rw [he]; exact hb⟩, hF⟩, hL⟩
/-! a world with some cells put anew, in place -/
def rp : va_W → List Nat → va_W → va_W
  | ws, i :: is, e :: es => rp (ws.set i e) is es
  | ws, _, _ => ws
theorem rp_get : ∀ (is : List Nat) (es ws : va_W) (k : Nat) (q : Nat × va_E), es.length = is.length → (rp ws is es)[k]? = some q → (∃ t : Nat, is[t]? = some k ∧ es[t]? = some q) ∨ (k ∉ is ∧ ws[k]? = some q)
  | [], es, ws, k, q, _, h => by
    cases es <;> exact Or.inr ⟨List.not_mem_nil, h⟩
  | i :: is, [], ws, k, q, hl, h => by simp at hl
  | i :: is, e :: es, ws, k, q, hl, h => by
    rcases rp_get is es (ws.set i e) k q (by simpa using hl) h with ⟨t, h1, h2⟩ | ⟨h1, h2⟩
    · exact Or.inl ⟨t + 1, h1, h2⟩
    · by_cases hk : k = i
      · subst hk
        have hlt : k < ws.length := by
          have := (List.getElem?_eq_some_iff.mp h2).1
          simpa using this
        rw [List.getElem?_set_self hlt] at h2
        exact Or.inl ⟨0, rfl, h2⟩
      · rw [List.getElem?_set_ne (Ne.symm hk)] at h2
        exact Or.inr ⟨fun z => (List.mem_cons.mp z).elim hk h1, h2⟩
theorem rp_ok {A0 : Nat → Prop} {D : va_G} {cl : List vw_C} {ws wc w1 : va_W} {H H1 : Heap} (hP : va_P D cl ws H) (hD : va_D A0 ws) (is : List Nat) (hC : is.map (fun i => ws[i]?) = wc.map some) (hl : w1.length = is.length)
    (hk : ∀ q : Nat, q < H.size → ¬ va_A wc H.size q → H1[q]? = H[q]?) (hF : ∀ q, va_A wc H.size q → A0 q) (hP1 : va_P D cl w1 H1) (hD1 : va_D (va_A wc H.size) w1) : va_P D cl (rp ws is w1) H1 ∧ va_D A0 (rp ws is w1) := by
  have at' : ∀ (k : Nat) (q : Nat × va_E), wc[k]? = some q → ∃ i, is[k]? = some i ∧ ws[i]? = some q := by
    intro k q hq
    have h1 : (is.map (fun i => ws[i]?))[k]? = some (some q) := by rw [hC, List.getElem?_map, hq]; rfl
    rw [List.getElem?_map] at h1
    cases hi : is[k]? with
    | none => rw [hi] at h1; cases h1
    | some i => rw [hi] at h1; exact ⟨i, rfl, Option.some.inj h1⟩
  have apart : ∀ (k : Nat) (q : Nat × va_E), k ∉ is → ws[k]? = some q → q.1 < H.size ∧ ¬ va_A wc H.size q.1 := by
    intro k q hn hq
    have hlt := (hP k q hq).lt
    refine ⟨hlt, fun h => ?_⟩
    rcases h with ⟨k2, e, h⟩ | h
    · obtain ⟨j, h3, h4⟩ := at' k2 (q.1, e) h
      have hij := hD.1 k j q (q.1, e) hq h4 rfl
      subst hij
      exact hn (List.mem_of_getElem? h3)
    · omega
  refine ⟨fun k q hq => ?_, fun i j x y hx hy hxy => ?_, fun k q hq => ?_⟩
  · rcases rp_get is w1 ws k q hl hq with ⟨t, h1, h2⟩ | ⟨h1, h2⟩
    · exact hP1 t q h2
    · obtain ⟨g1, g2⟩ := apart k q h1 h2
      exact (hP k q h2).kept (hk q.1 g1 g2)
  · rcases rp_get is w1 ws i x hl hx with ⟨t, h1, h2⟩ | ⟨h1, h2⟩ <;> rcases rp_get is w1 ws j y hl hy with ⟨u, h3, h4⟩ | ⟨h3, h4⟩
    · have := hD1.1 t u x y h2 h4 hxy
      subst this
      exact Option.some.inj (h1.symm.trans h3)
    · exact absurd (by rw [← hxy]; exact hD1.2 t x h2) (apart j y h3 h4).2
    · exact absurd (by rw [hxy]; exact hD1.2 u y h4) (apart i x h1 h2).2
    · exact hD.1 i j x y h2 h4 hxy
  · rcases rp_get is w1 ws k q hl hq with ⟨t, h1, h2⟩ | ⟨h1, h2⟩
    · exact hF _ (hD1.2 t q h2)
    · exact hD.2 k q h2
theorem z_part {D : va_G} {cl : List vw_C} {ws wc : va_W} {H : Heap} (hP : va_P D cl ws H) (is : List Nat) (hC : is.map (fun i => ws[i]?) = wc.map some) : va_P D cl wc H := by
  intro k q hq
  have h1 : (is.map (fun i => ws[i]?))[k]? = some (some q) := by rw [hC, List.getElem?_map, hq]; rfl
  rw [List.getElem?_map] at h1
  cases hi : is[k]? with
  | none => rw [hi] at h1; cases h1
  | some i => rw [hi] at h1; exact hP i q (Option.some.inj h1)
theorem z_partD {A : Nat → Prop} {ws wc : va_W} (hD : va_D A ws) (is : List Nat) (hn : va_nd is = true) (hC : is.map (fun i => ws[i]?) = wc.map some) : va_D (fun _ => True) wc := (hD.sub is hn hC).weaken (fun _ _ _ _ => trivial)
/-- an array's cell holds its n places alone -/
theorem z_arr {D : va_G} {cl : List vw_C} {a n : Nat} {cA : ClassId} {f g : Nat → Int32} {H : Heap} (h : va_at D cl (a, .inl (cA, n, .inl f)) H) (hfg : ∀ j, j < n → f j = g j) : va_at D cl (a, .inl (cA, n, .inl g)) H := by
  show H[a]? = some (vp_cell cA (n, .inl g))
  have e : vp_cell cA (n, .inl g) = vp_cell cA (n, .inl f) := by
    rw [vp_cell_i, vp_cell_i]
    have hf : (fun j : Fin n => Value.int (g j.val)) = fun j : Fin n => Value.int (f j.val) := funext fun j => by rw [hfg j.val j.isLt]
    show ({ cls := cA, slots := Array.ofFn (n := n) (fun j => Value.int (g j.val)), vm := .none } : Cell) = { cls := cA, slots := Array.ofFn (n := n) (fun j => Value.int (f j.val)), vm := .none }
    rw [hf]
  rw [e]
  exact h
theorem z_arrP {D : va_G} {cl : List vw_C} {A : Nat → Prop} {ws : va_W} {a n k : Nat} {cA : ClassId} {f : Nat → Int32} {H : Heap} (hP : va_P D cl ws H) (hD : va_D A ws) (hk : ws[k]? = some (a, .inl (cA, n, .inl f))) (g : Nat → Int32) (hfg : ∀ j, j < n → f j = g j) : va_P D cl (ws.set k (a, .inl (cA, n, .inl g))) H ∧ va_D A (ws.set k (a, .inl (cA, n, .inl g))) := ⟨hP.set hD hk (z_arr (hP k _ hk) hfg) (fun _ _ => rfl), hD.set hk⟩

theorem z_nc {x : Nat} (hx : x < 65536) : vp_nar .char (nI x) = nI x := by
  have h := (pk_charN hx).1
  unfold vp_nar
  rw [h]
theorem z_nz0 : vp_nar .boolean (nI 0) = nI 0 := by decide +kernel
theorem z_nz1 : vp_nar .boolean (nI 1) = nI 1 := by decide +kernel
theorem z_i2c {x : Nat} (hx : x < 65536) : ((nI x).toUInt32 % 65536).toInt32 = nI x := by
  rw [pk_char, pk_tn (by omega), Nat.mod_eq_of_lt hx]
section ZL
variable {p : Program} {l : Launch} {e : Env} {R : Room} {s : State} {m : MethodId} {args : Array Value} {below : List Frame} {meth : Method} {c : Code} {H : Heap} {locs : List Loc} {cells slots : Nat} {Q : State → Prop}
variable {cc : ByteArray} {nL : Nat} {Ts : List Cond} {own : String} {pc : Nat} {ls : Array Slot} {rest : List Value}
theorem z_top {x y : Int32} (h : x = y) (k : W p l e R s m args below meth c H locs cells slots Q (F0 m pc ls (.int y :: rest))) : W p l e R s m args below meth c H locs cells slots Q (F0 m pc ls (.int x :: rest)) := by rw [h]; exact k
theorem z_topl {x y : Int64} (h : x = y) (k : W p l e R s m args below meth c H locs cells slots Q (F0 m pc ls (.long y :: rest))) : W p l e R s m args below meth c H locs cells slots Q (F0 m pc ls (.long x :: rest)) := by rw [h]; exact k
theorem zi_add (S : CallFix p m c cc nL s args Ts own) {a b : Nat} (d : decode cc pc = .ok (.iadd, 1)) (k : W p l e R s m args below meth c H locs cells slots Q (F0 m (pc + 1) ls (.int (nI (a + b)) :: rest))) : W p l e R s m args below meth c H locs cells slots Q (F0 m pc ls (.int (nI b) :: .int (nI a) :: rest)) := lv_iadd S.1 S.2.1 d (z_top (nI_add a b) k)
theorem zi_mul (S : CallFix p m c cc nL s args Ts own) {a b : Nat} (d : decode cc pc = .ok (.imul, 1)) (k : W p l e R s m args below meth c H locs cells slots Q (F0 m (pc + 1) ls (.int (nI (a * b)) :: rest))) : W p l e R s m args below meth c H locs cells slots Q (F0 m pc ls (.int (nI b) :: .int (nI a) :: rest)) := lv_imul S.1 S.2.1 d (z_top (pk_mul a b) k)
theorem zi_sub (S : CallFix p m c cc nL s args Ts own) {a b : Nat} (d : decode cc pc = .ok (.isub, 1)) (h : b ≤ a) (k : W p l e R s m args below meth c H locs cells slots Q (F0 m (pc + 1) ls (.int (nI (a - b)) :: rest))) : W p l e R s m args below meth c H locs cells slots Q (F0 m pc ls (.int (nI b) :: .int (nI a) :: rest)) := lv_isub S.1 S.2.1 d (z_top (pk_sub h) k)
theorem zi_and (S : CallFix p m c cc nL s args Ts own) {a b : Nat} (d : decode cc pc = .ok (.iand, 1)) (k : W p l e R s m args below meth c H locs cells slots Q (F0 m (pc + 1) ls (.int (nI (a &&& b)) :: rest))) : W p l e R s m args below meth c H locs cells slots Q (F0 m pc ls (.int (nI b) :: .int (nI a) :: rest)) := lv_iand S.1 S.2.1 d (z_top (z_and a b) k)
theorem zi_or (S : CallFix p m c cc nL s args Ts own) {a b : Nat} (d : decode cc pc = .ok (.ior, 1)) (k : W p l e R s m args below meth c H locs cells slots Q (F0 m (pc + 1) ls (.int (nI (a ||| b)) :: rest))) : W p l e R s m args below meth c H locs cells slots Q (F0 m pc ls (.int (nI b) :: .int (nI a) :: rest)) := lv_ior S.1 S.2.1 d (z_top (z_or a b) k)
theorem zi_xor (S : CallFix p m c cc nL s args Ts own) {a b : Nat} (d : decode cc pc = .ok (.ixor, 1)) (k : W p l e R s m args below meth c H locs cells slots Q (F0 m (pc + 1) ls (.int (nI (a ^^^ b)) :: rest))) : W p l e R s m args below meth c H locs cells slots Q (F0 m pc ls (.int (nI b) :: .int (nI a) :: rest)) := lv_ixor S.1 S.2.1 d (z_top (z_xor a b) k)
theorem zi_shl (S : CallFix p m c cc nL s args Ts own) {a b : Nat} (d : decode cc pc = .ok (.ishl, 1)) (h : b < 32) (k : W p l e R s m args below meth c H locs cells slots Q (F0 m (pc + 1) ls (.int (nI (a <<< b)) :: rest))) : W p l e R s m args below meth c H locs cells slots Q (F0 m pc ls (.int (nI b) :: .int (nI a) :: rest)) := lv_ishl S.1 S.2.1 d (z_top (z_shl h) k)
theorem zi_shr (S : CallFix p m c cc nL s args Ts own) {a b : Nat} (d : decode cc pc = .ok (.ishr, 1)) (ha : a < 2147483648) (h : b < 32) (k : W p l e R s m args below meth c H locs cells slots Q (F0 m (pc + 1) ls (.int (nI (a >>> b)) :: rest))) : W p l e R s m args below meth c H locs cells slots Q (F0 m pc ls (.int (nI b) :: .int (nI a) :: rest)) := lv_ishr S.1 S.2.1 d (z_top (z_shr ha h) k)
theorem zi_rem (S : CallFix p m c cc nL s args Ts own) {a b : Nat} (d : decode cc pc = .ok (.irem, 1)) (ha : a < 2147483648) (h0 : 0 < b) (hb : b < 2147483648) (k : W p l e R s m args below meth c H locs cells slots Q (F0 m (pc + 1) ls (.int (nI (a % b)) :: rest))) : W p l e R s m args below meth c H locs cells slots Q (F0 m pc ls (.int (nI b) :: .int (nI a) :: rest)) := lv_irem S.1 S.2.1 d (fun q => by have := (z_eq0 hb).mp q; omega) (z_top (pk_rem ha h0 hb) k)
theorem zb_eq (S : CallFix p m c cc nL s args Ts own) {a b : Nat} {off : Int} {tgt : Nat} (d : decode cc pc = .ok (.if_icmp .eq off, 3)) (ht : (pc : Int) + off = (tgt : Int)) (ha : a < 2147483648) (hb : b < 2147483648) (kt : a = b → W p l e R s m args below meth c H locs cells slots Q (F0 m tgt ls (rest))) (kf : ¬ a = b → W p l e R s m args below meth c H locs cells slots Q (F0 m (pc + 3) ls (rest))) : W p l e R s m args below meth c H locs cells slots Q (F0 m pc ls (.int (nI b) :: .int (nI a) :: rest)) := lv_icmp_eq S.1 S.2.1 d ht (fun q => kt (by first | exact (z_eq ha hb).mp q | exact (by have := Int32.not_lt.mp q; exact (nI_leI hb ha).mp this) | exact (by have := Int32.not_le.mp q; exact (nI_ltI hb ha).mp this))) (fun q => kf (by first | exact fun z => q ((z_eq ha hb).mpr z) | exact (by have := Int32.not_lt.mp q; exact (nI_leI hb ha).mp this) | exact (by have := Int32.not_le.mp q; exact (nI_ltI ha hb).mp this)))
theorem zb_ne (S : CallFix p m c cc nL s args Ts own) {a b : Nat} {off : Int} {tgt : Nat} (d : decode cc pc = .ok (.if_icmp .ne off, 3)) (ht : (pc : Int) + off = (tgt : Int)) (ha : a < 2147483648) (hb : b < 2147483648) (kt : ¬ a = b → W p l e R s m args below meth c H locs cells slots Q (F0 m tgt ls (rest))) (kf : a = b → W p l e R s m args below meth c H locs cells slots Q (F0 m (pc + 3) ls (rest))) : W p l e R s m args below meth c H locs cells slots Q (F0 m pc ls (.int (nI b) :: .int (nI a) :: rest)) := lv_icmp_ne S.1 S.2.1 d ht (fun q => kt (by first | exact fun z => q ((z_eq ha hb).mpr z) | exact (by have := Int32.not_lt.mp q; exact (nI_leI hb ha).mp this) | exact (by have := Int32.not_le.mp q; exact (nI_ltI hb ha).mp this))) (fun q => kf (by first | exact (z_eq ha hb).mp q | exact (by have := Int32.not_lt.mp q; exact (nI_leI hb ha).mp this) | exact (by have := Int32.not_le.mp q; exact (nI_ltI ha hb).mp this)))
theorem zb_lt (S : CallFix p m c cc nL s args Ts own) {a b : Nat} {off : Int} {tgt : Nat} (d : decode cc pc = .ok (.if_icmp .lt off, 3)) (ht : (pc : Int) + off = (tgt : Int)) (ha : a < 2147483648) (hb : b < 2147483648) (kt : a < b → W p l e R s m args below meth c H locs cells slots Q (F0 m tgt ls (rest))) (kf : b ≤ a → W p l e R s m args below meth c H locs cells slots Q (F0 m (pc + 3) ls (rest))) : W p l e R s m args below meth c H locs cells slots Q (F0 m pc ls (.int (nI b) :: .int (nI a) :: rest)) := lv_icmp_lt S.1 S.2.1 d ht (fun q => kt (by first | exact (nI_ltI ha hb).mp q | exact (by have := Int32.not_lt.mp q; exact (nI_leI hb ha).mp this) | exact (by have := Int32.not_le.mp q; exact (nI_ltI hb ha).mp this))) (fun q => kf (by first | exact Nat.not_lt.mp (fun z => q ((nI_ltI ha hb).mpr z)) | exact (by have := Int32.not_lt.mp q; exact (nI_leI hb ha).mp this) | exact (by have := Int32.not_le.mp q; exact (nI_ltI ha hb).mp this)))
theorem zb_ge (S : CallFix p m c cc nL s args Ts own) {a b : Nat} {off : Int} {tgt : Nat} (d : decode cc pc = .ok (.if_icmp .ge off, 3)) (ht : (pc : Int) + off = (tgt : Int)) (ha : a < 2147483648) (hb : b < 2147483648) (kt : b ≤ a → W p l e R s m args below meth c H locs cells slots Q (F0 m tgt ls (rest))) (kf : a < b → W p l e R s m args below meth c H locs cells slots Q (F0 m (pc + 3) ls (rest))) : W p l e R s m args below meth c H locs cells slots Q (F0 m pc ls (.int (nI b) :: .int (nI a) :: rest)) := lv_icmp_ge S.1 S.2.1 d ht (fun q => kt (by first | exact (nI_leI hb ha).mp q | exact (by have := Int32.not_lt.mp q; exact (nI_leI hb ha).mp this) | exact (by have := Int32.not_le.mp q; exact (nI_ltI hb ha).mp this))) (fun q => kf (by first | exact Nat.not_le.mp (fun z => q ((nI_leI hb ha).mpr z)) | exact (by have := Int32.not_lt.mp q; exact (nI_leI hb ha).mp this) | exact (by have := Int32.not_le.mp q; exact (nI_ltI ha hb).mp this)))
theorem zb_gt (S : CallFix p m c cc nL s args Ts own) {a b : Nat} {off : Int} {tgt : Nat} (d : decode cc pc = .ok (.if_icmp .gt off, 3)) (ht : (pc : Int) + off = (tgt : Int)) (ha : a < 2147483648) (hb : b < 2147483648) (kt : b < a → W p l e R s m args below meth c H locs cells slots Q (F0 m tgt ls (rest))) (kf : a ≤ b → W p l e R s m args below meth c H locs cells slots Q (F0 m (pc + 3) ls (rest))) : W p l e R s m args below meth c H locs cells slots Q (F0 m pc ls (.int (nI b) :: .int (nI a) :: rest)) := lv_icmp_gt S.1 S.2.1 d ht (fun q => kt (by first | exact (nI_ltI hb ha).mp q | exact (by have := Int32.not_lt.mp q; exact (nI_leI hb ha).mp this) | exact (by have := Int32.not_le.mp q; exact (nI_ltI hb ha).mp this))) (fun q => kf (by first | exact Nat.not_lt.mp (fun z => q ((nI_ltI hb ha).mpr z)) | exact (by have := Int32.not_lt.mp q; exact (nI_leI hb ha).mp this) | exact (by have := Int32.not_le.mp q; exact (nI_ltI ha hb).mp this)))
theorem zb_le (S : CallFix p m c cc nL s args Ts own) {a b : Nat} {off : Int} {tgt : Nat} (d : decode cc pc = .ok (.if_icmp .le off, 3)) (ht : (pc : Int) + off = (tgt : Int)) (ha : a < 2147483648) (hb : b < 2147483648) (kt : a ≤ b → W p l e R s m args below meth c H locs cells slots Q (F0 m tgt ls (rest))) (kf : b < a → W p l e R s m args below meth c H locs cells slots Q (F0 m (pc + 3) ls (rest))) : W p l e R s m args below meth c H locs cells slots Q (F0 m pc ls (.int (nI b) :: .int (nI a) :: rest)) := lv_icmp_le S.1 S.2.1 d ht (fun q => kt (by first | exact (nI_leI ha hb).mp q | exact (by have := Int32.not_lt.mp q; exact (nI_leI hb ha).mp this) | exact (by have := Int32.not_le.mp q; exact (nI_ltI hb ha).mp this))) (fun q => kf (by first | exact Nat.not_le.mp (fun z => q ((nI_leI ha hb).mpr z)) | exact (by have := Int32.not_lt.mp q; exact (nI_leI hb ha).mp this) | exact (by have := Int32.not_le.mp q; exact (nI_ltI ha hb).mp this)))
theorem zf_eq (S : CallFix p m c cc nL s args Ts own) {a : Nat} {off : Int} {tgt : Nat} (d : decode cc pc = .ok (.ifCond .eq off, 3)) (ht : (pc : Int) + off = (tgt : Int)) (ha : a < 2147483648) (kt : a = 0 → W p l e R s m args below meth c H locs cells slots Q (F0 m tgt ls (rest))) (kf : ¬ a = 0 → W p l e R s m args below meth c H locs cells slots Q (F0 m (pc + 3) ls (rest))) : W p l e R s m args below meth c H locs cells slots Q (F0 m pc ls (.int (nI a) :: rest)) := lv_if_eq S.1 S.2.1 d ht (fun q => kt ((z_eq0 ha).mp q)) (fun q => kf (fun z => q ((z_eq0 ha).mpr z)))
theorem zf_ne (S : CallFix p m c cc nL s args Ts own) {a : Nat} {off : Int} {tgt : Nat} (d : decode cc pc = .ok (.ifCond .ne off, 3)) (ht : (pc : Int) + off = (tgt : Int)) (ha : a < 2147483648) (kt : ¬ a = 0 → W p l e R s m args below meth c H locs cells slots Q (F0 m tgt ls (rest))) (kf : a = 0 → W p l e R s m args below meth c H locs cells slots Q (F0 m (pc + 3) ls (rest))) : W p l e R s m args below meth c H locs cells slots Q (F0 m pc ls (.int (nI a) :: rest)) := lv_if_ne S.1 S.2.1 d ht (fun q => kt (fun z => q ((z_eq0 ha).mpr z))) (fun q => kf ((z_eq0 ha).mp q))
theorem zr_eq (S : CallFix p m c cc nL s args Ts own) {x y : Int32} {X Y : Int} {off : Int} {tgt : Nat} (d : decode cc pc = .ok (.if_icmp .eq off, 3)) (ht : (pc : Int) + off = (tgt : Int)) (ha : x.toInt = X) (hb : y.toInt = Y) (kt : X = Y → W p l e R s m args below meth c H locs cells slots Q (F0 m tgt ls (rest))) (kf : ¬ X = Y → W p l e R s m args below meth c H locs cells slots Q (F0 m (pc + 3) ls (rest))) : W p l e R s m args below meth c H locs cells slots Q (F0 m pc ls (.int y :: .int x :: rest)) := lv_icmp_eq S.1 S.2.1 d ht (fun q => kt (by rw [← ha, ← hb]; exact Int32.toInt_inj.mpr q)) (fun q => kf (fun z => q (Int32.toInt_inj.mp (by rw [ha, hb]; exact z))))
theorem zr_ne (S : CallFix p m c cc nL s args Ts own) {x y : Int32} {X Y : Int} {off : Int} {tgt : Nat} (d : decode cc pc = .ok (.if_icmp .ne off, 3)) (ht : (pc : Int) + off = (tgt : Int)) (ha : x.toInt = X) (hb : y.toInt = Y) (kt : ¬ X = Y → W p l e R s m args below meth c H locs cells slots Q (F0 m tgt ls (rest))) (kf : X = Y → W p l e R s m args below meth c H locs cells slots Q (F0 m (pc + 3) ls (rest))) : W p l e R s m args below meth c H locs cells slots Q (F0 m pc ls (.int y :: .int x :: rest)) := lv_icmp_ne S.1 S.2.1 d ht (fun q => kt (fun z => q (Int32.toInt_inj.mp (by rw [ha, hb]; exact z)))) (fun q => kf (by rw [← ha, ← hb]; exact Int32.toInt_inj.mpr q))
theorem zr_lt (S : CallFix p m c cc nL s args Ts own) {x y : Int32} {X Y : Int} {off : Int} {tgt : Nat} (d : decode cc pc = .ok (.if_icmp .lt off, 3)) (ht : (pc : Int) + off = (tgt : Int)) (ha : x.toInt = X) (hb : y.toInt = Y) (kt : X < Y → W p l e R s m args below meth c H locs cells slots Q (F0 m tgt ls (rest))) (kf : Y ≤ X → W p l e R s m args below meth c H locs cells slots Q (F0 m (pc + 3) ls (rest))) : W p l e R s m args below meth c H locs cells slots Q (F0 m pc ls (.int y :: .int x :: rest)) := lv_icmp_lt S.1 S.2.1 d ht (fun q => kt (by have q2 := q; simp only [Int32.lt_iff_toInt_lt, Int32.le_iff_toInt_le, GE.ge, GT.gt, ha, hb] at q2; omega)) (fun q => kf (by have q2 := q; simp only [Int32.lt_iff_toInt_lt, Int32.le_iff_toInt_le, GE.ge, GT.gt, ha, hb] at q2; omega))
theorem zr_ge (S : CallFix p m c cc nL s args Ts own) {x y : Int32} {X Y : Int} {off : Int} {tgt : Nat} (d : decode cc pc = .ok (.if_icmp .ge off, 3)) (ht : (pc : Int) + off = (tgt : Int)) (ha : x.toInt = X) (hb : y.toInt = Y) (kt : Y ≤ X → W p l e R s m args below meth c H locs cells slots Q (F0 m tgt ls (rest))) (kf : X < Y → W p l e R s m args below meth c H locs cells slots Q (F0 m (pc + 3) ls (rest))) : W p l e R s m args below meth c H locs cells slots Q (F0 m pc ls (.int y :: .int x :: rest)) := lv_icmp_ge S.1 S.2.1 d ht (fun q => kt (by have q2 := q; simp only [Int32.lt_iff_toInt_lt, Int32.le_iff_toInt_le, GE.ge, GT.gt, ha, hb] at q2; omega)) (fun q => kf (by have q2 := q; simp only [Int32.lt_iff_toInt_lt, Int32.le_iff_toInt_le, GE.ge, GT.gt, ha, hb] at q2; omega))
theorem zr_gt (S : CallFix p m c cc nL s args Ts own) {x y : Int32} {X Y : Int} {off : Int} {tgt : Nat} (d : decode cc pc = .ok (.if_icmp .gt off, 3)) (ht : (pc : Int) + off = (tgt : Int)) (ha : x.toInt = X) (hb : y.toInt = Y) (kt : Y < X → W p l e R s m args below meth c H locs cells slots Q (F0 m tgt ls (rest))) (kf : X ≤ Y → W p l e R s m args below meth c H locs cells slots Q (F0 m (pc + 3) ls (rest))) : W p l e R s m args below meth c H locs cells slots Q (F0 m pc ls (.int y :: .int x :: rest)) := lv_icmp_gt S.1 S.2.1 d ht (fun q => kt (by have q2 := q; simp only [Int32.lt_iff_toInt_lt, Int32.le_iff_toInt_le, GE.ge, GT.gt, ha, hb] at q2; omega)) (fun q => kf (by have q2 := q; simp only [Int32.lt_iff_toInt_lt, Int32.le_iff_toInt_le, GE.ge, GT.gt, ha, hb] at q2; omega))
theorem zr_le (S : CallFix p m c cc nL s args Ts own) {x y : Int32} {X Y : Int} {off : Int} {tgt : Nat} (d : decode cc pc = .ok (.if_icmp .le off, 3)) (ht : (pc : Int) + off = (tgt : Int)) (ha : x.toInt = X) (hb : y.toInt = Y) (kt : X ≤ Y → W p l e R s m args below meth c H locs cells slots Q (F0 m tgt ls (rest))) (kf : Y < X → W p l e R s m args below meth c H locs cells slots Q (F0 m (pc + 3) ls (rest))) : W p l e R s m args below meth c H locs cells slots Q (F0 m pc ls (.int y :: .int x :: rest)) := lv_icmp_le S.1 S.2.1 d ht (fun q => kt (by have q2 := q; simp only [Int32.lt_iff_toInt_lt, Int32.le_iff_toInt_le, GE.ge, GT.gt, ha, hb] at q2; omega)) (fun q => kf (by have q2 := q; simp only [Int32.lt_iff_toInt_lt, Int32.le_iff_toInt_le, GE.ge, GT.gt, ha, hb] at q2; omega))
theorem zq_eq (S : CallFix p m c cc nL s args Ts own) {x : Int32} {X : Int} {off : Int} {tgt : Nat} (d : decode cc pc = .ok (.ifCond .eq off, 3)) (ht : (pc : Int) + off = (tgt : Int)) (ha : x.toInt = X) (kt : X = 0 → W p l e R s m args below meth c H locs cells slots Q (F0 m tgt ls (rest))) (kf : ¬ X = 0 → W p l e R s m args below meth c H locs cells slots Q (F0 m (pc + 3) ls (rest))) : W p l e R s m args below meth c H locs cells slots Q (F0 m pc ls (.int x :: rest)) := lv_if_eq S.1 S.2.1 d ht (fun q => kt (by rw [← ha]; exact Int32.toInt_inj.mpr q)) (fun q => kf (fun z => q (Int32.toInt_inj.mp (by rw [ha]; exact z))))
theorem zq_ne (S : CallFix p m c cc nL s args Ts own) {x : Int32} {X : Int} {off : Int} {tgt : Nat} (d : decode cc pc = .ok (.ifCond .ne off, 3)) (ht : (pc : Int) + off = (tgt : Int)) (ha : x.toInt = X) (kt : ¬ X = 0 → W p l e R s m args below meth c H locs cells slots Q (F0 m tgt ls (rest))) (kf : X = 0 → W p l e R s m args below meth c H locs cells slots Q (F0 m (pc + 3) ls (rest))) : W p l e R s m args below meth c H locs cells slots Q (F0 m pc ls (.int x :: rest)) := lv_if_ne S.1 S.2.1 d ht (fun q => kt (fun z => q (Int32.toInt_inj.mp (by rw [ha]; exact z)))) (fun q => kf (by rw [← ha]; exact Int32.toInt_inj.mpr q))
theorem zq_lt (S : CallFix p m c cc nL s args Ts own) {x : Int32} {X : Int} {off : Int} {tgt : Nat} (d : decode cc pc = .ok (.ifCond .lt off, 3)) (ht : (pc : Int) + off = (tgt : Int)) (ha : x.toInt = X) (kt : X < 0 → W p l e R s m args below meth c H locs cells slots Q (F0 m tgt ls (rest))) (kf : 0 ≤ X → W p l e R s m args below meth c H locs cells slots Q (F0 m (pc + 3) ls (rest))) : W p l e R s m args below meth c H locs cells slots Q (F0 m pc ls (.int x :: rest)) := lv_if_lt S.1 S.2.1 d ht (fun q => kt (by have q2 := q; simp only [Int32.lt_iff_toInt_lt, Int32.le_iff_toInt_le, GE.ge, GT.gt, ha, Int32.toInt_zero] at q2; omega)) (fun q => kf (by have q2 := q; simp only [Int32.lt_iff_toInt_lt, Int32.le_iff_toInt_le, GE.ge, GT.gt, ha, Int32.toInt_zero] at q2; omega))
theorem zq_ge (S : CallFix p m c cc nL s args Ts own) {x : Int32} {X : Int} {off : Int} {tgt : Nat} (d : decode cc pc = .ok (.ifCond .ge off, 3)) (ht : (pc : Int) + off = (tgt : Int)) (ha : x.toInt = X) (kt : 0 ≤ X → W p l e R s m args below meth c H locs cells slots Q (F0 m tgt ls (rest))) (kf : X < 0 → W p l e R s m args below meth c H locs cells slots Q (F0 m (pc + 3) ls (rest))) : W p l e R s m args below meth c H locs cells slots Q (F0 m pc ls (.int x :: rest)) := lv_if_ge S.1 S.2.1 d ht (fun q => kt (by have q2 := q; simp only [Int32.lt_iff_toInt_lt, Int32.le_iff_toInt_le, GE.ge, GT.gt, ha, Int32.toInt_zero] at q2; omega)) (fun q => kf (by have q2 := q; simp only [Int32.lt_iff_toInt_lt, Int32.le_iff_toInt_le, GE.ge, GT.gt, ha, Int32.toInt_zero] at q2; omega))
theorem zq_gt (S : CallFix p m c cc nL s args Ts own) {x : Int32} {X : Int} {off : Int} {tgt : Nat} (d : decode cc pc = .ok (.ifCond .gt off, 3)) (ht : (pc : Int) + off = (tgt : Int)) (ha : x.toInt = X) (kt : 0 < X → W p l e R s m args below meth c H locs cells slots Q (F0 m tgt ls (rest))) (kf : X ≤ 0 → W p l e R s m args below meth c H locs cells slots Q (F0 m (pc + 3) ls (rest))) : W p l e R s m args below meth c H locs cells slots Q (F0 m pc ls (.int x :: rest)) := lv_if_gt S.1 S.2.1 d ht (fun q => kt (by have q2 := q; simp only [Int32.lt_iff_toInt_lt, Int32.le_iff_toInt_le, GE.ge, GT.gt, ha, Int32.toInt_zero] at q2; omega)) (fun q => kf (by have q2 := q; simp only [Int32.lt_iff_toInt_lt, Int32.le_iff_toInt_le, GE.ge, GT.gt, ha, Int32.toInt_zero] at q2; omega))
theorem zq_le (S : CallFix p m c cc nL s args Ts own) {x : Int32} {X : Int} {off : Int} {tgt : Nat} (d : decode cc pc = .ok (.ifCond .le off, 3)) (ht : (pc : Int) + off = (tgt : Int)) (ha : x.toInt = X) (kt : X ≤ 0 → W p l e R s m args below meth c H locs cells slots Q (F0 m tgt ls (rest))) (kf : 0 < X → W p l e R s m args below meth c H locs cells slots Q (F0 m (pc + 3) ls (rest))) : W p l e R s m args below meth c H locs cells slots Q (F0 m pc ls (.int x :: rest)) := lv_if_le S.1 S.2.1 d ht (fun q => kt (by have q2 := q; simp only [Int32.lt_iff_toInt_lt, Int32.le_iff_toInt_le, GE.ge, GT.gt, ha, Int32.toInt_zero] at q2; omega)) (fun q => kf (by have q2 := q; simp only [Int32.lt_iff_toInt_lt, Int32.le_iff_toInt_le, GE.ge, GT.gt, ha, Int32.toInt_zero] at q2; omega))
theorem z_lc {x y : Int64} : ((lg_cmp x y).toInt < 0 ↔ x.toInt < y.toInt) ∧ (0 < (lg_cmp x y).toInt ↔ y.toInt < x.toInt) ∧ ((lg_cmp x y).toInt = 0 ↔ x.toInt = y.toInt) := by
  unfold lg_cmp
  by_cases h1 : x > y
  · rw [if_pos h1]
    have h2 := Int64.lt_iff_toInt_lt.mp h1
    have e : (1 : Int32).toInt = 1 := by decide
    rw [e]
    omega
  · rw [if_neg h1]
    have h3 : ¬ y.toInt < x.toInt := fun q => h1 (Int64.lt_iff_toInt_lt.mpr q)
    by_cases h2 : x = y
    · rw [if_pos h2]
      have e : (0 : Int32).toInt = 0 := by decide
      rw [e, h2]
      omega
    · rw [if_neg h2]
      have h4 : ¬ x.toInt = y.toInt := fun q => h2 (Int64.toInt_inj.mp q)
      have e : (-1 : Int32).toInt = -1 := by decide
      rw [e]
      omega
theorem zl_lt (S : CallFix p m c cc nL s args Ts own) {x y : Int64} {X Y : Int} {off : Int} {tgt : Nat} (d1 : decode cc pc = .ok (.lcmp, 1)) (d : decode cc (pc + 1) = .ok (.ifCond .lt off, 3)) (ht : ((pc + 1 : Nat) : Int) + off = (tgt : Int)) (ha : x.toInt = X) (hb : y.toInt = Y) (kt : X < Y → W p l e R s m args below meth c H locs cells slots Q (F0 m tgt ls (rest))) (kf : Y ≤ X → W p l e R s m args below meth c H locs cells slots Q (F0 m (pc + 1 + 3) ls (rest))) : W p l e R s m args below meth c H locs cells slots Q (F0 m pc ls (.long y :: .long x :: rest)) := W.lcmp S.1 S.2.1 d1 (zq_lt S d ht rfl (fun q => kt (by have z := @z_lc x y; rw [ha, hb] at z; omega)) (fun q => kf (by have z := @z_lc x y; rw [ha, hb] at z; omega)))
theorem zl_gt (S : CallFix p m c cc nL s args Ts own) {x y : Int64} {X Y : Int} {off : Int} {tgt : Nat} (d1 : decode cc pc = .ok (.lcmp, 1)) (d : decode cc (pc + 1) = .ok (.ifCond .gt off, 3)) (ht : ((pc + 1 : Nat) : Int) + off = (tgt : Int)) (ha : x.toInt = X) (hb : y.toInt = Y) (kt : Y < X → W p l e R s m args below meth c H locs cells slots Q (F0 m tgt ls (rest))) (kf : X ≤ Y → W p l e R s m args below meth c H locs cells slots Q (F0 m (pc + 1 + 3) ls (rest))) : W p l e R s m args below meth c H locs cells slots Q (F0 m pc ls (.long y :: .long x :: rest)) := W.lcmp S.1 S.2.1 d1 (zq_gt S d ht rfl (fun q => kt (by have z := @z_lc x y; rw [ha, hb] at z; omega)) (fun q => kf (by have z := @z_lc x y; rw [ha, hb] at z; omega)))
theorem zl_le (S : CallFix p m c cc nL s args Ts own) {x y : Int64} {X Y : Int} {off : Int} {tgt : Nat} (d1 : decode cc pc = .ok (.lcmp, 1)) (d : decode cc (pc + 1) = .ok (.ifCond .le off, 3)) (ht : ((pc + 1 : Nat) : Int) + off = (tgt : Int)) (ha : x.toInt = X) (hb : y.toInt = Y) (kt : X ≤ Y → W p l e R s m args below meth c H locs cells slots Q (F0 m tgt ls (rest))) (kf : Y < X → W p l e R s m args below meth c H locs cells slots Q (F0 m (pc + 1 + 3) ls (rest))) : W p l e R s m args below meth c H locs cells slots Q (F0 m pc ls (.long y :: .long x :: rest)) := W.lcmp S.1 S.2.1 d1 (zq_le S d ht rfl (fun q => kt (by have z := @z_lc x y; rw [ha, hb] at z; omega)) (fun q => kf (by have z := @z_lc x y; rw [ha, hb] at z; omega)))
theorem zl_ge (S : CallFix p m c cc nL s args Ts own) {x y : Int64} {X Y : Int} {off : Int} {tgt : Nat} (d1 : decode cc pc = .ok (.lcmp, 1)) (d : decode cc (pc + 1) = .ok (.ifCond .ge off, 3)) (ht : ((pc + 1 : Nat) : Int) + off = (tgt : Int)) (ha : x.toInt = X) (hb : y.toInt = Y) (kt : Y ≤ X → W p l e R s m args below meth c H locs cells slots Q (F0 m tgt ls (rest))) (kf : X < Y → W p l e R s m args below meth c H locs cells slots Q (F0 m (pc + 1 + 3) ls (rest))) : W p l e R s m args below meth c H locs cells slots Q (F0 m pc ls (.long y :: .long x :: rest)) := W.lcmp S.1 S.2.1 d1 (zq_ge S d ht rfl (fun q => kt (by have z := @z_lc x y; rw [ha, hb] at z; omega)) (fun q => kf (by have z := @z_lc x y; rw [ha, hb] at z; omega)))
theorem zl_eq (S : CallFix p m c cc nL s args Ts own) {x y : Int64} {X Y : Int} {off : Int} {tgt : Nat} (d1 : decode cc pc = .ok (.lcmp, 1)) (d : decode cc (pc + 1) = .ok (.ifCond .eq off, 3)) (ht : ((pc + 1 : Nat) : Int) + off = (tgt : Int)) (ha : x.toInt = X) (hb : y.toInt = Y) (kt : X = Y → W p l e R s m args below meth c H locs cells slots Q (F0 m tgt ls (rest))) (kf : ¬ X = Y → W p l e R s m args below meth c H locs cells slots Q (F0 m (pc + 1 + 3) ls (rest))) : W p l e R s m args below meth c H locs cells slots Q (F0 m pc ls (.long y :: .long x :: rest)) := W.lcmp S.1 S.2.1 d1 (zq_eq S d ht rfl (fun q => kt (by have z := @z_lc x y; rw [ha, hb] at z; omega)) (fun q => kf (by have z := @z_lc x y; rw [ha, hb] at z; omega)))
theorem zl_ne (S : CallFix p m c cc nL s args Ts own) {x y : Int64} {X Y : Int} {off : Int} {tgt : Nat} (d1 : decode cc pc = .ok (.lcmp, 1)) (d : decode cc (pc + 1) = .ok (.ifCond .ne off, 3)) (ht : ((pc + 1 : Nat) : Int) + off = (tgt : Int)) (ha : x.toInt = X) (hb : y.toInt = Y) (kt : ¬ X = Y → W p l e R s m args below meth c H locs cells slots Q (F0 m tgt ls (rest))) (kf : X = Y → W p l e R s m args below meth c H locs cells slots Q (F0 m (pc + 1 + 3) ls (rest))) : W p l e R s m args below meth c H locs cells slots Q (F0 m pc ls (.long y :: .long x :: rest)) := W.lcmp S.1 S.2.1 d1 (zq_ne S d ht rfl (fun q => kt (by have z := @z_lc x y; rw [ha, hb] at z; omega)) (fun q => kf (by have z := @z_lc x y; rw [ha, hb] at z; omega)))
variable {G : gT} {A : Nat → Prop} {a : Nat} {ws : va_W} {H0 : Heap}
theorem z_get (S : CallFix p m c cc nL s args Ts own) (K : gK G s) (hP : va_P (gD G) vwCl ws H) {C ref : String} {T : u_T} {N ci index : Nat} (hin : ∀ w ∈ u_ws C T N, w ∈ Ts) (q0 : Nat) {fs : List Value} {v : Value} (he : ws[q0]? = some (a, .inr (ci, fs))) (hc : vwCl[ci]? = some (C, T, N)) (k : Nat) (hk : k < N) (hl : Cond.fieldLink own index ref (T k).2.1 (T k).2.2.1 ∈ Ts) (hr : (T k).1 = ref) (hv : fs[k]? = some v) (d : decode cc pc = .ok (.getfield index, 3)) (kk : W p l e R s m args below meth c H locs cells slots Q (F0 m (pc + 3) ls (v :: rest))) : W p l e R s m args below meth c H locs cells slots Q (F0 m pc ls (.ref a :: rest)) := va_get S.1 S.2.1 S.2.2.2.2 hin S.2.2.2.1 K.1 hP q0 he hc k hk (S.2.2.2.2 _ hl) (fun _ h9 => by rw [← hr]; exact h9) hv d kk
theorem z_put (S : CallFix p m c cc nL s args Ts own) (K : gK G s) (hP : va_P (gD G) vwCl ws H) (hD : va_D A ws) (hS : va_S A H0 H locs) {C ref : String} {T : u_T} {N ci index : Nat} {ty0 : Nat → FieldType} (hin : ∀ w ∈ u_ws C T N, w ∈ Ts) (hty : ∀ k, k < N → parseFieldDescriptor (T k).2.2.1 = some (ty0 k)) (hnm : ∀ a, a < N → ∀ b, b < N → a ≠ b → (T a).2.1 ≠ (T b).2.1) (q0 : Nat) {fs : List Value} {v : Value} (he : ws[q0]? = some (a, .inr (ci, fs))) (hc : vwCl[ci]? = some (C, T, N)) (k : Nat) (hk : k < N) (hl : Cond.fieldLink own index ref (T k).2.1 (T k).2.2.1 ∈ Ts) (hr : (T k).1 = ref) (hfin : (T k).2.2.2 = false) (hn : narrow (ty0 k) v = v) (hf : fits (ty0 k) v = true) (hlen : k < fs.length) (d : decode cc pc = .ok (.putfield index, 3)) (kk : ∀ (H1 : Heap) (locs1 : List Loc), va_P (gD G) vwCl (ws.set q0 (a, .inr (ci, fs.set k v))) H1 → va_D A (ws.set q0 (a, .inr (ci, fs.set k v))) → va_S A H0 H1 locs1 → W p l e R s m args below meth c H1 locs1 cells slots Q (F0 m (pc + 3) ls (rest))) : W p l e R s m args below meth c H locs cells slots Q (F0 m pc ls (v :: .ref a :: rest)) := va_put S.1 S.2.1 S.2.2.2.2 hin ty0 hty hnm S.2.2.2.1 K.1 hP hD hS q0 he hc k hk (S.2.2.2.2 _ hl) (fun _ h9 => by rw [← hr]; exact h9) hfin (hty k hk) hn hf hlen d kk
theorem z_putF (S : CallFix p m c cc nL s args Ts own) (hin2 : meth.name = "<init>") (K : gK G s) (hP : va_P (gD G) vwCl ws H) (hD : va_D A ws) (hS : va_S A H0 H locs) {C ref : String} {T : u_T} {N ci index : Nat} {ty0 : Nat → FieldType} (hin : ∀ w ∈ u_ws C T N, w ∈ Ts) (hty : ∀ k, k < N → parseFieldDescriptor (T k).2.2.1 = some (ty0 k)) (hnm : ∀ a, a < N → ∀ b, b < N → a ≠ b → (T a).2.1 ≠ (T b).2.1) (q0 : Nat) {fs : List Value} {v : Value} (he : ws[q0]? = some (a, .inr (ci, fs))) (hc : vwCl[ci]? = some (C, T, N)) (k : Nat) (hk : k < N) (hl : Cond.fieldLink own index ref (T k).2.1 (T k).2.2.1 ∈ Ts) (hr : (T k).1 = ref) (ho : (T k).1 = own) (hfin : (T k).2.2.2 = true) (hn : narrow (ty0 k) v = v) (hf : fits (ty0 k) v = true) (hlen : k < fs.length) (d : decode cc pc = .ok (.putfield index, 3)) (kk : ∀ (H1 : Heap) (locs1 : List Loc), va_P (gD G) vwCl (ws.set q0 (a, .inr (ci, fs.set k v))) H1 → va_D A (ws.set q0 (a, .inr (ci, fs.set k v))) → va_S A H0 H1 locs1 → W p l e R s m args below meth c H1 locs1 cells slots Q (F0 m (pc + 3) ls (rest))) : W p l e R s m args below meth c H locs cells slots Q (F0 m pc ls (v :: .ref a :: rest)) := va_putF S.1 S.2.1 S.2.2.2.2 hin ty0 hty hnm S.2.2.2.1 K.1 hP hD hS q0 he hc k hk (S.2.2.2.2 _ hl) (fun _ h9 => by rw [← hr]; exact h9) hfin hin2 ho (hty k hk) hn hf hlen d kk
theorem z_iald (S : CallFix p m c cc nL s args Ts own) (K : gK G s) (hP : va_P (gD G) vwCl ws H) (q0 : Nat) {n i : Nat} {f : Nat → Nat} (ha : ws[q0]? = some (a, .inl (gI G, n, .inl (nA f)))) (hi : i < n) (hn : n < 2147483648) (d : decode cc pc = .ok (.iaload, 1)) (kk : W p l e R s m args below meth c H locs cells slots Q (F0 m (pc + 1) ls (.int (nI (f i)) :: rest))) : W p l e R s m args below meth c H locs cells slots Q (F0 m pc ls (.int (nI i) :: .ref a :: rest)) := va_iald S.1 S.2.1 K.1 hP q0 0 ha rfl (z_in hi hn) d (z_top (congrArg (nA f) (z_cl (by omega)) : nA f (nI i).toNatClampNeg = nI (f i)) kk)
theorem z_cald (S : CallFix p m c cc nL s args Ts own) (K : gK G s) (hP : va_P (gD G) vwCl ws H) (q0 : Nat) {n i : Nat} {f : Nat → Nat} (ha : ws[q0]? = some (a, .inl (gC G, n, .inl (nA f)))) (hi : i < n) (hn : n < 2147483648) (d : decode cc pc = .ok (.caload, 1)) (kk : W p l e R s m args below meth c H locs cells slots Q (F0 m (pc + 1) ls (.int (nI (f i)) :: rest))) : W p l e R s m args below meth c H locs cells slots Q (F0 m pc ls (.int (nI i) :: .ref a :: rest)) := va_cald S.1 S.2.1 K.1 hP q0 1 ha rfl (z_in hi hn) d (z_top (congrArg (nA f) (z_cl (by omega)) : nA f (nI i).toNatClampNeg = nI (f i)) kk)
theorem z_zald (S : CallFix p m c cc nL s args Ts own) (K : gK G s) (hP : va_P (gD G) vwCl ws H) (q0 : Nat) {n i : Nat} {f : Nat → Nat} (ha : ws[q0]? = some (a, .inl (gZ G, n, .inl (nA f)))) (hi : i < n) (hn : n < 2147483648) (d : decode cc pc = .ok (.baload, 1)) (kk : W p l e R s m args below meth c H locs cells slots Q (F0 m (pc + 1) ls (.int (nI (f i)) :: rest))) : W p l e R s m args below meth c H locs cells slots Q (F0 m pc ls (.int (nI i) :: .ref a :: rest)) := va_zald S.1 S.2.1 K.1 hP q0 2 ha rfl (z_in hi hn) d (z_top (congrArg (nA f) (z_cl (by omega)) : nA f (nI i).toNatClampNeg = nI (f i)) kk)
theorem z_iast (S : CallFix p m c cc nL s args Ts own) (K : gK G s) (hP : va_P (gD G) vwCl ws H) (hD : va_D A ws) (hS : va_S A H0 H locs) (q0 : Nat) {n i x : Nat} {f : Nat → Nat} (ha : ws[q0]? = some (a, .inl (gI G, n, .inl (nA f)))) (hi : i < n) (hn : n < 2147483648) (d : decode cc pc = .ok (.iastore, 1)) (kk : ∀ (H1 : Heap) (locs1 : List Loc), va_P (gD G) vwCl (ws.set q0 (a, .inl (gI G, n, .inl (nA (pu f i x))))) H1 → va_D A (ws.set q0 (a, .inl (gI G, n, .inl (nA (pu f i x))))) → va_S A H0 H1 locs1 → W p l e R s m args below meth c H1 locs1 cells slots Q (F0 m (pc + 1) ls (rest))) : W p l e R s m args below meth c H locs cells slots Q (F0 m pc ls (.int (nI x) :: .int (nI i) :: .ref a :: rest)) := va_iast S.1 S.2.1 K.1 hP hD hS q0 0 ha rfl (z_in hi hn) d (fun H1 locs1 h1 h2 h3 => kk H1 locs1 (by rw [z_cl (by omega), nA_upd] at h1; exact h1) (by rw [z_cl (by omega), nA_upd] at h2; exact h2) h3)
theorem z_zast (S : CallFix p m c cc nL s args Ts own) (K : gK G s) (hP : va_P (gD G) vwCl ws H) (hD : va_D A ws) (hS : va_S A H0 H locs) (q0 : Nat) {n i x : Nat} {f : Nat → Nat} (ha : ws[q0]? = some (a, .inl (gZ G, n, .inl (nA f)))) (hi : i < n) (hn : n < 2147483648) (hx : vp_nar .boolean (nI x) = nI x) (d : decode cc pc = .ok (.bastore, 1)) (kk : ∀ (H1 : Heap) (locs1 : List Loc), va_P (gD G) vwCl (ws.set q0 (a, .inl (gZ G, n, .inl (nA (pu f i x))))) H1 → va_D A (ws.set q0 (a, .inl (gZ G, n, .inl (nA (pu f i x))))) → va_S A H0 H1 locs1 → W p l e R s m args below meth c H1 locs1 cells slots Q (F0 m (pc + 1) ls (rest))) : W p l e R s m args below meth c H locs cells slots Q (F0 m pc ls (.int (nI x) :: .int (nI i) :: .ref a :: rest)) := va_zast S.1 S.2.1 K.1 hP hD hS q0 2 ha rfl (z_in hi hn) d (fun H1 locs1 h1 h2 h3 => kk H1 locs1 (by rw [hx, z_cl (by omega), nA_upd] at h1; exact h1) (by rw [hx, z_cl (by omega), nA_upd] at h2; exact h2) h3)
theorem z_cast (S : CallFix p m c cc nL s args Ts own) (K : gK G s) (hP : va_P (gD G) vwCl ws H) (hD : va_D A ws) (hS : va_S A H0 H locs) (q0 : Nat) {n i x : Nat} {f : Nat → Nat} (ha : ws[q0]? = some (a, .inl (gC G, n, .inl (nA f)))) (hi : i < n) (hn : n < 2147483648) (hx : x < 65536) (d : decode cc pc = .ok (.castore, 1)) (kk : ∀ (H1 : Heap) (locs1 : List Loc), va_P (gD G) vwCl (ws.set q0 (a, .inl (gC G, n, .inl (nA (pu f i x))))) H1 → va_D A (ws.set q0 (a, .inl (gC G, n, .inl (nA (pu f i x))))) → va_S A H0 H1 locs1 → W p l e R s m args below meth c H1 locs1 cells slots Q (F0 m (pc + 1) ls (rest))) : W p l e R s m args below meth c H locs cells slots Q (F0 m pc ls (.int (nI x) :: .int (nI i) :: .ref a :: rest)) := va_cast S.1 S.2.1 K.1 hP hD hS q0 1 ha rfl (z_in hi hn) d (fun H1 locs1 h1 h2 h3 => kk H1 locs1 (by rw [z_nc hx, z_cl (by omega), nA_upd] at h1; exact h1) (by rw [z_nc hx, z_cl (by omega), nA_upd] at h2; exact h2) h3)
theorem z_aldq (S : CallFix p m c cc nL s args Ts own) (K : gK G s) (hP : va_P (gD G) vwCl ws H) (q0 : Nat) {n i b : Nat} {f : Nat → Option Nat} (ha : ws[q0]? = some (a, .inl (gO G, n, .inr (.inr (.inr (.inr f)))))) (hi : i < n) (hn : n < 2147483648) (hf : f i = some b) (d : decode cc pc = .ok (.aaload, 1)) (kk : W p l e R s m args below meth c H locs cells slots Q (F0 m (pc + 1) ls (.ref b :: rest))) : W p l e R s m args below meth c H locs cells slots Q (F0 m pc ls (.int (nI i) :: .ref a :: rest)) := va_aldq S.1 S.2.1 K.1 hP q0 3 ha rfl (z_in hi hn) d (by rw [z_cl (by omega), hf]; exact kk)
theorem z_astq (S : CallFix p m c cc nL s args Ts own) (K : gK G s) (hP : va_P (gD G) vwCl ws H) (hD : va_D A ws) (hS : va_S A H0 H locs) (q0 qk : Nat) {n i b : Nat} {vs : List Value} {f : Nat → Option Nat} (ha : ws[q0]? = some (a, .inl (gO G, n, .inr (.inr (.inr (.inr f)))))) (hv : ws[qk]? = some (b, .inr (3, vs))) (hi : i < n) (hn : n < 2147483648) (d : decode cc pc = .ok (.aastore, 1)) (kk : ∀ (H1 : Heap) (locs1 : List Loc), va_P (gD G) vwCl (ws.set q0 (a, .inl (gO G, n, .inr (.inr (.inr (.inr (va_up f i (some b)))))))) H1 → va_D A (ws.set q0 (a, .inl (gO G, n, .inr (.inr (.inr (.inr (va_up f i (some b)))))))) → va_S A H0 H1 locs1 → W p l e R s m args below meth c H1 locs1 cells slots Q (F0 m (pc + 1) ls (rest))) : W p l e R s m args below meth c H locs cells slots Q (F0 m pc ls (.ref b :: .int (nI i) :: .ref a :: rest)) := va_astq (r := (RX3, TX3, 4)) S.1 S.2.1 K.1 hP hD hS q0 3 qk 3 ha rfl hv rfl (z_in hi hn) d (fun H1 locs1 h1 h2 h3 => kk H1 locs1 (by rw [z_cl (by omega)] at h1; exact h1) (by rw [z_cl (by omega)] at h2; exact h2) h3)
theorem z_copy (S : CallFix p m c cc nL s args Ts own) (hls : ls.size = nL) {index : Nat} (h1 : Cond.methodLink own index arraycopyName ∈ Ts) (h2 : Cond.native arraycopyName ∈ Ts) (h3 : Cond.static arraycopyName ∈ Ts) (h4 : Cond.initialized "java/lang/System" ∈ Ts) (K : gK G s) (hP : va_P (gD G) vwCl ws H) (hD : va_D A ws) (hS : va_S A H0 H locs) (q0 q1 : Nat) {a0 n : Nat} {f g : Nat → Nat} (ha0 : ws[q0]? = some (a0, .inl (gI G, n, .inl (nA f)))) (ha1 : ws[q1]? = some (a, .inl (gI G, n, .inl (nA g)))) (hn : n < 2147483648) (hfr : 1 ≤ R.frames) (hlo : (rest.map fun v => v.category).sum + (nativeFrameWords "java/lang/System" "arraycopy" 5 + 11) ≤ R.locals) (d : decode cc pc = .ok (.invokestatic index, 3)) (kk : ∀ (H1 : Heap) (locs1 : List Loc), va_P (gD G) vwCl (ws.set q1 (a, .inl (gI G, n, .inl (nA f)))) H1 → va_D A (ws.set q1 (a, .inl (gI G, n, .inl (nA f)))) → va_S A H0 H1 locs1 → W p l e R s m args below meth c H1 locs1 cells slots Q (F0 m (pc + 3) ls (rest))) : W p l e R s m args below meth c H locs cells slots Q (F0 m pc ls (.int (nI n) :: .int (nI 0) :: .ref a :: .int (nI 0) :: .ref a0 :: rest)) := by
  have c0 : (nI 0).toNatClampNeg = 0 := z_cl (by omega)
  have cn : (nI n).toNatClampNeg = n := z_cl hn
  refine va_copyi (ty := .int) S.1 S.2.1 (S.2.2.1.trans hls.symm) S.2.2.2.1 (S.2.2.2.2 _ h1) (S.2.2.2.2 _ h2) (S.2.2.2.2 _ h3) (S.2.2.2.2 _ h4) K.1 hP hD hS q0 q1 0 0 ha0 ha1 rfl rfl rfl (nI_pos (by omega)) (nI_pos (by omega)) (nI_pos hn) (by rw [c0, cn]; omega) (by rw [c0, cn]; omega) (fun i _ => rfl) hfr hlo d (fun H1 locs1 g1 g2 g3 => ?_)
  rw [c0, cn] at g1 g2
  have hlt : q1 < ws.length := (List.getElem?_eq_some_iff.mp ha1).1
  obtain ⟨e1, e2⟩ := z_arrP g1 g2 (List.getElem?_set_self hlt) (nA f) (fun j hj => by
    simp only [va_cpy]
    rw [if_pos (by omega)]
    congr 1
    omega)
  rw [List.set_set] at e1 e2
  exact kk H1 locs1 e1 e2 g3
theorem z_iret {Sx : Type} {post : Int32 → Sx → Prop} {wf : Sx → va_W} (S : CallFix p m c cc nL s args Ts own) (hr : meth.sig.returnType = some .int) (hlocks : meth.locks = false) (hP : va_P (gD G) vwCl ws H) (hD : va_D A ws) (hS : va_S A s.heap H locs) {v : Int32} (u : Sx) (hu : wf u = ws) (hp : post v u) (d : decode cc pc = .ok (.ireturn, 1)) : W p l e R s m args below meth c H locs cells slots (MQ below (va_Qi post (cB G A wf) A) args s cells slots A) (F0 m pc ls [.int v]) := W.iret (v := v) S.1 S.2.1 hr (fun t ht hW => ⟨⟨v, u, rfl, hp, by rw [ht, hu]; exact hP, by rw [hu]; exact hD⟩, hS.F ht⟩) hS.2.2 d
theorem z_zret {Sx : Type} {post : Int32 → Sx → Prop} {wf : Sx → va_W} (S : CallFix p m c cc nL s args Ts own) (hr : meth.sig.returnType = some .boolean) (hlocks : meth.locks = false) (hP : va_P (gD G) vwCl ws H) (hD : va_D A ws) (hS : va_S A s.heap H locs) {v : Int32} (u : Sx) (hu : wf u = ws) (hp : post v u) (hn : narrow .boolean (.int v) = .int v) (d : decode cc pc = .ok (.ireturn, 1)) : W p l e R s m args below meth c H locs cells slots (MQ below (va_Qi post (cB G A wf) A) args s cells slots A) (F0 m pc ls [.int v]) := W.zret (v := v) S.1 S.2.1 hr hn (fun t ht hW => ⟨⟨v, u, rfl, hp, by rw [ht, hu]; exact hP, by rw [hu]; exact hD⟩, hS.F ht⟩) hS.2.2 d
theorem z_vret {Sx : Type} {post : Sx → Prop} {wf : Sx → va_W} (S : CallFix p m c cc nL s args Ts own) (hr : meth.sig.returnType = none) (hlocks : meth.locks = false) (hP : va_P (gD G) vwCl ws H) (hD : va_D A ws) (hS : va_S A s.heap H locs) (u : Sx) (hu : wf u = ws) (hp : post u) (d : decode cc pc = .ok (.return_, 1)) : W p l e R s m args below meth c H locs cells slots (MQ below (va_Qv post (cB G A wf) A) args s cells slots A) (F0 m pc ls []) := W.vret S.1 S.2.1 hr (fun t ht hW => ⟨⟨u, rfl, hp, by rw [ht, hu]; exact hP, by rw [hu]; exact hD⟩, hS.F ht⟩) hS.2.2 d
theorem z_bnar (b : Bool) : narrow .boolean (.int (nI (bN b))) = .int (nI (bN b)) := by cases b <;> decide +kernel
variable {y : MethodName} {bytes : ByteArray} {maxL n index : Nat} {ret : Option FieldType} {wsy wsy' : List Cond} {rm : Room} {C : String} {b : Addr} {As : List Value} {wc : va_W} {Sx : Type} {wf : Sx → va_W} {st0 : List Value}
theorem zcVi {post : Int32 → Sx → Prop} (S : CallFix p m c cc nL s args Ts own) (K : gK G s) (hP : va_P (gD G) vwCl ws H) (hD : va_D A ws) (hS : va_S A H0 H locs) (hA : ∀ q, H0.size ≤ q → A q) (hls : ls.size = nL) (cx : CI l y wsy rm G (.ref b :: As) wc 0 0 post wf) (hmc : rm.cells = 0) (hms : rm.slots = 0) (g : GoodIn Ts (wsV own index C y wsy)) (hw : wsy = Cond.code y bytes maxL ret :: wsy') (hd : y.cls = C ∧ y.cls ≠ "java/lang/invoke/MethodHandle" ∧ y.cls ≠ "java/lang/invoke/VarHandle" ∧ (parseMethodDescriptor y.desc).map (fun d => d.parameters.length) = some n) (is : List Nat) (hnd : va_nd is = true) (hC : is.map (fun i => ws[i]?) = wc.map some) (hlen : ∀ u, (wf u).length = is.length) (ci q0 : Nat) {qc : vw_C} {fs : List Value} (hci : vwCl[ci]? = some qc) (hrc : ws[q0]? = some (b, .inr (ci, fs))) (hqc : qc.1 = C) (hn : As.length = n) (hst0 : st0 = As.reverse ++ .ref b :: rest) (hro : (rest.map fun v => v.category).sum ≤ 8) (hf : rm.frames + 1 ≤ R.frames) (hlo : 8 + (maxL + 11) + rm.locals ≤ R.locals) (hcs : cells ≤ R.cells ∧ slots ≤ R.slots) (d : decode cc pc = .ok (.invokevirtual index, 3)) (kk : ∀ (r : Int32) (u : Sx) (H1 : Heap) (locs1 : List Loc), post r u → va_P (gD G) vwCl (rp ws is (wf u)) H1 → va_D A (rp ws is (wf u)) → va_S A H0 H1 locs1 → W p l e R s m args below meth c H1 locs1 cells slots Q (F0 m (pc + 3) ls (.int r :: rest))) : W p l e R s m args below meth c H locs cells slots Q (F0 m pc ls st0) := by
  have hPc := z_part hP is hC
  have hDc := z_partD hD is hnd hC
  have hFc : ∀ q, va_A wc H.size q → A q := va_free hD hS hA is hC
  subst hqc
  refine va_calli (va_runV (As := As) (rest := rest) S (cx H.size) (cwV n S.2.2.2.2 g hw hmc hms hd ⟨hf, hlo⟩) ⟨cP_blind, va_recv K.1 hP hci hrc, fun U hU hW => ⟨rfl, by rw [hU], by rw [hU]; exact hPc, K.warm hW, hDc⟩⟩ rfl hn hls hst0 (lv_room hro) d hcs) hS (fun q _ h => hFc q h) hFc (fun r u t H1 locs1 ht hvm hw1 hB hz1 hk1 hS1 => ?_)
  obtain ⟨hP1, hD1⟩ := hB
  rw [ht] at hP1
  obtain ⟨hP2, hD2⟩ := rp_ok hP hD is hC (hlen u) hk1 hFc hP1 hD1
  exact kk r u H1 locs1 hw1 hP2 hD2 hS1
theorem zcVv {post : Sx → Prop} (S : CallFix p m c cc nL s args Ts own) (K : gK G s) (hP : va_P (gD G) vwCl ws H) (hD : va_D A ws) (hS : va_S A H0 H locs) (hA : ∀ q, H0.size ≤ q → A q) (hls : ls.size = nL) (cx : CV l y wsy rm G (.ref b :: As) wc 0 0 post wf) (hmc : rm.cells = 0) (hms : rm.slots = 0) (g : GoodIn Ts (wsV own index C y wsy)) (hw : wsy = Cond.code y bytes maxL ret :: wsy') (hd : y.cls = C ∧ y.cls ≠ "java/lang/invoke/MethodHandle" ∧ y.cls ≠ "java/lang/invoke/VarHandle" ∧ (parseMethodDescriptor y.desc).map (fun d => d.parameters.length) = some n) (is : List Nat) (hnd : va_nd is = true) (hC : is.map (fun i => ws[i]?) = wc.map some) (hlen : ∀ u, (wf u).length = is.length) (ci q0 : Nat) {qc : vw_C} {fs : List Value} (hci : vwCl[ci]? = some qc) (hrc : ws[q0]? = some (b, .inr (ci, fs))) (hqc : qc.1 = C) (hn : As.length = n) (hst0 : st0 = As.reverse ++ .ref b :: rest) (hro : (rest.map fun v => v.category).sum ≤ 8) (hf : rm.frames + 1 ≤ R.frames) (hlo : 8 + (maxL + 11) + rm.locals ≤ R.locals) (hcs : cells ≤ R.cells ∧ slots ≤ R.slots) (d : decode cc pc = .ok (.invokevirtual index, 3)) (kk : ∀ (u : Sx) (H1 : Heap) (locs1 : List Loc), post u → va_P (gD G) vwCl (rp ws is (wf u)) H1 → va_D A (rp ws is (wf u)) → va_S A H0 H1 locs1 → W p l e R s m args below meth c H1 locs1 cells slots Q (F0 m (pc + 3) ls (rest))) : W p l e R s m args below meth c H locs cells slots Q (F0 m pc ls st0) := by
  have hPc := z_part hP is hC
  have hDc := z_partD hD is hnd hC
  have hFc : ∀ q, va_A wc H.size q → A q := va_free hD hS hA is hC
  subst hqc
  refine va_callv (va_runV (As := As) (rest := rest) S (cx H.size) (cwV n S.2.2.2.2 g hw hmc hms hd ⟨hf, hlo⟩) ⟨cP_blind, va_recv K.1 hP hci hrc, fun U hU hW => ⟨rfl, by rw [hU], by rw [hU]; exact hPc, K.warm hW, hDc⟩⟩ rfl hn hls hst0 (lv_room hro) d hcs) hS (fun q _ h => hFc q h) hFc (fun u t H1 locs1 ht hvm hw1 hB hz1 hk1 hS1 => ?_)
  obtain ⟨hP1, hD1⟩ := hB
  rw [ht] at hP1
  obtain ⟨hP2, hD2⟩ := rp_ok hP hD is hC (hlen u) hk1 hFc hP1 hD1
  exact kk u H1 locs1 hw1 hP2 hD2 hS1
theorem zcSi {post : Int32 → Sx → Prop} (S : CallFix p m c cc nL s args Ts own) (K : gK G s) (hP : va_P (gD G) vwCl ws H) (hD : va_D A ws) (hS : va_S A H0 H locs) (hA : ∀ q, H0.size ≤ q → A q) (hls : ls.size = nL) (cx : CI l y wsy rm G As wc 0 0 post wf) (hmc : rm.cells = 0) (hms : rm.slots = 0) (g : GoodIn Ts (va_wsS own index y wsy)) (hw : wsy = Cond.code y bytes maxL ret :: wsy') (hd : y.cls ≠ "java/lang/invoke/MethodHandle" ∧ y.cls ≠ "java/lang/invoke/VarHandle" ∧ (parseMethodDescriptor y.desc).map (fun d => d.parameters.length) = some n) (is : List Nat) (hnd : va_nd is = true) (hC : is.map (fun i => ws[i]?) = wc.map some) (hlen : ∀ u, (wf u).length = is.length) (hn : As.length = n) (hst0 : st0 = As.reverse ++ rest) (hro : (rest.map fun v => v.category).sum ≤ 8) (hf : rm.frames + 1 ≤ R.frames) (hlo : 8 + (maxL + 11) + rm.locals ≤ R.locals) (hcs : cells ≤ R.cells ∧ slots ≤ R.slots) (d : decode cc pc = .ok (.invokestatic index, 3)) (kk : ∀ (r : Int32) (u : Sx) (H1 : Heap) (locs1 : List Loc), post r u → va_P (gD G) vwCl (rp ws is (wf u)) H1 → va_D A (rp ws is (wf u)) → va_S A H0 H1 locs1 → W p l e R s m args below meth c H1 locs1 cells slots Q (F0 m (pc + 3) ls (.int r :: rest))) : W p l e R s m args below meth c H locs cells slots Q (F0 m pc ls st0) := by
  have hPc := z_part hP is hC
  have hDc := z_partD hD is hnd hC
  have hFc : ∀ q, va_A wc H.size q → A q := va_free hD hS hA is hC
  refine va_calli (va_runS (As := As) (rest := rest) S (cx H.size) (va_cwS n S.2.2.2.2 g hw hmc hms hd ⟨hf, hlo⟩) ⟨cP_blind, fun U hU hW => ⟨rfl, by rw [hU], by rw [hU]; exact hPc, K.warm hW, hDc⟩⟩ rfl hn hls hst0 (lv_room hro) d hcs) hS (fun q _ h => hFc q h) hFc (fun r u t H1 locs1 ht hvm hw1 hB hz1 hk1 hS1 => ?_)
  obtain ⟨hP1, hD1⟩ := hB
  rw [ht] at hP1
  obtain ⟨hP2, hD2⟩ := rp_ok hP hD is hC (hlen u) hk1 hFc hP1 hD1
  exact kk r u H1 locs1 hw1 hP2 hD2 hS1
theorem zcSv {post : Sx → Prop} (S : CallFix p m c cc nL s args Ts own) (K : gK G s) (hP : va_P (gD G) vwCl ws H) (hD : va_D A ws) (hS : va_S A H0 H locs) (hA : ∀ q, H0.size ≤ q → A q) (hls : ls.size = nL) (cx : CV l y wsy rm G As wc 0 0 post wf) (hmc : rm.cells = 0) (hms : rm.slots = 0) (g : GoodIn Ts (va_wsS own index y wsy)) (hw : wsy = Cond.code y bytes maxL ret :: wsy') (hd : y.cls ≠ "java/lang/invoke/MethodHandle" ∧ y.cls ≠ "java/lang/invoke/VarHandle" ∧ (parseMethodDescriptor y.desc).map (fun d => d.parameters.length) = some n) (is : List Nat) (hnd : va_nd is = true) (hC : is.map (fun i => ws[i]?) = wc.map some) (hlen : ∀ u, (wf u).length = is.length) (hn : As.length = n) (hst0 : st0 = As.reverse ++ rest) (hro : (rest.map fun v => v.category).sum ≤ 8) (hf : rm.frames + 1 ≤ R.frames) (hlo : 8 + (maxL + 11) + rm.locals ≤ R.locals) (hcs : cells ≤ R.cells ∧ slots ≤ R.slots) (d : decode cc pc = .ok (.invokestatic index, 3)) (kk : ∀ (u : Sx) (H1 : Heap) (locs1 : List Loc), post u → va_P (gD G) vwCl (rp ws is (wf u)) H1 → va_D A (rp ws is (wf u)) → va_S A H0 H1 locs1 → W p l e R s m args below meth c H1 locs1 cells slots Q (F0 m (pc + 3) ls (rest))) : W p l e R s m args below meth c H locs cells slots Q (F0 m pc ls st0) := by
  have hPc := z_part hP is hC
  have hDc := z_partD hD is hnd hC
  have hFc : ∀ q, va_A wc H.size q → A q := va_free hD hS hA is hC
  refine va_callv (va_runS (As := As) (rest := rest) S (cx H.size) (va_cwS n S.2.2.2.2 g hw hmc hms hd ⟨hf, hlo⟩) ⟨cP_blind, fun U hU hW => ⟨rfl, by rw [hU], by rw [hU]; exact hPc, K.warm hW, hDc⟩⟩ rfl hn hls hst0 (lv_room hro) d hcs) hS (fun q _ h => hFc q h) hFc (fun u t H1 locs1 ht hvm hw1 hB hz1 hk1 hS1 => ?_)
  obtain ⟨hP1, hD1⟩ := hB
  rw [ht] at hP1
  obtain ⟨hP2, hD2⟩ := rp_ok hP hD is hC (hlen u) hk1 hFc hP1 hD1
  exact kk u H1 locs1 hw1 hP2 hD2 hS1
theorem zcNi {post : Int32 → Sx → Prop} {host : String} (S : CallFix p m c cc nL s args Ts own) (K : gK G s) (hP : va_P (gD G) vwCl ws H) (hD : va_D A ws) (hS : va_S A H0 H locs) (hA : ∀ q, H0.size ≤ q → A q) (hls : ls.size = nL) (cx : CI l y wsy rm G As wc 0 0 post wf) (hmc : rm.cells = 0) (hms : rm.slots = 0) (g : GoodIn Ts wsy) (hw : wsy = Cond.code y bytes maxL ret :: wsy') (hnw : Cond.methodLinkNest own index y host ∈ nwL) (hini : Cond.initialized y.cls ∈ Ts) (hst : Cond.static y ∈ Ts) (hd : y.cls ≠ "java/lang/invoke/MethodHandle" ∧ y.cls ≠ "java/lang/invoke/VarHandle" ∧ (parseMethodDescriptor y.desc).map (fun d => d.parameters.length) = some n) (is : List Nat) (hnd : va_nd is = true) (hC : is.map (fun i => ws[i]?) = wc.map some) (hlen : ∀ u, (wf u).length = is.length) (hn : As.length = n) (hst0 : st0 = As.reverse ++ rest) (hro : (rest.map fun v => v.category).sum ≤ 8) (hf : rm.frames + 1 ≤ R.frames) (hlo : 8 + (maxL + 11) + rm.locals ≤ R.locals) (hcs : cells ≤ R.cells ∧ slots ≤ R.slots) (d : decode cc pc = .ok (.invokestatic index, 3)) (kk : ∀ (r : Int32) (u : Sx) (H1 : Heap) (locs1 : List Loc), post r u → va_P (gD G) vwCl (rp ws is (wf u)) H1 → va_D A (rp ws is (wf u)) → va_S A H0 H1 locs1 → W p l e R s m args below meth c H1 locs1 cells slots Q (F0 m (pc + 3) ls (.int r :: rest))) : W p l e R s m args below meth c H locs cells slots Q (F0 m pc ls st0) := by
  have hPc := z_part hP is hC
  have hDc := z_partD hD is hnd hC
  have hFc : ∀ q, va_A wc H.size q → A q := va_free hD hS hA is hC
  refine va_calli (va_runSN (As := As) (rest := rest) S (cx H.size) ⟨va_cnB n S.2.2.2.2 g hw hmc hms (K.2 _ hnw) (S.2.2.2.2 _ hini) hd ⟨hf, hlo⟩, S.2.2.2.2 _ hst, trivial⟩ ⟨cP_blind, fun U hU hW => ⟨rfl, by rw [hU], by rw [hU]; exact hPc, K.warm hW, hDc⟩⟩ rfl hn hls hst0 (lv_room hro) d hcs) hS (fun q _ h => hFc q h) hFc (fun r u t H1 locs1 ht hvm hw1 hB hz1 hk1 hS1 => ?_)
  obtain ⟨hP1, hD1⟩ := hB
  rw [ht] at hP1
  obtain ⟨hP2, hD2⟩ := rp_ok hP hD is hC (hlen u) hk1 hFc hP1 hD1
  exact kk r u H1 locs1 hw1 hP2 hD2 hS1
theorem zcNv {post : Sx → Prop} {host : String} (S : CallFix p m c cc nL s args Ts own) (K : gK G s) (hP : va_P (gD G) vwCl ws H) (hD : va_D A ws) (hS : va_S A H0 H locs) (hA : ∀ q, H0.size ≤ q → A q) (hls : ls.size = nL) (cx : CV l y wsy rm G As wc 0 0 post wf) (hmc : rm.cells = 0) (hms : rm.slots = 0) (g : GoodIn Ts wsy) (hw : wsy = Cond.code y bytes maxL ret :: wsy') (hnw : Cond.methodLinkNest own index y host ∈ nwL) (hini : Cond.initialized y.cls ∈ Ts) (hst : Cond.static y ∈ Ts) (hd : y.cls ≠ "java/lang/invoke/MethodHandle" ∧ y.cls ≠ "java/lang/invoke/VarHandle" ∧ (parseMethodDescriptor y.desc).map (fun d => d.parameters.length) = some n) (is : List Nat) (hnd : va_nd is = true) (hC : is.map (fun i => ws[i]?) = wc.map some) (hlen : ∀ u, (wf u).length = is.length) (hn : As.length = n) (hst0 : st0 = As.reverse ++ rest) (hro : (rest.map fun v => v.category).sum ≤ 8) (hf : rm.frames + 1 ≤ R.frames) (hlo : 8 + (maxL + 11) + rm.locals ≤ R.locals) (hcs : cells ≤ R.cells ∧ slots ≤ R.slots) (d : decode cc pc = .ok (.invokestatic index, 3)) (kk : ∀ (u : Sx) (H1 : Heap) (locs1 : List Loc), post u → va_P (gD G) vwCl (rp ws is (wf u)) H1 → va_D A (rp ws is (wf u)) → va_S A H0 H1 locs1 → W p l e R s m args below meth c H1 locs1 cells slots Q (F0 m (pc + 3) ls (rest))) : W p l e R s m args below meth c H locs cells slots Q (F0 m pc ls st0) := by
  have hPc := z_part hP is hC
  have hDc := z_partD hD is hnd hC
  have hFc : ∀ q, va_A wc H.size q → A q := va_free hD hS hA is hC
  refine va_callv (va_runSN (As := As) (rest := rest) S (cx H.size) ⟨va_cnB n S.2.2.2.2 g hw hmc hms (K.2 _ hnw) (S.2.2.2.2 _ hini) hd ⟨hf, hlo⟩, S.2.2.2.2 _ hst, trivial⟩ ⟨cP_blind, fun U hU hW => ⟨rfl, by rw [hU], by rw [hU]; exact hPc, K.warm hW, hDc⟩⟩ rfl hn hls hst0 (lv_room hro) d hcs) hS (fun q _ h => hFc q h) hFc (fun u t H1 locs1 ht hvm hw1 hB hz1 hk1 hS1 => ?_)
  obtain ⟨hP1, hD1⟩ := hB
  rw [ht] at hP1
  obtain ⟨hP2, hD2⟩ := rp_ok hP hD is hC (hlen u) hk1 hFc hP1 hD1
  exact kk u H1 locs1 hw1 hP2 hD2 hS1
end ZL
