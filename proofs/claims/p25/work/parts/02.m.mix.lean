/-! a world with some cells put anew, in one pass -/
def gt : va_W → Nat → Nat × va_E → Nat × va_E
  | e :: _, 0, _ => e
  | _ :: es, j + 1, w => gt es j w
  | [], _, w => w
def mx : va_W → List (Option Nat) → va_W → va_W
  | w :: ws, some j :: s, es => gt es j w :: mx ws s es
  | w :: ws, none :: s, es => w :: mx ws s es
  | ws, [], _ => ws
  | [], _ :: _, _ => []
theorem gt_in : ∀ (es : va_W) (j : Nat) (w : Nat × va_E), j < es.length → es[j]? = some (gt es j w)
  | e :: es, 0, w, _ => rfl
  | e :: es, j + 1, w, h => by
    rw [List.getElem?_cons_succ]
    exact gt_in es j w (by simpa using h)
  | [], j, w, h => by simp at h
theorem mx_get : ∀ (ws : va_W) (s : List (Option Nat)) (es : va_W) (k : Nat) (q : Nat × va_E), (mx ws s es)[k]? = some q → ∃ w, ws[k]? = some w ∧ ((∃ j, s[k]? = some (some j) ∧ q = gt es j w) ∨ ((∀ j, ¬ s[k]? = some (some j)) ∧ q = w))
  | w :: ws, some j :: s, es, 0, q, h => ⟨w, rfl, Or.inl ⟨j, rfl, (Option.some.inj h).symm⟩⟩
  | w :: ws, none :: s, es, 0, q, h => ⟨w, rfl, Or.inr ⟨fun j z => (by simp at z), (Option.some.inj h).symm⟩⟩
  | w :: ws, some j :: s, es, k + 1, q, h => mx_get ws s es k q h
  | w :: ws, none :: s, es, k + 1, q, h => mx_get ws s es k q h
  | w :: ws, [], es, k, q, h => ⟨q, h, Or.inr ⟨fun j z => (by simp at z), rfl⟩⟩
  | [], [], es, k, q, h => by simp [mx] at h
  | [], _ :: _, es, k, q, h => by simp [mx] at h
theorem rp_out : ∀ (is : List Nat) (es ws : va_W) (k : Nat), k ∉ is → (rp ws is es)[k]? = ws[k]?
  | [], es, ws, k, _ => by cases es <;> rfl
  | i :: is, [], ws, k, _ => rfl
  | i :: is, e :: es, ws, k, h => by
    show (rp (ws.set i e) is es)[k]? = _
    rw [rp_out is es (ws.set i e) k (fun z => h (List.mem_cons_of_mem _ z)), List.getElem?_set_ne (fun z => h (by rw [← z]; exact List.mem_cons_self))]
theorem rp_in : ∀ (is : List Nat) (es ws : va_W) (j k : Nat), is[j]? = some k → (∀ j', is[j']? = some k → j' = j) → es.length = is.length → k < ws.length → (rp ws is es)[k]? = es[j]?
  | [], es, ws, j, k, h, _, _, _ => by simp at h
  | i :: is, [], ws, j, k, h, _, hl, _ => by simp at hl
  | i :: is, e :: es, ws, 0, k, h, hu, hl, hk => by
    have hi : i = k := by simpa using h
    subst hi
    show (rp (ws.set i e) is es)[i]? = some e
    rw [rp_out is es (ws.set i e) i (fun z => by
      obtain ⟨t, ht⟩ := List.mem_iff_getElem?.mp z
      have := hu (t + 1) (by rw [List.getElem?_cons_succ]; exact ht)
      omega), List.getElem?_set_self hk]
  | i :: is, e :: es, ws, j + 1, k, h, hu, hl, hk => by
    show (rp (ws.set i e) is es)[k]? = es[j]?
    exact rp_in is es (ws.set i e) j k (by rw [List.getElem?_cons_succ] at h; exact h) (fun j' h' => by
      have := hu (j' + 1) (by rw [List.getElem?_cons_succ]; exact h')
      omega) (by simpa using hl) (by rw [List.length_set]; exact hk)
def mck (is : List Nat) (s : List (Option Nat)) : Bool :=
  (List.range s.length).all (fun k => match s[k]? with | some (some j) => is[j]? == some k | some none => !is.contains k | none => true) &&
  (List.range is.length).all (fun j => match is[j]? with | some k => s[k]? == some (some j) | none => true)
theorem mx_rp {is : List Nat} {s : List (Option Nat)} {ws w1 : va_W} (hc : mck is s = true) (hn : ws.length = s.length) (hl : w1.length = is.length) {k : Nat} {q : Nat × va_E} (h : (mx ws s w1)[k]? = some q) : (rp ws is w1)[k]? = some q := by
  obtain ⟨w, h1, h2⟩ := mx_get ws s w1 k q h
  have hk : k < ws.length := (List.getElem?_eq_some_iff.mp h1).1
  unfold mck at hc
  rw [Bool.and_eq_true, List.all_eq_true, List.all_eq_true] at hc
  have c1 := hc.1 k (List.mem_range.mpr (by omega))
  have uq : ∀ j' : Nat, is[j']? = some k → s[k]? = some (some j') := by
    intro j' h'
    have c2 := hc.2 j' (List.mem_range.mpr (List.getElem?_eq_some_iff.mp h').1)
    rw [h'] at c2
    simpa using c2
  rcases h2 with ⟨j, h3, h4⟩ | ⟨h3, h4⟩
  · rw [h3] at c1
    have hj : is[j]? = some k := by simpa using c1
    rw [rp_in is w1 ws j k hj (fun j' h' => by
      have := uq j' h'
      rw [h3] at this
      injection this with this
      injection this with this
      exact this.symm) hl hk, h4]
    exact gt_in w1 j w (by rw [hl]; exact (List.getElem?_eq_some_iff.mp hj).1)
  · rw [rp_out is w1 ws k (fun z => by
      obtain ⟨t, ht⟩ := List.mem_iff_getElem?.mp z
      exact h3 t (uq t ht)), h4]
    exact h1
theorem mx_ok {A : Nat → Prop} {D : va_G} {cl : List vw_C} {is : List Nat} {ws w1 : va_W} {H : Heap} (s : List (Option Nat)) (hc : mck is s = true) (hn : ws.length = s.length) (hl : w1.length = is.length) (hP : va_P D cl (rp ws is w1) H) (hD : va_D A (rp ws is w1)) : va_P D cl (mx ws s w1) H ∧ va_D A (mx ws s w1) :=
  ⟨fun k q hq => hP k q (mx_rp hc hn hl hq), fun i j x y hx hy hxy => hD.1 i j x y (mx_rp hc hn hl hx) (mx_rp hc hn hl hy) hxy, fun k q hq => hD.2 k q (mx_rp hc hn hl hq)⟩
