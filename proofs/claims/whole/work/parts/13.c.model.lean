/-! the model's leading choices: from the top -/
def ox (t : Nat) : Nat := 11 - t
def MB (f g : Nat → Nat) (n : Nat) (le wh : Nat → Nat) : Prop := (∃ su, Bas ox f g n (kp f n) le su wh) ∧ ∀ j, le j < 4096
theorem redo_su (o ss su sr : Nat → Nat) (v b m0 : Nat) : ∀ k, (redo o ss su sr k (v, b, m0)).1 = (redo o ss z0 sr k (v, 0, m0)).1 ∧ (redo o ss su sr k (v, b, m0)).2.2 = (redo o ss z0 sr k (v, 0, m0)).2.2 ∧ (redo o ss z0 sr k (v, 0, m0)).2.1 = 0
  | 0 => ⟨rfl, rfl, rfl⟩
  | k + 1 => by
    obtain ⟨h1, h2, h3⟩ := redo_su o ss su sr v b m0 k
    show (rst ss su sr (o k) (redo o ss su sr k (v, b, m0))).1 = (rst ss z0 sr (o k) (redo o ss z0 sr k (v, 0, m0))).1 ∧ (rst ss su sr (o k) (redo o ss su sr k (v, b, m0))).2.2 = (rst ss z0 sr (o k) (redo o ss z0 sr k (v, 0, m0))).2.2 ∧ (rst ss z0 sr (o k) (redo o ss z0 sr k (v, 0, m0))).2.1 = 0
    unfold rst
    rw [h1]
    split
    · exact ⟨rfl, by show _ ^^^ _ = _ ^^^ _; rw [h2], by show _ ^^^ 0 = 0; rw [h3, Nat.xor_zero]⟩
    · exact ⟨h1, h2, h3⟩
theorem mb_redo {f g le wh : Nat → Nat} {n v q1 q3 : Nat} (hB : MB f g n le wh) (hq : redo ox le z0 wh 12 (v, 0, 0) = (q1, 0, q3)) : sbs q3 (kp f n) ∧ q1 = v ^^^ cmb f n q3 ∧ (q1 = 0 ↔ spn f n (kp f n) v) := by
  obtain ⟨⟨su, h⟩, -⟩ := hB
  obtain ⟨h1, h2, -⟩ := redo_su ox le su wh v 0 0 12
  rw [hq] at h1 h2
  obtain ⟨a, b, -, d, -⟩ := red_ok h (v := v) (b := 0) (q1 := q1) (q2 := (redo ox le su wh 12 (v, 0, 0)).2.1) (q3 := q3) (Prod.ext h1 (Prod.ext rfl h2))
  exact ⟨a, b, d⟩
theorem mb_rs {f g le wh : Nat → Nat} {n v q3 : Nat} (hB : MB f g n le wh) (hq : redo ox le z0 wh 12 (v, 0, 0) = (0, 0, q3)) : rsn f n v = q3 ∧ spn f n (kp f n) v := by
  obtain ⟨a, b, d⟩ := mb_redo hB hq
  exact ⟨rsn_eq a (x_0 b.symm).symm, d.mp rfl⟩
theorem mb_st {f g le wh : Nat → Nat} {n v b q1 q3 : Nat} (hB : MB f g n le wh) (hq : redo ox le z0 wh 12 (v, 0, 0) = (q1, 0, q3)) : stt f g n v b = if q1 = 0 then (if cmb g n q3 = b then 1 else 2) else 0 := by
  obtain ⟨-, -, d⟩ := mb_redo hB hq
  by_cases e : q1 = 0
  · rw [if_pos e, stt_n (d.mp e)]
    subst e
    rw [(mb_rs hB hq).1]
  · rw [if_neg e, stt_k (fun z => e (d.mpr z))]
theorem mb_0 {f g wh le : Nat → Nat} (h0 : ∀ j, j < 12 → le j = 0) (hl : ∀ j, le j < 4096) : MB f g 0 le wh := by
  have h1 : ∀ t, t < 12 → le (ox t) = 0 := fun t ht => h0 _ (by unfold ox; omega)
  exact ⟨⟨z0, fun t ht h => absurd (h1 t ht) h, fun t ht h => absurd (h1 t ht) h, fun j h => absurd h (Nat.not_lt_zero _)⟩, hl⟩
theorem mb_skip {f g le wh : Nat → Nat} {n : Nat} (hB : MB f g n le wh) (hs : spn f n (kp f n) (f n)) : MB f g (n + 1) le wh := by
  obtain ⟨⟨su, h⟩, hl⟩ := hB
  refine ⟨⟨su, ?_⟩, hl⟩
  rw [kp_pos hs]
  exact bas_skip h (kp_lt f n)
theorem mb_add {f g le wh : Nat → Nat} {n q1 q3 t : Nat} (hB : MB f g n le wh) (hq : redo ox le z0 wh 12 (f n, 0, 0) = (q1, 0, q3)) (h0 : ¬ q1 = 0) (hl1 : q1 < 4096) (ht : t < 12) (hb : q1.testBit t = true) (hhi : ∀ j, t < j → j < 12 → q1.testBit j = false) : MB f g (n + 1) (pu le t q1) (pu wh t (q3 ^^^ 1 <<< n)) := by
  obtain ⟨e1, -, d⟩ := mb_redo hB hq
  obtain ⟨⟨su, h⟩, hl⟩ := hB
  obtain ⟨h1, h2, -⟩ := redo_su ox le su wh (f n) (g n) 0 12
  rw [hq] at h1 h2
  have ho : ox (11 - t) = t := by unfold ox; omega
  have hn : ¬ spn f n (kp f n) (f n) := fun z => h0 (d.mpr z)
  have h3 := (bas_add (o := ox) (t0 := 11 - t) (q1 := q1) (q2 := (redo ox le su wh 12 (f n, g n, 0)).2.1) (q3 := q3) h (kp_lt f n) (fun a b ha hb q => by unfold ox at q; omega) (Prod.ext h1 (Prod.ext rfl h2)) (by omega) (by rw [ho]; exact hb) (fun t' ht' => hhi _ (by unfold ox; omega) (by unfold ox; omega))).2
  rw [ho] at h3
  refine ⟨⟨pu su t (redo ox le su wh 12 (f n, g n, 0)).2.1, ?_⟩, fun j => ?_⟩
  · rw [kp_neg hn, Nat.one_shiftLeft, ← or_xor (sbs_lt e1 (kp_lt f n))]
    exact h3
  · by_cases c : j = t
    · subst c; rw [pu_s]; exact hl1
    · rw [pu_n c]; exact hl j
theorem mred_hit {le wh : Nat → Nat} {k r1 r3 v : Nat} (h : redo ox le z0 wh (12 - (k + 1)) (v, 0, 0) = (r1, 0, r3)) (hk : k + 1 ≤ 12) (h1 : r1 >>> k &&& 1 = 1) (h2 : ¬ le k = 0) : redo ox le z0 wh (12 - k) (v, 0, 0) = (r1 ^^^ le k, 0, r3 ^^^ wh k) := by
  have e : 12 - k = (12 - (k + 1)) + 1 := by omega
  have ho : ox (12 - (k + 1)) = k := by unfold ox; omega
  rw [e]
  show rst le z0 wh (ox (12 - (k + 1))) (redo ox le z0 wh (12 - (k + 1)) (v, 0, 0)) = _
  rw [h, ho]
  unfold rst
  rw [if_pos ⟨(tb_1 r1 k).mp h1, h2⟩]
  show (r1 ^^^ le k, 0 ^^^ 0, r3 ^^^ wh k) = _
  rw [Nat.xor_zero]
theorem mred_sk {le wh : Nat → Nat} {k r1 r3 v : Nat} (h : redo ox le z0 wh (12 - (k + 1)) (v, 0, 0) = (r1, 0, r3)) (hk : k + 1 ≤ 12) (h1 : ¬ r1 >>> k &&& 1 = 1 ∨ le k = 0) : redo ox le z0 wh (12 - k) (v, 0, 0) = (r1, 0, r3) := by
  have e : 12 - k = (12 - (k + 1)) + 1 := by omega
  have ho : ox (12 - (k + 1)) = k := by unfold ox; omega
  rw [e]
  show rst le z0 wh (ox (12 - (k + 1))) (redo ox le z0 wh (12 - (k + 1)) (v, 0, 0)) = _
  rw [h, ho]
  unfold rst
  rw [if_neg]
  exact fun z => h1.elim (fun q => q ((tb_1 r1 k).mpr z.1)) z.2
theorem mred_lt {le wh : Nat → Nat} {v : Nat} (hl : ∀ j, le j < 4096) (hv : v < 4096) : ∀ k, (redo ox le z0 wh k (v, 0, 0)).1 < 4096
  | 0 => hv
  | k + 1 => by
    have ih := mred_lt (wh := wh) hl hv k
    show (rst le z0 wh (ox k) (redo ox le z0 wh k (v, 0, 0))).1 < 4096
    unfold rst
    split
    · exact xor12 ih (hl _)
    · exact ih
theorem mred_ex (le wh : Nat → Nat) (v : Nat) : ∃ q1 q3, redo ox le z0 wh 12 (v, 0, 0) = (q1, 0, q3) :=
  ⟨(redo ox le z0 wh 12 (v, 0, 0)).1, (redo ox le z0 wh 12 (v, 0, 0)).2.2, by conv => lhs; rw [show redo ox le z0 wh 12 (v, 0, 0) = ((redo ox le z0 wh 12 (v, 0, 0)).1, (redo ox le z0 wh 12 (v, 0, 0)).2.1, (redo ox le z0 wh 12 (v, 0, 0)).2.2) from rfl, (redo_su ox le z0 wh v 0 0 12).2.2]⟩
theorem mcmb_1 {f : Nat → Nat} {w i y : Nat} (hy : y = cmb f i w) (h : w >>> i &&& 1 = 1) : y ^^^ f i = cmb f (i + 1) w := by
  show _ = cmb f i w ^^^ (if w.testBit i = true then f i else 0)
  rw [if_pos ((tb_1 w i).mp h), hy]
theorem mcmb_0 {f : Nat → Nat} {w i y : Nat} (hy : y = cmb f i w) (h : ¬ w >>> i &&& 1 = 1) : y ^^^ 0 = cmb f (i + 1) w := by
  show _ = cmb f i w ^^^ (if w.testBit i = true then f i else 0)
  rw [if_neg (fun z => h ((tb_1 w i).mpr z)), hy]
/-- what the model has judged -/
def MV (f g : Nat → Nat) (n : Nat) (st re le wh : Nat → Nat) : Prop :=
  (∀ i, i < n → st i = stt f g i (f i) (g i)) ∧ (∀ i, i < n → ¬ st i = 0 → re i = rsn f i (f i)) ∧ MB f g n le wh
theorem mv_up {f g st re le wh le2 wh2 : Nat → Nat} {n k q1 q3 : Nat} (h : MV f g n st re le wh) (hq : redo ox le z0 wh 12 (f n, 0, 0) = (q1, 0, q3)) (hk : k = stt f g n (f n) (g n)) (hB : MB f g (n + 1) le2 wh2) : MV f g (n + 1) (pu st n k) (pu re n q3) le2 wh2 := by
  obtain ⟨h1, h2, h3⟩ := h
  refine ⟨fun i hi => ?_, fun i hi => ?_, hB⟩
  · by_cases e : i = n
    · subst e; rw [pu_s, hk]
    · rw [pu_n e]; exact h1 i (by omega)
  · by_cases e : i = n
    · subst e
      rw [pu_s, pu_s, hk]
      intro q
      obtain ⟨-, -, d⟩ := mb_redo h3 hq
      have hs : spn f i (kp f i) (f i) := Classical.byContradiction (fun z => q (stt_k z))
      have hz := d.mpr hs
      subst hz
      exact (mb_rs h3 hq).1.symm
    · rw [pu_n e, pu_n e]; exact h2 i (by omega)
def mH (q : Nat) (hy : Nat → Nat) : HT := (q, fun k => if k < q then mR (fun j => hy (42 * k + j)) else R0)
theorem mR_eq {a b : Nat → Nat} (h : ∀ j, j < 42 → a j = b j) (hn : a 1 ≤ 20) : mR a = mR b := by
  unfold mR
  rw [← h 0 (by omega), ← h 1 (by omega)]
  exact mkR_eq (fun j hj => h _ (by omega)) (fun j hj => h _ (by omega))
theorem mh_push {q hq : Nat} {hy k0 k1 ka : Nat → Nat} (hk0 : q = hq ∧ hq < 6 ∧ k0 = hy ∨ hq = 6 ∧ q = 5 ∧ ∀ j, j < 210 → k0 j = hy (j + 42)) (hk1 : ∀ j, k1 j = if 42 * q ≤ j ∧ j < 42 * q + 42 then ka (j - 42 * q) else k0 j) (hn : ∀ k, k < hq → hy (42 * k + 1) ≤ 20) (ha : ka 1 ≤ 20) : mH (q + 1) k1 = pushH (mH hq hy) (mR ka) := by
  have hq1 : mR (fun j => k1 (42 * q + j)) = mR ka := (mR_eq (a := ka) (fun j hj => by
    show ka j = k1 (42 * q + j)
    rw [hk1, if_pos (by omega), show 42 * q + j - 42 * q = j by omega]) ha).symm
  rcases hk0 with ⟨rfl, h1, rfl⟩ | ⟨rfl, rfl, h2⟩
  · unfold pushH
    rw [if_pos (show (mH q k0).1 < 6 from h1)]
    show (q + 1, _) = (q + 1, _)
    congr 1
    funext k
    show (if k < q + 1 then mR (fun j => k1 (42 * k + j)) else R0) = if k = q then mR ka else if k < q then mR (fun j => k0 (42 * k + j)) else R0
    by_cases e : k = q
    · subst e
      rw [if_pos (by omega), if_pos rfl, hq1]
    · rw [if_neg e]
      by_cases d : k < q
      · rw [if_pos d, if_pos (by omega)]
        exact (mR_eq (a := fun j => k0 (42 * k + j)) (fun j hj => by
          show k0 (42 * k + j) = k1 (42 * k + j)
          rw [hk1, if_neg (by omega)]) (hn k d)).symm
      · rw [if_neg d, if_neg (by omega)]
  · unfold pushH
    rw [if_neg (show ¬ (mH 6 hy).1 < 6 from Nat.lt_irrefl 6)]
    show (6, _) = (6, _)
    congr 1
    funext k
    show (if k < 6 then mR (fun j => k1 (42 * k + j)) else R0) = if k = 5 then mR ka else if k + 1 < 6 then mR (fun j => hy (42 * (k + 1) + j)) else R0
    by_cases e : k = 5
    · subst e
      rw [if_pos (by omega), if_pos rfl]
      exact hq1
    · rw [if_neg e]
      by_cases d : k < 6
      · rw [if_pos d, if_pos (by omega)]
        exact (mR_eq (a := fun j => hy (42 * (k + 1) + j)) (fun j hj => by
          show hy (42 * (k + 1) + j) = k1 (42 * k + j)
          rw [hk1, if_neg (by omega), h2 _ (by omega), show 42 * k + j + 42 = 42 * (k + 1) + j by omega]) (hn (k + 1) (by omega))).symm
      · rw [if_neg d, if_neg (by omega)]
theorem sh_1 {k0 hy : Nat → Nat} {i : Nat} (h : ∀ j, k0 j = if j < i then hy (j + 42) else hy j) : ∀ j, pu k0 i (k0 (i + 42)) j = if j < i + 1 then hy (j + 42) else hy j := by
  intro j
  by_cases e : j = i
  · rw [e, pu_s, h, if_neg (by omega), if_pos (by omega)]
  · rw [pu_n e, h]
    by_cases d : j < i
    · rw [if_pos d, if_pos (by omega)]
    · rw [if_neg d, if_neg (by omega)]
theorem sh_2 {k0 k1 ka : Nat → Nat} {i b : Nat} (h : ∀ j, k1 j = if b ≤ j ∧ j < b + i then ka (j - b) else k0 j) : ∀ j, pu k1 (b + i) (ka i) j = if b ≤ j ∧ j < b + (i + 1) then ka (j - b) else k0 j := by
  intro j
  by_cases e : j = b + i
  · rw [e, pu_s, if_pos (by omega), show b + i - b = i by omega]
  · rw [pu_n e, h]
    by_cases d : b ≤ j ∧ j < b + i
    · rw [if_pos d, if_pos (by omega)]
    · rw [if_neg d, if_neg (by omega)]
