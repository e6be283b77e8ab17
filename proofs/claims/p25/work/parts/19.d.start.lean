set_option maxRecDepth 20000 in
theorem nwL_in : ∀ w ∈ nwL, w ∈ lw_tbl := zm_r _ [25, 57, 103, 125, 410, 405, 153, 313, 178, 388] rfl
set_option maxHeartbeats 4000000 in
set_option maxRecDepth 20000 in
theorem gk_ex {s : State} {args : Array Value} (hts : ∀ w ∈ lw_tbl, w.before args s = true) : ∃ G : gT, gK G s := by
  obtain ⟨c0, d0, k0⟩ := u_known (C := RX0) (T := TX0) (N := 4) (n := 4) hts mwsX00 (hts (.instantiable RX0 4) (List.mem_of_getElem? (i := 102) rfl))
  obtain ⟨c1, d1, k1⟩ := u_known (C := RX1) (T := TX1) (N := 2) (n := 2) hts mwsX10 (hts (.instantiable RX1 2) (List.mem_of_getElem? (i := 146) rfl))
  obtain ⟨c2, d2, k2⟩ := u_known (C := RX2) (T := TX2) (N := 6) (n := 6) hts mwsX20 (hts (.instantiable RX2 6) (List.mem_of_getElem? (i := 124) rfl))
  obtain ⟨c3, d3, k3⟩ := u_known (C := RX3) (T := TX3) (N := 4) (n := 4) hts mwsX30 (hts (.instantiable RX3 4) (List.mem_of_getElem? (i := 24) rfl))
  obtain ⟨c4, d4, k4⟩ := u_known (C := RX4) (T := TX4) (N := 12) (n := 12) hts mwsX40 (hts (.instantiable RX4 12) (List.mem_of_getElem? (i := 56) rfl))
  obtain ⟨c5, d5, k5⟩ := u_known (C := RX5) (T := TX5) (N := 11) (n := 11) hts mwsX50 (hts (.instantiable RX5 11) (List.mem_of_getElem? (i := 16) rfl))
  obtain ⟨cI, kI, pI, I1, I2, I3⟩ := Cond.arrayClass_spec (hts (.arrayClass .int) (List.mem_of_getElem? (i := 54) rfl))
  obtain ⟨cC, kC, pC, C1, C2, C3⟩ := Cond.arrayClass_spec (hts (.arrayClass .char) (List.mem_of_getElem? (i := 144) rfl))
  obtain ⟨cZ, kZ, pZ, Z1, Z2, Z3⟩ := Cond.arrayClass_spec (hts (.arrayClass .boolean) (List.mem_of_getElem? (i := 221) rfl))
  obtain ⟨pO, cO, kO, O1, O2, O3, O4, O5⟩ := Cond.arrayOver_spec (hts (.arrayOver (.object RX3)) (List.mem_of_getElem? (i := 152) rfl))
  refine ⟨(fun k => if k = 0 then c0 else if k = 1 then c1 else if k = 2 then c2 else if k = 3 then c3 else if k = 4 then c4 else c5, fun k => if k = 0 then d0 else if k = 1 then d1 else if k = 2 then d2 else if k = 3 then d3 else if k = 4 then d4 else d5, cI, cC, cZ, cO), ⟨⟨?_, ?_⟩, fun w hw => ?_⟩⟩
  · intro k q hq
    match k, hq with
    | 0, hq => cases hq; exact k0
    | 1, hq => cases hq; exact k1
    | 2, hq => cases hq; exact k2
    | 3, hq => cases hq; exact k3
    | 4, hq => cases hq; exact k4
    | 5, hq => cases hq; exact k5
    | k + 6, hq => simp [vwCl] at hq
  · intro k q hq
    match k, hq with
    | 0, hq => cases hq; exact ⟨fun N z => ⟨(fun k h => by cases h), kI, I2, pI, I3⟩, I1⟩
    | 1, hq => cases hq; exact ⟨fun N z => ⟨(fun k h => by cases h), kC, C2, pC, C3⟩, C1⟩
    | 2, hq => cases hq; exact ⟨fun N z => ⟨(fun k h => by cases h), kZ, Z2, pZ, Z3⟩, Z1⟩
    | 3, hq => cases hq; exact ⟨fun N z => ⟨(fun k h => by cases h), kO, O3, pO, O4⟩, ⟨kO, pO, O3, O4, O1, O5⟩⟩
    | k + 4, hq => simp [gY] at hq
  · obtain ⟨a, i, x, h, rfl⟩ := nw_form w hw
    exact va_Nw.of rfl (hts _ (nwL_in _ hw))
set_option maxHeartbeats 4000000 in
set_option maxRecDepth 20000 in
theorem whole_start {p : Program} {e : Env} {s : State} {m : MethodId} {below : List Frame} {meth : Method} {c : Code} (l : Launch) (hflags : l.flags = flags0) {b L : Nat} {xs : Nat → Int32} (hL : L ≤ 260) (C0 : lw_At p s m meth c b L xs) : W p l e room_1 s m #[Value.ref b] below meth c s.heap [] 0 0 (lw_Z below #[Value.ref b] s) (entryFrame m ([Value.ref b] : List Value).toArray 8) := by
  obtain ⟨hx, hb, hr, hml, hown, hts, hX, hbl, hlocks, hgv⟩ := id C0
  obtain ⟨G, K⟩ := gk_ex hts
  have hAO : va_AO RX3 s := va_AO.of (hts (.arrayOver (.object RX3)) (List.mem_of_getElem? (i := 152) rfl))
  have hl := lv_entry ([.ref b]) (n := 8) (Nat.le_of_ble_eq_true rfl)
  rw [lg_entry_eq]
  generalize (lg_sl ([.ref b]) ++ List.replicate (8 - (lg_sl ([.ref b])).length) Slot.unset).toArray = ls at hl ⊢
  have hl : lv_has ls 8 [(0, .ref b)] := hl
  exact law_start l hL ⟨hx, hb, hml, hown, fun w hw => hts w (wsL_law_in w hw)⟩ K hAO hX hbl hr hlocks (A := fun q => s.heap.size ≤ q) (fun _ h => h) (fun _ h => h) (Nat.not_le.mpr hbl) (fun k q h => by simp at h) ⟨fun i j p q h => by simp at h, fun k q h => by simp at h⟩ va_S.rf ls hl
