theorem br_1 {al : Nat → Nat} {w i y : Nat} (hy : y = smF (fun j => al (22 + j) ^^^ pty (al (2 + j) &&& w)) i) (h : pty (w &&& al (2 + i)) = al (22 + i)) : y + 0 = smF (fun j => al (22 + j) ^^^ pty (al (2 + j) &&& w)) (i + 1) := by
  show _ = smF _ i + (al (22 + i) ^^^ pty (al (2 + i) &&& w))
  rw [Nat.and_comm (al (2 + i)), h, Nat.xor_self, hy]
theorem br_0 {al : Nat → Nat} {w i y : Nat} (hy : y = smF (fun j => al (22 + j) ^^^ pty (al (2 + j) &&& w)) i) (hg : al (22 + i) ≤ 1) (h : ¬ pty (w &&& al (2 + i)) = al (22 + i)) : y + 1 = smF (fun j => al (22 + j) ^^^ pty (al (2 + j) &&& w)) (i + 1) := by
  show _ = smF _ i + (al (22 + i) ^^^ pty (al (2 + i) &&& w))
  have hp := pty_le (w &&& al (2 + i))
  rw [Nat.and_comm (al (2 + i)), x01 hg hp, hy]
  omega
theorem idm_1 {al k1 : Nat → Nat} {i : Nat} {x : Int32} (e : x = nI i) (hi : i < al 1) (hn : al 1 ≤ 20) (hk : mR k1 = drR (mR al) i) : nI (naS (mR k1)) = r_ifDropped (mR al) x := by
  unfold r_ifDropped
  have e2 : hasP (mR al).2.1 x = true := hasP_n (n := al 1) e hi (by omega)
  rw [if_pos e2, e, tN_I (by omega), hk]
