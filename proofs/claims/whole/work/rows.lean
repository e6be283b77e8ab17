section
-- ===== PART A: goes FIRST, ahead of the names: the tables' words, and 'selects' of the private methods out of them =====
/-- a private method of a class that the tables say can be made, by its rows of tables_1 -/
def lw_okq (q : MethodName × Nat) : Prop := (q.1.cls ≠ "java/lang/invoke/MethodHandle" ∧ q.1.cls ≠ "java/lang/invoke/VarHandle") ∧ Cond.instantiable q.1.cls q.2 ∈ tables_1 ∧ Cond.privateMethod q.1 ∈ tables_1 ∧ Cond.instanceMethod q.1 ∈ tables_1
theorem lw_p0 : lw_okq (⟨"ParityRules$Verdict", "judgeNext", "(II)V"⟩, 12) := ⟨⟨by decide +kernel, by decide +kernel⟩, List.mem_of_getElem? (i := 52) (by decide +kernel), List.mem_of_getElem? (i := 168) (by decide +kernel), List.mem_of_getElem? (i := 169) (by decide +kernel)⟩
theorem lw_p1 : lw_okq (⟨"ParityRules$Verdict", "combine", "(II)V"⟩, 12) := ⟨⟨by decide +kernel, by decide +kernel⟩, List.mem_of_getElem? (i := 52) (by decide +kernel), List.mem_of_getElem? (i := 176) (by decide +kernel), List.mem_of_getElem? (i := 177) (by decide +kernel)⟩
theorem lw_p2 : lw_okq (⟨"ParityRules$History", "dropOldest", "()V"⟩, 2) := ⟨⟨by decide +kernel, by decide +kernel⟩, List.mem_of_getElem? (i := 147) (by decide +kernel), List.mem_of_getElem? (i := 236) (by decide +kernel), List.mem_of_getElem? (i := 237) (by decide +kernel)⟩
theorem lw_p3 : lw_okq (⟨"ParityRules", "isRule", "(II)Z"⟩, 11) := ⟨⟨by decide +kernel, by decide +kernel⟩, List.mem_of_getElem? (i := 11) (by decide +kernel), List.mem_of_getElem? (i := 251) (by decide +kernel), List.mem_of_getElem? (i := 252) (by decide +kernel)⟩
theorem lw_p4 : lw_okq (⟨"ParityRules$Pad", "startRule", "()V"⟩, 6) := ⟨⟨by decide +kernel, by decide +kernel⟩, List.mem_of_getElem? (i := 120) (by decide +kernel), List.mem_of_getElem? (i := 301) (by decide +kernel), List.mem_of_getElem? (i := 302) (by decide +kernel)⟩
theorem lw_p5 : lw_okq (⟨"ParityRules$Pad", "canStand", "(CLParityRules$Row;)Z"⟩, 6) := ⟨⟨by decide +kernel, by decide +kernel⟩, List.mem_of_getElem? (i := 120) (by decide +kernel), List.mem_of_getElem? (i := 305) (by decide +kernel), List.mem_of_getElem? (i := 306) (by decide +kernel)⟩
theorem lw_p6 : lw_okq (⟨"ParityRules$Pad", "canStartChoice", "(C)Z"⟩, 6) := ⟨⟨by decide +kernel, by decide +kernel⟩, List.mem_of_getElem? (i := 120) (by decide +kernel), List.mem_of_getElem? (i := 309) (by decide +kernel), List.mem_of_getElem? (i := 310) (by decide +kernel)⟩
theorem lw_p7 : lw_okq (⟨"ParityRules$Pad", "canStandInChoice", "(C)Z"⟩, 6) := ⟨⟨by decide +kernel, by decide +kernel⟩, List.mem_of_getElem? (i := 120) (by decide +kernel), List.mem_of_getElem? (i := 313) (by decide +kernel), List.mem_of_getElem? (i := 314) (by decide +kernel)⟩
theorem lw_p8 : lw_okq (⟨"ParityRules$Pad", "canBeSum", "(CLParityRules$Row;)Z"⟩, 6) := ⟨⟨by decide +kernel, by decide +kernel⟩, List.mem_of_getElem? (i := 120) (by decide +kernel), List.mem_of_getElem? (i := 317) (by decide +kernel), List.mem_of_getElem? (i := 318) (by decide +kernel)⟩
theorem lw_p9 : lw_okq (⟨"ParityRules$Verdict", "fillExchanges", "()V"⟩, 12) := ⟨⟨by decide +kernel, by decide +kernel⟩, List.mem_of_getElem? (i := 52) (by decide +kernel), List.mem_of_getElem? (i := 382) (by decide +kernel), List.mem_of_getElem? (i := 383) (by decide +kernel)⟩
theorem lw_p10 : lw_okq (⟨"ParityRules$BestAnswer", "fillExchanges", "(LParityRules$Row;)V"⟩, 4) := ⟨⟨by decide +kernel, by decide +kernel⟩, List.mem_of_getElem? (i := 98) (by decide +kernel), List.mem_of_getElem? (i := 397) (by decide +kernel), List.mem_of_getElem? (i := 398) (by decide +kernel)⟩
theorem lw_p11 : lw_okq (⟨"ParityRulesModel", "keep", "()V"⟩, 20) := ⟨⟨by decide +kernel, by decide +kernel⟩, List.mem_of_getElem? (i := 459) (by decide +kernel), List.mem_of_getElem? (i := 534) (by decide +kernel), List.mem_of_getElem? (i := 535) (by decide +kernel)⟩
theorem lw_p12 : lw_okq (⟨"ParityRulesModel", "changed", "(I)I"⟩, 20) := ⟨⟨by decide +kernel, by decide +kernel⟩, List.mem_of_getElem? (i := 459) (by decide +kernel), List.mem_of_getElem? (i := 538) (by decide +kernel), List.mem_of_getElem? (i := 539) (by decide +kernel)⟩
theorem lw_p13 : lw_okq (⟨"ParityRulesModel", "isSet", "(I)Z"⟩, 20) := ⟨⟨by decide +kernel, by decide +kernel⟩, List.mem_of_getElem? (i := 459) (by decide +kernel), List.mem_of_getElem? (i := 546) (by decide +kernel), List.mem_of_getElem? (i := 547) (by decide +kernel)⟩
theorem lw_p14 : lw_okq (⟨"ParityRulesModel", "masks", "()I"⟩, 20) := ⟨⟨by decide +kernel, by decide +kernel⟩, List.mem_of_getElem? (i := 459) (by decide +kernel), List.mem_of_getElem? (i := 550) (by decide +kernel), List.mem_of_getElem? (i := 551) (by decide +kernel)⟩
theorem lw_p15 : lw_okq (⟨"ParityRulesModel", "adds", "(II)V"⟩, 20) := ⟨⟨by decide +kernel, by decide +kernel⟩, List.mem_of_getElem? (i := 459) (by decide +kernel), List.mem_of_getElem? (i := 554) (by decide +kernel), List.mem_of_getElem? (i := 555) (by decide +kernel)⟩
def lw_privs_1 : List (MethodName × Nat) := [(⟨"ParityRules$Verdict", "judgeNext", "(II)V"⟩, 12), (⟨"ParityRules$Verdict", "combine", "(II)V"⟩, 12), (⟨"ParityRules$History", "dropOldest", "()V"⟩, 2), (⟨"ParityRules", "isRule", "(II)Z"⟩, 11), (⟨"ParityRules$Pad", "startRule", "()V"⟩, 6), (⟨"ParityRules$Pad", "canStand", "(CLParityRules$Row;)Z"⟩, 6), (⟨"ParityRules$Pad", "canStartChoice", "(C)Z"⟩, 6), (⟨"ParityRules$Pad", "canStandInChoice", "(C)Z"⟩, 6), (⟨"ParityRules$Pad", "canBeSum", "(CLParityRules$Row;)Z"⟩, 6), (⟨"ParityRules$Verdict", "fillExchanges", "()V"⟩, 12), (⟨"ParityRules$BestAnswer", "fillExchanges", "(LParityRules$Row;)V"⟩, 4), (⟨"ParityRulesModel", "keep", "()V"⟩, 20), (⟨"ParityRulesModel", "changed", "(I)I"⟩, 20), (⟨"ParityRulesModel", "isSet", "(I)Z"⟩, 20), (⟨"ParityRulesModel", "masks", "()I"⟩, 20), (⟨"ParityRulesModel", "adds", "(II)V"⟩, 20)]
theorem lw_r1 : ∀ q ∈ lw_privs_1, lw_okq q := List.forall_mem_cons.mpr ⟨lw_p0, List.forall_mem_cons.mpr ⟨lw_p1, List.forall_mem_cons.mpr ⟨lw_p2, List.forall_mem_cons.mpr ⟨lw_p3, List.forall_mem_cons.mpr ⟨lw_p4, List.forall_mem_cons.mpr ⟨lw_p5, List.forall_mem_cons.mpr ⟨lw_p6, List.forall_mem_cons.mpr ⟨lw_p7, List.forall_mem_cons.mpr ⟨lw_p8, List.forall_mem_cons.mpr ⟨lw_p9, List.forall_mem_cons.mpr ⟨lw_p10, List.forall_mem_cons.mpr ⟨lw_p11, List.forall_mem_cons.mpr ⟨lw_p12, List.forall_mem_cons.mpr ⟨lw_p13, List.forall_mem_cons.mpr ⟨lw_p14, List.forall_mem_cons.mpr ⟨lw_p15, fun _ h => absurd h List.not_mem_nil⟩⟩⟩⟩⟩⟩⟩⟩⟩⟩⟩⟩⟩⟩⟩⟩
theorem lw_p16 : lw_okq (⟨"ParityRulesModel", "judges", "()V"⟩, 20) := ⟨⟨by decide +kernel, by decide +kernel⟩, List.mem_of_getElem? (i := 459) (by decide +kernel), List.mem_of_getElem? (i := 558) (by decide +kernel), List.mem_of_getElem? (i := 559) (by decide +kernel)⟩
theorem lw_p17 : lw_okq (⟨"ParityRulesModel", "stateOf", "(II)I"⟩, 20) := ⟨⟨by decide +kernel, by decide +kernel⟩, List.mem_of_getElem? (i := 459) (by decide +kernel), List.mem_of_getElem? (i := 562) (by decide +kernel), List.mem_of_getElem? (i := 563) (by decide +kernel)⟩
theorem lw_p18 : lw_okq (⟨"ParityRulesModel", "reduces", "(I)V"⟩, 20) := ⟨⟨by decide +kernel, by decide +kernel⟩, List.mem_of_getElem? (i := 459) (by decide +kernel), List.mem_of_getElem? (i := 566) (by decide +kernel), List.mem_of_getElem? (i := 567) (by decide +kernel)⟩
theorem lw_p19 : lw_okq (⟨"ParityRulesModel", "sumOf", "(I)I"⟩, 20) := ⟨⟨by decide +kernel, by decide +kernel⟩, List.mem_of_getElem? (i := 459) (by decide +kernel), List.mem_of_getElem? (i := 570) (by decide +kernel), List.mem_of_getElem? (i := 571) (by decide +kernel)⟩
theorem lw_p20 : lw_okq (⟨"ParityRulesModel", "isRule", "(I)Z"⟩, 20) := ⟨⟨by decide +kernel, by decide +kernel⟩, List.mem_of_getElem? (i := 459) (by decide +kernel), List.mem_of_getElem? (i := 578) (by decide +kernel), List.mem_of_getElem? (i := 579) (by decide +kernel)⟩
theorem lw_p21 : lw_okq (⟨"ParityRulesModel", "takesOut", "(I)V"⟩, 20) := ⟨⟨by decide +kernel, by decide +kernel⟩, List.mem_of_getElem? (i := 459) (by decide +kernel), List.mem_of_getElem? (i := 582) (by decide +kernel), List.mem_of_getElem? (i := 583) (by decide +kernel)⟩
theorem lw_p22 : lw_okq (⟨"ParityRulesModel", "moves", "(II)V"⟩, 20) := ⟨⟨by decide +kernel, by decide +kernel⟩, List.mem_of_getElem? (i := 459) (by decide +kernel), List.mem_of_getElem? (i := 590) (by decide +kernel), List.mem_of_getElem? (i := 591) (by decide +kernel)⟩
theorem lw_p23 : lw_okq (⟨"ParityRulesModel", "putsIn", "(III)V"⟩, 20) := ⟨⟨by decide +kernel, by decide +kernel⟩, List.mem_of_getElem? (i := 459) (by decide +kernel), List.mem_of_getElem? (i := 594) (by decide +kernel), List.mem_of_getElem? (i := 595) (by decide +kernel)⟩
theorem lw_p24 : lw_okq (⟨"ParityRulesModel", "reasonsWith", "(I)I"⟩, 20) := ⟨⟨by decide +kernel, by decide +kernel⟩, List.mem_of_getElem? (i := 459) (by decide +kernel), List.mem_of_getElem? (i := 606) (by decide +kernel), List.mem_of_getElem? (i := 607) (by decide +kernel)⟩
theorem lw_p25 : lw_okq (⟨"ParityRulesModel", "answers", "()I"⟩, 20) := ⟨⟨by decide +kernel, by decide +kernel⟩, List.mem_of_getElem? (i := 459) (by decide +kernel), List.mem_of_getElem? (i := 610) (by decide +kernel), List.mem_of_getElem? (i := 611) (by decide +kernel)⟩
theorem lw_p26 : lw_okq (⟨"ParityRulesModel", "rulesIn", "(I)I"⟩, 20) := ⟨⟨by decide +kernel, by decide +kernel⟩, List.mem_of_getElem? (i := 459) (by decide +kernel), List.mem_of_getElem? (i := 614) (by decide +kernel), List.mem_of_getElem? (i := 615) (by decide +kernel)⟩
theorem lw_p27 : lw_okq (⟨"ParityRulesModel", "knownOf", "(I)I"⟩, 20) := ⟨⟨by decide +kernel, by decide +kernel⟩, List.mem_of_getElem? (i := 459) (by decide +kernel), List.mem_of_getElem? (i := 622) (by decide +kernel), List.mem_of_getElem? (i := 623) (by decide +kernel)⟩
theorem lw_p28 : lw_okq (⟨"ParityRulesModel", "rulesWith", "(I)I"⟩, 20) := ⟨⟨by decide +kernel, by decide +kernel⟩, List.mem_of_getElem? (i := 459) (by decide +kernel), List.mem_of_getElem? (i := 626) (by decide +kernel), List.mem_of_getElem? (i := 627) (by decide +kernel)⟩
theorem lw_p29 : lw_okq (⟨"ParityRulesModel", "tiedTo", "(I)I"⟩, 20) := ⟨⟨by decide +kernel, by decide +kernel⟩, List.mem_of_getElem? (i := 459) (by decide +kernel), List.mem_of_getElem? (i := 630) (by decide +kernel), List.mem_of_getElem? (i := 631) (by decide +kernel)⟩
theorem lw_p30 : lw_okq (⟨"ParityRulesModel", "settled", "()I"⟩, 20) := ⟨⟨by decide +kernel, by decide +kernel⟩, List.mem_of_getElem? (i := 459) (by decide +kernel), List.mem_of_getElem? (i := 638) (by decide +kernel), List.mem_of_getElem? (i := 639) (by decide +kernel)⟩
theorem lw_p31 : lw_okq (⟨"ParityRulesModel", "isAnswer", "(I)Z"⟩, 20) := ⟨⟨by decide +kernel, by decide +kernel⟩, List.mem_of_getElem? (i := 459) (by decide +kernel), List.mem_of_getElem? (i := 646) (by decide +kernel), List.mem_of_getElem? (i := 647) (by decide +kernel)⟩
def lw_privs_2 : List (MethodName × Nat) := [(⟨"ParityRulesModel", "judges", "()V"⟩, 20), (⟨"ParityRulesModel", "stateOf", "(II)I"⟩, 20), (⟨"ParityRulesModel", "reduces", "(I)V"⟩, 20), (⟨"ParityRulesModel", "sumOf", "(I)I"⟩, 20), (⟨"ParityRulesModel", "isRule", "(I)Z"⟩, 20), (⟨"ParityRulesModel", "takesOut", "(I)V"⟩, 20), (⟨"ParityRulesModel", "moves", "(II)V"⟩, 20), (⟨"ParityRulesModel", "putsIn", "(III)V"⟩, 20), (⟨"ParityRulesModel", "reasonsWith", "(I)I"⟩, 20), (⟨"ParityRulesModel", "answers", "()I"⟩, 20), (⟨"ParityRulesModel", "rulesIn", "(I)I"⟩, 20), (⟨"ParityRulesModel", "knownOf", "(I)I"⟩, 20), (⟨"ParityRulesModel", "rulesWith", "(I)I"⟩, 20), (⟨"ParityRulesModel", "tiedTo", "(I)I"⟩, 20), (⟨"ParityRulesModel", "settled", "()I"⟩, 20), (⟨"ParityRulesModel", "isAnswer", "(I)Z"⟩, 20)]
theorem lw_r2 : ∀ q ∈ lw_privs_2, lw_okq q := List.forall_mem_cons.mpr ⟨lw_p16, List.forall_mem_cons.mpr ⟨lw_p17, List.forall_mem_cons.mpr ⟨lw_p18, List.forall_mem_cons.mpr ⟨lw_p19, List.forall_mem_cons.mpr ⟨lw_p20, List.forall_mem_cons.mpr ⟨lw_p21, List.forall_mem_cons.mpr ⟨lw_p22, List.forall_mem_cons.mpr ⟨lw_p23, List.forall_mem_cons.mpr ⟨lw_p24, List.forall_mem_cons.mpr ⟨lw_p25, List.forall_mem_cons.mpr ⟨lw_p26, List.forall_mem_cons.mpr ⟨lw_p27, List.forall_mem_cons.mpr ⟨lw_p28, List.forall_mem_cons.mpr ⟨lw_p29, List.forall_mem_cons.mpr ⟨lw_p30, List.forall_mem_cons.mpr ⟨lw_p31, fun _ h => absurd h List.not_mem_nil⟩⟩⟩⟩⟩⟩⟩⟩⟩⟩⟩⟩⟩⟩⟩⟩
theorem lw_p32 : lw_okq (⟨"ParityRulesModel", "fits", "(II)Z"⟩, 20) := ⟨⟨by decide +kernel, by decide +kernel⟩, List.mem_of_getElem? (i := 459) (by decide +kernel), List.mem_of_getElem? (i := 650) (by decide +kernel), List.mem_of_getElem? (i := 651) (by decide +kernel)⟩
theorem lw_p33 : lw_okq (⟨"ParityRulesModel", "broken", "(I)I"⟩, 20) := ⟨⟨by decide +kernel, by decide +kernel⟩, List.mem_of_getElem? (i := 459) (by decide +kernel), List.mem_of_getElem? (i := 673) (by decide +kernel), List.mem_of_getElem? (i := 674) (by decide +kernel)⟩
theorem lw_p34 : lw_okq (⟨"ParityRulesModel", "giveBack", "()V"⟩, 20) := ⟨⟨by decide +kernel, by decide +kernel⟩, List.mem_of_getElem? (i := 459) (by decide +kernel), List.mem_of_getElem? (i := 685) (by decide +kernel), List.mem_of_getElem? (i := 686) (by decide +kernel)⟩
theorem lw_p35 : lw_okq (⟨"ParityRulesModel", "readsRule", "()Z"⟩, 20) := ⟨⟨by decide +kernel, by decide +kernel⟩, List.mem_of_getElem? (i := 459) (by decide +kernel), List.mem_of_getElem? (i := 708) (by decide +kernel), List.mem_of_getElem? (i := 709) (by decide +kernel)⟩
theorem lw_p36 : lw_okq (⟨"ParityRulesModel", "readsChoice", "()Z"⟩, 20) := ⟨⟨by decide +kernel, by decide +kernel⟩, List.mem_of_getElem? (i := 459) (by decide +kernel), List.mem_of_getElem? (i := 712) (by decide +kernel), List.mem_of_getElem? (i := 713) (by decide +kernel)⟩
theorem lw_p37 : lw_okq (⟨"ParityRulesModel", "isHere", "(II)Z"⟩, 20) := ⟨⟨by decide +kernel, by decide +kernel⟩, List.mem_of_getElem? (i := 459) (by decide +kernel), List.mem_of_getElem? (i := 716) (by decide +kernel), List.mem_of_getElem? (i := 717) (by decide +kernel)⟩
theorem lw_p38 : lw_okq (⟨"ParityRulesModel", "takes", "(I)Z"⟩, 20) := ⟨⟨by decide +kernel, by decide +kernel⟩, List.mem_of_getElem? (i := 459) (by decide +kernel), List.mem_of_getElem? (i := 720) (by decide +kernel), List.mem_of_getElem? (i := 721) (by decide +kernel)⟩
def lw_privs_3 : List (MethodName × Nat) := [(⟨"ParityRulesModel", "fits", "(II)Z"⟩, 20), (⟨"ParityRulesModel", "broken", "(I)I"⟩, 20), (⟨"ParityRulesModel", "giveBack", "()V"⟩, 20), (⟨"ParityRulesModel", "readsRule", "()Z"⟩, 20), (⟨"ParityRulesModel", "readsChoice", "()Z"⟩, 20), (⟨"ParityRulesModel", "isHere", "(II)Z"⟩, 20), (⟨"ParityRulesModel", "takes", "(I)Z"⟩, 20)]
theorem lw_r3 : ∀ q ∈ lw_privs_3, lw_okq q := List.forall_mem_cons.mpr ⟨lw_p32, List.forall_mem_cons.mpr ⟨lw_p33, List.forall_mem_cons.mpr ⟨lw_p34, List.forall_mem_cons.mpr ⟨lw_p35, List.forall_mem_cons.mpr ⟨lw_p36, List.forall_mem_cons.mpr ⟨lw_p37, List.forall_mem_cons.mpr ⟨lw_p38, fun _ h => absurd h List.not_mem_nil⟩⟩⟩⟩⟩⟩⟩
def lw_privs : List (MethodName × Nat) := lw_privs_1 ++ (lw_privs_2 ++ (lw_privs_3))
def lw_tbl : List Cond := k2_sels lw_privs ++ tables_1
theorem lw_privs_ok : ∀ q ∈ lw_privs, lw_okq q := by
  show ∀ q ∈ lw_privs_1 ++ (lw_privs_2 ++ (lw_privs_3)), lw_okq q
  exact List.forall_mem_append.mpr ⟨lw_r1, List.forall_mem_append.mpr ⟨lw_r2, lw_r3⟩⟩
/-! ===== BEGIN words of one list among another's, by their places ===== -/
theorem goodIn_r {big : List Cond} (ws : List Cond) (ps : List Nat) (hp : ws = ps.filterMap (fun i => big[i]?)) (h : ws.all goodWord = true) : GoodIn big ws := by
  intro w hw
  have h1 := List.all_eq_true.mp h w hw
  rw [hp] at hw
  obtain ⟨i, -, hi⟩ := List.mem_filterMap.mp hw
  have hm : w ∈ big := by first | exact List.mem_of_getElem? hi | exact List.getElem?_mem hi
  exact ⟨hm, good_of_word h1⟩
theorem goodIn_app {big a b : List Cond} (ha : GoodIn big a) (hb : GoodIn big b) : GoodIn big (a ++ b) := fun w h => (List.mem_append.mp h).elim (ha w) (hb w)
theorem goodIn_ca {big a b : List Cond} {c : Cond} (ha : GoodIn big (c :: a)) (hb : GoodIn big b) : GoodIn big (c :: (a ++ b)) := fun w h => (List.mem_cons.mp h).elim (fun e => ha w (List.mem_cons.mpr (Or.inl e))) (fun h => (List.mem_append.mp h).elim (fun h => ha w (List.mem_cons.mpr (Or.inr h))) (hb w))
theorem goodIn_sub {big ws : List Cond} (hm : ∀ w ∈ ws, w ∈ big) (h : ws.all goodWord = true) : GoodIn big ws := fun w hw => ⟨hm w hw, good_of_word (List.all_eq_true.mp h w hw)⟩
/-! ===== END ===== -/

/-! ===== BEGIN printed: names, fields, word lists, decode rows ===== -/
def RX0 : String := "ParityRules$BestAnswer"
def TX0 : u_T := fun k => match k with
  | 0 => ("ParityRules$BestAnswer", "lowest", "I", false)
  | 1 => ("ParityRules$BestAnswer", "broken", "I", false)
  | 2 => ("ParityRules$BestAnswer", "asGood", "I", false)
  | _ => ("ParityRules$BestAnswer", "exchanges", "[I", true)
def tyX0 : Nat → FieldType := fun k => match k with
  | 0 => .int
  | 1 => .int
  | 2 => .int
  | _ => .array .int
abbrev wsX00 : List Cond := u_ws RX0 TX0 4
theorem nmX0 : ∀ a, a < 4 → ∀ b, b < 4 → a ≠ b → (TX0 a).2.1 ≠ (TX0 b).2.1 := by decide +kernel
theorem tyX0_ok : ∀ k, k < 4 → parseFieldDescriptor (TX0 k).2.2.1 = some (tyX0 k) := by decide +kernel
abbrev cX0_init : ByteArray := prog_2_method_1_code
def yX0_init : MethodName := ⟨RX0, "<init>", "()V"⟩
abbrev cX0_find : ByteArray := prog_2_method_2_code
def yX0_find : MethodName := ⟨RX0, "find", "(LParityRules$Row;)V"⟩
abbrev cX0_brokenByNone : ByteArray := prog_2_method_3_code
def yX0_brokenByNone : MethodName := ⟨RX0, "brokenByNone", "(LParityRules$Row;)I"⟩
abbrev cX0_fillExchanges : ByteArray := prog_2_method_4_code
def yX0_fillExchanges : MethodName := ⟨RX0, "fillExchanges", "(LParityRules$Row;)V"⟩
def RX1 : String := "ParityRules$History"
def TX1 : u_T := fun k => match k with
  | 0 => ("ParityRules$History", "states", "[LParityRules$Row;", true)
  | _ => ("ParityRules$History", "many", "I", false)
def tyX1 : Nat → FieldType := fun k => match k with
  | 0 => .array (.object "ParityRules$Row")
  | _ => .int
abbrev wsX10 : List Cond := u_ws RX1 TX1 2
theorem nmX1 : ∀ a, a < 2 → ∀ b, b < 2 → a ≠ b → (TX1 a).2.1 ≠ (TX1 b).2.1 := by decide +kernel
theorem tyX1_ok : ∀ k, k < 2 → parseFieldDescriptor (TX1 k).2.2.1 = some (tyX1 k) := by decide +kernel
abbrev cX1_init : ByteArray := prog_3_method_1_code
def yX1_init : MethodName := ⟨RX1, "<init>", "()V"⟩
abbrev cX1_remember : ByteArray := prog_3_method_2_code
def yX1_remember : MethodName := ⟨RX1, "remember", "(LParityRules$Row;)V"⟩
abbrev cX1_dropOldest : ByteArray := prog_3_method_3_code
def yX1_dropOldest : MethodName := ⟨RX1, "dropOldest", "()V"⟩
abbrev cX1_giveBack : ByteArray := prog_3_method_4_code
def yX1_giveBack : MethodName := ⟨RX1, "giveBack", "(LParityRules$Row;)V"⟩
def RX2 : String := "ParityRules$Pad"
def TX2 : u_T := fun k => match k with
  | 0 => ("ParityRules$Pad", "characters", "[C", true)
  | 1 => ("ParityRules$Pad", "length", "I", false)
  | 2 => ("ParityRules$Pad", "stage", "I", false)
  | 3 => ("ParityRules$Pad", "choiceAhead", "I", false)
  | 4 => ("ParityRules$Pad", "choiceHere", "I", false)
  | _ => ("ParityRules$Pad", "set", "I", false)
def tyX2 : Nat → FieldType := fun k => match k with
  | 0 => .array .char
  | 1 => .int
  | 2 => .int
  | 3 => .int
  | 4 => .int
  | _ => .int
abbrev wsX20 : List Cond := u_ws RX2 TX2 6
theorem nmX2 : ∀ a, a < 6 → ∀ b, b < 6 → a ≠ b → (TX2 a).2.1 ≠ (TX2 b).2.1 := by decide +kernel
theorem tyX2_ok : ∀ k, k < 6 → parseFieldDescriptor (TX2 k).2.2.1 = some (tyX2 k) := by decide +kernel
abbrev cX2_init : ByteArray := prog_4_method_1_code
def yX2_init : MethodName := ⟨RX2, "<init>", "()V"⟩
abbrev cX2_append : ByteArray := prog_4_method_2_code
def yX2_append : MethodName := ⟨RX2, "append", "(C)V"⟩
abbrev cX2_readInto : ByteArray := prog_4_method_3_code
def yX2_readInto : MethodName := ⟨RX2, "readInto", "(LParityRules$Row;)I"⟩
abbrev cX2_startRule : ByteArray := prog_4_method_4_code
def yX2_startRule : MethodName := ⟨RX2, "startRule", "()V"⟩
abbrev cX2_canStand : ByteArray := prog_4_method_5_code
def yX2_canStand : MethodName := ⟨RX2, "canStand", "(CLParityRules$Row;)Z"⟩
abbrev cX2_canStartChoice : ByteArray := prog_4_method_6_code
def yX2_canStartChoice : MethodName := ⟨RX2, "canStartChoice", "(C)Z"⟩
abbrev cX2_canStandInChoice : ByteArray := prog_4_method_7_code
def yX2_canStandInChoice : MethodName := ⟨RX2, "canStandInChoice", "(C)Z"⟩
abbrev cX2_canBeSum : ByteArray := prog_4_method_8_code
def yX2_canBeSum : MethodName := ⟨RX2, "canBeSum", "(CLParityRules$Row;)Z"⟩
def RX3 : String := "ParityRules$Row"
def TX3 : u_T := fun k => match k with
  | 0 => ("ParityRules$Row", "choices", "I", false)
  | 1 => ("ParityRules$Row", "many", "I", false)
  | 2 => ("ParityRules$Row", "sets", "[I", true)
  | _ => ("ParityRules$Row", "sums", "[I", true)
def tyX3 : Nat → FieldType := fun k => match k with
  | 0 => .int
  | 1 => .int
  | 2 => .array .int
  | _ => .array .int
abbrev wsX30 : List Cond := u_ws RX3 TX3 4
theorem nmX3 : ∀ a, a < 4 → ∀ b, b < 4 → a ≠ b → (TX3 a).2.1 ≠ (TX3 b).2.1 := by decide +kernel
theorem tyX3_ok : ∀ k, k < 4 → parseFieldDescriptor (TX3 k).2.2.1 = some (tyX3 k) := by decide +kernel
abbrev cX3_init : ByteArray := prog_5_method_1_code
def yX3_init : MethodName := ⟨RX3, "<init>", "()V"⟩
abbrev cX3_hasPlace : ByteArray := prog_5_method_2_code
def yX3_hasPlace : MethodName := ⟨RX3, "hasPlace", "(I)Z"⟩
abbrev cX3_hasSet : ByteArray := prog_5_method_3_code
def yX3_hasSet : MethodName := ⟨RX3, "hasSet", "(I)Z"⟩
abbrev cX3_setsStayBelow : ByteArray := prog_5_method_4_code
def yX3_setsStayBelow : MethodName := ⟨RX3, "setsStayBelow", "(I)Z"⟩
abbrev cX3_rulesWith : ByteArray := prog_5_method_5_code
def yX3_rulesWith : MethodName := ⟨RX3, "rulesWith", "(I)I"⟩
abbrev cX3_become : ByteArray := prog_5_method_6_code
def yX3_become : MethodName := ⟨RX3, "become", "(LParityRules$Row;)V"⟩
abbrev cX3_append : ByteArray := prog_5_method_7_code
def yX3_append : MethodName := ⟨RX3, "append", "(II)V"⟩
abbrev cX3_carryRule : ByteArray := prog_5_method_8_code
def yX3_carryRule : MethodName := ⟨RX3, "carryRule", "(II)V"⟩
abbrev cX3_takeOut : ByteArray := prog_5_method_9_code
def yX3_takeOut : MethodName := ⟨RX3, "takeOut", "(I)V"⟩
def RX4 : String := "ParityRules$Verdict"
def TX4 : u_T := fun k => match k with
  | 0 => ("ParityRules$Verdict", "choices", "I", false)
  | 1 => ("ParityRules$Verdict", "many", "I", false)
  | 2 => ("ParityRules$Verdict", "states", "[I", true)
  | 3 => ("ParityRules$Verdict", "reasons", "[I", true)
  | 4 => ("ParityRules$Verdict", "tally", "[I", true)
  | 5 => ("ParityRules$Verdict", "stepSets", "[I", true)
  | 6 => ("ParityRules$Verdict", "stepSums", "[I", true)
  | 7 => ("ParityRules$Verdict", "stepReasons", "[I", true)
  | 8 => ("ParityRules$Verdict", "restSet", "I", false)
  | 9 => ("ParityRules$Verdict", "restSum", "I", false)
  | 10 => ("ParityRules$Verdict", "restReason", "I", false)
  | _ => ("ParityRules$Verdict", "exchanges", "[I", true)
def tyX4 : Nat → FieldType := fun k => match k with
  | 0 => .int
  | 1 => .int
  | 2 => .array .int
  | 3 => .array .int
  | 4 => .array .int
  | 5 => .array .int
  | 6 => .array .int
  | 7 => .array .int
  | 8 => .int
  | 9 => .int
  | 10 => .int
  | _ => .array .int
abbrev wsX40 : List Cond := u_ws RX4 TX4 12
theorem nmX4 : ∀ a, a < 12 → ∀ b, b < 12 → a ≠ b → (TX4 a).2.1 ≠ (TX4 b).2.1 := by decide +kernel
theorem tyX4_ok : ∀ k, k < 12 → parseFieldDescriptor (TX4 k).2.2.1 = some (tyX4 k) := by decide +kernel
abbrev cX4_init : ByteArray := prog_6_method_1_code
def yX4_init : MethodName := ⟨RX4, "<init>", "()V"⟩
abbrev cX4_judge : ByteArray := prog_6_method_2_code
def yX4_judge : MethodName := ⟨RX4, "judge", "(LParityRules$Row;)V"⟩
abbrev cX4_judgeNext : ByteArray := prog_6_method_3_code
def yX4_judgeNext : MethodName := ⟨RX4, "judgeNext", "(II)V"⟩
abbrev cX4_stateOf : ByteArray := prog_6_method_4_code
def yX4_stateOf : MethodName := ⟨RX4, "stateOf", "(II)I"⟩
abbrev cX4_sumOf : ByteArray := prog_6_method_5_code
def yX4_sumOf : MethodName := ⟨RX4, "sumOf", "(I)I"⟩
abbrev cX4_combine : ByteArray := prog_6_method_6_code
def yX4_combine : MethodName := ⟨RX4, "combine", "(II)V"⟩
abbrev cX4_reasonsWith : ByteArray := prog_6_method_7_code
def yX4_reasonsWith : MethodName := ⟨RX4, "reasonsWith", "(I)I"⟩
abbrev cX4_settled : ByteArray := prog_6_method_8_code
def yX4_settled : MethodName := ⟨RX4, "settled", "()I"⟩
abbrev cX4_boundTo : ByteArray := prog_6_method_9_code
def yX4_boundTo : MethodName := ⟨RX4, "boundTo", "(I)I"⟩
abbrev cX4_answers : ByteArray := prog_6_method_10_code
def yX4_answers : MethodName := ⟨RX4, "answers", "()I"⟩
abbrev cX4_answerAt : ByteArray := prog_6_method_11_code
def yX4_answerAt : MethodName := ⟨RX4, "answerAt", "(I)I"⟩
abbrev cX4_nearestTo : ByteArray := prog_6_method_12_code
def yX4_nearestTo : MethodName := ⟨RX4, "nearestTo", "(I)I"⟩
abbrev cX4_fillExchanges : ByteArray := prog_6_method_13_code
def yX4_fillExchanges : MethodName := ⟨RX4, "fillExchanges", "()V"⟩
def RX5 : String := "ParityRules"
def TX5 : u_T := fun k => match k with
  | 0 => ("ParityRules", "now", "LParityRules$Row;", true)
  | 1 => ("ParityRules", "verdict", "LParityRules$Verdict;", true)
  | 2 => ("ParityRules", "trialRow", "LParityRules$Row;", true)
  | 3 => ("ParityRules", "trialVerdict", "LParityRules$Verdict;", true)
  | 4 => ("ParityRules", "statesBefore", "[I", true)
  | 5 => ("ParityRules", "bestAnswer", "LParityRules$BestAnswer;", true)
  | 6 => ("ParityRules", "pad", "LParityRules$Pad;", true)
  | 7 => ("ParityRules", "padRules", "LParityRules$Row;", true)
  | 8 => ("ParityRules", "history", "LParityRules$History;", true)
  | 9 => ("ParityRules", "slots", "[LParityRules$Row;", true)
  | _ => ("ParityRules", "saved", "[Z", true)
def tyX5 : Nat → FieldType := fun k => match k with
  | 0 => .object "ParityRules$Row"
  | 1 => .object "ParityRules$Verdict"
  | 2 => .object "ParityRules$Row"
  | 3 => .object "ParityRules$Verdict"
  | 4 => .array .int
  | 5 => .object "ParityRules$BestAnswer"
  | 6 => .object "ParityRules$Pad"
  | 7 => .object "ParityRules$Row"
  | 8 => .object "ParityRules$History"
  | 9 => .array (.object "ParityRules$Row")
  | _ => .array .boolean
abbrev wsX50 : List Cond := u_ws RX5 TX5 11
theorem nmX5 : ∀ a, a < 11 → ∀ b, b < 11 → a ≠ b → (TX5 a).2.1 ≠ (TX5 b).2.1 := by decide +kernel
theorem tyX5_ok : ∀ k, k < 11 → parseFieldDescriptor (TX5 k).2.2.1 = some (tyX5 k) := by decide +kernel
abbrev cX5_init : ByteArray := prog_1_method_1_code
def yX5_init : MethodName := ⟨RX5, "<init>", "()V"⟩
abbrev cX5_choices : ByteArray := prog_1_method_2_code
def yX5_choices : MethodName := ⟨RX5, "choices", "(I)I"⟩
abbrev cX5_tell : ByteArray := prog_1_method_3_code
def yX5_tell : MethodName := ⟨RX5, "tell", "(II)I"⟩
abbrev cX5_drop : ByteArray := prog_1_method_4_code
def yX5_drop : MethodName := ⟨RX5, "drop", "(I)I"⟩
abbrev cX5_move : ByteArray := prog_1_method_5_code
def yX5_move : MethodName := ⟨RX5, "move", "(II)I"⟩
abbrev cX5_turn : ByteArray := prog_1_method_6_code
def yX5_turn : MethodName := ⟨RX5, "turn", "(I)I"⟩
abbrev cX5_read : ByteArray := prog_1_method_7_code
def yX5_read : MethodName := ⟨RX5, "read", "()I"⟩
abbrev cX5_rule : ByteArray := prog_1_method_8_code
def yX5_rule : MethodName := ⟨RX5, "rule", "(II)I"⟩
abbrev cX5_choice : ByteArray := prog_1_method_9_code
def yX5_choice : MethodName := ⟨RX5, "choice", "(II)I"⟩
abbrev cX5_count : ByteArray := prog_1_method_10_code
def yX5_count : MethodName := ⟨RX5, "count", "(I)I"⟩
abbrev cX5_answer : ByteArray := prog_1_method_11_code
def yX5_answer : MethodName := ⟨RX5, "answer", "(I)I"⟩
abbrev cX5_known : ByteArray := prog_1_method_12_code
def yX5_known : MethodName := ⟨RX5, "known", "(I)I"⟩
abbrev cX5_nearest : ByteArray := prog_1_method_13_code
def yX5_nearest : MethodName := ⟨RX5, "nearest", "(II)I"⟩
abbrev cX5_best : ByteArray := prog_1_method_14_code
def yX5_best : MethodName := ⟨RX5, "best", "(I)I"⟩
abbrev cX5_ifTold : ByteArray := prog_1_method_15_code
def yX5_ifTold : MethodName := ⟨RX5, "ifTold", "(II)I"⟩
abbrev cX5_ifDropped : ByteArray := prog_1_method_16_code
def yX5_ifDropped : MethodName := ⟨RX5, "ifDropped", "(I)I"⟩
abbrev cX5_ifMoved : ByteArray := prog_1_method_17_code
def yX5_ifMoved : MethodName := ⟨RX5, "ifMoved", "(II)I"⟩
abbrev cX5_put : ByteArray := prog_1_method_18_code
def yX5_put : MethodName := ⟨RX5, "put", "(J)I"⟩
abbrev cX5_wipe : ByteArray := prog_1_method_19_code
def yX5_wipe : MethodName := ⟨RX5, "wipe", "()I"⟩
abbrev cX5_fault : ByteArray := prog_1_method_20_code
def yX5_fault : MethodName := ⟨RX5, "fault", "()I"⟩
abbrev cX5_undo : ByteArray := prog_1_method_21_code
def yX5_undo : MethodName := ⟨RX5, "undo", "()I"⟩
abbrev cX5_save : ByteArray := prog_1_method_22_code
def yX5_save : MethodName := ⟨RX5, "save", "(I)I"⟩
abbrev cX5_restore : ByteArray := prog_1_method_23_code
def yX5_restore : MethodName := ⟨RX5, "restore", "(I)I"⟩
abbrev cX5_isRule : ByteArray := prog_1_method_24_code
def yX5_isRule : MethodName := ⟨RX5, "isRule", "(II)Z"⟩
abbrev cX5_charactersIn : ByteArray := prog_1_method_25_code
def yX5_charactersIn : MethodName := ⟨RX5, "charactersIn", "(J)I"⟩
abbrev cX5_parity : ByteArray := prog_1_method_26_code
def yX5_parity : MethodName := ⟨RX5, "parity", "(I)I"⟩
abbrev cX5_lowestBit : ByteArray := prog_1_method_27_code
def yX5_lowestBit : MethodName := ⟨RX5, "lowestBit", "(I)I"⟩
abbrev cX5_carry : ByteArray := prog_1_method_28_code
def yX5_carry : MethodName := ⟨RX5, "carry", "([III)V"⟩
def RX6 : String := "ParityRulesModel"
def TX6 : u_T := fun k => match k with
  | 0 => ("ParityRulesModel", "all", "[I", true)
  | 1 => ("ParityRulesModel", "kept", "[I", true)
  | 2 => ("ParityRulesModel", "history", "[I", true)
  | 3 => ("ParityRulesModel", "historyLong", "I", false)
  | 4 => ("ParityRulesModel", "slots", "[I", true)
  | 5 => ("ParityRulesModel", "isSaved", "[I", true)
  | 6 => ("ParityRulesModel", "leading", "[I", true)
  | 7 => ("ParityRulesModel", "which", "[I", true)
  | 8 => ("ParityRulesModel", "state", "[I", true)
  | 9 => ("ParityRulesModel", "reason", "[I", true)
  | 10 => ("ParityRulesModel", "left", "I", false)
  | 11 => ("ParityRulesModel", "made", "I", false)
  | 12 => ("ParityRulesModel", "had", "[I", true)
  | 13 => ("ParityRulesModel", "pad", "[I", true)
  | 14 => ("ParityRulesModel", "padLong", "I", false)
  | 15 => ("ParityRulesModel", "spot", "I", false)
  | 16 => ("ParityRulesModel", "readSet", "[I", true)
  | 17 => ("ParityRulesModel", "readSum", "[I", true)
  | 18 => ("ParityRulesModel", "readMany", "I", false)
  | _ => ("ParityRulesModel", "last", "I", false)
def tyX6 : Nat → FieldType := fun k => match k with
  | 0 => .array .int
  | 1 => .array .int
  | 2 => .array .int
  | 3 => .int
  | 4 => .array .int
  | 5 => .array .int
  | 6 => .array .int
  | 7 => .array .int
  | 8 => .array .int
  | 9 => .array .int
  | 10 => .int
  | 11 => .int
  | 12 => .array .int
  | 13 => .array .int
  | 14 => .int
  | 15 => .int
  | 16 => .array .int
  | 17 => .array .int
  | 18 => .int
  | _ => .int
abbrev wsX60 : List Cond := u_ws RX6 TX6 20
theorem nmX6 : ∀ a, a < 20 → ∀ b, b < 20 → a ≠ b → (TX6 a).2.1 ≠ (TX6 b).2.1 := by decide +kernel
theorem tyX6_ok : ∀ k, k < 20 → parseFieldDescriptor (TX6 k).2.2.1 = some (tyX6 k) := by decide +kernel
abbrev cX6_init : ByteArray := prog_8_method_1_code
def yX6_init : MethodName := ⟨RX6, "<init>", "()V"⟩
abbrev cX6_in : ByteArray := prog_8_method_3_code
def yX6_in : MethodName := ⟨RX6, "in", "(JJJ)Z"⟩
abbrev cX6_keep : ByteArray := prog_8_method_4_code
def yX6_keep : MethodName := ⟨RX6, "keep", "()V"⟩
abbrev cX6_giveBack : ByteArray := prog_8_method_5_code
def yX6_giveBack : MethodName := ⟨RX6, "giveBack", "()V"⟩
abbrev cX6_changed : ByteArray := prog_8_method_6_code
def yX6_changed : MethodName := ⟨RX6, "changed", "(I)I"⟩
abbrev cX6_bits : ByteArray := prog_8_method_7_code
def yX6_bits : MethodName := ⟨RX6, "bits", "(I)I"⟩
abbrev cX6_odd : ByteArray := prog_8_method_8_code
def yX6_odd : MethodName := ⟨RX6, "odd", "(I)I"⟩
abbrev cX6_masks : ByteArray := prog_8_method_9_code
def yX6_masks : MethodName := ⟨RX6, "masks", "()I"⟩
abbrev cX6_isSet : ByteArray := prog_8_method_10_code
def yX6_isSet : MethodName := ⟨RX6, "isSet", "(I)Z"⟩
abbrev cX6_isRule : ByteArray := prog_8_method_11_code
def yX6_isRule : MethodName := ⟨RX6, "isRule", "(I)Z"⟩
abbrev cX6_fits : ByteArray := prog_8_method_12_code
def yX6_fits : MethodName := ⟨RX6, "fits", "(II)Z"⟩
abbrev cX6_reduces : ByteArray := prog_8_method_13_code
def yX6_reduces : MethodName := ⟨RX6, "reduces", "(I)V"⟩
abbrev cX6_sumOf : ByteArray := prog_8_method_14_code
def yX6_sumOf : MethodName := ⟨RX6, "sumOf", "(I)I"⟩
abbrev cX6_stateOf : ByteArray := prog_8_method_15_code
def yX6_stateOf : MethodName := ⟨RX6, "stateOf", "(II)I"⟩
abbrev cX6_judges : ByteArray := prog_8_method_16_code
def yX6_judges : MethodName := ⟨RX6, "judges", "()V"⟩
abbrev cX6_rulesIn : ByteArray := prog_8_method_17_code
def yX6_rulesIn : MethodName := ⟨RX6, "rulesIn", "(I)I"⟩
abbrev cX6_answers : ByteArray := prog_8_method_18_code
def yX6_answers : MethodName := ⟨RX6, "answers", "()I"⟩
abbrev cX6_isAnswer : ByteArray := prog_8_method_19_code
def yX6_isAnswer : MethodName := ⟨RX6, "isAnswer", "(I)Z"⟩
abbrev cX6_knownOf : ByteArray := prog_8_method_20_code
def yX6_knownOf : MethodName := ⟨RX6, "knownOf", "(I)I"⟩
abbrev cX6_choices : ByteArray := prog_8_method_21_code
def yX6_choices : MethodName := ⟨RX6, "choices", "(I)I"⟩
abbrev cX6_adds : ByteArray := prog_8_method_22_code
def yX6_adds : MethodName := ⟨RX6, "adds", "(II)V"⟩
abbrev cX6_tell : ByteArray := prog_8_method_23_code
def yX6_tell : MethodName := ⟨RX6, "tell", "(II)I"⟩
abbrev cX6_takesOut : ByteArray := prog_8_method_24_code
def yX6_takesOut : MethodName := ⟨RX6, "takesOut", "(I)V"⟩
abbrev cX6_putsIn : ByteArray := prog_8_method_25_code
def yX6_putsIn : MethodName := ⟨RX6, "putsIn", "(III)V"⟩
abbrev cX6_moves : ByteArray := prog_8_method_26_code
def yX6_moves : MethodName := ⟨RX6, "moves", "(II)V"⟩
abbrev cX6_drop : ByteArray := prog_8_method_27_code
def yX6_drop : MethodName := ⟨RX6, "drop", "(I)I"⟩
abbrev cX6_move : ByteArray := prog_8_method_28_code
def yX6_move : MethodName := ⟨RX6, "move", "(II)I"⟩
abbrev cX6_turn : ByteArray := prog_8_method_29_code
def yX6_turn : MethodName := ⟨RX6, "turn", "(I)I"⟩
abbrev cX6_reasonsWith : ByteArray := prog_8_method_30_code
def yX6_reasonsWith : MethodName := ⟨RX6, "reasonsWith", "(I)I"⟩
abbrev cX6_rule : ByteArray := prog_8_method_31_code
def yX6_rule : MethodName := ⟨RX6, "rule", "(II)I"⟩
abbrev cX6_rulesWith : ByteArray := prog_8_method_32_code
def yX6_rulesWith : MethodName := ⟨RX6, "rulesWith", "(I)I"⟩
abbrev cX6_tiedTo : ByteArray := prog_8_method_33_code
def yX6_tiedTo : MethodName := ⟨RX6, "tiedTo", "(I)I"⟩
abbrev cX6_choice : ByteArray := prog_8_method_34_code
def yX6_choice : MethodName := ⟨RX6, "choice", "(II)I"⟩
abbrev cX6_settled : ByteArray := prog_8_method_35_code
def yX6_settled : MethodName := ⟨RX6, "settled", "()I"⟩
abbrev cX6_count : ByteArray := prog_8_method_36_code
def yX6_count : MethodName := ⟨RX6, "count", "(I)I"⟩
abbrev cX6_answer : ByteArray := prog_8_method_37_code
def yX6_answer : MethodName := ⟨RX6, "answer", "(I)I"⟩
abbrev cX6_known : ByteArray := prog_8_method_38_code
def yX6_known : MethodName := ⟨RX6, "known", "(I)I"⟩
abbrev cX6_nearest : ByteArray := prog_8_method_39_code
def yX6_nearest : MethodName := ⟨RX6, "nearest", "(II)I"⟩
abbrev cX6_broken : ByteArray := prog_8_method_40_code
def yX6_broken : MethodName := ⟨RX6, "broken", "(I)I"⟩
abbrev cX6_best : ByteArray := prog_8_method_41_code
def yX6_best : MethodName := ⟨RX6, "best", "(I)I"⟩
abbrev cX6_ifTold : ByteArray := prog_8_method_42_code
def yX6_ifTold : MethodName := ⟨RX6, "ifTold", "(II)I"⟩
abbrev cX6_ifDropped : ByteArray := prog_8_method_43_code
def yX6_ifDropped : MethodName := ⟨RX6, "ifDropped", "(I)I"⟩
abbrev cX6_ifMoved : ByteArray := prog_8_method_44_code
def yX6_ifMoved : MethodName := ⟨RX6, "ifMoved", "(II)I"⟩
abbrev cX6_put : ByteArray := prog_8_method_45_code
def yX6_put : MethodName := ⟨RX6, "put", "(J)I"⟩
abbrev cX6_wipe : ByteArray := prog_8_method_46_code
def yX6_wipe : MethodName := ⟨RX6, "wipe", "()I"⟩
abbrev cX6_isHere : ByteArray := prog_8_method_47_code
def yX6_isHere : MethodName := ⟨RX6, "isHere", "(II)Z"⟩
abbrev cX6_takes : ByteArray := prog_8_method_48_code
def yX6_takes : MethodName := ⟨RX6, "takes", "(I)Z"⟩
abbrev cX6_readsChoice : ByteArray := prog_8_method_49_code
def yX6_readsChoice : MethodName := ⟨RX6, "readsChoice", "()Z"⟩
abbrev cX6_readsRule : ByteArray := prog_8_method_50_code
def yX6_readsRule : MethodName := ⟨RX6, "readsRule", "()Z"⟩
abbrev cX6_fault : ByteArray := prog_8_method_51_code
def yX6_fault : MethodName := ⟨RX6, "fault", "()I"⟩
abbrev cX6_read : ByteArray := prog_8_method_52_code
def yX6_read : MethodName := ⟨RX6, "read", "()I"⟩
abbrev cX6_undo : ByteArray := prog_8_method_53_code
def yX6_undo : MethodName := ⟨RX6, "undo", "()I"⟩
abbrev cX6_save : ByteArray := prog_8_method_54_code
def yX6_save : MethodName := ⟨RX6, "save", "(I)I"⟩
abbrev cX6_restore : ByteArray := prog_8_method_55_code
def yX6_restore : MethodName := ⟨RX6, "restore", "(I)I"⟩
def RJ6 : String := "java/lang/Integer"
def TJ6 : u_T := fun k => match k with
  | _ => ("", "", "", false)
def tyJ6 : Nat → FieldType := fun k => match k with
  | _ => .int
abbrev wsJ60 : List Cond := u_ws RJ6 TJ6 0
theorem nmJ6 : ∀ a, a < 0 → ∀ b, b < 0 → a ≠ b → (TJ6 a).2.1 ≠ (TJ6 b).2.1 := by decide +kernel
theorem tyJ6_ok : ∀ k, k < 0 → parseFieldDescriptor (TJ6 k).2.2.1 = some (tyJ6 k) := by decide +kernel
abbrev cJ6_bitCount_0f7a4 : ByteArray := prog_9_method_49_code
def yJ6_bitCount_0f7a4 : MethodName := ⟨RJ6, "bitCount", "(I)I"⟩
def RJ10 : String := "java/lang/System"
def TJ10 : u_T := fun k => match k with
  | _ => ("", "", "", false)
def tyJ10 : Nat → FieldType := fun k => match k with
  | _ => .int
abbrev wsJ100 : List Cond := u_ws RJ10 TJ10 0
theorem nmJ10 : ∀ a, a < 0 → ∀ b, b < 0 → a ≠ b → (TJ10 a).2.1 ≠ (TJ10 b).2.1 := by decide +kernel
theorem tyJ10_ok : ∀ k, k < 0 → parseFieldDescriptor (TJ10 k).2.2.1 = some (tyJ10 k) := by decide +kernel
def RL : String := "ParityRulesLaw"
abbrev cL_law : ByteArray := code
def yL_law : MethodName := ⟨RL, "law", "([I)Z"⟩
def wsX0_init : List Cond := .code yX0_init cX0_init 1 none :: ([.methodLink RX0 3 objectInit, .instanceMethod objectInit, .code objectInit ⟨#[0xb1]⟩ 1 none, .arrayClass .int, .fieldLink RX0 9 "ParityRules$BestAnswer" "exchanges" "[I"] ++ wsX00)
def wsJ6_bitCount_0f7a4 : List Cond := .code yJ6_bitCount_0f7a4 cJ6_bitCount_0f7a4 1 (some .int) :: ([.constant RJ6 265 (1431655765), .constant RJ6 266 (858993459), .constant RJ6 267 (252645135)])
def wsX5_parity : List Cond := .code yX5_parity cX5_parity 1 (some .int) :: ([.methodLink RX5 163 yJ6_bitCount_0f7a4, .static yJ6_bitCount_0f7a4, .initialized RJ6, .code yJ6_bitCount_0f7a4 cJ6_bitCount_0f7a4 1 (some .int), .constant RJ6 265 (1431655765), .constant RJ6 266 (858993459), .constant RJ6 267 (252645135)])
def wsX0_fillExchanges : List Cond := .code yX0_fillExchanges cX0_fillExchanges 6 none :: ([.fieldLink RX0 39 "ParityRules$Row" "choices" "I", .fieldLink RX0 47 "ParityRules$Row" "many" "I", .fieldLink RX0 53 "ParityRules$Row" "sets" "[I", .fieldLink RX0 9 "ParityRules$BestAnswer" "exchanges" "[I", .static yX5_parity, .initialized RX5, .code yX5_parity cX5_parity 1 (some .int), .methodLink RX5 163 yJ6_bitCount_0f7a4, .static yJ6_bitCount_0f7a4, .initialized RJ6, .code yJ6_bitCount_0f7a4 cJ6_bitCount_0f7a4 1 (some .int), .constant RJ6 265 (1431655765), .constant RJ6 266 (858993459), .constant RJ6 267 (252645135)] ++ wsX30 ++ wsX00)
def wsX0_brokenByNone : List Cond := .code yX0_brokenByNone cX0_brokenByNone 3 (some .int) :: ([.fieldLink RX0 47 "ParityRules$Row" "many" "I", .fieldLink RX0 50 "ParityRules$Row" "sums" "[I"] ++ wsX30)
def wsX5_lowestBit : List Cond := .code yX5_lowestBit cX5_lowestBit 1 (some .int) :: ([.methodLink RX5 163 yJ6_bitCount_0f7a4, .static yJ6_bitCount_0f7a4, .initialized RJ6, .code yJ6_bitCount_0f7a4 cJ6_bitCount_0f7a4 1 (some .int), .constant RJ6 265 (1431655765), .constant RJ6 266 (858993459), .constant RJ6 267 (252645135)])
def wsX0_find_r1 : List Cond := [Cond.fieldLink RX0 23 "ParityRules$BestAnswer" "lowest" "I", Cond.fieldLink RX0 33 "ParityRules$BestAnswer" "broken" "I", Cond.fieldLink RX0 36 "ParityRules$BestAnswer" "asGood" "I", Cond.fieldLink RX0 39 "ParityRules$Row" "choices" "I", Cond.fieldLink RX0 9 "ParityRules$BestAnswer" "exchanges" "[I", Cond.methodLink RX0 15 yX0_fillExchanges, Cond.instanceMethod yX0_fillExchanges, Cond.selects RX0 yX0_fillExchanges yX0_fillExchanges, Cond.initialized RX0, Cond.code yX0_fillExchanges cX0_fillExchanges 6 none, Cond.fieldLink RX0 47 "ParityRules$Row" "many" "I", Cond.fieldLink RX0 53 "ParityRules$Row" "sets" "[I", Cond.static yX5_parity, Cond.initialized RX5, Cond.code yX5_parity cX5_parity 1 (some .int), Cond.methodLink RX5 163 yJ6_bitCount_0f7a4, Cond.static yJ6_bitCount_0f7a4, Cond.initialized RJ6, Cond.code yJ6_bitCount_0f7a4 cJ6_bitCount_0f7a4 1 (some .int), Cond.constant RJ6 265 (1431655765), Cond.constant RJ6 266 (858993459), Cond.constant RJ6 267 (252645135), Cond.methodLink RX0 19 yX0_brokenByNone, Cond.static yX0_brokenByNone]
def wsX0_find_r2 : List Cond := [Cond.code yX0_brokenByNone cX0_brokenByNone 3 (some .int), Cond.fieldLink RX0 50 "ParityRules$Row" "sums" "[I", Cond.methodLink RX0 27 yJ6_bitCount_0f7a4, Cond.static yX5_lowestBit, Cond.code yX5_lowestBit cX5_lowestBit 1 (some .int)]
def wsX0_find : List Cond := .code yX0_find cX0_find 6 none :: ((wsX0_find_r1 ++ wsX0_find_r2) ++ wsX00 ++ wsX30)
def wsX3_init : List Cond := .code yX3_init cX3_init 1 none :: ([.methodLink RX3 3 objectInit, .instanceMethod objectInit, .code objectInit ⟨#[0xb1]⟩ 1 none, .fieldLink RX3 9 "ParityRules$Row" "choices" "I", .arrayClass .int, .fieldLink RX3 15 "ParityRules$Row" "sets" "[I", .fieldLink RX3 19 "ParityRules$Row" "sums" "[I"] ++ wsX30)
def wsX1_init : List Cond := .code yX1_init cX1_init 2 none :: ([.methodLink RX1 3 objectInit, .instanceMethod objectInit, .code objectInit ⟨#[0xb1]⟩ 1 none, .classLink RX1 9 RX3, .fieldLink RX1 11 "ParityRules$History" "states" "[LParityRules$Row;", .instantiable RX3 4, .initialized RX3, .instanceMethod yX3_init, .code yX3_init cX3_init 1 none, .methodLink RX3 3 objectInit, .fieldLink RX3 9 "ParityRules$Row" "choices" "I", .arrayClass .int, .fieldLink RX3 15 "ParityRules$Row" "sets" "[I", .fieldLink RX3 19 "ParityRules$Row" "sums" "[I"] ++ wsX10 ++ wsX30)
def wsX1_dropOldest : List Cond := .code yX1_dropOldest cX1_dropOldest 3 none :: ([.fieldLink RX1 11 "ParityRules$History" "states" "[LParityRules$Row;", .fieldLink RX1 18 "ParityRules$History" "many" "I"] ++ wsX10)
def wsX3_become : List Cond := .code yX3_become cX3_become 2 none :: ([.fieldLink RX3 9 "ParityRules$Row" "choices" "I", .fieldLink RX3 22 "ParityRules$Row" "many" "I", .fieldLink RX3 15 "ParityRules$Row" "sets" "[I", .methodLink RX3 25 arraycopyName, .native arraycopyName, .static arraycopyName, .initialized "java/lang/System", .fieldLink RX3 19 "ParityRules$Row" "sums" "[I"] ++ wsX30)
def wsX1_remember : List Cond := .code yX1_remember cX1_remember 2 none :: ([.fieldLink RX1 18 "ParityRules$History" "many" "I", .fieldLink RX1 11 "ParityRules$History" "states" "[LParityRules$Row;", .methodLink RX1 22 yX1_dropOldest, .instanceMethod yX1_dropOldest, .selects RX1 yX1_dropOldest yX1_dropOldest, .initialized RX1, .code yX1_dropOldest cX1_dropOldest 3 none, .methodLink RX1 25 yX3_become, .instanceMethod yX3_become, .selects RX3 yX3_become yX3_become, .initialized RX3, .code yX3_become cX3_become 2 none, .fieldLink RX3 9 "ParityRules$Row" "choices" "I", .fieldLink RX3 22 "ParityRules$Row" "many" "I", .fieldLink RX3 15 "ParityRules$Row" "sets" "[I", .methodLink RX3 25 arraycopyName, .native arraycopyName, .static arraycopyName, .initialized "java/lang/System", .fieldLink RX3 19 "ParityRules$Row" "sums" "[I"] ++ wsX10 ++ wsX30)
def wsX1_giveBack : List Cond := .code yX1_giveBack cX1_giveBack 2 none :: ([.fieldLink RX1 18 "ParityRules$History" "many" "I", .fieldLink RX1 11 "ParityRules$History" "states" "[LParityRules$Row;", .methodLink RX1 25 yX3_become, .instanceMethod yX3_become, .selects RX3 yX3_become yX3_become, .initialized RX3, .code yX3_become cX3_become 2 none, .fieldLink RX3 9 "ParityRules$Row" "choices" "I", .fieldLink RX3 22 "ParityRules$Row" "many" "I", .fieldLink RX3 15 "ParityRules$Row" "sets" "[I", .methodLink RX3 25 arraycopyName, .native arraycopyName, .static arraycopyName, .initialized "java/lang/System", .fieldLink RX3 19 "ParityRules$Row" "sums" "[I"] ++ wsX10 ++ wsX30)
def wsX2_init : List Cond := .code yX2_init cX2_init 1 none :: ([.methodLink RX2 3 objectInit, .instanceMethod objectInit, .code objectInit ⟨#[0xb1]⟩ 1 none, .arrayClass .char, .fieldLink RX2 9 "ParityRules$Pad" "characters" "[C"] ++ wsX20)
def wsX2_append : List Cond := .code yX2_append cX2_append 2 none :: ([.fieldLink RX2 15 "ParityRules$Pad" "length" "I", .fieldLink RX2 9 "ParityRules$Pad" "characters" "[C"] ++ wsX20)
def wsX2_startRule : List Cond := .code yX2_startRule cX2_startRule 1 none :: ([.fieldLink RX2 31 "ParityRules$Pad" "stage" "I", .fieldLink RX2 34 "ParityRules$Pad" "choiceAhead" "I", .fieldLink RX2 37 "ParityRules$Pad" "set" "I"] ++ wsX20)
def wsX2_canStartChoice : List Cond := .code yX2_canStartChoice cX2_canStartChoice 4 (some .boolean) :: ([.fieldLink RX2 34 "ParityRules$Pad" "choiceAhead" "I", .fieldLink RX2 50 "ParityRules$Pad" "choiceHere" "I", .fieldLink RX2 31 "ParityRules$Pad" "stage" "I"] ++ wsX20)
def wsX2_canStandInChoice : List Cond := .code yX2_canStandInChoice cX2_canStandInChoice 3 (some .boolean) :: ([.fieldLink RX2 50 "ParityRules$Pad" "choiceHere" "I", .fieldLink RX2 34 "ParityRules$Pad" "choiceAhead" "I", .fieldLink RX2 37 "ParityRules$Pad" "set" "I", .fieldLink RX2 31 "ParityRules$Pad" "stage" "I"] ++ wsX20)
def wsX3_append : List Cond := .code yX3_append cX3_append 3 none :: ([.fieldLink RX3 22 "ParityRules$Row" "many" "I", .fieldLink RX3 15 "ParityRules$Row" "sets" "[I", .fieldLink RX3 19 "ParityRules$Row" "sums" "[I"] ++ wsX30)
def wsX2_canBeSum : List Cond := .code yX2_canBeSum cX2_canBeSum 3 (some .boolean) :: ([.fieldLink RX2 37 "ParityRules$Pad" "set" "I", .fieldLink RX2 31 "ParityRules$Pad" "stage" "I", .methodLink RX2 53 yX3_append, .instanceMethod yX3_append, .selects RX3 yX3_append yX3_append, .initialized RX3, .code yX3_append cX3_append 3 none, .fieldLink RX3 22 "ParityRules$Row" "many" "I", .fieldLink RX3 15 "ParityRules$Row" "sets" "[I", .fieldLink RX3 19 "ParityRules$Row" "sums" "[I"] ++ wsX20 ++ wsX30)
def wsX2_canStand_r1 : List Cond := [Cond.fieldLink RX2 31 "ParityRules$Pad" "stage" "I", Cond.methodLink RX2 40 yX2_canStartChoice, Cond.instanceMethod yX2_canStartChoice, Cond.selects RX2 yX2_canStartChoice yX2_canStartChoice, Cond.initialized RX2, Cond.code yX2_canStartChoice cX2_canStartChoice 4 (some .boolean), Cond.fieldLink RX2 34 "ParityRules$Pad" "choiceAhead" "I", Cond.fieldLink RX2 50 "ParityRules$Pad" "choiceHere" "I", Cond.methodLink RX2 44 yX2_canStandInChoice, Cond.instanceMethod yX2_canStandInChoice, Cond.selects RX2 yX2_canStandInChoice yX2_canStandInChoice, Cond.code yX2_canStandInChoice cX2_canStandInChoice 3 (some .boolean), Cond.fieldLink RX2 37 "ParityRules$Pad" "set" "I", Cond.methodLink RX2 47 yX2_canBeSum, Cond.instanceMethod yX2_canBeSum, Cond.selects RX2 yX2_canBeSum yX2_canBeSum, Cond.code yX2_canBeSum cX2_canBeSum 3 (some .boolean), Cond.methodLink RX2 53 yX3_append, Cond.instanceMethod yX3_append, Cond.selects RX3 yX3_append yX3_append, Cond.initialized RX3, Cond.code yX3_append cX3_append 3 none, Cond.fieldLink RX3 22 "ParityRules$Row" "many" "I", Cond.fieldLink RX3 15 "ParityRules$Row" "sets" "[I"]
def wsX2_canStand_r2 : List Cond := [Cond.fieldLink RX3 19 "ParityRules$Row" "sums" "[I", Cond.methodLink RX2 24 yX2_startRule, Cond.instanceMethod yX2_startRule, Cond.selects RX2 yX2_startRule yX2_startRule, Cond.code yX2_startRule cX2_startRule 1 none]
def wsX2_canStand : List Cond := .code yX2_canStand cX2_canStand 3 (some .boolean) :: ((wsX2_canStand_r1 ++ wsX2_canStand_r2) ++ wsX20 ++ wsX30)
def wsX2_readInto_r1 : List Cond := [Cond.fieldLink RX2 19 "ParityRules$Row" "many" "I", Cond.fieldLink RX2 15 "ParityRules$Pad" "length" "I", Cond.fieldLink RX2 9 "ParityRules$Pad" "characters" "[C", Cond.fieldLink RX2 31 "ParityRules$Pad" "stage" "I", Cond.methodLink RX2 24 yX2_startRule, Cond.instanceMethod yX2_startRule, Cond.selects RX2 yX2_startRule yX2_startRule, Cond.initialized RX2, Cond.code yX2_startRule cX2_startRule 1 none, Cond.fieldLink RX2 34 "ParityRules$Pad" "choiceAhead" "I", Cond.fieldLink RX2 37 "ParityRules$Pad" "set" "I", Cond.methodLink RX2 27 yX2_canStand, Cond.instanceMethod yX2_canStand, Cond.selects RX2 yX2_canStand yX2_canStand, Cond.code yX2_canStand cX2_canStand 3 (some .boolean), Cond.methodLink RX2 40 yX2_canStartChoice, Cond.instanceMethod yX2_canStartChoice, Cond.selects RX2 yX2_canStartChoice yX2_canStartChoice, Cond.code yX2_canStartChoice cX2_canStartChoice 4 (some .boolean), Cond.fieldLink RX2 50 "ParityRules$Pad" "choiceHere" "I", Cond.methodLink RX2 44 yX2_canStandInChoice, Cond.instanceMethod yX2_canStandInChoice, Cond.selects RX2 yX2_canStandInChoice yX2_canStandInChoice, Cond.code yX2_canStandInChoice cX2_canStandInChoice 3 (some .boolean)]
def wsX2_readInto_r2 : List Cond := [Cond.methodLink RX2 47 yX2_canBeSum, Cond.instanceMethod yX2_canBeSum, Cond.selects RX2 yX2_canBeSum yX2_canBeSum, Cond.code yX2_canBeSum cX2_canBeSum 3 (some .boolean), Cond.methodLink RX2 53 yX3_append, Cond.instanceMethod yX3_append, Cond.selects RX3 yX3_append yX3_append, Cond.initialized RX3, Cond.code yX3_append cX3_append 3 none, Cond.fieldLink RX3 22 "ParityRules$Row" "many" "I", Cond.fieldLink RX3 15 "ParityRules$Row" "sets" "[I", Cond.fieldLink RX3 19 "ParityRules$Row" "sums" "[I"]
def wsX2_readInto : List Cond := .code yX2_readInto cX2_readInto 3 (some .int) :: ((wsX2_readInto_r1 ++ wsX2_readInto_r2) ++ wsX30 ++ wsX20)
def wsX3_hasPlace : List Cond := .code yX3_hasPlace cX3_hasPlace 2 (some .boolean) :: ([.fieldLink RX3 22 "ParityRules$Row" "many" "I"] ++ wsX30)
def wsX3_hasSet : List Cond := .code yX3_hasSet cX3_hasSet 2 (some .boolean) :: ([.fieldLink RX3 9 "ParityRules$Row" "choices" "I"] ++ wsX30)
def wsX3_setsStayBelow : List Cond := .code yX3_setsStayBelow cX3_setsStayBelow 4 (some .boolean) :: ([.fieldLink RX3 22 "ParityRules$Row" "many" "I", .fieldLink RX3 15 "ParityRules$Row" "sets" "[I"] ++ wsX30)
def wsX3_rulesWith : List Cond := .code yX3_rulesWith cX3_rulesWith 4 (some .int) :: ([.fieldLink RX3 22 "ParityRules$Row" "many" "I", .fieldLink RX3 15 "ParityRules$Row" "sets" "[I"] ++ wsX30)
def wsX5_carry : List Cond := .code yX5_carry cX5_carry 5 none :: ([])
def wsX3_carryRule : List Cond := .code yX3_carryRule cX3_carryRule 3 none :: ([.fieldLink RX3 15 "ParityRules$Row" "sets" "[I", .fieldLink RX3 19 "ParityRules$Row" "sums" "[I", .static yX5_carry, .initialized RX5, .code yX5_carry cX5_carry 5 none] ++ wsX30)
def wsX3_takeOut : List Cond := .code yX3_takeOut cX3_takeOut 2 none :: ([.fieldLink RX3 22 "ParityRules$Row" "many" "I", .methodLink RX3 35 yX3_carryRule, .instanceMethod yX3_carryRule, .selects RX3 yX3_carryRule yX3_carryRule, .initialized RX3, .code yX3_carryRule cX3_carryRule 3 none, .fieldLink RX3 15 "ParityRules$Row" "sets" "[I", .fieldLink RX3 19 "ParityRules$Row" "sums" "[I", .static yX5_carry, .initialized RX5, .code yX5_carry cX5_carry 5 none] ++ wsX30)
def wsX4_init : List Cond := .code yX4_init cX4_init 1 none :: ([.methodLink RX4 3 objectInit, .instanceMethod objectInit, .code objectInit ⟨#[0xb1]⟩ 1 none, .arrayClass .int, .fieldLink RX4 9 "ParityRules$Verdict" "states" "[I", .fieldLink RX4 15 "ParityRules$Verdict" "reasons" "[I", .fieldLink RX4 18 "ParityRules$Verdict" "tally" "[I", .fieldLink RX4 21 "ParityRules$Verdict" "stepSets" "[I", .fieldLink RX4 24 "ParityRules$Verdict" "stepSums" "[I", .fieldLink RX4 27 "ParityRules$Verdict" "stepReasons" "[I", .fieldLink RX4 30 "ParityRules$Verdict" "exchanges" "[I"] ++ wsX40)
def wsX4_combine : List Cond := .code yX4_combine cX4_combine 4 none :: ([.fieldLink RX4 58 "ParityRules$Verdict" "restSet" "I", .fieldLink RX4 65 "ParityRules$Verdict" "restSum" "I", .fieldLink RX4 68 "ParityRules$Verdict" "restReason" "I", .fieldLink RX4 21 "ParityRules$Verdict" "stepSets" "[I", .fieldLink RX4 24 "ParityRules$Verdict" "stepSums" "[I", .fieldLink RX4 27 "ParityRules$Verdict" "stepReasons" "[I"] ++ wsX40)
def wsX4_stateOf : List Cond := .code yX4_stateOf cX4_stateOf 3 (some .int) :: ([.fieldLink RX4 58 "ParityRules$Verdict" "restSet" "I", .fieldLink RX4 65 "ParityRules$Verdict" "restSum" "I", .methodLink RX4 71 yX4_combine, .instanceMethod yX4_combine, .selects RX4 yX4_combine yX4_combine, .initialized RX4, .code yX4_combine cX4_combine 4 none, .fieldLink RX4 68 "ParityRules$Verdict" "restReason" "I", .fieldLink RX4 21 "ParityRules$Verdict" "stepSets" "[I", .fieldLink RX4 24 "ParityRules$Verdict" "stepSums" "[I", .fieldLink RX4 27 "ParityRules$Verdict" "stepReasons" "[I"] ++ wsX40)
def wsX4_judgeNext_r1 : List Cond := [Cond.fieldLink RX4 58 "ParityRules$Verdict" "restSet" "I", Cond.fieldLink RX4 21 "ParityRules$Verdict" "stepSets" "[I", Cond.fieldLink RX4 24 "ParityRules$Verdict" "stepSums" "[I", Cond.fieldLink RX4 65 "ParityRules$Verdict" "restSum" "I", Cond.fieldLink RX4 27 "ParityRules$Verdict" "stepReasons" "[I", Cond.fieldLink RX4 68 "ParityRules$Verdict" "restReason" "I", Cond.fieldLink RX4 40 "ParityRules$Verdict" "many" "I", Cond.fieldLink RX4 9 "ParityRules$Verdict" "states" "[I", Cond.fieldLink RX4 15 "ParityRules$Verdict" "reasons" "[I", Cond.fieldLink RX4 18 "ParityRules$Verdict" "tally" "[I", Cond.methodLink RX4 54 yX4_stateOf, Cond.instanceMethod yX4_stateOf, Cond.selects RX4 yX4_stateOf yX4_stateOf, Cond.initialized RX4, Cond.code yX4_stateOf cX4_stateOf 3 (some .int), Cond.methodLink RX4 71 yX4_combine, Cond.instanceMethod yX4_combine, Cond.selects RX4 yX4_combine yX4_combine, Cond.code yX4_combine cX4_combine 4 none, Cond.static yX5_lowestBit, Cond.initialized RX5, Cond.code yX5_lowestBit cX5_lowestBit 1 (some .int), Cond.methodLink RX5 163 yJ6_bitCount_0f7a4, Cond.static yJ6_bitCount_0f7a4]
def wsX4_judgeNext_r2 : List Cond := [Cond.initialized RJ6, Cond.code yJ6_bitCount_0f7a4 cJ6_bitCount_0f7a4 1 (some .int), Cond.constant RJ6 265 (1431655765), Cond.constant RJ6 266 (858993459), Cond.constant RJ6 267 (252645135)]
def wsX4_judgeNext : List Cond := .code yX4_judgeNext cX4_judgeNext 5 none :: ((wsX4_judgeNext_r1 ++ wsX4_judgeNext_r2) ++ wsX40)
def wsX4_judge_r1 : List Cond := [Cond.fieldLink RX4 33 "ParityRules$Row" "choices" "I", Cond.fieldLink RX4 39 "ParityRules$Verdict" "choices" "I", Cond.fieldLink RX4 40 "ParityRules$Verdict" "many" "I", Cond.fieldLink RX4 18 "ParityRules$Verdict" "tally" "[I", Cond.fieldLink RX4 21 "ParityRules$Verdict" "stepSets" "[I", Cond.fieldLink RX4 43 "ParityRules$Row" "many" "I", Cond.fieldLink RX4 44 "ParityRules$Row" "sets" "[I", Cond.fieldLink RX4 47 "ParityRules$Row" "sums" "[I", Cond.methodLink RX4 50 yX4_judgeNext, Cond.instanceMethod yX4_judgeNext, Cond.selects RX4 yX4_judgeNext yX4_judgeNext, Cond.initialized RX4, Cond.code yX4_judgeNext cX4_judgeNext 5 none, Cond.fieldLink RX4 58 "ParityRules$Verdict" "restSet" "I", Cond.fieldLink RX4 24 "ParityRules$Verdict" "stepSums" "[I", Cond.fieldLink RX4 65 "ParityRules$Verdict" "restSum" "I", Cond.fieldLink RX4 27 "ParityRules$Verdict" "stepReasons" "[I", Cond.fieldLink RX4 68 "ParityRules$Verdict" "restReason" "I", Cond.fieldLink RX4 9 "ParityRules$Verdict" "states" "[I", Cond.fieldLink RX4 15 "ParityRules$Verdict" "reasons" "[I", Cond.methodLink RX4 54 yX4_stateOf, Cond.instanceMethod yX4_stateOf, Cond.selects RX4 yX4_stateOf yX4_stateOf, Cond.code yX4_stateOf cX4_stateOf 3 (some .int)]
def wsX4_judge_r2 : List Cond := [Cond.methodLink RX4 71 yX4_combine, Cond.instanceMethod yX4_combine, Cond.selects RX4 yX4_combine yX4_combine, Cond.code yX4_combine cX4_combine 4 none, Cond.static yX5_lowestBit, Cond.initialized RX5, Cond.code yX5_lowestBit cX5_lowestBit 1 (some .int), Cond.methodLink RX5 163 yJ6_bitCount_0f7a4, Cond.static yJ6_bitCount_0f7a4, Cond.initialized RJ6, Cond.code yJ6_bitCount_0f7a4 cJ6_bitCount_0f7a4 1 (some .int), Cond.constant RJ6 265 (1431655765), Cond.constant RJ6 266 (858993459), Cond.constant RJ6 267 (252645135)]
def wsX4_judge : List Cond := .code yX4_judge cX4_judge 3 none :: ((wsX4_judge_r1 ++ wsX4_judge_r2) ++ wsX30 ++ wsX40)
def wsX4_sumOf : List Cond := .code yX4_sumOf cX4_sumOf 2 (some .int) :: ([.fieldLink RX4 58 "ParityRules$Verdict" "restSet" "I", .fieldLink RX4 65 "ParityRules$Verdict" "restSum" "I", .methodLink RX4 71 yX4_combine, .instanceMethod yX4_combine, .selects RX4 yX4_combine yX4_combine, .initialized RX4, .code yX4_combine cX4_combine 4 none, .fieldLink RX4 68 "ParityRules$Verdict" "restReason" "I", .fieldLink RX4 21 "ParityRules$Verdict" "stepSets" "[I", .fieldLink RX4 24 "ParityRules$Verdict" "stepSums" "[I", .fieldLink RX4 27 "ParityRules$Verdict" "stepReasons" "[I"] ++ wsX40)
def wsX4_reasonsWith : List Cond := .code yX4_reasonsWith cX4_reasonsWith 4 (some .int) :: ([.fieldLink RX4 40 "ParityRules$Verdict" "many" "I", .fieldLink RX4 15 "ParityRules$Verdict" "reasons" "[I"] ++ wsX40)
def wsX4_settled : List Cond := .code yX4_settled cX4_settled 3 (some .int) :: ([.fieldLink RX4 39 "ParityRules$Verdict" "choices" "I", .methodLink RX4 74 yX4_sumOf, .instanceMethod yX4_sumOf, .selects RX4 yX4_sumOf yX4_sumOf, .initialized RX4, .code yX4_sumOf cX4_sumOf 2 (some .int), .fieldLink RX4 58 "ParityRules$Verdict" "restSet" "I", .fieldLink RX4 65 "ParityRules$Verdict" "restSum" "I", .methodLink RX4 71 yX4_combine, .instanceMethod yX4_combine, .selects RX4 yX4_combine yX4_combine, .code yX4_combine cX4_combine 4 none, .fieldLink RX4 68 "ParityRules$Verdict" "restReason" "I", .fieldLink RX4 21 "ParityRules$Verdict" "stepSets" "[I", .fieldLink RX4 24 "ParityRules$Verdict" "stepSums" "[I", .fieldLink RX4 27 "ParityRules$Verdict" "stepReasons" "[I"] ++ wsX40)
def wsX4_boundTo : List Cond := .code yX4_boundTo cX4_boundTo 5 (some .int) :: ([.fieldLink RX4 39 "ParityRules$Verdict" "choices" "I", .methodLink RX4 74 yX4_sumOf, .instanceMethod yX4_sumOf, .selects RX4 yX4_sumOf yX4_sumOf, .initialized RX4, .code yX4_sumOf cX4_sumOf 2 (some .int), .fieldLink RX4 58 "ParityRules$Verdict" "restSet" "I", .fieldLink RX4 65 "ParityRules$Verdict" "restSum" "I", .methodLink RX4 71 yX4_combine, .instanceMethod yX4_combine, .selects RX4 yX4_combine yX4_combine, .code yX4_combine cX4_combine 4 none, .fieldLink RX4 68 "ParityRules$Verdict" "restReason" "I", .fieldLink RX4 21 "ParityRules$Verdict" "stepSets" "[I", .fieldLink RX4 24 "ParityRules$Verdict" "stepSums" "[I", .fieldLink RX4 27 "ParityRules$Verdict" "stepReasons" "[I"] ++ wsX40)
def wsX4_answers : List Cond := .code yX4_answers cX4_answers 1 (some .int) :: ([.fieldLink RX4 39 "ParityRules$Verdict" "choices" "I", .fieldLink RX4 18 "ParityRules$Verdict" "tally" "[I"] ++ wsX40)
def wsX4_answerAt : List Cond := .code yX4_answerAt cX4_answerAt 6 (some .int) :: ([.fieldLink RX4 39 "ParityRules$Verdict" "choices" "I", .fieldLink RX4 18 "ParityRules$Verdict" "tally" "[I", .fieldLink RX4 21 "ParityRules$Verdict" "stepSets" "[I", .fieldLink RX4 24 "ParityRules$Verdict" "stepSums" "[I", .static yX5_parity, .initialized RX5, .code yX5_parity cX5_parity 1 (some .int), .methodLink RX5 163 yJ6_bitCount_0f7a4, .static yJ6_bitCount_0f7a4, .initialized RJ6, .code yJ6_bitCount_0f7a4 cJ6_bitCount_0f7a4 1 (some .int), .constant RJ6 265 (1431655765), .constant RJ6 266 (858993459), .constant RJ6 267 (252645135)] ++ wsX40)
def wsX4_fillExchanges : List Cond := .code yX4_fillExchanges cX4_fillExchanges 4 none :: ([.fieldLink RX4 39 "ParityRules$Verdict" "choices" "I", .fieldLink RX4 18 "ParityRules$Verdict" "tally" "[I", .fieldLink RX4 30 "ParityRules$Verdict" "exchanges" "[I", .methodLink RX4 83 yX4_answerAt, .instanceMethod yX4_answerAt, .selects RX4 yX4_answerAt yX4_answerAt, .initialized RX4, .code yX4_answerAt cX4_answerAt 6 (some .int), .fieldLink RX4 21 "ParityRules$Verdict" "stepSets" "[I", .fieldLink RX4 24 "ParityRules$Verdict" "stepSums" "[I", .static yX5_parity, .initialized RX5, .code yX5_parity cX5_parity 1 (some .int), .methodLink RX5 163 yJ6_bitCount_0f7a4, .static yJ6_bitCount_0f7a4, .initialized RJ6, .code yJ6_bitCount_0f7a4 cJ6_bitCount_0f7a4 1 (some .int), .constant RJ6 265 (1431655765), .constant RJ6 266 (858993459), .constant RJ6 267 (252645135)] ++ wsX40)
def wsX4_nearestTo_r1 : List Cond := [Cond.fieldLink RX4 30 "ParityRules$Verdict" "exchanges" "[I", Cond.methodLink RX4 80 yX4_fillExchanges, Cond.instanceMethod yX4_fillExchanges, Cond.selects RX4 yX4_fillExchanges yX4_fillExchanges, Cond.initialized RX4, Cond.code yX4_fillExchanges cX4_fillExchanges 4 none, Cond.fieldLink RX4 39 "ParityRules$Verdict" "choices" "I", Cond.fieldLink RX4 18 "ParityRules$Verdict" "tally" "[I", Cond.methodLink RX4 83 yX4_answerAt, Cond.instanceMethod yX4_answerAt, Cond.selects RX4 yX4_answerAt yX4_answerAt, Cond.code yX4_answerAt cX4_answerAt 6 (some .int), Cond.fieldLink RX4 21 "ParityRules$Verdict" "stepSets" "[I", Cond.fieldLink RX4 24 "ParityRules$Verdict" "stepSums" "[I", Cond.static yX5_parity, Cond.initialized RX5, Cond.code yX5_parity cX5_parity 1 (some .int), Cond.methodLink RX5 163 yJ6_bitCount_0f7a4, Cond.static yJ6_bitCount_0f7a4, Cond.initialized RJ6, Cond.code yJ6_bitCount_0f7a4 cJ6_bitCount_0f7a4 1 (some .int), Cond.constant RJ6 265 (1431655765), Cond.constant RJ6 266 (858993459), Cond.constant RJ6 267 (252645135)]
def wsX4_nearestTo_r2 : List Cond := [Cond.methodLink RX4 86 yJ6_bitCount_0f7a4, Cond.methodLink RX4 91 yX4_answers, Cond.instanceMethod yX4_answers, Cond.selects RX4 yX4_answers yX4_answers, Cond.code yX4_answers cX4_answers 1 (some .int), Cond.static yX5_lowestBit, Cond.code yX5_lowestBit cX5_lowestBit 1 (some .int)]
def wsX4_nearestTo : List Cond := .code yX4_nearestTo cX4_nearestTo 8 (some .int) :: ((wsX4_nearestTo_r1 ++ wsX4_nearestTo_r2) ++ wsX40)
def wsX5_init_r1 : List Cond := [Cond.methodLink RX5 1 objectInit, Cond.instanceMethod objectInit, Cond.code objectInit ⟨#[0xb1]⟩ 1 none, Cond.classLink RX5 7 RX3, Cond.instantiable RX3 4, Cond.initialized RX3, Cond.fieldLink RX5 10 "ParityRules" "now" "LParityRules$Row;", Cond.classLink RX5 16 RX4, Cond.instantiable RX4 12, Cond.initialized RX4, Cond.fieldLink RX5 19 "ParityRules" "verdict" "LParityRules$Verdict;", Cond.fieldLink RX5 23 "ParityRules" "trialRow" "LParityRules$Row;", Cond.fieldLink RX5 26 "ParityRules" "trialVerdict" "LParityRules$Verdict;", Cond.arrayClass .int, Cond.fieldLink RX5 29 "ParityRules" "statesBefore" "[I", Cond.classLink RX5 33 RX0, Cond.instantiable RX0 4, Cond.initialized RX0, Cond.fieldLink RX5 36 "ParityRules" "bestAnswer" "LParityRules$BestAnswer;", Cond.classLink RX5 40 RX2, Cond.instantiable RX2 6, Cond.initialized RX2, Cond.fieldLink RX5 43 "ParityRules" "pad" "LParityRules$Pad;", Cond.fieldLink RX5 47 "ParityRules" "padRules" "LParityRules$Row;"]
def wsX5_init_r2 : List Cond := [Cond.classLink RX5 50 RX1, Cond.instantiable RX1 2, Cond.initialized RX1, Cond.fieldLink RX5 53 "ParityRules" "history" "LParityRules$History;", Cond.fieldLink RX5 57 "ParityRules" "slots" "[LParityRules$Row;", Cond.arrayClass .boolean, Cond.fieldLink RX5 61 "ParityRules" "saved" "[Z", Cond.instanceMethod yX3_init, Cond.code yX3_init cX3_init 1 none, Cond.methodLink RX3 3 objectInit, Cond.fieldLink RX3 9 "ParityRules$Row" "choices" "I", Cond.fieldLink RX3 15 "ParityRules$Row" "sets" "[I", Cond.fieldLink RX3 19 "ParityRules$Row" "sums" "[I", Cond.instanceMethod yX4_init, Cond.code yX4_init cX4_init 1 none, Cond.methodLink RX4 3 objectInit, Cond.fieldLink RX4 9 "ParityRules$Verdict" "states" "[I", Cond.fieldLink RX4 15 "ParityRules$Verdict" "reasons" "[I", Cond.fieldLink RX4 18 "ParityRules$Verdict" "tally" "[I", Cond.fieldLink RX4 21 "ParityRules$Verdict" "stepSets" "[I", Cond.fieldLink RX4 24 "ParityRules$Verdict" "stepSums" "[I", Cond.fieldLink RX4 27 "ParityRules$Verdict" "stepReasons" "[I", Cond.fieldLink RX4 30 "ParityRules$Verdict" "exchanges" "[I", Cond.instanceMethod yX0_init]
def wsX5_init_r3 : List Cond := [Cond.code yX0_init cX0_init 1 none, Cond.methodLink RX0 3 objectInit, Cond.fieldLink RX0 9 "ParityRules$BestAnswer" "exchanges" "[I", Cond.instanceMethod yX2_init, Cond.code yX2_init cX2_init 1 none, Cond.methodLink RX2 3 objectInit, Cond.arrayClass .char, Cond.fieldLink RX2 9 "ParityRules$Pad" "characters" "[C", Cond.methodLink RX5 52 yX1_init, Cond.instanceMethod yX1_init, Cond.code yX1_init cX1_init 2 none, Cond.methodLink RX1 3 objectInit, Cond.classLink RX1 9 RX3, Cond.fieldLink RX1 11 "ParityRules$History" "states" "[LParityRules$Row;", Cond.methodLink RX5 65 yX4_judge, Cond.instanceMethod yX4_judge, Cond.selects RX4 yX4_judge yX4_judge, Cond.code yX4_judge cX4_judge 3 none, Cond.fieldLink RX4 33 "ParityRules$Row" "choices" "I", Cond.fieldLink RX4 39 "ParityRules$Verdict" "choices" "I", Cond.fieldLink RX4 40 "ParityRules$Verdict" "many" "I", Cond.fieldLink RX4 43 "ParityRules$Row" "many" "I", Cond.fieldLink RX4 44 "ParityRules$Row" "sets" "[I", Cond.fieldLink RX4 47 "ParityRules$Row" "sums" "[I"]
def wsX5_init_r4 : List Cond := [Cond.methodLink RX4 50 yX4_judgeNext, Cond.instanceMethod yX4_judgeNext, Cond.selects RX4 yX4_judgeNext yX4_judgeNext, Cond.code yX4_judgeNext cX4_judgeNext 5 none, Cond.fieldLink RX4 58 "ParityRules$Verdict" "restSet" "I", Cond.fieldLink RX4 65 "ParityRules$Verdict" "restSum" "I", Cond.fieldLink RX4 68 "ParityRules$Verdict" "restReason" "I", Cond.methodLink RX4 54 yX4_stateOf, Cond.instanceMethod yX4_stateOf, Cond.selects RX4 yX4_stateOf yX4_stateOf, Cond.code yX4_stateOf cX4_stateOf 3 (some .int), Cond.methodLink RX4 71 yX4_combine, Cond.instanceMethod yX4_combine, Cond.selects RX4 yX4_combine yX4_combine, Cond.code yX4_combine cX4_combine 4 none, Cond.static yX5_lowestBit, Cond.initialized RX5, Cond.code yX5_lowestBit cX5_lowestBit 1 (some .int), Cond.methodLink RX5 163 yJ6_bitCount_0f7a4, Cond.static yJ6_bitCount_0f7a4, Cond.initialized RJ6, Cond.code yJ6_bitCount_0f7a4 cJ6_bitCount_0f7a4 1 (some .int), Cond.constant RJ6 265 (1431655765), Cond.constant RJ6 266 (858993459)]
def wsX5_init_r5 : List Cond := [Cond.constant RJ6 267 (252645135)]
def wsX5_init : List Cond := .code yX5_init cX5_init 2 none :: ((wsX5_init_r1 ++ (wsX5_init_r2 ++ (wsX5_init_r3 ++ (wsX5_init_r4 ++ wsX5_init_r5)))) ++ wsX30 ++ wsX50 ++ wsX40 ++ wsX00 ++ wsX20 ++ wsX10)
def wsX5_choices_r1 : List Cond := [Cond.fieldLink RX5 10 "ParityRules" "now" "LParityRules$Row;", Cond.fieldLink RX5 73 "ParityRules$Row" "choices" "I", Cond.fieldLink RX5 53 "ParityRules" "history" "LParityRules$History;", Cond.fieldLink RX5 19 "ParityRules" "verdict" "LParityRules$Verdict;", Cond.methodLink RX5 69 yX3_setsStayBelow, Cond.instanceMethod yX3_setsStayBelow, Cond.selects RX3 yX3_setsStayBelow yX3_setsStayBelow, Cond.initialized RX3, Cond.code yX3_setsStayBelow cX3_setsStayBelow 4 (some .boolean), Cond.fieldLink RX3 22 "ParityRules$Row" "many" "I", Cond.fieldLink RX3 15 "ParityRules$Row" "sets" "[I", Cond.methodLink RX5 77 yX1_remember, Cond.instanceMethod yX1_remember, Cond.selects RX1 yX1_remember yX1_remember, Cond.initialized RX1, Cond.code yX1_remember cX1_remember 2 none, Cond.fieldLink RX1 18 "ParityRules$History" "many" "I", Cond.fieldLink RX1 11 "ParityRules$History" "states" "[LParityRules$Row;", Cond.methodLink RX1 22 yX1_dropOldest, Cond.instanceMethod yX1_dropOldest, Cond.selects RX1 yX1_dropOldest yX1_dropOldest, Cond.code yX1_dropOldest cX1_dropOldest 3 none, Cond.methodLink RX1 25 yX3_become, Cond.instanceMethod yX3_become]
def wsX5_choices_r2 : List Cond := [Cond.selects RX3 yX3_become yX3_become, Cond.code yX3_become cX3_become 2 none, Cond.fieldLink RX3 9 "ParityRules$Row" "choices" "I", Cond.methodLink RX3 25 arraycopyName, Cond.native arraycopyName, Cond.static arraycopyName, Cond.initialized "java/lang/System", Cond.fieldLink RX3 19 "ParityRules$Row" "sums" "[I", Cond.methodLink RX5 65 yX4_judge, Cond.instanceMethod yX4_judge, Cond.selects RX4 yX4_judge yX4_judge, Cond.initialized RX4, Cond.code yX4_judge cX4_judge 3 none, Cond.fieldLink RX4 33 "ParityRules$Row" "choices" "I", Cond.fieldLink RX4 39 "ParityRules$Verdict" "choices" "I", Cond.fieldLink RX4 40 "ParityRules$Verdict" "many" "I", Cond.fieldLink RX4 18 "ParityRules$Verdict" "tally" "[I", Cond.fieldLink RX4 21 "ParityRules$Verdict" "stepSets" "[I", Cond.fieldLink RX4 43 "ParityRules$Row" "many" "I", Cond.fieldLink RX4 44 "ParityRules$Row" "sets" "[I", Cond.fieldLink RX4 47 "ParityRules$Row" "sums" "[I", Cond.methodLink RX4 50 yX4_judgeNext, Cond.instanceMethod yX4_judgeNext, Cond.selects RX4 yX4_judgeNext yX4_judgeNext]
def wsX5_choices_r3 : List Cond := [Cond.code yX4_judgeNext cX4_judgeNext 5 none, Cond.fieldLink RX4 58 "ParityRules$Verdict" "restSet" "I", Cond.fieldLink RX4 24 "ParityRules$Verdict" "stepSums" "[I", Cond.fieldLink RX4 65 "ParityRules$Verdict" "restSum" "I", Cond.fieldLink RX4 27 "ParityRules$Verdict" "stepReasons" "[I", Cond.fieldLink RX4 68 "ParityRules$Verdict" "restReason" "I", Cond.fieldLink RX4 9 "ParityRules$Verdict" "states" "[I", Cond.fieldLink RX4 15 "ParityRules$Verdict" "reasons" "[I", Cond.methodLink RX4 54 yX4_stateOf, Cond.instanceMethod yX4_stateOf, Cond.selects RX4 yX4_stateOf yX4_stateOf, Cond.code yX4_stateOf cX4_stateOf 3 (some .int), Cond.methodLink RX4 71 yX4_combine, Cond.instanceMethod yX4_combine, Cond.selects RX4 yX4_combine yX4_combine, Cond.code yX4_combine cX4_combine 4 none, Cond.static yX5_lowestBit, Cond.initialized RX5, Cond.code yX5_lowestBit cX5_lowestBit 1 (some .int), Cond.methodLink RX5 163 yJ6_bitCount_0f7a4, Cond.static yJ6_bitCount_0f7a4, Cond.initialized RJ6, Cond.code yJ6_bitCount_0f7a4 cJ6_bitCount_0f7a4 1 (some .int), Cond.constant RJ6 265 (1431655765)]
def wsX5_choices_r4 : List Cond := [Cond.constant RJ6 266 (858993459), Cond.constant RJ6 267 (252645135)]
def wsX5_choices : List Cond := .code yX5_choices cX5_choices 3 (some .int) :: ((wsX5_choices_r1 ++ (wsX5_choices_r2 ++ (wsX5_choices_r3 ++ wsX5_choices_r4))) ++ wsX50 ++ wsX30 ++ wsX10 ++ wsX40)
def wsX5_isRule : List Cond := .code yX5_isRule cX5_isRule 3 (some .boolean) :: ([.fieldLink RX5 10 "ParityRules" "now" "LParityRules$Row;", .methodLink RX5 157 yX3_hasSet, .instanceMethod yX3_hasSet, .selects RX3 yX3_hasSet yX3_hasSet, .initialized RX3, .code yX3_hasSet cX3_hasSet 2 (some .boolean), .fieldLink RX3 9 "ParityRules$Row" "choices" "I"] ++ wsX50 ++ wsX30)
def wsX5_tell_r1 : List Cond := [Cond.fieldLink RX5 10 "ParityRules" "now" "LParityRules$Row;", Cond.fieldLink RX5 84 "ParityRules$Row" "many" "I", Cond.fieldLink RX5 53 "ParityRules" "history" "LParityRules$History;", Cond.fieldLink RX5 19 "ParityRules" "verdict" "LParityRules$Verdict;", Cond.fieldLink RX5 91 "ParityRules$Verdict" "states" "[I", Cond.methodLink RX5 80 yX5_isRule, Cond.instanceMethod yX5_isRule, Cond.selects RX5 yX5_isRule yX5_isRule, Cond.initialized RX5, Cond.code yX5_isRule cX5_isRule 3 (some .boolean), Cond.methodLink RX5 157 yX3_hasSet, Cond.instanceMethod yX3_hasSet, Cond.selects RX3 yX3_hasSet yX3_hasSet, Cond.initialized RX3, Cond.code yX3_hasSet cX3_hasSet 2 (some .boolean), Cond.fieldLink RX3 9 "ParityRules$Row" "choices" "I", Cond.methodLink RX5 77 yX1_remember, Cond.instanceMethod yX1_remember, Cond.selects RX1 yX1_remember yX1_remember, Cond.initialized RX1, Cond.code yX1_remember cX1_remember 2 none, Cond.fieldLink RX1 18 "ParityRules$History" "many" "I", Cond.fieldLink RX1 11 "ParityRules$History" "states" "[LParityRules$Row;", Cond.methodLink RX1 22 yX1_dropOldest]
def wsX5_tell_r2 : List Cond := [Cond.instanceMethod yX1_dropOldest, Cond.selects RX1 yX1_dropOldest yX1_dropOldest, Cond.code yX1_dropOldest cX1_dropOldest 3 none, Cond.methodLink RX1 25 yX3_become, Cond.instanceMethod yX3_become, Cond.selects RX3 yX3_become yX3_become, Cond.code yX3_become cX3_become 2 none, Cond.fieldLink RX3 22 "ParityRules$Row" "many" "I", Cond.fieldLink RX3 15 "ParityRules$Row" "sets" "[I", Cond.methodLink RX3 25 arraycopyName, Cond.native arraycopyName, Cond.static arraycopyName, Cond.initialized "java/lang/System", Cond.fieldLink RX3 19 "ParityRules$Row" "sums" "[I", Cond.methodLink RX5 87 yX3_append, Cond.instanceMethod yX3_append, Cond.selects RX3 yX3_append yX3_append, Cond.code yX3_append cX3_append 3 none, Cond.methodLink RX5 65 yX4_judge, Cond.instanceMethod yX4_judge, Cond.selects RX4 yX4_judge yX4_judge, Cond.initialized RX4, Cond.code yX4_judge cX4_judge 3 none, Cond.fieldLink RX4 33 "ParityRules$Row" "choices" "I"]
def wsX5_tell_r3 : List Cond := [Cond.fieldLink RX4 39 "ParityRules$Verdict" "choices" "I", Cond.fieldLink RX4 40 "ParityRules$Verdict" "many" "I", Cond.fieldLink RX4 18 "ParityRules$Verdict" "tally" "[I", Cond.fieldLink RX4 21 "ParityRules$Verdict" "stepSets" "[I", Cond.fieldLink RX4 43 "ParityRules$Row" "many" "I", Cond.fieldLink RX4 44 "ParityRules$Row" "sets" "[I", Cond.fieldLink RX4 47 "ParityRules$Row" "sums" "[I", Cond.methodLink RX4 50 yX4_judgeNext, Cond.instanceMethod yX4_judgeNext, Cond.selects RX4 yX4_judgeNext yX4_judgeNext, Cond.code yX4_judgeNext cX4_judgeNext 5 none, Cond.fieldLink RX4 58 "ParityRules$Verdict" "restSet" "I", Cond.fieldLink RX4 24 "ParityRules$Verdict" "stepSums" "[I", Cond.fieldLink RX4 65 "ParityRules$Verdict" "restSum" "I", Cond.fieldLink RX4 27 "ParityRules$Verdict" "stepReasons" "[I", Cond.fieldLink RX4 68 "ParityRules$Verdict" "restReason" "I", Cond.fieldLink RX4 9 "ParityRules$Verdict" "states" "[I", Cond.fieldLink RX4 15 "ParityRules$Verdict" "reasons" "[I", Cond.methodLink RX4 54 yX4_stateOf, Cond.instanceMethod yX4_stateOf, Cond.selects RX4 yX4_stateOf yX4_stateOf, Cond.code yX4_stateOf cX4_stateOf 3 (some .int), Cond.methodLink RX4 71 yX4_combine, Cond.instanceMethod yX4_combine]
def wsX5_tell_r4 : List Cond := [Cond.selects RX4 yX4_combine yX4_combine, Cond.code yX4_combine cX4_combine 4 none, Cond.static yX5_lowestBit, Cond.code yX5_lowestBit cX5_lowestBit 1 (some .int), Cond.methodLink RX5 163 yJ6_bitCount_0f7a4, Cond.static yJ6_bitCount_0f7a4, Cond.initialized RJ6, Cond.code yJ6_bitCount_0f7a4 cJ6_bitCount_0f7a4 1 (some .int), Cond.constant RJ6 265 (1431655765), Cond.constant RJ6 266 (858993459), Cond.constant RJ6 267 (252645135)]
def wsX5_tell : List Cond := .code yX5_tell cX5_tell 3 (some .int) :: ((wsX5_tell_r1 ++ (wsX5_tell_r2 ++ (wsX5_tell_r3 ++ wsX5_tell_r4))) ++ wsX50 ++ wsX30 ++ wsX40 ++ wsX10)
def wsX5_drop_r1 : List Cond := [Cond.fieldLink RX5 10 "ParityRules" "now" "LParityRules$Row;", Cond.fieldLink RX5 53 "ParityRules" "history" "LParityRules$History;", Cond.fieldLink RX5 19 "ParityRules" "verdict" "LParityRules$Verdict;", Cond.fieldLink RX5 84 "ParityRules$Row" "many" "I", Cond.methodLink RX5 94 yX3_hasPlace, Cond.instanceMethod yX3_hasPlace, Cond.selects RX3 yX3_hasPlace yX3_hasPlace, Cond.initialized RX3, Cond.code yX3_hasPlace cX3_hasPlace 2 (some .boolean), Cond.fieldLink RX3 22 "ParityRules$Row" "many" "I", Cond.methodLink RX5 77 yX1_remember, Cond.instanceMethod yX1_remember, Cond.selects RX1 yX1_remember yX1_remember, Cond.initialized RX1, Cond.code yX1_remember cX1_remember 2 none, Cond.fieldLink RX1 18 "ParityRules$History" "many" "I", Cond.fieldLink RX1 11 "ParityRules$History" "states" "[LParityRules$Row;", Cond.methodLink RX1 22 yX1_dropOldest, Cond.instanceMethod yX1_dropOldest, Cond.selects RX1 yX1_dropOldest yX1_dropOldest, Cond.code yX1_dropOldest cX1_dropOldest 3 none, Cond.methodLink RX1 25 yX3_become, Cond.instanceMethod yX3_become, Cond.selects RX3 yX3_become yX3_become]
def wsX5_drop_r2 : List Cond := [Cond.code yX3_become cX3_become 2 none, Cond.fieldLink RX3 9 "ParityRules$Row" "choices" "I", Cond.fieldLink RX3 15 "ParityRules$Row" "sets" "[I", Cond.methodLink RX3 25 arraycopyName, Cond.native arraycopyName, Cond.static arraycopyName, Cond.initialized "java/lang/System", Cond.fieldLink RX3 19 "ParityRules$Row" "sums" "[I", Cond.methodLink RX5 97 yX3_takeOut, Cond.instanceMethod yX3_takeOut, Cond.selects RX3 yX3_takeOut yX3_takeOut, Cond.code yX3_takeOut cX3_takeOut 2 none, Cond.methodLink RX3 35 yX3_carryRule, Cond.instanceMethod yX3_carryRule, Cond.selects RX3 yX3_carryRule yX3_carryRule, Cond.code yX3_carryRule cX3_carryRule 3 none, Cond.static yX5_carry, Cond.initialized RX5, Cond.code yX5_carry cX5_carry 5 none, Cond.methodLink RX5 65 yX4_judge, Cond.instanceMethod yX4_judge, Cond.selects RX4 yX4_judge yX4_judge, Cond.initialized RX4, Cond.code yX4_judge cX4_judge 3 none]
def wsX5_drop_r3 : List Cond := [Cond.fieldLink RX4 33 "ParityRules$Row" "choices" "I", Cond.fieldLink RX4 39 "ParityRules$Verdict" "choices" "I", Cond.fieldLink RX4 40 "ParityRules$Verdict" "many" "I", Cond.fieldLink RX4 18 "ParityRules$Verdict" "tally" "[I", Cond.fieldLink RX4 21 "ParityRules$Verdict" "stepSets" "[I", Cond.fieldLink RX4 43 "ParityRules$Row" "many" "I", Cond.fieldLink RX4 44 "ParityRules$Row" "sets" "[I", Cond.fieldLink RX4 47 "ParityRules$Row" "sums" "[I", Cond.methodLink RX4 50 yX4_judgeNext, Cond.instanceMethod yX4_judgeNext, Cond.selects RX4 yX4_judgeNext yX4_judgeNext, Cond.code yX4_judgeNext cX4_judgeNext 5 none, Cond.fieldLink RX4 58 "ParityRules$Verdict" "restSet" "I", Cond.fieldLink RX4 24 "ParityRules$Verdict" "stepSums" "[I", Cond.fieldLink RX4 65 "ParityRules$Verdict" "restSum" "I", Cond.fieldLink RX4 27 "ParityRules$Verdict" "stepReasons" "[I", Cond.fieldLink RX4 68 "ParityRules$Verdict" "restReason" "I", Cond.fieldLink RX4 9 "ParityRules$Verdict" "states" "[I", Cond.fieldLink RX4 15 "ParityRules$Verdict" "reasons" "[I", Cond.methodLink RX4 54 yX4_stateOf, Cond.instanceMethod yX4_stateOf, Cond.selects RX4 yX4_stateOf yX4_stateOf, Cond.code yX4_stateOf cX4_stateOf 3 (some .int), Cond.methodLink RX4 71 yX4_combine]
def wsX5_drop_r4 : List Cond := [Cond.instanceMethod yX4_combine, Cond.selects RX4 yX4_combine yX4_combine, Cond.code yX4_combine cX4_combine 4 none, Cond.static yX5_lowestBit, Cond.code yX5_lowestBit cX5_lowestBit 1 (some .int), Cond.methodLink RX5 163 yJ6_bitCount_0f7a4, Cond.static yJ6_bitCount_0f7a4, Cond.initialized RJ6, Cond.code yJ6_bitCount_0f7a4 cJ6_bitCount_0f7a4 1 (some .int), Cond.constant RJ6 265 (1431655765), Cond.constant RJ6 266 (858993459), Cond.constant RJ6 267 (252645135)]
def wsX5_drop : List Cond := .code yX5_drop cX5_drop 2 (some .int) :: ((wsX5_drop_r1 ++ (wsX5_drop_r2 ++ (wsX5_drop_r3 ++ wsX5_drop_r4))) ++ wsX50 ++ wsX30 ++ wsX10 ++ wsX40)
def wsX5_move_r1 : List Cond := [Cond.fieldLink RX5 10 "ParityRules" "now" "LParityRules$Row;", Cond.fieldLink RX5 53 "ParityRules" "history" "LParityRules$History;", Cond.fieldLink RX5 19 "ParityRules" "verdict" "LParityRules$Verdict;", Cond.fieldLink RX5 91 "ParityRules$Verdict" "states" "[I", Cond.fieldLink RX5 29 "ParityRules" "statesBefore" "[I", Cond.methodLink RX5 101 arraycopyName, Cond.native arraycopyName, Cond.static arraycopyName, Cond.initialized "java/lang/System", Cond.fieldLink RX5 84 "ParityRules$Row" "many" "I", Cond.methodLink RX5 94 yX3_hasPlace, Cond.instanceMethod yX3_hasPlace, Cond.selects RX3 yX3_hasPlace yX3_hasPlace, Cond.initialized RX3, Cond.code yX3_hasPlace cX3_hasPlace 2 (some .boolean), Cond.fieldLink RX3 22 "ParityRules$Row" "many" "I", Cond.methodLink RX5 77 yX1_remember, Cond.instanceMethod yX1_remember, Cond.selects RX1 yX1_remember yX1_remember, Cond.initialized RX1, Cond.code yX1_remember cX1_remember 2 none, Cond.fieldLink RX1 18 "ParityRules$History" "many" "I", Cond.fieldLink RX1 11 "ParityRules$History" "states" "[LParityRules$Row;", Cond.methodLink RX1 22 yX1_dropOldest]
def wsX5_move_r2 : List Cond := [Cond.instanceMethod yX1_dropOldest, Cond.selects RX1 yX1_dropOldest yX1_dropOldest, Cond.code yX1_dropOldest cX1_dropOldest 3 none, Cond.methodLink RX1 25 yX3_become, Cond.instanceMethod yX3_become, Cond.selects RX3 yX3_become yX3_become, Cond.code yX3_become cX3_become 2 none, Cond.fieldLink RX3 9 "ParityRules$Row" "choices" "I", Cond.fieldLink RX3 15 "ParityRules$Row" "sets" "[I", Cond.methodLink RX3 25 arraycopyName, Cond.fieldLink RX3 19 "ParityRules$Row" "sums" "[I", Cond.methodLink RX5 107 yX5_carry, Cond.static yX5_carry, Cond.initialized RX5, Cond.code yX5_carry cX5_carry 5 none, Cond.methodLink RX5 111 yX3_carryRule, Cond.instanceMethod yX3_carryRule, Cond.selects RX3 yX3_carryRule yX3_carryRule, Cond.code yX3_carryRule cX3_carryRule 3 none, Cond.methodLink RX5 65 yX4_judge, Cond.instanceMethod yX4_judge, Cond.selects RX4 yX4_judge yX4_judge, Cond.initialized RX4, Cond.code yX4_judge cX4_judge 3 none]
def wsX5_move_r3 : List Cond := [Cond.fieldLink RX4 33 "ParityRules$Row" "choices" "I", Cond.fieldLink RX4 39 "ParityRules$Verdict" "choices" "I", Cond.fieldLink RX4 40 "ParityRules$Verdict" "many" "I", Cond.fieldLink RX4 18 "ParityRules$Verdict" "tally" "[I", Cond.fieldLink RX4 21 "ParityRules$Verdict" "stepSets" "[I", Cond.fieldLink RX4 43 "ParityRules$Row" "many" "I", Cond.fieldLink RX4 44 "ParityRules$Row" "sets" "[I", Cond.fieldLink RX4 47 "ParityRules$Row" "sums" "[I", Cond.methodLink RX4 50 yX4_judgeNext, Cond.instanceMethod yX4_judgeNext, Cond.selects RX4 yX4_judgeNext yX4_judgeNext, Cond.code yX4_judgeNext cX4_judgeNext 5 none, Cond.fieldLink RX4 58 "ParityRules$Verdict" "restSet" "I", Cond.fieldLink RX4 24 "ParityRules$Verdict" "stepSums" "[I", Cond.fieldLink RX4 65 "ParityRules$Verdict" "restSum" "I", Cond.fieldLink RX4 27 "ParityRules$Verdict" "stepReasons" "[I", Cond.fieldLink RX4 68 "ParityRules$Verdict" "restReason" "I", Cond.fieldLink RX4 9 "ParityRules$Verdict" "states" "[I", Cond.fieldLink RX4 15 "ParityRules$Verdict" "reasons" "[I", Cond.methodLink RX4 54 yX4_stateOf, Cond.instanceMethod yX4_stateOf, Cond.selects RX4 yX4_stateOf yX4_stateOf, Cond.code yX4_stateOf cX4_stateOf 3 (some .int), Cond.methodLink RX4 71 yX4_combine]
def wsX5_move_r4 : List Cond := [Cond.instanceMethod yX4_combine, Cond.selects RX4 yX4_combine yX4_combine, Cond.code yX4_combine cX4_combine 4 none, Cond.static yX5_lowestBit, Cond.code yX5_lowestBit cX5_lowestBit 1 (some .int), Cond.methodLink RX5 163 yJ6_bitCount_0f7a4, Cond.static yJ6_bitCount_0f7a4, Cond.initialized RJ6, Cond.code yJ6_bitCount_0f7a4 cJ6_bitCount_0f7a4 1 (some .int), Cond.constant RJ6 265 (1431655765), Cond.constant RJ6 266 (858993459), Cond.constant RJ6 267 (252645135)]
def wsX5_move : List Cond := .code yX5_move cX5_move 5 (some .int) :: ((wsX5_move_r1 ++ (wsX5_move_r2 ++ (wsX5_move_r3 ++ wsX5_move_r4))) ++ wsX50 ++ wsX40 ++ wsX30 ++ wsX10)
def wsX5_turn_r1 : List Cond := [Cond.fieldLink RX5 10 "ParityRules" "now" "LParityRules$Row;", Cond.fieldLink RX5 53 "ParityRules" "history" "LParityRules$History;", Cond.fieldLink RX5 114 "ParityRules$Row" "sums" "[I", Cond.fieldLink RX5 19 "ParityRules" "verdict" "LParityRules$Verdict;", Cond.fieldLink RX5 91 "ParityRules$Verdict" "states" "[I", Cond.methodLink RX5 94 yX3_hasPlace, Cond.instanceMethod yX3_hasPlace, Cond.selects RX3 yX3_hasPlace yX3_hasPlace, Cond.initialized RX3, Cond.code yX3_hasPlace cX3_hasPlace 2 (some .boolean), Cond.fieldLink RX3 22 "ParityRules$Row" "many" "I", Cond.methodLink RX5 77 yX1_remember, Cond.instanceMethod yX1_remember, Cond.selects RX1 yX1_remember yX1_remember, Cond.initialized RX1, Cond.code yX1_remember cX1_remember 2 none, Cond.fieldLink RX1 18 "ParityRules$History" "many" "I", Cond.fieldLink RX1 11 "ParityRules$History" "states" "[LParityRules$Row;", Cond.methodLink RX1 22 yX1_dropOldest, Cond.instanceMethod yX1_dropOldest, Cond.selects RX1 yX1_dropOldest yX1_dropOldest, Cond.code yX1_dropOldest cX1_dropOldest 3 none, Cond.methodLink RX1 25 yX3_become, Cond.instanceMethod yX3_become]
def wsX5_turn_r2 : List Cond := [Cond.selects RX3 yX3_become yX3_become, Cond.code yX3_become cX3_become 2 none, Cond.fieldLink RX3 9 "ParityRules$Row" "choices" "I", Cond.fieldLink RX3 15 "ParityRules$Row" "sets" "[I", Cond.methodLink RX3 25 arraycopyName, Cond.native arraycopyName, Cond.static arraycopyName, Cond.initialized "java/lang/System", Cond.fieldLink RX3 19 "ParityRules$Row" "sums" "[I", Cond.methodLink RX5 65 yX4_judge, Cond.instanceMethod yX4_judge, Cond.selects RX4 yX4_judge yX4_judge, Cond.initialized RX4, Cond.code yX4_judge cX4_judge 3 none, Cond.fieldLink RX4 33 "ParityRules$Row" "choices" "I", Cond.fieldLink RX4 39 "ParityRules$Verdict" "choices" "I", Cond.fieldLink RX4 40 "ParityRules$Verdict" "many" "I", Cond.fieldLink RX4 18 "ParityRules$Verdict" "tally" "[I", Cond.fieldLink RX4 21 "ParityRules$Verdict" "stepSets" "[I", Cond.fieldLink RX4 43 "ParityRules$Row" "many" "I", Cond.fieldLink RX4 44 "ParityRules$Row" "sets" "[I", Cond.fieldLink RX4 47 "ParityRules$Row" "sums" "[I", Cond.methodLink RX4 50 yX4_judgeNext, Cond.instanceMethod yX4_judgeNext]
def wsX5_turn_r3 : List Cond := [Cond.selects RX4 yX4_judgeNext yX4_judgeNext, Cond.code yX4_judgeNext cX4_judgeNext 5 none, Cond.fieldLink RX4 58 "ParityRules$Verdict" "restSet" "I", Cond.fieldLink RX4 24 "ParityRules$Verdict" "stepSums" "[I", Cond.fieldLink RX4 65 "ParityRules$Verdict" "restSum" "I", Cond.fieldLink RX4 27 "ParityRules$Verdict" "stepReasons" "[I", Cond.fieldLink RX4 68 "ParityRules$Verdict" "restReason" "I", Cond.fieldLink RX4 9 "ParityRules$Verdict" "states" "[I", Cond.fieldLink RX4 15 "ParityRules$Verdict" "reasons" "[I", Cond.methodLink RX4 54 yX4_stateOf, Cond.instanceMethod yX4_stateOf, Cond.selects RX4 yX4_stateOf yX4_stateOf, Cond.code yX4_stateOf cX4_stateOf 3 (some .int), Cond.methodLink RX4 71 yX4_combine, Cond.instanceMethod yX4_combine, Cond.selects RX4 yX4_combine yX4_combine, Cond.code yX4_combine cX4_combine 4 none, Cond.static yX5_lowestBit, Cond.initialized RX5, Cond.code yX5_lowestBit cX5_lowestBit 1 (some .int), Cond.methodLink RX5 163 yJ6_bitCount_0f7a4, Cond.static yJ6_bitCount_0f7a4, Cond.initialized RJ6, Cond.code yJ6_bitCount_0f7a4 cJ6_bitCount_0f7a4 1 (some .int)]
def wsX5_turn_r4 : List Cond := [Cond.constant RJ6 265 (1431655765), Cond.constant RJ6 266 (858993459), Cond.constant RJ6 267 (252645135)]
def wsX5_turn : List Cond := .code yX5_turn cX5_turn 2 (some .int) :: ((wsX5_turn_r1 ++ (wsX5_turn_r2 ++ (wsX5_turn_r3 ++ wsX5_turn_r4))) ++ wsX50 ++ wsX30 ++ wsX40 ++ wsX10)
def wsX5_read_r1 : List Cond := [Cond.fieldLink RX5 43 "ParityRules" "pad" "LParityRules$Pad;", Cond.fieldLink RX5 47 "ParityRules" "padRules" "LParityRules$Row;", Cond.fieldLink RX5 10 "ParityRules" "now" "LParityRules$Row;", Cond.fieldLink RX5 73 "ParityRules$Row" "choices" "I", Cond.fieldLink RX5 84 "ParityRules$Row" "many" "I", Cond.fieldLink RX5 53 "ParityRules" "history" "LParityRules$History;", Cond.fieldLink RX5 121 "ParityRules$Row" "sets" "[I", Cond.fieldLink RX5 114 "ParityRules$Row" "sums" "[I", Cond.fieldLink RX5 124 "ParityRules$Pad" "length" "I", Cond.fieldLink RX5 19 "ParityRules" "verdict" "LParityRules$Verdict;", Cond.methodLink RX5 117 yX2_readInto, Cond.instanceMethod yX2_readInto, Cond.selects RX2 yX2_readInto yX2_readInto, Cond.initialized RX2, Cond.code yX2_readInto cX2_readInto 3 (some .int), Cond.fieldLink RX2 19 "ParityRules$Row" "many" "I", Cond.fieldLink RX2 15 "ParityRules$Pad" "length" "I", Cond.fieldLink RX2 9 "ParityRules$Pad" "characters" "[C", Cond.fieldLink RX2 31 "ParityRules$Pad" "stage" "I", Cond.methodLink RX2 24 yX2_startRule, Cond.instanceMethod yX2_startRule, Cond.selects RX2 yX2_startRule yX2_startRule, Cond.code yX2_startRule cX2_startRule 1 none, Cond.fieldLink RX2 34 "ParityRules$Pad" "choiceAhead" "I"]
def wsX5_read_r2 : List Cond := [Cond.fieldLink RX2 37 "ParityRules$Pad" "set" "I", Cond.methodLink RX2 27 yX2_canStand, Cond.instanceMethod yX2_canStand, Cond.selects RX2 yX2_canStand yX2_canStand, Cond.code yX2_canStand cX2_canStand 3 (some .boolean), Cond.methodLink RX2 40 yX2_canStartChoice, Cond.instanceMethod yX2_canStartChoice, Cond.selects RX2 yX2_canStartChoice yX2_canStartChoice, Cond.code yX2_canStartChoice cX2_canStartChoice 4 (some .boolean), Cond.fieldLink RX2 50 "ParityRules$Pad" "choiceHere" "I", Cond.methodLink RX2 44 yX2_canStandInChoice, Cond.instanceMethod yX2_canStandInChoice, Cond.selects RX2 yX2_canStandInChoice yX2_canStandInChoice, Cond.code yX2_canStandInChoice cX2_canStandInChoice 3 (some .boolean), Cond.methodLink RX2 47 yX2_canBeSum, Cond.instanceMethod yX2_canBeSum, Cond.selects RX2 yX2_canBeSum yX2_canBeSum, Cond.code yX2_canBeSum cX2_canBeSum 3 (some .boolean), Cond.methodLink RX2 53 yX3_append, Cond.instanceMethod yX3_append, Cond.selects RX3 yX3_append yX3_append, Cond.initialized RX3, Cond.code yX3_append cX3_append 3 none, Cond.fieldLink RX3 22 "ParityRules$Row" "many" "I"]
def wsX5_read_r3 : List Cond := [Cond.fieldLink RX3 15 "ParityRules$Row" "sets" "[I", Cond.fieldLink RX3 19 "ParityRules$Row" "sums" "[I", Cond.methodLink RX5 69 yX3_setsStayBelow, Cond.instanceMethod yX3_setsStayBelow, Cond.selects RX3 yX3_setsStayBelow yX3_setsStayBelow, Cond.code yX3_setsStayBelow cX3_setsStayBelow 4 (some .boolean), Cond.methodLink RX5 77 yX1_remember, Cond.instanceMethod yX1_remember, Cond.selects RX1 yX1_remember yX1_remember, Cond.initialized RX1, Cond.code yX1_remember cX1_remember 2 none, Cond.fieldLink RX1 18 "ParityRules$History" "many" "I", Cond.fieldLink RX1 11 "ParityRules$History" "states" "[LParityRules$Row;", Cond.methodLink RX1 22 yX1_dropOldest, Cond.instanceMethod yX1_dropOldest, Cond.selects RX1 yX1_dropOldest yX1_dropOldest, Cond.code yX1_dropOldest cX1_dropOldest 3 none, Cond.methodLink RX1 25 yX3_become, Cond.instanceMethod yX3_become, Cond.selects RX3 yX3_become yX3_become, Cond.code yX3_become cX3_become 2 none, Cond.fieldLink RX3 9 "ParityRules$Row" "choices" "I", Cond.methodLink RX3 25 arraycopyName, Cond.native arraycopyName]
def wsX5_read_r4 : List Cond := [Cond.static arraycopyName, Cond.initialized "java/lang/System", Cond.methodLink RX5 87 yX3_append, Cond.methodLink RX5 65 yX4_judge, Cond.instanceMethod yX4_judge, Cond.selects RX4 yX4_judge yX4_judge, Cond.initialized RX4, Cond.code yX4_judge cX4_judge 3 none, Cond.fieldLink RX4 33 "ParityRules$Row" "choices" "I", Cond.fieldLink RX4 39 "ParityRules$Verdict" "choices" "I", Cond.fieldLink RX4 40 "ParityRules$Verdict" "many" "I", Cond.fieldLink RX4 18 "ParityRules$Verdict" "tally" "[I", Cond.fieldLink RX4 21 "ParityRules$Verdict" "stepSets" "[I", Cond.fieldLink RX4 43 "ParityRules$Row" "many" "I", Cond.fieldLink RX4 44 "ParityRules$Row" "sets" "[I", Cond.fieldLink RX4 47 "ParityRules$Row" "sums" "[I", Cond.methodLink RX4 50 yX4_judgeNext, Cond.instanceMethod yX4_judgeNext, Cond.selects RX4 yX4_judgeNext yX4_judgeNext, Cond.code yX4_judgeNext cX4_judgeNext 5 none, Cond.fieldLink RX4 58 "ParityRules$Verdict" "restSet" "I", Cond.fieldLink RX4 24 "ParityRules$Verdict" "stepSums" "[I", Cond.fieldLink RX4 65 "ParityRules$Verdict" "restSum" "I", Cond.fieldLink RX4 27 "ParityRules$Verdict" "stepReasons" "[I"]
def wsX5_read_r5 : List Cond := [Cond.fieldLink RX4 68 "ParityRules$Verdict" "restReason" "I", Cond.fieldLink RX4 9 "ParityRules$Verdict" "states" "[I", Cond.fieldLink RX4 15 "ParityRules$Verdict" "reasons" "[I", Cond.methodLink RX4 54 yX4_stateOf, Cond.instanceMethod yX4_stateOf, Cond.selects RX4 yX4_stateOf yX4_stateOf, Cond.code yX4_stateOf cX4_stateOf 3 (some .int), Cond.methodLink RX4 71 yX4_combine, Cond.instanceMethod yX4_combine, Cond.selects RX4 yX4_combine yX4_combine, Cond.code yX4_combine cX4_combine 4 none, Cond.static yX5_lowestBit, Cond.initialized RX5, Cond.code yX5_lowestBit cX5_lowestBit 1 (some .int), Cond.methodLink RX5 163 yJ6_bitCount_0f7a4, Cond.static yJ6_bitCount_0f7a4, Cond.initialized RJ6, Cond.code yJ6_bitCount_0f7a4 cJ6_bitCount_0f7a4 1 (some .int), Cond.constant RJ6 265 (1431655765), Cond.constant RJ6 266 (858993459), Cond.constant RJ6 267 (252645135)]
def wsX5_read : List Cond := .code yX5_read cX5_read 2 (some .int) :: ((wsX5_read_r1 ++ (wsX5_read_r2 ++ (wsX5_read_r3 ++ (wsX5_read_r4 ++ wsX5_read_r5)))) ++ wsX50 ++ wsX30 ++ wsX20 ++ wsX10 ++ wsX40)
def wsX5_rule_r1 : List Cond := [Cond.fieldLink RX5 10 "ParityRules" "now" "LParityRules$Row;", Cond.fieldLink RX5 19 "ParityRules" "verdict" "LParityRules$Verdict;", Cond.fieldLink RX5 91 "ParityRules$Verdict" "states" "[I", Cond.fieldLink RX5 121 "ParityRules$Row" "sets" "[I", Cond.fieldLink RX5 114 "ParityRules$Row" "sums" "[I", Cond.fieldLink RX5 127 "ParityRules$Verdict" "reasons" "[I", Cond.methodLink RX5 94 yX3_hasPlace, Cond.instanceMethod yX3_hasPlace, Cond.selects RX3 yX3_hasPlace yX3_hasPlace, Cond.initialized RX3, Cond.code yX3_hasPlace cX3_hasPlace 2 (some .boolean), Cond.fieldLink RX3 22 "ParityRules$Row" "many" "I", Cond.methodLink RX5 130 yX4_reasonsWith, Cond.instanceMethod yX4_reasonsWith, Cond.selects RX4 yX4_reasonsWith yX4_reasonsWith, Cond.initialized RX4, Cond.code yX4_reasonsWith cX4_reasonsWith 4 (some .int), Cond.fieldLink RX4 40 "ParityRules$Verdict" "many" "I", Cond.fieldLink RX4 15 "ParityRules$Verdict" "reasons" "[I", Cond.methodLink RX5 134 yX4_answers, Cond.instanceMethod yX4_answers, Cond.selects RX4 yX4_answers yX4_answers, Cond.code yX4_answers cX4_answers 1 (some .int), Cond.fieldLink RX4 39 "ParityRules$Verdict" "choices" "I"]
def wsX5_rule_r2 : List Cond := [Cond.fieldLink RX4 18 "ParityRules$Verdict" "tally" "[I"]
def wsX5_rule : List Cond := .code yX5_rule cX5_rule 4 (some .int) :: ((wsX5_rule_r1 ++ wsX5_rule_r2) ++ wsX50 ++ wsX40 ++ wsX30)
def wsX5_choice_r1 : List Cond := [Cond.fieldLink RX5 10 "ParityRules" "now" "LParityRules$Row;", Cond.fieldLink RX5 73 "ParityRules$Row" "choices" "I", Cond.fieldLink RX5 19 "ParityRules" "verdict" "LParityRules$Verdict;", Cond.methodLink RX5 138 yX4_sumOf, Cond.instanceMethod yX4_sumOf, Cond.selects RX4 yX4_sumOf yX4_sumOf, Cond.initialized RX4, Cond.code yX4_sumOf cX4_sumOf 2 (some .int), Cond.fieldLink RX4 58 "ParityRules$Verdict" "restSet" "I", Cond.fieldLink RX4 65 "ParityRules$Verdict" "restSum" "I", Cond.methodLink RX4 71 yX4_combine, Cond.instanceMethod yX4_combine, Cond.selects RX4 yX4_combine yX4_combine, Cond.code yX4_combine cX4_combine 4 none, Cond.fieldLink RX4 68 "ParityRules$Verdict" "restReason" "I", Cond.fieldLink RX4 21 "ParityRules$Verdict" "stepSets" "[I", Cond.fieldLink RX4 24 "ParityRules$Verdict" "stepSums" "[I", Cond.fieldLink RX4 27 "ParityRules$Verdict" "stepReasons" "[I", Cond.methodLink RX5 141 yX3_rulesWith, Cond.instanceMethod yX3_rulesWith, Cond.selects RX3 yX3_rulesWith yX3_rulesWith, Cond.initialized RX3, Cond.code yX3_rulesWith cX3_rulesWith 4 (some .int), Cond.fieldLink RX3 22 "ParityRules$Row" "many" "I"]
def wsX5_choice_r2 : List Cond := [Cond.fieldLink RX3 15 "ParityRules$Row" "sets" "[I", Cond.methodLink RX5 144 yX4_boundTo, Cond.instanceMethod yX4_boundTo, Cond.selects RX4 yX4_boundTo yX4_boundTo, Cond.code yX4_boundTo cX4_boundTo 5 (some .int), Cond.fieldLink RX4 39 "ParityRules$Verdict" "choices" "I", Cond.methodLink RX4 74 yX4_sumOf]
def wsX5_choice : List Cond := .code yX5_choice cX5_choice 3 (some .int) :: ((wsX5_choice_r1 ++ wsX5_choice_r2) ++ wsX50 ++ wsX30 ++ wsX40)
def wsX5_count_r1 : List Cond := [Cond.fieldLink RX5 10 "ParityRules" "now" "LParityRules$Row;", Cond.fieldLink RX5 84 "ParityRules$Row" "many" "I", Cond.fieldLink RX5 19 "ParityRules" "verdict" "LParityRules$Verdict;", Cond.fieldLink RX5 147 "ParityRules$Verdict" "tally" "[I", Cond.fieldLink RX5 73 "ParityRules$Row" "choices" "I", Cond.fieldLink RX5 43 "ParityRules" "pad" "LParityRules$Pad;", Cond.fieldLink RX5 124 "ParityRules$Pad" "length" "I", Cond.fieldLink RX5 53 "ParityRules" "history" "LParityRules$History;", Cond.fieldLink RX5 153 "ParityRules$History" "many" "I", Cond.methodLink RX5 134 yX4_answers, Cond.instanceMethod yX4_answers, Cond.selects RX4 yX4_answers yX4_answers, Cond.initialized RX4, Cond.code yX4_answers cX4_answers 1 (some .int), Cond.fieldLink RX4 39 "ParityRules$Verdict" "choices" "I", Cond.fieldLink RX4 18 "ParityRules$Verdict" "tally" "[I", Cond.methodLink RX5 150 yX4_settled, Cond.instanceMethod yX4_settled, Cond.selects RX4 yX4_settled yX4_settled, Cond.code yX4_settled cX4_settled 3 (some .int), Cond.methodLink RX4 74 yX4_sumOf, Cond.instanceMethod yX4_sumOf, Cond.selects RX4 yX4_sumOf yX4_sumOf, Cond.code yX4_sumOf cX4_sumOf 2 (some .int)]
def wsX5_count_r2 : List Cond := [Cond.fieldLink RX4 58 "ParityRules$Verdict" "restSet" "I", Cond.fieldLink RX4 65 "ParityRules$Verdict" "restSum" "I", Cond.methodLink RX4 71 yX4_combine, Cond.instanceMethod yX4_combine, Cond.selects RX4 yX4_combine yX4_combine, Cond.code yX4_combine cX4_combine 4 none, Cond.fieldLink RX4 68 "ParityRules$Verdict" "restReason" "I", Cond.fieldLink RX4 21 "ParityRules$Verdict" "stepSets" "[I", Cond.fieldLink RX4 24 "ParityRules$Verdict" "stepSums" "[I", Cond.fieldLink RX4 27 "ParityRules$Verdict" "stepReasons" "[I"]
def wsX5_count : List Cond := .code yX5_count cX5_count 2 (some .int) :: ((wsX5_count_r1 ++ wsX5_count_r2) ++ wsX50 ++ wsX30 ++ wsX40 ++ wsX20 ++ wsX10)
def wsX5_answer : List Cond := .code yX5_answer cX5_answer 2 (some .int) :: ([.fieldLink RX5 19 "ParityRules" "verdict" "LParityRules$Verdict;", .methodLink RX5 134 yX4_answers, .instanceMethod yX4_answers, .selects RX4 yX4_answers yX4_answers, .initialized RX4, .code yX4_answers cX4_answers 1 (some .int), .fieldLink RX4 39 "ParityRules$Verdict" "choices" "I", .fieldLink RX4 18 "ParityRules$Verdict" "tally" "[I", .methodLink RX5 154 yX4_answerAt, .instanceMethod yX4_answerAt, .selects RX4 yX4_answerAt yX4_answerAt, .code yX4_answerAt cX4_answerAt 6 (some .int), .fieldLink RX4 21 "ParityRules$Verdict" "stepSets" "[I", .fieldLink RX4 24 "ParityRules$Verdict" "stepSums" "[I", .static yX5_parity, .initialized RX5, .code yX5_parity cX5_parity 1 (some .int), .methodLink RX5 163 yJ6_bitCount_0f7a4, .static yJ6_bitCount_0f7a4, .initialized RJ6, .code yJ6_bitCount_0f7a4 cJ6_bitCount_0f7a4 1 (some .int), .constant RJ6 265 (1431655765), .constant RJ6 266 (858993459), .constant RJ6 267 (252645135)] ++ wsX50 ++ wsX40)
def wsX5_known : List Cond := .code yX5_known cX5_known 2 (some .int) :: ([.fieldLink RX5 10 "ParityRules" "now" "LParityRules$Row;", .fieldLink RX5 19 "ParityRules" "verdict" "LParityRules$Verdict;", .methodLink RX5 157 yX3_hasSet, .instanceMethod yX3_hasSet, .selects RX3 yX3_hasSet yX3_hasSet, .initialized RX3, .code yX3_hasSet cX3_hasSet 2 (some .boolean), .fieldLink RX3 9 "ParityRules$Row" "choices" "I", .methodLink RX5 138 yX4_sumOf, .instanceMethod yX4_sumOf, .selects RX4 yX4_sumOf yX4_sumOf, .initialized RX4, .code yX4_sumOf cX4_sumOf 2 (some .int), .fieldLink RX4 58 "ParityRules$Verdict" "restSet" "I", .fieldLink RX4 65 "ParityRules$Verdict" "restSum" "I", .methodLink RX4 71 yX4_combine, .instanceMethod yX4_combine, .selects RX4 yX4_combine yX4_combine, .code yX4_combine cX4_combine 4 none, .fieldLink RX4 68 "ParityRules$Verdict" "restReason" "I", .fieldLink RX4 21 "ParityRules$Verdict" "stepSets" "[I", .fieldLink RX4 24 "ParityRules$Verdict" "stepSums" "[I", .fieldLink RX4 27 "ParityRules$Verdict" "stepReasons" "[I"] ++ wsX50 ++ wsX30 ++ wsX40)
def wsX5_nearest_r1 : List Cond := [Cond.fieldLink RX5 10 "ParityRules" "now" "LParityRules$Row;", Cond.fieldLink RX5 19 "ParityRules" "verdict" "LParityRules$Verdict;", Cond.methodLink RX5 157 yX3_hasSet, Cond.instanceMethod yX3_hasSet, Cond.selects RX3 yX3_hasSet yX3_hasSet, Cond.initialized RX3, Cond.code yX3_hasSet cX3_hasSet 2 (some .boolean), Cond.fieldLink RX3 9 "ParityRules$Row" "choices" "I", Cond.methodLink RX5 160 yX4_nearestTo, Cond.instanceMethod yX4_nearestTo, Cond.selects RX4 yX4_nearestTo yX4_nearestTo, Cond.initialized RX4, Cond.code yX4_nearestTo cX4_nearestTo 8 (some .int), Cond.fieldLink RX4 30 "ParityRules$Verdict" "exchanges" "[I", Cond.methodLink RX4 80 yX4_fillExchanges, Cond.instanceMethod yX4_fillExchanges, Cond.selects RX4 yX4_fillExchanges yX4_fillExchanges, Cond.code yX4_fillExchanges cX4_fillExchanges 4 none, Cond.fieldLink RX4 39 "ParityRules$Verdict" "choices" "I", Cond.fieldLink RX4 18 "ParityRules$Verdict" "tally" "[I", Cond.methodLink RX4 83 yX4_answerAt, Cond.instanceMethod yX4_answerAt, Cond.selects RX4 yX4_answerAt yX4_answerAt, Cond.code yX4_answerAt cX4_answerAt 6 (some .int)]
def wsX5_nearest_r2 : List Cond := [Cond.fieldLink RX4 21 "ParityRules$Verdict" "stepSets" "[I", Cond.fieldLink RX4 24 "ParityRules$Verdict" "stepSums" "[I", Cond.static yX5_parity, Cond.initialized RX5, Cond.code yX5_parity cX5_parity 1 (some .int), Cond.methodLink RX5 163 yJ6_bitCount_0f7a4, Cond.static yJ6_bitCount_0f7a4, Cond.initialized RJ6, Cond.code yJ6_bitCount_0f7a4 cJ6_bitCount_0f7a4 1 (some .int), Cond.constant RJ6 265 (1431655765), Cond.constant RJ6 266 (858993459), Cond.constant RJ6 267 (252645135), Cond.methodLink RX4 86 yJ6_bitCount_0f7a4, Cond.methodLink RX4 91 yX4_answers, Cond.instanceMethod yX4_answers, Cond.selects RX4 yX4_answers yX4_answers, Cond.code yX4_answers cX4_answers 1 (some .int), Cond.static yX5_lowestBit, Cond.code yX5_lowestBit cX5_lowestBit 1 (some .int)]
def wsX5_nearest : List Cond := .code yX5_nearest cX5_nearest 4 (some .int) :: ((wsX5_nearest_r1 ++ wsX5_nearest_r2) ++ wsX50 ++ wsX30 ++ wsX40)
def wsX5_best_r1 : List Cond := [Cond.fieldLink RX5 36 "ParityRules" "bestAnswer" "LParityRules$BestAnswer;", Cond.fieldLink RX5 10 "ParityRules" "now" "LParityRules$Row;", Cond.fieldLink RX5 171 "ParityRules$BestAnswer" "lowest" "I", Cond.fieldLink RX5 174 "ParityRules$BestAnswer" "broken" "I", Cond.fieldLink RX5 177 "ParityRules$BestAnswer" "asGood" "I", Cond.methodLink RX5 168 yX0_find, Cond.instanceMethod yX0_find, Cond.selects RX0 yX0_find yX0_find, Cond.initialized RX0, Cond.code yX0_find cX0_find 6 none, Cond.fieldLink RX0 23 "ParityRules$BestAnswer" "lowest" "I", Cond.fieldLink RX0 33 "ParityRules$BestAnswer" "broken" "I", Cond.fieldLink RX0 36 "ParityRules$BestAnswer" "asGood" "I", Cond.fieldLink RX0 39 "ParityRules$Row" "choices" "I", Cond.fieldLink RX0 9 "ParityRules$BestAnswer" "exchanges" "[I", Cond.methodLink RX0 15 yX0_fillExchanges, Cond.instanceMethod yX0_fillExchanges, Cond.selects RX0 yX0_fillExchanges yX0_fillExchanges, Cond.code yX0_fillExchanges cX0_fillExchanges 6 none, Cond.fieldLink RX0 47 "ParityRules$Row" "many" "I", Cond.fieldLink RX0 53 "ParityRules$Row" "sets" "[I", Cond.static yX5_parity, Cond.initialized RX5, Cond.code yX5_parity cX5_parity 1 (some .int)]
def wsX5_best_r2 : List Cond := [Cond.methodLink RX5 163 yJ6_bitCount_0f7a4, Cond.static yJ6_bitCount_0f7a4, Cond.initialized RJ6, Cond.code yJ6_bitCount_0f7a4 cJ6_bitCount_0f7a4 1 (some .int), Cond.constant RJ6 265 (1431655765), Cond.constant RJ6 266 (858993459), Cond.constant RJ6 267 (252645135), Cond.methodLink RX0 19 yX0_brokenByNone, Cond.static yX0_brokenByNone, Cond.code yX0_brokenByNone cX0_brokenByNone 3 (some .int), Cond.fieldLink RX0 50 "ParityRules$Row" "sums" "[I", Cond.methodLink RX0 27 yJ6_bitCount_0f7a4, Cond.static yX5_lowestBit, Cond.code yX5_lowestBit cX5_lowestBit 1 (some .int)]
def wsX5_best : List Cond := .code yX5_best cX5_best 2 (some .int) :: ((wsX5_best_r1 ++ wsX5_best_r2) ++ wsX50 ++ wsX00 ++ wsX30)
def wsX5_ifTold_r1 : List Cond := [Cond.fieldLink RX5 19 "ParityRules" "verdict" "LParityRules$Verdict;", Cond.methodLink RX5 80 yX5_isRule, Cond.instanceMethod yX5_isRule, Cond.selects RX5 yX5_isRule yX5_isRule, Cond.initialized RX5, Cond.code yX5_isRule cX5_isRule 3 (some .boolean), Cond.fieldLink RX5 10 "ParityRules" "now" "LParityRules$Row;", Cond.methodLink RX5 157 yX3_hasSet, Cond.instanceMethod yX3_hasSet, Cond.selects RX3 yX3_hasSet yX3_hasSet, Cond.initialized RX3, Cond.code yX3_hasSet cX3_hasSet 2 (some .boolean), Cond.fieldLink RX3 9 "ParityRules$Row" "choices" "I", Cond.methodLink RX5 180 yX4_stateOf, Cond.instanceMethod yX4_stateOf, Cond.selects RX4 yX4_stateOf yX4_stateOf, Cond.initialized RX4, Cond.code yX4_stateOf cX4_stateOf 3 (some .int), Cond.fieldLink RX4 58 "ParityRules$Verdict" "restSet" "I", Cond.fieldLink RX4 65 "ParityRules$Verdict" "restSum" "I", Cond.methodLink RX4 71 yX4_combine, Cond.instanceMethod yX4_combine, Cond.selects RX4 yX4_combine yX4_combine, Cond.code yX4_combine cX4_combine 4 none]
def wsX5_ifTold_r2 : List Cond := [Cond.fieldLink RX4 68 "ParityRules$Verdict" "restReason" "I", Cond.fieldLink RX4 21 "ParityRules$Verdict" "stepSets" "[I", Cond.fieldLink RX4 24 "ParityRules$Verdict" "stepSums" "[I", Cond.fieldLink RX4 27 "ParityRules$Verdict" "stepReasons" "[I"]
def wsX5_ifTold : List Cond := .code yX5_ifTold cX5_ifTold 3 (some .int) :: ((wsX5_ifTold_r1 ++ wsX5_ifTold_r2) ++ wsX50 ++ wsX30 ++ wsX40)
def wsX5_ifDropped_r1 : List Cond := [Cond.fieldLink RX5 10 "ParityRules" "now" "LParityRules$Row;", Cond.fieldLink RX5 23 "ParityRules" "trialRow" "LParityRules$Row;", Cond.fieldLink RX5 26 "ParityRules" "trialVerdict" "LParityRules$Verdict;", Cond.methodLink RX5 94 yX3_hasPlace, Cond.instanceMethod yX3_hasPlace, Cond.selects RX3 yX3_hasPlace yX3_hasPlace, Cond.initialized RX3, Cond.code yX3_hasPlace cX3_hasPlace 2 (some .boolean), Cond.fieldLink RX3 22 "ParityRules$Row" "many" "I", Cond.methodLink RX5 184 yX3_become, Cond.instanceMethod yX3_become, Cond.selects RX3 yX3_become yX3_become, Cond.code yX3_become cX3_become 2 none, Cond.fieldLink RX3 9 "ParityRules$Row" "choices" "I", Cond.fieldLink RX3 15 "ParityRules$Row" "sets" "[I", Cond.methodLink RX3 25 arraycopyName, Cond.native arraycopyName, Cond.static arraycopyName, Cond.initialized "java/lang/System", Cond.fieldLink RX3 19 "ParityRules$Row" "sums" "[I", Cond.methodLink RX5 97 yX3_takeOut, Cond.instanceMethod yX3_takeOut, Cond.selects RX3 yX3_takeOut yX3_takeOut, Cond.code yX3_takeOut cX3_takeOut 2 none]
def wsX5_ifDropped_r2 : List Cond := [Cond.methodLink RX3 35 yX3_carryRule, Cond.instanceMethod yX3_carryRule, Cond.selects RX3 yX3_carryRule yX3_carryRule, Cond.code yX3_carryRule cX3_carryRule 3 none, Cond.static yX5_carry, Cond.initialized RX5, Cond.code yX5_carry cX5_carry 5 none, Cond.methodLink RX5 65 yX4_judge, Cond.instanceMethod yX4_judge, Cond.selects RX4 yX4_judge yX4_judge, Cond.initialized RX4, Cond.code yX4_judge cX4_judge 3 none, Cond.fieldLink RX4 33 "ParityRules$Row" "choices" "I", Cond.fieldLink RX4 39 "ParityRules$Verdict" "choices" "I", Cond.fieldLink RX4 40 "ParityRules$Verdict" "many" "I", Cond.fieldLink RX4 18 "ParityRules$Verdict" "tally" "[I", Cond.fieldLink RX4 21 "ParityRules$Verdict" "stepSets" "[I", Cond.fieldLink RX4 43 "ParityRules$Row" "many" "I", Cond.fieldLink RX4 44 "ParityRules$Row" "sets" "[I", Cond.fieldLink RX4 47 "ParityRules$Row" "sums" "[I", Cond.methodLink RX4 50 yX4_judgeNext, Cond.instanceMethod yX4_judgeNext, Cond.selects RX4 yX4_judgeNext yX4_judgeNext, Cond.code yX4_judgeNext cX4_judgeNext 5 none]
def wsX5_ifDropped_r3 : List Cond := [Cond.fieldLink RX4 58 "ParityRules$Verdict" "restSet" "I", Cond.fieldLink RX4 24 "ParityRules$Verdict" "stepSums" "[I", Cond.fieldLink RX4 65 "ParityRules$Verdict" "restSum" "I", Cond.fieldLink RX4 27 "ParityRules$Verdict" "stepReasons" "[I", Cond.fieldLink RX4 68 "ParityRules$Verdict" "restReason" "I", Cond.fieldLink RX4 9 "ParityRules$Verdict" "states" "[I", Cond.fieldLink RX4 15 "ParityRules$Verdict" "reasons" "[I", Cond.methodLink RX4 54 yX4_stateOf, Cond.instanceMethod yX4_stateOf, Cond.selects RX4 yX4_stateOf yX4_stateOf, Cond.code yX4_stateOf cX4_stateOf 3 (some .int), Cond.methodLink RX4 71 yX4_combine, Cond.instanceMethod yX4_combine, Cond.selects RX4 yX4_combine yX4_combine, Cond.code yX4_combine cX4_combine 4 none, Cond.static yX5_lowestBit, Cond.code yX5_lowestBit cX5_lowestBit 1 (some .int), Cond.methodLink RX5 163 yJ6_bitCount_0f7a4, Cond.static yJ6_bitCount_0f7a4, Cond.initialized RJ6, Cond.code yJ6_bitCount_0f7a4 cJ6_bitCount_0f7a4 1 (some .int), Cond.constant RJ6 265 (1431655765), Cond.constant RJ6 266 (858993459), Cond.constant RJ6 267 (252645135)]
def wsX5_ifDropped_r4 : List Cond := [Cond.methodLink RX5 134 yX4_answers, Cond.instanceMethod yX4_answers, Cond.selects RX4 yX4_answers yX4_answers, Cond.code yX4_answers cX4_answers 1 (some .int)]
def wsX5_ifDropped : List Cond := .code yX5_ifDropped cX5_ifDropped 2 (some .int) :: ((wsX5_ifDropped_r1 ++ (wsX5_ifDropped_r2 ++ (wsX5_ifDropped_r3 ++ wsX5_ifDropped_r4))) ++ wsX50 ++ wsX30 ++ wsX40)
def wsX5_ifMoved_r1 : List Cond := [Cond.fieldLink RX5 10 "ParityRules" "now" "LParityRules$Row;", Cond.fieldLink RX5 23 "ParityRules" "trialRow" "LParityRules$Row;", Cond.fieldLink RX5 26 "ParityRules" "trialVerdict" "LParityRules$Verdict;", Cond.fieldLink RX5 147 "ParityRules$Verdict" "tally" "[I", Cond.methodLink RX5 94 yX3_hasPlace, Cond.instanceMethod yX3_hasPlace, Cond.selects RX3 yX3_hasPlace yX3_hasPlace, Cond.initialized RX3, Cond.code yX3_hasPlace cX3_hasPlace 2 (some .boolean), Cond.fieldLink RX3 22 "ParityRules$Row" "many" "I", Cond.methodLink RX5 184 yX3_become, Cond.instanceMethod yX3_become, Cond.selects RX3 yX3_become yX3_become, Cond.code yX3_become cX3_become 2 none, Cond.fieldLink RX3 9 "ParityRules$Row" "choices" "I", Cond.fieldLink RX3 15 "ParityRules$Row" "sets" "[I", Cond.methodLink RX3 25 arraycopyName, Cond.native arraycopyName, Cond.static arraycopyName, Cond.initialized "java/lang/System", Cond.fieldLink RX3 19 "ParityRules$Row" "sums" "[I", Cond.methodLink RX5 111 yX3_carryRule, Cond.instanceMethod yX3_carryRule, Cond.selects RX3 yX3_carryRule yX3_carryRule]
def wsX5_ifMoved_r2 : List Cond := [Cond.code yX3_carryRule cX3_carryRule 3 none, Cond.static yX5_carry, Cond.initialized RX5, Cond.code yX5_carry cX5_carry 5 none, Cond.methodLink RX5 65 yX4_judge, Cond.instanceMethod yX4_judge, Cond.selects RX4 yX4_judge yX4_judge, Cond.initialized RX4, Cond.code yX4_judge cX4_judge 3 none, Cond.fieldLink RX4 33 "ParityRules$Row" "choices" "I", Cond.fieldLink RX4 39 "ParityRules$Verdict" "choices" "I", Cond.fieldLink RX4 40 "ParityRules$Verdict" "many" "I", Cond.fieldLink RX4 18 "ParityRules$Verdict" "tally" "[I", Cond.fieldLink RX4 21 "ParityRules$Verdict" "stepSets" "[I", Cond.fieldLink RX4 43 "ParityRules$Row" "many" "I", Cond.fieldLink RX4 44 "ParityRules$Row" "sets" "[I", Cond.fieldLink RX4 47 "ParityRules$Row" "sums" "[I", Cond.methodLink RX4 50 yX4_judgeNext, Cond.instanceMethod yX4_judgeNext, Cond.selects RX4 yX4_judgeNext yX4_judgeNext, Cond.code yX4_judgeNext cX4_judgeNext 5 none, Cond.fieldLink RX4 58 "ParityRules$Verdict" "restSet" "I", Cond.fieldLink RX4 24 "ParityRules$Verdict" "stepSums" "[I", Cond.fieldLink RX4 65 "ParityRules$Verdict" "restSum" "I"]
def wsX5_ifMoved_r3 : List Cond := [Cond.fieldLink RX4 27 "ParityRules$Verdict" "stepReasons" "[I", Cond.fieldLink RX4 68 "ParityRules$Verdict" "restReason" "I", Cond.fieldLink RX4 9 "ParityRules$Verdict" "states" "[I", Cond.fieldLink RX4 15 "ParityRules$Verdict" "reasons" "[I", Cond.methodLink RX4 54 yX4_stateOf, Cond.instanceMethod yX4_stateOf, Cond.selects RX4 yX4_stateOf yX4_stateOf, Cond.code yX4_stateOf cX4_stateOf 3 (some .int), Cond.methodLink RX4 71 yX4_combine, Cond.instanceMethod yX4_combine, Cond.selects RX4 yX4_combine yX4_combine, Cond.code yX4_combine cX4_combine 4 none, Cond.static yX5_lowestBit, Cond.code yX5_lowestBit cX5_lowestBit 1 (some .int), Cond.methodLink RX5 163 yJ6_bitCount_0f7a4, Cond.static yJ6_bitCount_0f7a4, Cond.initialized RJ6, Cond.code yJ6_bitCount_0f7a4 cJ6_bitCount_0f7a4 1 (some .int), Cond.constant RJ6 265 (1431655765), Cond.constant RJ6 266 (858993459), Cond.constant RJ6 267 (252645135)]
def wsX5_ifMoved : List Cond := .code yX5_ifMoved cX5_ifMoved 3 (some .int) :: ((wsX5_ifMoved_r1 ++ (wsX5_ifMoved_r2 ++ wsX5_ifMoved_r3)) ++ wsX50 ++ wsX40 ++ wsX30)
def wsX5_charactersIn : List Cond := .code yX5_charactersIn cX5_charactersIn 7 (some .int) :: ([.constantLong RX5 191 (255), .constantLong RX5 199 (33), .constantLong RX5 201 (126)])
def wsX5_put : List Cond := .code yX5_put cX5_put 5 (some .int) :: ([.fieldLink RX5 43 "ParityRules" "pad" "LParityRules$Pad;", .fieldLink RX5 124 "ParityRules$Pad" "length" "I", .constantLong RX5 191 (255), .methodLink RX5 187 yX5_charactersIn, .static yX5_charactersIn, .initialized RX5, .code yX5_charactersIn cX5_charactersIn 7 (some .int), .constantLong RX5 199 (33), .constantLong RX5 201 (126), .methodLink RX5 193 yX2_append, .instanceMethod yX2_append, .selects RX2 yX2_append yX2_append, .initialized RX2, .code yX2_append cX2_append 2 none, .fieldLink RX2 15 "ParityRules$Pad" "length" "I", .fieldLink RX2 9 "ParityRules$Pad" "characters" "[C"] ++ wsX50 ++ wsX20)
def wsX5_wipe : List Cond := .code yX5_wipe cX5_wipe 2 (some .int) :: ([.fieldLink RX5 43 "ParityRules" "pad" "LParityRules$Pad;", .fieldLink RX5 124 "ParityRules$Pad" "length" "I"] ++ wsX50 ++ wsX20)
def wsX5_fault_r1 : List Cond := [Cond.fieldLink RX5 43 "ParityRules" "pad" "LParityRules$Pad;", Cond.fieldLink RX5 47 "ParityRules" "padRules" "LParityRules$Row;", Cond.methodLink RX5 117 yX2_readInto, Cond.instanceMethod yX2_readInto, Cond.selects RX2 yX2_readInto yX2_readInto, Cond.initialized RX2, Cond.code yX2_readInto cX2_readInto 3 (some .int), Cond.fieldLink RX2 19 "ParityRules$Row" "many" "I", Cond.fieldLink RX2 15 "ParityRules$Pad" "length" "I", Cond.fieldLink RX2 9 "ParityRules$Pad" "characters" "[C", Cond.fieldLink RX2 31 "ParityRules$Pad" "stage" "I", Cond.methodLink RX2 24 yX2_startRule, Cond.instanceMethod yX2_startRule, Cond.selects RX2 yX2_startRule yX2_startRule, Cond.code yX2_startRule cX2_startRule 1 none, Cond.fieldLink RX2 34 "ParityRules$Pad" "choiceAhead" "I", Cond.fieldLink RX2 37 "ParityRules$Pad" "set" "I", Cond.methodLink RX2 27 yX2_canStand, Cond.instanceMethod yX2_canStand, Cond.selects RX2 yX2_canStand yX2_canStand, Cond.code yX2_canStand cX2_canStand 3 (some .boolean), Cond.methodLink RX2 40 yX2_canStartChoice, Cond.instanceMethod yX2_canStartChoice, Cond.selects RX2 yX2_canStartChoice yX2_canStartChoice]
def wsX5_fault_r2 : List Cond := [Cond.code yX2_canStartChoice cX2_canStartChoice 4 (some .boolean), Cond.fieldLink RX2 50 "ParityRules$Pad" "choiceHere" "I", Cond.methodLink RX2 44 yX2_canStandInChoice, Cond.instanceMethod yX2_canStandInChoice, Cond.selects RX2 yX2_canStandInChoice yX2_canStandInChoice, Cond.code yX2_canStandInChoice cX2_canStandInChoice 3 (some .boolean), Cond.methodLink RX2 47 yX2_canBeSum, Cond.instanceMethod yX2_canBeSum, Cond.selects RX2 yX2_canBeSum yX2_canBeSum, Cond.code yX2_canBeSum cX2_canBeSum 3 (some .boolean), Cond.methodLink RX2 53 yX3_append, Cond.instanceMethod yX3_append, Cond.selects RX3 yX3_append yX3_append, Cond.initialized RX3, Cond.code yX3_append cX3_append 3 none, Cond.fieldLink RX3 22 "ParityRules$Row" "many" "I", Cond.fieldLink RX3 15 "ParityRules$Row" "sets" "[I", Cond.fieldLink RX3 19 "ParityRules$Row" "sums" "[I"]
def wsX5_fault : List Cond := .code yX5_fault cX5_fault 1 (some .int) :: ((wsX5_fault_r1 ++ wsX5_fault_r2) ++ wsX50 ++ wsX30 ++ wsX20)
def wsX5_undo_r1 : List Cond := [Cond.fieldLink RX5 53 "ParityRules" "history" "LParityRules$History;", Cond.fieldLink RX5 153 "ParityRules$History" "many" "I", Cond.fieldLink RX5 10 "ParityRules" "now" "LParityRules$Row;", Cond.fieldLink RX5 19 "ParityRules" "verdict" "LParityRules$Verdict;", Cond.methodLink RX5 196 yX1_giveBack, Cond.instanceMethod yX1_giveBack, Cond.selects RX1 yX1_giveBack yX1_giveBack, Cond.initialized RX1, Cond.code yX1_giveBack cX1_giveBack 2 none, Cond.fieldLink RX1 18 "ParityRules$History" "many" "I", Cond.fieldLink RX1 11 "ParityRules$History" "states" "[LParityRules$Row;", Cond.methodLink RX1 25 yX3_become, Cond.instanceMethod yX3_become, Cond.selects RX3 yX3_become yX3_become, Cond.initialized RX3, Cond.code yX3_become cX3_become 2 none, Cond.fieldLink RX3 9 "ParityRules$Row" "choices" "I", Cond.fieldLink RX3 22 "ParityRules$Row" "many" "I", Cond.fieldLink RX3 15 "ParityRules$Row" "sets" "[I", Cond.methodLink RX3 25 arraycopyName, Cond.native arraycopyName, Cond.static arraycopyName, Cond.initialized "java/lang/System", Cond.fieldLink RX3 19 "ParityRules$Row" "sums" "[I"]
def wsX5_undo_r2 : List Cond := [Cond.methodLink RX5 65 yX4_judge, Cond.instanceMethod yX4_judge, Cond.selects RX4 yX4_judge yX4_judge, Cond.initialized RX4, Cond.code yX4_judge cX4_judge 3 none, Cond.fieldLink RX4 33 "ParityRules$Row" "choices" "I", Cond.fieldLink RX4 39 "ParityRules$Verdict" "choices" "I", Cond.fieldLink RX4 40 "ParityRules$Verdict" "many" "I", Cond.fieldLink RX4 18 "ParityRules$Verdict" "tally" "[I", Cond.fieldLink RX4 21 "ParityRules$Verdict" "stepSets" "[I", Cond.fieldLink RX4 43 "ParityRules$Row" "many" "I", Cond.fieldLink RX4 44 "ParityRules$Row" "sets" "[I", Cond.fieldLink RX4 47 "ParityRules$Row" "sums" "[I", Cond.methodLink RX4 50 yX4_judgeNext, Cond.instanceMethod yX4_judgeNext, Cond.selects RX4 yX4_judgeNext yX4_judgeNext, Cond.code yX4_judgeNext cX4_judgeNext 5 none, Cond.fieldLink RX4 58 "ParityRules$Verdict" "restSet" "I", Cond.fieldLink RX4 24 "ParityRules$Verdict" "stepSums" "[I", Cond.fieldLink RX4 65 "ParityRules$Verdict" "restSum" "I", Cond.fieldLink RX4 27 "ParityRules$Verdict" "stepReasons" "[I", Cond.fieldLink RX4 68 "ParityRules$Verdict" "restReason" "I", Cond.fieldLink RX4 9 "ParityRules$Verdict" "states" "[I", Cond.fieldLink RX4 15 "ParityRules$Verdict" "reasons" "[I"]
def wsX5_undo_r3 : List Cond := [Cond.methodLink RX4 54 yX4_stateOf, Cond.instanceMethod yX4_stateOf, Cond.selects RX4 yX4_stateOf yX4_stateOf, Cond.code yX4_stateOf cX4_stateOf 3 (some .int), Cond.methodLink RX4 71 yX4_combine, Cond.instanceMethod yX4_combine, Cond.selects RX4 yX4_combine yX4_combine, Cond.code yX4_combine cX4_combine 4 none, Cond.static yX5_lowestBit, Cond.initialized RX5, Cond.code yX5_lowestBit cX5_lowestBit 1 (some .int), Cond.methodLink RX5 163 yJ6_bitCount_0f7a4, Cond.static yJ6_bitCount_0f7a4, Cond.initialized RJ6, Cond.code yJ6_bitCount_0f7a4 cJ6_bitCount_0f7a4 1 (some .int), Cond.constant RJ6 265 (1431655765), Cond.constant RJ6 266 (858993459), Cond.constant RJ6 267 (252645135)]
def wsX5_undo : List Cond := .code yX5_undo cX5_undo 1 (some .int) :: ((wsX5_undo_r1 ++ (wsX5_undo_r2 ++ wsX5_undo_r3)) ++ wsX50 ++ wsX10 ++ wsX30 ++ wsX40)
def wsX5_save : List Cond := .code yX5_save cX5_save 2 (some .int) :: ([.fieldLink RX5 57 "ParityRules" "slots" "[LParityRules$Row;", .fieldLink RX5 10 "ParityRules" "now" "LParityRules$Row;", .fieldLink RX5 61 "ParityRules" "saved" "[Z", .fieldLink RX5 84 "ParityRules$Row" "many" "I", .methodLink RX5 184 yX3_become, .instanceMethod yX3_become, .selects RX3 yX3_become yX3_become, .initialized RX3, .code yX3_become cX3_become 2 none, .fieldLink RX3 9 "ParityRules$Row" "choices" "I", .fieldLink RX3 22 "ParityRules$Row" "many" "I", .fieldLink RX3 15 "ParityRules$Row" "sets" "[I", .methodLink RX3 25 arraycopyName, .native arraycopyName, .static arraycopyName, .initialized "java/lang/System", .fieldLink RX3 19 "ParityRules$Row" "sums" "[I"] ++ wsX50 ++ wsX30)
def wsX5_restore_r1 : List Cond := [Cond.fieldLink RX5 61 "ParityRules" "saved" "[Z", Cond.fieldLink RX5 53 "ParityRules" "history" "LParityRules$History;", Cond.fieldLink RX5 10 "ParityRules" "now" "LParityRules$Row;", Cond.fieldLink RX5 57 "ParityRules" "slots" "[LParityRules$Row;", Cond.fieldLink RX5 19 "ParityRules" "verdict" "LParityRules$Verdict;", Cond.fieldLink RX5 84 "ParityRules$Row" "many" "I", Cond.methodLink RX5 77 yX1_remember, Cond.instanceMethod yX1_remember, Cond.selects RX1 yX1_remember yX1_remember, Cond.initialized RX1, Cond.code yX1_remember cX1_remember 2 none, Cond.fieldLink RX1 18 "ParityRules$History" "many" "I", Cond.fieldLink RX1 11 "ParityRules$History" "states" "[LParityRules$Row;", Cond.methodLink RX1 22 yX1_dropOldest, Cond.instanceMethod yX1_dropOldest, Cond.selects RX1 yX1_dropOldest yX1_dropOldest, Cond.code yX1_dropOldest cX1_dropOldest 3 none, Cond.methodLink RX1 25 yX3_become, Cond.instanceMethod yX3_become, Cond.selects RX3 yX3_become yX3_become, Cond.initialized RX3, Cond.code yX3_become cX3_become 2 none, Cond.fieldLink RX3 9 "ParityRules$Row" "choices" "I", Cond.fieldLink RX3 22 "ParityRules$Row" "many" "I"]
def wsX5_restore_r2 : List Cond := [Cond.fieldLink RX3 15 "ParityRules$Row" "sets" "[I", Cond.methodLink RX3 25 arraycopyName, Cond.native arraycopyName, Cond.static arraycopyName, Cond.initialized "java/lang/System", Cond.fieldLink RX3 19 "ParityRules$Row" "sums" "[I", Cond.methodLink RX5 184 yX3_become, Cond.methodLink RX5 65 yX4_judge, Cond.instanceMethod yX4_judge, Cond.selects RX4 yX4_judge yX4_judge, Cond.initialized RX4, Cond.code yX4_judge cX4_judge 3 none, Cond.fieldLink RX4 33 "ParityRules$Row" "choices" "I", Cond.fieldLink RX4 39 "ParityRules$Verdict" "choices" "I", Cond.fieldLink RX4 40 "ParityRules$Verdict" "many" "I", Cond.fieldLink RX4 18 "ParityRules$Verdict" "tally" "[I", Cond.fieldLink RX4 21 "ParityRules$Verdict" "stepSets" "[I", Cond.fieldLink RX4 43 "ParityRules$Row" "many" "I", Cond.fieldLink RX4 44 "ParityRules$Row" "sets" "[I", Cond.fieldLink RX4 47 "ParityRules$Row" "sums" "[I", Cond.methodLink RX4 50 yX4_judgeNext, Cond.instanceMethod yX4_judgeNext, Cond.selects RX4 yX4_judgeNext yX4_judgeNext, Cond.code yX4_judgeNext cX4_judgeNext 5 none]
def wsX5_restore_r3 : List Cond := [Cond.fieldLink RX4 58 "ParityRules$Verdict" "restSet" "I", Cond.fieldLink RX4 24 "ParityRules$Verdict" "stepSums" "[I", Cond.fieldLink RX4 65 "ParityRules$Verdict" "restSum" "I", Cond.fieldLink RX4 27 "ParityRules$Verdict" "stepReasons" "[I", Cond.fieldLink RX4 68 "ParityRules$Verdict" "restReason" "I", Cond.fieldLink RX4 9 "ParityRules$Verdict" "states" "[I", Cond.fieldLink RX4 15 "ParityRules$Verdict" "reasons" "[I", Cond.methodLink RX4 54 yX4_stateOf, Cond.instanceMethod yX4_stateOf, Cond.selects RX4 yX4_stateOf yX4_stateOf, Cond.code yX4_stateOf cX4_stateOf 3 (some .int), Cond.methodLink RX4 71 yX4_combine, Cond.instanceMethod yX4_combine, Cond.selects RX4 yX4_combine yX4_combine, Cond.code yX4_combine cX4_combine 4 none, Cond.static yX5_lowestBit, Cond.initialized RX5, Cond.code yX5_lowestBit cX5_lowestBit 1 (some .int), Cond.methodLink RX5 163 yJ6_bitCount_0f7a4, Cond.static yJ6_bitCount_0f7a4, Cond.initialized RJ6, Cond.code yJ6_bitCount_0f7a4 cJ6_bitCount_0f7a4 1 (some .int), Cond.constant RJ6 265 (1431655765), Cond.constant RJ6 266 (858993459)]
def wsX5_restore_r4 : List Cond := [Cond.constant RJ6 267 (252645135)]
def wsX5_restore : List Cond := .code yX5_restore cX5_restore 2 (some .int) :: ((wsX5_restore_r1 ++ (wsX5_restore_r2 ++ (wsX5_restore_r3 ++ wsX5_restore_r4))) ++ wsX50 ++ wsX30 ++ wsX10 ++ wsX40)
def wsX6_init : List Cond := .code yX6_init cX6_init 1 none :: ([.methodLink RX6 1 objectInit, .instanceMethod objectInit, .code objectInit ⟨#[0xb1]⟩ 1 none, .arrayClass .int, .fieldLink RX6 7 "ParityRulesModel" "all" "[I", .fieldLink RX6 13 "ParityRulesModel" "kept" "[I", .fieldLink RX6 16 "ParityRulesModel" "history" "[I", .fieldLink RX6 19 "ParityRulesModel" "slots" "[I", .fieldLink RX6 22 "ParityRulesModel" "isSaved" "[I", .fieldLink RX6 25 "ParityRulesModel" "leading" "[I", .fieldLink RX6 28 "ParityRulesModel" "which" "[I", .fieldLink RX6 31 "ParityRulesModel" "state" "[I", .fieldLink RX6 34 "ParityRulesModel" "reason" "[I", .fieldLink RX6 37 "ParityRulesModel" "had" "[I", .fieldLink RX6 40 "ParityRulesModel" "pad" "[I", .fieldLink RX6 43 "ParityRulesModel" "readSet" "[I", .fieldLink RX6 46 "ParityRulesModel" "readSum" "[I"] ++ wsX60)
def wsX6_in : List Cond := .code yX6_in cX6_in 6 (some .boolean) :: ([])
def wsX6_keep : List Cond := .code yX6_keep cX6_keep 2 none :: ([.fieldLink RX6 13 "ParityRulesModel" "kept" "[I", .fieldLink RX6 7 "ParityRulesModel" "all" "[I"] ++ wsX60)
def wsX6_giveBack : List Cond := .code yX6_giveBack cX6_giveBack 2 none :: ([.fieldLink RX6 7 "ParityRulesModel" "all" "[I", .fieldLink RX6 13 "ParityRulesModel" "kept" "[I"] ++ wsX60)
def wsX6_changed : List Cond := .code yX6_changed cX6_changed 3 (some .int) :: ([.fieldLink RX6 49 "ParityRulesModel" "historyLong" "I", .fieldLink RX6 16 "ParityRulesModel" "history" "[I", .fieldLink RX6 13 "ParityRulesModel" "kept" "[I"] ++ wsX60)
def wsX6_bits : List Cond := .code yX6_bits cX6_bits 3 (some .int) :: ([])
def wsX6_odd : List Cond := .code yX6_odd cX6_odd 1 (some .int) :: ([.methodLink RX6 53 yX6_bits, .static yX6_bits, .initialized RX6, .code yX6_bits cX6_bits 3 (some .int)])
def wsX6_masks : List Cond := .code yX6_masks cX6_masks 1 (some .int) :: ([.fieldLink RX6 7 "ParityRulesModel" "all" "[I"] ++ wsX60)
def wsX6_isSet : List Cond := .code yX6_isSet cX6_isSet 2 (some .boolean) :: ([.methodLink RX6 57 yX6_masks, .instanceMethod yX6_masks, .selects RX6 yX6_masks yX6_masks, .initialized RX6, .code yX6_masks cX6_masks 1 (some .int), .fieldLink RX6 7 "ParityRulesModel" "all" "[I", .methodLink RX6 61 yX6_in, .static yX6_in, .code yX6_in cX6_in 6 (some .boolean)] ++ wsX60)
def wsX6_isRule : List Cond := .code yX6_isRule cX6_isRule 2 (some .boolean) :: ([.fieldLink RX6 7 "ParityRulesModel" "all" "[I", .methodLink RX6 61 yX6_in, .static yX6_in, .initialized RX6, .code yX6_in cX6_in 6 (some .boolean)] ++ wsX60)
def wsX6_fits : List Cond := .code yX6_fits cX6_fits 3 (some .boolean) :: ([.fieldLink RX6 7 "ParityRulesModel" "all" "[I", .methodLink RX6 65 yX6_odd, .static yX6_odd, .initialized RX6, .code yX6_odd cX6_odd 1 (some .int), .methodLink RX6 53 yX6_bits, .static yX6_bits, .code yX6_bits cX6_bits 3 (some .int)] ++ wsX60)
def wsX6_reduces : List Cond := .code yX6_reduces cX6_reduces 3 none :: ([.fieldLink RX6 68 "ParityRulesModel" "left" "I", .fieldLink RX6 71 "ParityRulesModel" "made" "I", .fieldLink RX6 25 "ParityRulesModel" "leading" "[I", .fieldLink RX6 28 "ParityRulesModel" "which" "[I"] ++ wsX60)
def wsX6_sumOf : List Cond := .code yX6_sumOf cX6_sumOf 4 (some .int) :: ([.fieldLink RX6 7 "ParityRulesModel" "all" "[I"] ++ wsX60)
def wsX6_stateOf : List Cond := .code yX6_stateOf cX6_stateOf 3 (some .int) :: ([.fieldLink RX6 68 "ParityRulesModel" "left" "I", .fieldLink RX6 71 "ParityRulesModel" "made" "I", .methodLink RX6 74 yX6_reduces, .instanceMethod yX6_reduces, .selects RX6 yX6_reduces yX6_reduces, .initialized RX6, .code yX6_reduces cX6_reduces 3 none, .fieldLink RX6 25 "ParityRulesModel" "leading" "[I", .fieldLink RX6 28 "ParityRulesModel" "which" "[I", .methodLink RX6 78 yX6_sumOf, .instanceMethod yX6_sumOf, .selects RX6 yX6_sumOf yX6_sumOf, .code yX6_sumOf cX6_sumOf 4 (some .int), .fieldLink RX6 7 "ParityRulesModel" "all" "[I"] ++ wsX60)
def wsX6_judges : List Cond := .code yX6_judges cX6_judges 3 none :: ([.fieldLink RX6 25 "ParityRulesModel" "leading" "[I", .fieldLink RX6 28 "ParityRulesModel" "which" "[I", .fieldLink RX6 7 "ParityRulesModel" "all" "[I", .fieldLink RX6 31 "ParityRulesModel" "state" "[I", .fieldLink RX6 34 "ParityRulesModel" "reason" "[I", .fieldLink RX6 71 "ParityRulesModel" "made" "I", .fieldLink RX6 68 "ParityRulesModel" "left" "I", .methodLink RX6 81 yX6_stateOf, .instanceMethod yX6_stateOf, .selects RX6 yX6_stateOf yX6_stateOf, .initialized RX6, .code yX6_stateOf cX6_stateOf 3 (some .int), .methodLink RX6 74 yX6_reduces, .instanceMethod yX6_reduces, .selects RX6 yX6_reduces yX6_reduces, .code yX6_reduces cX6_reduces 3 none, .methodLink RX6 78 yX6_sumOf, .instanceMethod yX6_sumOf, .selects RX6 yX6_sumOf yX6_sumOf, .code yX6_sumOf cX6_sumOf 4 (some .int)] ++ wsX60)
def wsX6_rulesIn : List Cond := .code yX6_rulesIn cX6_rulesIn 4 (some .int) :: ([.fieldLink RX6 7 "ParityRulesModel" "all" "[I", .fieldLink RX6 31 "ParityRulesModel" "state" "[I", .methodLink RX6 85 yX6_judges, .instanceMethod yX6_judges, .selects RX6 yX6_judges yX6_judges, .initialized RX6, .code yX6_judges cX6_judges 3 none, .fieldLink RX6 25 "ParityRulesModel" "leading" "[I", .fieldLink RX6 28 "ParityRulesModel" "which" "[I", .fieldLink RX6 34 "ParityRulesModel" "reason" "[I", .fieldLink RX6 71 "ParityRulesModel" "made" "I", .fieldLink RX6 68 "ParityRulesModel" "left" "I", .methodLink RX6 81 yX6_stateOf, .instanceMethod yX6_stateOf, .selects RX6 yX6_stateOf yX6_stateOf, .code yX6_stateOf cX6_stateOf 3 (some .int), .methodLink RX6 74 yX6_reduces, .instanceMethod yX6_reduces, .selects RX6 yX6_reduces yX6_reduces, .code yX6_reduces cX6_reduces 3 none, .methodLink RX6 78 yX6_sumOf, .instanceMethod yX6_sumOf, .selects RX6 yX6_sumOf yX6_sumOf, .code yX6_sumOf cX6_sumOf 4 (some .int)] ++ wsX60)
def wsX6_answers_r1 : List Cond := [Cond.fieldLink RX6 7 "ParityRulesModel" "all" "[I", Cond.methodLink RX6 88 yX6_rulesIn, Cond.instanceMethod yX6_rulesIn, Cond.selects RX6 yX6_rulesIn yX6_rulesIn, Cond.initialized RX6, Cond.code yX6_rulesIn cX6_rulesIn 4 (some .int), Cond.fieldLink RX6 31 "ParityRulesModel" "state" "[I", Cond.methodLink RX6 85 yX6_judges, Cond.instanceMethod yX6_judges, Cond.selects RX6 yX6_judges yX6_judges, Cond.code yX6_judges cX6_judges 3 none, Cond.fieldLink RX6 25 "ParityRulesModel" "leading" "[I", Cond.fieldLink RX6 28 "ParityRulesModel" "which" "[I", Cond.fieldLink RX6 34 "ParityRulesModel" "reason" "[I", Cond.fieldLink RX6 71 "ParityRulesModel" "made" "I", Cond.fieldLink RX6 68 "ParityRulesModel" "left" "I", Cond.methodLink RX6 81 yX6_stateOf, Cond.instanceMethod yX6_stateOf, Cond.selects RX6 yX6_stateOf yX6_stateOf, Cond.code yX6_stateOf cX6_stateOf 3 (some .int), Cond.methodLink RX6 74 yX6_reduces, Cond.instanceMethod yX6_reduces, Cond.selects RX6 yX6_reduces yX6_reduces, Cond.code yX6_reduces cX6_reduces 3 none]
def wsX6_answers_r2 : List Cond := [Cond.methodLink RX6 78 yX6_sumOf, Cond.instanceMethod yX6_sumOf, Cond.selects RX6 yX6_sumOf yX6_sumOf, Cond.code yX6_sumOf cX6_sumOf 4 (some .int)]
def wsX6_answers : List Cond := .code yX6_answers cX6_answers 1 (some .int) :: ((wsX6_answers_r1 ++ wsX6_answers_r2) ++ wsX60)
def wsX6_isAnswer : List Cond := .code yX6_isAnswer cX6_isAnswer 4 (some .boolean) :: ([.fieldLink RX6 7 "ParityRulesModel" "all" "[I", .fieldLink RX6 31 "ParityRulesModel" "state" "[I", .methodLink RX6 91 yX6_fits, .instanceMethod yX6_fits, .selects RX6 yX6_fits yX6_fits, .initialized RX6, .code yX6_fits cX6_fits 3 (some .boolean), .methodLink RX6 65 yX6_odd, .static yX6_odd, .code yX6_odd cX6_odd 1 (some .int), .methodLink RX6 53 yX6_bits, .static yX6_bits, .code yX6_bits cX6_bits 3 (some .int)] ++ wsX60)
def wsX6_knownOf : List Cond := .code yX6_knownOf cX6_knownOf 2 (some .int) :: ([.fieldLink RX6 68 "ParityRulesModel" "left" "I", .fieldLink RX6 71 "ParityRulesModel" "made" "I", .methodLink RX6 74 yX6_reduces, .instanceMethod yX6_reduces, .selects RX6 yX6_reduces yX6_reduces, .initialized RX6, .code yX6_reduces cX6_reduces 3 none, .fieldLink RX6 25 "ParityRulesModel" "leading" "[I", .fieldLink RX6 28 "ParityRulesModel" "which" "[I", .methodLink RX6 78 yX6_sumOf, .instanceMethod yX6_sumOf, .selects RX6 yX6_sumOf yX6_sumOf, .code yX6_sumOf cX6_sumOf 4 (some .int), .fieldLink RX6 7 "ParityRulesModel" "all" "[I"] ++ wsX60)
def wsX6_choices : List Cond := .code yX6_choices cX6_choices 3 (some .int) :: ([.constantLong RX6 95 (12), .fieldLink RX6 7 "ParityRulesModel" "all" "[I", .methodLink RX6 61 yX6_in, .static yX6_in, .initialized RX6, .code yX6_in cX6_in 6 (some .boolean), .methodLink RX6 97 yX6_keep, .instanceMethod yX6_keep, .selects RX6 yX6_keep yX6_keep, .code yX6_keep cX6_keep 2 none, .fieldLink RX6 13 "ParityRulesModel" "kept" "[I", .methodLink RX6 100 yX6_changed, .instanceMethod yX6_changed, .selects RX6 yX6_changed yX6_changed, .code yX6_changed cX6_changed 3 (some .int), .fieldLink RX6 49 "ParityRulesModel" "historyLong" "I", .fieldLink RX6 16 "ParityRulesModel" "history" "[I"] ++ wsX60)
def wsX6_adds : List Cond := .code yX6_adds cX6_adds 3 none :: ([.fieldLink RX6 7 "ParityRulesModel" "all" "[I"] ++ wsX60)
def wsX6_tell_r1 : List Cond := [Cond.fieldLink RX6 7 "ParityRulesModel" "all" "[I", Cond.fieldLink RX6 31 "ParityRulesModel" "state" "[I", Cond.methodLink RX6 103 yX6_isSet, Cond.instanceMethod yX6_isSet, Cond.selects RX6 yX6_isSet yX6_isSet, Cond.initialized RX6, Cond.code yX6_isSet cX6_isSet 2 (some .boolean), Cond.methodLink RX6 57 yX6_masks, Cond.instanceMethod yX6_masks, Cond.selects RX6 yX6_masks yX6_masks, Cond.code yX6_masks cX6_masks 1 (some .int), Cond.methodLink RX6 61 yX6_in, Cond.static yX6_in, Cond.code yX6_in cX6_in 6 (some .boolean), Cond.methodLink RX6 97 yX6_keep, Cond.instanceMethod yX6_keep, Cond.selects RX6 yX6_keep yX6_keep, Cond.code yX6_keep cX6_keep 2 none, Cond.fieldLink RX6 13 "ParityRulesModel" "kept" "[I", Cond.methodLink RX6 107 yX6_adds, Cond.instanceMethod yX6_adds, Cond.selects RX6 yX6_adds yX6_adds, Cond.code yX6_adds cX6_adds 3 none, Cond.methodLink RX6 85 yX6_judges]
def wsX6_tell_r2 : List Cond := [Cond.instanceMethod yX6_judges, Cond.selects RX6 yX6_judges yX6_judges, Cond.code yX6_judges cX6_judges 3 none, Cond.fieldLink RX6 25 "ParityRulesModel" "leading" "[I", Cond.fieldLink RX6 28 "ParityRulesModel" "which" "[I", Cond.fieldLink RX6 34 "ParityRulesModel" "reason" "[I", Cond.fieldLink RX6 71 "ParityRulesModel" "made" "I", Cond.fieldLink RX6 68 "ParityRulesModel" "left" "I", Cond.methodLink RX6 81 yX6_stateOf, Cond.instanceMethod yX6_stateOf, Cond.selects RX6 yX6_stateOf yX6_stateOf, Cond.code yX6_stateOf cX6_stateOf 3 (some .int), Cond.methodLink RX6 74 yX6_reduces, Cond.instanceMethod yX6_reduces, Cond.selects RX6 yX6_reduces yX6_reduces, Cond.code yX6_reduces cX6_reduces 3 none, Cond.methodLink RX6 78 yX6_sumOf, Cond.instanceMethod yX6_sumOf, Cond.selects RX6 yX6_sumOf yX6_sumOf, Cond.code yX6_sumOf cX6_sumOf 4 (some .int), Cond.methodLink RX6 100 yX6_changed, Cond.instanceMethod yX6_changed, Cond.selects RX6 yX6_changed yX6_changed, Cond.code yX6_changed cX6_changed 3 (some .int)]
def wsX6_tell_r3 : List Cond := [Cond.fieldLink RX6 49 "ParityRulesModel" "historyLong" "I", Cond.fieldLink RX6 16 "ParityRulesModel" "history" "[I"]
def wsX6_tell : List Cond := .code yX6_tell cX6_tell 3 (some .int) :: ((wsX6_tell_r1 ++ (wsX6_tell_r2 ++ wsX6_tell_r3)) ++ wsX60)
def wsX6_takesOut : List Cond := .code yX6_takesOut cX6_takesOut 3 none :: ([.fieldLink RX6 7 "ParityRulesModel" "all" "[I"] ++ wsX60)
def wsX6_putsIn : List Cond := .code yX6_putsIn cX6_putsIn 5 none :: ([.fieldLink RX6 7 "ParityRulesModel" "all" "[I"] ++ wsX60)
def wsX6_moves : List Cond := .code yX6_moves cX6_moves 5 none :: ([.fieldLink RX6 7 "ParityRulesModel" "all" "[I", .methodLink RX6 111 yX6_takesOut, .instanceMethod yX6_takesOut, .selects RX6 yX6_takesOut yX6_takesOut, .initialized RX6, .code yX6_takesOut cX6_takesOut 3 none, .methodLink RX6 114 yX6_putsIn, .instanceMethod yX6_putsIn, .selects RX6 yX6_putsIn yX6_putsIn, .code yX6_putsIn cX6_putsIn 5 none] ++ wsX60)
def wsX6_drop : List Cond := .code yX6_drop cX6_drop 2 (some .int) :: ([.fieldLink RX6 7 "ParityRulesModel" "all" "[I", .methodLink RX6 118 yX6_isRule, .instanceMethod yX6_isRule, .selects RX6 yX6_isRule yX6_isRule, .initialized RX6, .code yX6_isRule cX6_isRule 2 (some .boolean), .methodLink RX6 61 yX6_in, .static yX6_in, .code yX6_in cX6_in 6 (some .boolean), .methodLink RX6 97 yX6_keep, .instanceMethod yX6_keep, .selects RX6 yX6_keep yX6_keep, .code yX6_keep cX6_keep 2 none, .fieldLink RX6 13 "ParityRulesModel" "kept" "[I", .methodLink RX6 111 yX6_takesOut, .instanceMethod yX6_takesOut, .selects RX6 yX6_takesOut yX6_takesOut, .code yX6_takesOut cX6_takesOut 3 none, .methodLink RX6 100 yX6_changed, .instanceMethod yX6_changed, .selects RX6 yX6_changed yX6_changed, .code yX6_changed cX6_changed 3 (some .int), .fieldLink RX6 49 "ParityRulesModel" "historyLong" "I", .fieldLink RX6 16 "ParityRulesModel" "history" "[I"] ++ wsX60)
def wsX6_move_r1 : List Cond := [Cond.fieldLink RX6 7 "ParityRulesModel" "all" "[I", Cond.fieldLink RX6 37 "ParityRulesModel" "had" "[I", Cond.fieldLink RX6 31 "ParityRulesModel" "state" "[I", Cond.methodLink RX6 118 yX6_isRule, Cond.instanceMethod yX6_isRule, Cond.selects RX6 yX6_isRule yX6_isRule, Cond.initialized RX6, Cond.code yX6_isRule cX6_isRule 2 (some .boolean), Cond.methodLink RX6 61 yX6_in, Cond.static yX6_in, Cond.code yX6_in cX6_in 6 (some .boolean), Cond.methodLink RX6 97 yX6_keep, Cond.instanceMethod yX6_keep, Cond.selects RX6 yX6_keep yX6_keep, Cond.code yX6_keep cX6_keep 2 none, Cond.fieldLink RX6 13 "ParityRulesModel" "kept" "[I", Cond.methodLink RX6 85 yX6_judges, Cond.instanceMethod yX6_judges, Cond.selects RX6 yX6_judges yX6_judges, Cond.code yX6_judges cX6_judges 3 none, Cond.fieldLink RX6 25 "ParityRulesModel" "leading" "[I", Cond.fieldLink RX6 28 "ParityRulesModel" "which" "[I", Cond.fieldLink RX6 34 "ParityRulesModel" "reason" "[I", Cond.fieldLink RX6 71 "ParityRulesModel" "made" "I"]
def wsX6_move_r2 : List Cond := [Cond.fieldLink RX6 68 "ParityRulesModel" "left" "I", Cond.methodLink RX6 81 yX6_stateOf, Cond.instanceMethod yX6_stateOf, Cond.selects RX6 yX6_stateOf yX6_stateOf, Cond.code yX6_stateOf cX6_stateOf 3 (some .int), Cond.methodLink RX6 74 yX6_reduces, Cond.instanceMethod yX6_reduces, Cond.selects RX6 yX6_reduces yX6_reduces, Cond.code yX6_reduces cX6_reduces 3 none, Cond.methodLink RX6 78 yX6_sumOf, Cond.instanceMethod yX6_sumOf, Cond.selects RX6 yX6_sumOf yX6_sumOf, Cond.code yX6_sumOf cX6_sumOf 4 (some .int), Cond.methodLink RX6 121 yX6_moves, Cond.instanceMethod yX6_moves, Cond.selects RX6 yX6_moves yX6_moves, Cond.code yX6_moves cX6_moves 5 none, Cond.methodLink RX6 111 yX6_takesOut, Cond.instanceMethod yX6_takesOut, Cond.selects RX6 yX6_takesOut yX6_takesOut, Cond.code yX6_takesOut cX6_takesOut 3 none, Cond.methodLink RX6 114 yX6_putsIn, Cond.instanceMethod yX6_putsIn, Cond.selects RX6 yX6_putsIn yX6_putsIn]
def wsX6_move_r3 : List Cond := [Cond.code yX6_putsIn cX6_putsIn 5 none, Cond.methodLink RX6 100 yX6_changed, Cond.instanceMethod yX6_changed, Cond.selects RX6 yX6_changed yX6_changed, Cond.code yX6_changed cX6_changed 3 (some .int), Cond.fieldLink RX6 49 "ParityRulesModel" "historyLong" "I", Cond.fieldLink RX6 16 "ParityRulesModel" "history" "[I"]
def wsX6_move : List Cond := .code yX6_move cX6_move 6 (some .int) :: ((wsX6_move_r1 ++ (wsX6_move_r2 ++ wsX6_move_r3)) ++ wsX60)
def wsX6_turn_r1 : List Cond := [Cond.fieldLink RX6 7 "ParityRulesModel" "all" "[I", Cond.fieldLink RX6 31 "ParityRulesModel" "state" "[I", Cond.methodLink RX6 118 yX6_isRule, Cond.instanceMethod yX6_isRule, Cond.selects RX6 yX6_isRule yX6_isRule, Cond.initialized RX6, Cond.code yX6_isRule cX6_isRule 2 (some .boolean), Cond.methodLink RX6 61 yX6_in, Cond.static yX6_in, Cond.code yX6_in cX6_in 6 (some .boolean), Cond.methodLink RX6 97 yX6_keep, Cond.instanceMethod yX6_keep, Cond.selects RX6 yX6_keep yX6_keep, Cond.code yX6_keep cX6_keep 2 none, Cond.fieldLink RX6 13 "ParityRulesModel" "kept" "[I", Cond.methodLink RX6 85 yX6_judges, Cond.instanceMethod yX6_judges, Cond.selects RX6 yX6_judges yX6_judges, Cond.code yX6_judges cX6_judges 3 none, Cond.fieldLink RX6 25 "ParityRulesModel" "leading" "[I", Cond.fieldLink RX6 28 "ParityRulesModel" "which" "[I", Cond.fieldLink RX6 34 "ParityRulesModel" "reason" "[I", Cond.fieldLink RX6 71 "ParityRulesModel" "made" "I", Cond.fieldLink RX6 68 "ParityRulesModel" "left" "I"]
def wsX6_turn_r2 : List Cond := [Cond.methodLink RX6 81 yX6_stateOf, Cond.instanceMethod yX6_stateOf, Cond.selects RX6 yX6_stateOf yX6_stateOf, Cond.code yX6_stateOf cX6_stateOf 3 (some .int), Cond.methodLink RX6 74 yX6_reduces, Cond.instanceMethod yX6_reduces, Cond.selects RX6 yX6_reduces yX6_reduces, Cond.code yX6_reduces cX6_reduces 3 none, Cond.methodLink RX6 78 yX6_sumOf, Cond.instanceMethod yX6_sumOf, Cond.selects RX6 yX6_sumOf yX6_sumOf, Cond.code yX6_sumOf cX6_sumOf 4 (some .int), Cond.methodLink RX6 100 yX6_changed, Cond.instanceMethod yX6_changed, Cond.selects RX6 yX6_changed yX6_changed, Cond.code yX6_changed cX6_changed 3 (some .int), Cond.fieldLink RX6 49 "ParityRulesModel" "historyLong" "I", Cond.fieldLink RX6 16 "ParityRulesModel" "history" "[I"]
def wsX6_turn : List Cond := .code yX6_turn cX6_turn 2 (some .int) :: ((wsX6_turn_r1 ++ wsX6_turn_r2) ++ wsX60)
def wsX6_reasonsWith : List Cond := .code yX6_reasonsWith cX6_reasonsWith 4 (some .int) :: ([.fieldLink RX6 7 "ParityRulesModel" "all" "[I", .fieldLink RX6 31 "ParityRulesModel" "state" "[I", .fieldLink RX6 34 "ParityRulesModel" "reason" "[I"] ++ wsX60)
def wsX6_rule_r1 : List Cond := [Cond.fieldLink RX6 7 "ParityRulesModel" "all" "[I", Cond.fieldLink RX6 31 "ParityRulesModel" "state" "[I", Cond.fieldLink RX6 34 "ParityRulesModel" "reason" "[I", Cond.methodLink RX6 118 yX6_isRule, Cond.instanceMethod yX6_isRule, Cond.selects RX6 yX6_isRule yX6_isRule, Cond.initialized RX6, Cond.code yX6_isRule cX6_isRule 2 (some .boolean), Cond.methodLink RX6 61 yX6_in, Cond.static yX6_in, Cond.code yX6_in cX6_in 6 (some .boolean), Cond.methodLink RX6 85 yX6_judges, Cond.instanceMethod yX6_judges, Cond.selects RX6 yX6_judges yX6_judges, Cond.code yX6_judges cX6_judges 3 none, Cond.fieldLink RX6 25 "ParityRulesModel" "leading" "[I", Cond.fieldLink RX6 28 "ParityRulesModel" "which" "[I", Cond.fieldLink RX6 71 "ParityRulesModel" "made" "I", Cond.fieldLink RX6 68 "ParityRulesModel" "left" "I", Cond.methodLink RX6 81 yX6_stateOf, Cond.instanceMethod yX6_stateOf, Cond.selects RX6 yX6_stateOf yX6_stateOf, Cond.code yX6_stateOf cX6_stateOf 3 (some .int), Cond.methodLink RX6 74 yX6_reduces]
def wsX6_rule_r2 : List Cond := [Cond.instanceMethod yX6_reduces, Cond.selects RX6 yX6_reduces yX6_reduces, Cond.code yX6_reduces cX6_reduces 3 none, Cond.methodLink RX6 78 yX6_sumOf, Cond.instanceMethod yX6_sumOf, Cond.selects RX6 yX6_sumOf yX6_sumOf, Cond.code yX6_sumOf cX6_sumOf 4 (some .int), Cond.methodLink RX6 124 yX6_reasonsWith, Cond.instanceMethod yX6_reasonsWith, Cond.selects RX6 yX6_reasonsWith yX6_reasonsWith, Cond.code yX6_reasonsWith cX6_reasonsWith 4 (some .int), Cond.methodLink RX6 127 yX6_answers, Cond.instanceMethod yX6_answers, Cond.selects RX6 yX6_answers yX6_answers, Cond.code yX6_answers cX6_answers 1 (some .int), Cond.methodLink RX6 88 yX6_rulesIn, Cond.instanceMethod yX6_rulesIn, Cond.selects RX6 yX6_rulesIn yX6_rulesIn, Cond.code yX6_rulesIn cX6_rulesIn 4 (some .int)]
def wsX6_rule : List Cond := .code yX6_rule cX6_rule 3 (some .int) :: ((wsX6_rule_r1 ++ wsX6_rule_r2) ++ wsX60)
def wsX6_rulesWith : List Cond := .code yX6_rulesWith cX6_rulesWith 4 (some .int) :: ([.fieldLink RX6 7 "ParityRulesModel" "all" "[I"] ++ wsX60)
def wsX6_tiedTo : List Cond := .code yX6_tiedTo cX6_tiedTo 5 (some .int) :: ([.fieldLink RX6 7 "ParityRulesModel" "all" "[I", .methodLink RX6 130 yX6_knownOf, .instanceMethod yX6_knownOf, .selects RX6 yX6_knownOf yX6_knownOf, .initialized RX6, .code yX6_knownOf cX6_knownOf 2 (some .int), .fieldLink RX6 68 "ParityRulesModel" "left" "I", .fieldLink RX6 71 "ParityRulesModel" "made" "I", .methodLink RX6 74 yX6_reduces, .instanceMethod yX6_reduces, .selects RX6 yX6_reduces yX6_reduces, .code yX6_reduces cX6_reduces 3 none, .fieldLink RX6 25 "ParityRulesModel" "leading" "[I", .fieldLink RX6 28 "ParityRulesModel" "which" "[I", .methodLink RX6 78 yX6_sumOf, .instanceMethod yX6_sumOf, .selects RX6 yX6_sumOf yX6_sumOf, .code yX6_sumOf cX6_sumOf 4 (some .int)] ++ wsX60)
def wsX6_choice_r1 : List Cond := [Cond.fieldLink RX6 7 "ParityRulesModel" "all" "[I", Cond.methodLink RX6 61 yX6_in, Cond.static yX6_in, Cond.initialized RX6, Cond.code yX6_in cX6_in 6 (some .boolean), Cond.methodLink RX6 85 yX6_judges, Cond.instanceMethod yX6_judges, Cond.selects RX6 yX6_judges yX6_judges, Cond.code yX6_judges cX6_judges 3 none, Cond.fieldLink RX6 25 "ParityRulesModel" "leading" "[I", Cond.fieldLink RX6 28 "ParityRulesModel" "which" "[I", Cond.fieldLink RX6 31 "ParityRulesModel" "state" "[I", Cond.fieldLink RX6 34 "ParityRulesModel" "reason" "[I", Cond.fieldLink RX6 71 "ParityRulesModel" "made" "I", Cond.fieldLink RX6 68 "ParityRulesModel" "left" "I", Cond.methodLink RX6 81 yX6_stateOf, Cond.instanceMethod yX6_stateOf, Cond.selects RX6 yX6_stateOf yX6_stateOf, Cond.code yX6_stateOf cX6_stateOf 3 (some .int), Cond.methodLink RX6 74 yX6_reduces, Cond.instanceMethod yX6_reduces, Cond.selects RX6 yX6_reduces yX6_reduces, Cond.code yX6_reduces cX6_reduces 3 none, Cond.methodLink RX6 78 yX6_sumOf]
def wsX6_choice_r2 : List Cond := [Cond.instanceMethod yX6_sumOf, Cond.selects RX6 yX6_sumOf yX6_sumOf, Cond.code yX6_sumOf cX6_sumOf 4 (some .int), Cond.methodLink RX6 130 yX6_knownOf, Cond.instanceMethod yX6_knownOf, Cond.selects RX6 yX6_knownOf yX6_knownOf, Cond.code yX6_knownOf cX6_knownOf 2 (some .int), Cond.methodLink RX6 133 yX6_rulesWith, Cond.instanceMethod yX6_rulesWith, Cond.selects RX6 yX6_rulesWith yX6_rulesWith, Cond.code yX6_rulesWith cX6_rulesWith 4 (some .int), Cond.methodLink RX6 136 yX6_tiedTo, Cond.instanceMethod yX6_tiedTo, Cond.selects RX6 yX6_tiedTo yX6_tiedTo, Cond.code yX6_tiedTo cX6_tiedTo 5 (some .int)]
def wsX6_choice : List Cond := .code yX6_choice cX6_choice 3 (some .int) :: ((wsX6_choice_r1 ++ wsX6_choice_r2) ++ wsX60)
def wsX6_settled_r1 : List Cond := [Cond.fieldLink RX6 7 "ParityRulesModel" "all" "[I", Cond.methodLink RX6 85 yX6_judges, Cond.instanceMethod yX6_judges, Cond.selects RX6 yX6_judges yX6_judges, Cond.initialized RX6, Cond.code yX6_judges cX6_judges 3 none, Cond.fieldLink RX6 25 "ParityRulesModel" "leading" "[I", Cond.fieldLink RX6 28 "ParityRulesModel" "which" "[I", Cond.fieldLink RX6 31 "ParityRulesModel" "state" "[I", Cond.fieldLink RX6 34 "ParityRulesModel" "reason" "[I", Cond.fieldLink RX6 71 "ParityRulesModel" "made" "I", Cond.fieldLink RX6 68 "ParityRulesModel" "left" "I", Cond.methodLink RX6 81 yX6_stateOf, Cond.instanceMethod yX6_stateOf, Cond.selects RX6 yX6_stateOf yX6_stateOf, Cond.code yX6_stateOf cX6_stateOf 3 (some .int), Cond.methodLink RX6 74 yX6_reduces, Cond.instanceMethod yX6_reduces, Cond.selects RX6 yX6_reduces yX6_reduces, Cond.code yX6_reduces cX6_reduces 3 none, Cond.methodLink RX6 78 yX6_sumOf, Cond.instanceMethod yX6_sumOf, Cond.selects RX6 yX6_sumOf yX6_sumOf, Cond.code yX6_sumOf cX6_sumOf 4 (some .int)]
def wsX6_settled_r2 : List Cond := [Cond.methodLink RX6 130 yX6_knownOf, Cond.instanceMethod yX6_knownOf, Cond.selects RX6 yX6_knownOf yX6_knownOf, Cond.code yX6_knownOf cX6_knownOf 2 (some .int)]
def wsX6_settled : List Cond := .code yX6_settled cX6_settled 3 (some .int) :: ((wsX6_settled_r1 ++ wsX6_settled_r2) ++ wsX60)
def wsX6_count_r1 : List Cond := [Cond.fieldLink RX6 7 "ParityRulesModel" "all" "[I", Cond.fieldLink RX6 142 "ParityRulesModel" "padLong" "I", Cond.fieldLink RX6 49 "ParityRulesModel" "historyLong" "I", Cond.methodLink RX6 88 yX6_rulesIn, Cond.instanceMethod yX6_rulesIn, Cond.selects RX6 yX6_rulesIn yX6_rulesIn, Cond.initialized RX6, Cond.code yX6_rulesIn cX6_rulesIn 4 (some .int), Cond.fieldLink RX6 31 "ParityRulesModel" "state" "[I", Cond.methodLink RX6 85 yX6_judges, Cond.instanceMethod yX6_judges, Cond.selects RX6 yX6_judges yX6_judges, Cond.code yX6_judges cX6_judges 3 none, Cond.fieldLink RX6 25 "ParityRulesModel" "leading" "[I", Cond.fieldLink RX6 28 "ParityRulesModel" "which" "[I", Cond.fieldLink RX6 34 "ParityRulesModel" "reason" "[I", Cond.fieldLink RX6 71 "ParityRulesModel" "made" "I", Cond.fieldLink RX6 68 "ParityRulesModel" "left" "I", Cond.methodLink RX6 81 yX6_stateOf, Cond.instanceMethod yX6_stateOf, Cond.selects RX6 yX6_stateOf yX6_stateOf, Cond.code yX6_stateOf cX6_stateOf 3 (some .int), Cond.methodLink RX6 74 yX6_reduces, Cond.instanceMethod yX6_reduces]
def wsX6_count_r2 : List Cond := [Cond.selects RX6 yX6_reduces yX6_reduces, Cond.code yX6_reduces cX6_reduces 3 none, Cond.methodLink RX6 78 yX6_sumOf, Cond.instanceMethod yX6_sumOf, Cond.selects RX6 yX6_sumOf yX6_sumOf, Cond.code yX6_sumOf cX6_sumOf 4 (some .int), Cond.methodLink RX6 127 yX6_answers, Cond.instanceMethod yX6_answers, Cond.selects RX6 yX6_answers yX6_answers, Cond.code yX6_answers cX6_answers 1 (some .int), Cond.methodLink RX6 139 yX6_settled, Cond.instanceMethod yX6_settled, Cond.selects RX6 yX6_settled yX6_settled, Cond.code yX6_settled cX6_settled 3 (some .int), Cond.methodLink RX6 130 yX6_knownOf, Cond.instanceMethod yX6_knownOf, Cond.selects RX6 yX6_knownOf yX6_knownOf, Cond.code yX6_knownOf cX6_knownOf 2 (some .int)]
def wsX6_count : List Cond := .code yX6_count cX6_count 2 (some .int) :: ((wsX6_count_r1 ++ wsX6_count_r2) ++ wsX60)
def wsX6_answer_r1 : List Cond := [Cond.methodLink RX6 127 yX6_answers, Cond.instanceMethod yX6_answers, Cond.selects RX6 yX6_answers yX6_answers, Cond.initialized RX6, Cond.code yX6_answers cX6_answers 1 (some .int), Cond.fieldLink RX6 7 "ParityRulesModel" "all" "[I", Cond.methodLink RX6 88 yX6_rulesIn, Cond.instanceMethod yX6_rulesIn, Cond.selects RX6 yX6_rulesIn yX6_rulesIn, Cond.code yX6_rulesIn cX6_rulesIn 4 (some .int), Cond.fieldLink RX6 31 "ParityRulesModel" "state" "[I", Cond.methodLink RX6 85 yX6_judges, Cond.instanceMethod yX6_judges, Cond.selects RX6 yX6_judges yX6_judges, Cond.code yX6_judges cX6_judges 3 none, Cond.fieldLink RX6 25 "ParityRulesModel" "leading" "[I", Cond.fieldLink RX6 28 "ParityRulesModel" "which" "[I", Cond.fieldLink RX6 34 "ParityRulesModel" "reason" "[I", Cond.fieldLink RX6 71 "ParityRulesModel" "made" "I", Cond.fieldLink RX6 68 "ParityRulesModel" "left" "I", Cond.methodLink RX6 81 yX6_stateOf, Cond.instanceMethod yX6_stateOf, Cond.selects RX6 yX6_stateOf yX6_stateOf, Cond.code yX6_stateOf cX6_stateOf 3 (some .int)]
def wsX6_answer_r2 : List Cond := [Cond.methodLink RX6 74 yX6_reduces, Cond.instanceMethod yX6_reduces, Cond.selects RX6 yX6_reduces yX6_reduces, Cond.code yX6_reduces cX6_reduces 3 none, Cond.methodLink RX6 78 yX6_sumOf, Cond.instanceMethod yX6_sumOf, Cond.selects RX6 yX6_sumOf yX6_sumOf, Cond.code yX6_sumOf cX6_sumOf 4 (some .int), Cond.methodLink RX6 61 yX6_in, Cond.static yX6_in, Cond.code yX6_in cX6_in 6 (some .boolean), Cond.methodLink RX6 145 yX6_isAnswer, Cond.instanceMethod yX6_isAnswer, Cond.selects RX6 yX6_isAnswer yX6_isAnswer, Cond.code yX6_isAnswer cX6_isAnswer 4 (some .boolean), Cond.methodLink RX6 91 yX6_fits, Cond.instanceMethod yX6_fits, Cond.selects RX6 yX6_fits yX6_fits, Cond.code yX6_fits cX6_fits 3 (some .boolean), Cond.methodLink RX6 65 yX6_odd, Cond.static yX6_odd, Cond.code yX6_odd cX6_odd 1 (some .int), Cond.methodLink RX6 53 yX6_bits, Cond.static yX6_bits]
def wsX6_answer_r3 : List Cond := [Cond.code yX6_bits cX6_bits 3 (some .int)]
def wsX6_answer : List Cond := .code yX6_answer cX6_answer 4 (some .int) :: ((wsX6_answer_r1 ++ (wsX6_answer_r2 ++ wsX6_answer_r3)) ++ wsX60)
def wsX6_known_r1 : List Cond := [Cond.methodLink RX6 85 yX6_judges, Cond.instanceMethod yX6_judges, Cond.selects RX6 yX6_judges yX6_judges, Cond.initialized RX6, Cond.code yX6_judges cX6_judges 3 none, Cond.fieldLink RX6 25 "ParityRulesModel" "leading" "[I", Cond.fieldLink RX6 28 "ParityRulesModel" "which" "[I", Cond.fieldLink RX6 7 "ParityRulesModel" "all" "[I", Cond.fieldLink RX6 31 "ParityRulesModel" "state" "[I", Cond.fieldLink RX6 34 "ParityRulesModel" "reason" "[I", Cond.fieldLink RX6 71 "ParityRulesModel" "made" "I", Cond.fieldLink RX6 68 "ParityRulesModel" "left" "I", Cond.methodLink RX6 81 yX6_stateOf, Cond.instanceMethod yX6_stateOf, Cond.selects RX6 yX6_stateOf yX6_stateOf, Cond.code yX6_stateOf cX6_stateOf 3 (some .int), Cond.methodLink RX6 74 yX6_reduces, Cond.instanceMethod yX6_reduces, Cond.selects RX6 yX6_reduces yX6_reduces, Cond.code yX6_reduces cX6_reduces 3 none, Cond.methodLink RX6 78 yX6_sumOf, Cond.instanceMethod yX6_sumOf, Cond.selects RX6 yX6_sumOf yX6_sumOf, Cond.code yX6_sumOf cX6_sumOf 4 (some .int)]
def wsX6_known_r2 : List Cond := [Cond.methodLink RX6 57 yX6_masks, Cond.instanceMethod yX6_masks, Cond.selects RX6 yX6_masks yX6_masks, Cond.code yX6_masks cX6_masks 1 (some .int), Cond.methodLink RX6 61 yX6_in, Cond.static yX6_in, Cond.code yX6_in cX6_in 6 (some .boolean), Cond.methodLink RX6 130 yX6_knownOf, Cond.instanceMethod yX6_knownOf, Cond.selects RX6 yX6_knownOf yX6_knownOf, Cond.code yX6_knownOf cX6_knownOf 2 (some .int)]
def wsX6_known : List Cond := .code yX6_known cX6_known 2 (some .int) :: ((wsX6_known_r1 ++ wsX6_known_r2) ++ wsX60)
def wsX6_nearest_r1 : List Cond := [Cond.methodLink RX6 57 yX6_masks, Cond.instanceMethod yX6_masks, Cond.selects RX6 yX6_masks yX6_masks, Cond.initialized RX6, Cond.code yX6_masks cX6_masks 1 (some .int), Cond.fieldLink RX6 7 "ParityRulesModel" "all" "[I", Cond.methodLink RX6 61 yX6_in, Cond.static yX6_in, Cond.code yX6_in cX6_in 6 (some .boolean), Cond.methodLink RX6 85 yX6_judges, Cond.instanceMethod yX6_judges, Cond.selects RX6 yX6_judges yX6_judges, Cond.code yX6_judges cX6_judges 3 none, Cond.fieldLink RX6 25 "ParityRulesModel" "leading" "[I", Cond.fieldLink RX6 28 "ParityRulesModel" "which" "[I", Cond.fieldLink RX6 31 "ParityRulesModel" "state" "[I", Cond.fieldLink RX6 34 "ParityRulesModel" "reason" "[I", Cond.fieldLink RX6 71 "ParityRulesModel" "made" "I", Cond.fieldLink RX6 68 "ParityRulesModel" "left" "I", Cond.methodLink RX6 81 yX6_stateOf, Cond.instanceMethod yX6_stateOf, Cond.selects RX6 yX6_stateOf yX6_stateOf, Cond.code yX6_stateOf cX6_stateOf 3 (some .int), Cond.methodLink RX6 74 yX6_reduces]
def wsX6_nearest_r2 : List Cond := [Cond.instanceMethod yX6_reduces, Cond.selects RX6 yX6_reduces yX6_reduces, Cond.code yX6_reduces cX6_reduces 3 none, Cond.methodLink RX6 78 yX6_sumOf, Cond.instanceMethod yX6_sumOf, Cond.selects RX6 yX6_sumOf yX6_sumOf, Cond.code yX6_sumOf cX6_sumOf 4 (some .int), Cond.methodLink RX6 53 yX6_bits, Cond.static yX6_bits, Cond.code yX6_bits cX6_bits 3 (some .int), Cond.methodLink RX6 145 yX6_isAnswer, Cond.instanceMethod yX6_isAnswer, Cond.selects RX6 yX6_isAnswer yX6_isAnswer, Cond.code yX6_isAnswer cX6_isAnswer 4 (some .boolean), Cond.methodLink RX6 91 yX6_fits, Cond.instanceMethod yX6_fits, Cond.selects RX6 yX6_fits yX6_fits, Cond.code yX6_fits cX6_fits 3 (some .boolean), Cond.methodLink RX6 65 yX6_odd, Cond.static yX6_odd, Cond.code yX6_odd cX6_odd 1 (some .int)]
def wsX6_nearest : List Cond := .code yX6_nearest cX6_nearest 8 (some .int) :: ((wsX6_nearest_r1 ++ wsX6_nearest_r2) ++ wsX60)
def wsX6_broken : List Cond := .code yX6_broken cX6_broken 4 (some .int) :: ([.fieldLink RX6 7 "ParityRulesModel" "all" "[I", .methodLink RX6 91 yX6_fits, .instanceMethod yX6_fits, .selects RX6 yX6_fits yX6_fits, .initialized RX6, .code yX6_fits cX6_fits 3 (some .boolean), .methodLink RX6 65 yX6_odd, .static yX6_odd, .code yX6_odd cX6_odd 1 (some .int), .methodLink RX6 53 yX6_bits, .static yX6_bits, .code yX6_bits cX6_bits 3 (some .int)] ++ wsX60)
def wsX6_best : List Cond := .code yX6_best cX6_best 7 (some .int) :: ([.constantLong RX6 148 (2), .methodLink RX6 61 yX6_in, .static yX6_in, .initialized RX6, .code yX6_in cX6_in 6 (some .boolean), .methodLink RX6 57 yX6_masks, .instanceMethod yX6_masks, .selects RX6 yX6_masks yX6_masks, .code yX6_masks cX6_masks 1 (some .int), .fieldLink RX6 7 "ParityRulesModel" "all" "[I", .methodLink RX6 150 yX6_broken, .instanceMethod yX6_broken, .selects RX6 yX6_broken yX6_broken, .code yX6_broken cX6_broken 4 (some .int), .methodLink RX6 91 yX6_fits, .instanceMethod yX6_fits, .selects RX6 yX6_fits yX6_fits, .code yX6_fits cX6_fits 3 (some .boolean), .methodLink RX6 65 yX6_odd, .static yX6_odd, .code yX6_odd cX6_odd 1 (some .int), .methodLink RX6 53 yX6_bits, .static yX6_bits, .code yX6_bits cX6_bits 3 (some .int)] ++ wsX60)
def wsX6_ifTold_r1 : List Cond := [Cond.methodLink RX6 103 yX6_isSet, Cond.instanceMethod yX6_isSet, Cond.selects RX6 yX6_isSet yX6_isSet, Cond.initialized RX6, Cond.code yX6_isSet cX6_isSet 2 (some .boolean), Cond.methodLink RX6 57 yX6_masks, Cond.instanceMethod yX6_masks, Cond.selects RX6 yX6_masks yX6_masks, Cond.code yX6_masks cX6_masks 1 (some .int), Cond.fieldLink RX6 7 "ParityRulesModel" "all" "[I", Cond.methodLink RX6 61 yX6_in, Cond.static yX6_in, Cond.code yX6_in cX6_in 6 (some .boolean), Cond.methodLink RX6 85 yX6_judges, Cond.instanceMethod yX6_judges, Cond.selects RX6 yX6_judges yX6_judges, Cond.code yX6_judges cX6_judges 3 none, Cond.fieldLink RX6 25 "ParityRulesModel" "leading" "[I", Cond.fieldLink RX6 28 "ParityRulesModel" "which" "[I", Cond.fieldLink RX6 31 "ParityRulesModel" "state" "[I", Cond.fieldLink RX6 34 "ParityRulesModel" "reason" "[I", Cond.fieldLink RX6 71 "ParityRulesModel" "made" "I", Cond.fieldLink RX6 68 "ParityRulesModel" "left" "I", Cond.methodLink RX6 81 yX6_stateOf]
def wsX6_ifTold_r2 : List Cond := [Cond.instanceMethod yX6_stateOf, Cond.selects RX6 yX6_stateOf yX6_stateOf, Cond.code yX6_stateOf cX6_stateOf 3 (some .int), Cond.methodLink RX6 74 yX6_reduces, Cond.instanceMethod yX6_reduces, Cond.selects RX6 yX6_reduces yX6_reduces, Cond.code yX6_reduces cX6_reduces 3 none, Cond.methodLink RX6 78 yX6_sumOf, Cond.instanceMethod yX6_sumOf, Cond.selects RX6 yX6_sumOf yX6_sumOf, Cond.code yX6_sumOf cX6_sumOf 4 (some .int)]
def wsX6_ifTold : List Cond := .code yX6_ifTold cX6_ifTold 3 (some .int) :: ((wsX6_ifTold_r1 ++ wsX6_ifTold_r2) ++ wsX60)
def wsX6_ifDropped_r1 : List Cond := [Cond.methodLink RX6 118 yX6_isRule, Cond.instanceMethod yX6_isRule, Cond.selects RX6 yX6_isRule yX6_isRule, Cond.initialized RX6, Cond.code yX6_isRule cX6_isRule 2 (some .boolean), Cond.fieldLink RX6 7 "ParityRulesModel" "all" "[I", Cond.methodLink RX6 61 yX6_in, Cond.static yX6_in, Cond.code yX6_in cX6_in 6 (some .boolean), Cond.methodLink RX6 97 yX6_keep, Cond.instanceMethod yX6_keep, Cond.selects RX6 yX6_keep yX6_keep, Cond.code yX6_keep cX6_keep 2 none, Cond.fieldLink RX6 13 "ParityRulesModel" "kept" "[I", Cond.methodLink RX6 111 yX6_takesOut, Cond.instanceMethod yX6_takesOut, Cond.selects RX6 yX6_takesOut yX6_takesOut, Cond.code yX6_takesOut cX6_takesOut 3 none, Cond.methodLink RX6 127 yX6_answers, Cond.instanceMethod yX6_answers, Cond.selects RX6 yX6_answers yX6_answers, Cond.code yX6_answers cX6_answers 1 (some .int), Cond.methodLink RX6 88 yX6_rulesIn, Cond.instanceMethod yX6_rulesIn]
def wsX6_ifDropped_r2 : List Cond := [Cond.selects RX6 yX6_rulesIn yX6_rulesIn, Cond.code yX6_rulesIn cX6_rulesIn 4 (some .int), Cond.fieldLink RX6 31 "ParityRulesModel" "state" "[I", Cond.methodLink RX6 85 yX6_judges, Cond.instanceMethod yX6_judges, Cond.selects RX6 yX6_judges yX6_judges, Cond.code yX6_judges cX6_judges 3 none, Cond.fieldLink RX6 25 "ParityRulesModel" "leading" "[I", Cond.fieldLink RX6 28 "ParityRulesModel" "which" "[I", Cond.fieldLink RX6 34 "ParityRulesModel" "reason" "[I", Cond.fieldLink RX6 71 "ParityRulesModel" "made" "I", Cond.fieldLink RX6 68 "ParityRulesModel" "left" "I", Cond.methodLink RX6 81 yX6_stateOf, Cond.instanceMethod yX6_stateOf, Cond.selects RX6 yX6_stateOf yX6_stateOf, Cond.code yX6_stateOf cX6_stateOf 3 (some .int), Cond.methodLink RX6 74 yX6_reduces, Cond.instanceMethod yX6_reduces, Cond.selects RX6 yX6_reduces yX6_reduces, Cond.code yX6_reduces cX6_reduces 3 none, Cond.methodLink RX6 78 yX6_sumOf, Cond.instanceMethod yX6_sumOf, Cond.selects RX6 yX6_sumOf yX6_sumOf, Cond.code yX6_sumOf cX6_sumOf 4 (some .int)]
def wsX6_ifDropped_r3 : List Cond := [Cond.methodLink RX6 153 yX6_giveBack, Cond.instanceMethod yX6_giveBack, Cond.selects RX6 yX6_giveBack yX6_giveBack, Cond.code yX6_giveBack cX6_giveBack 2 none]
def wsX6_ifDropped : List Cond := .code yX6_ifDropped cX6_ifDropped 3 (some .int) :: ((wsX6_ifDropped_r1 ++ (wsX6_ifDropped_r2 ++ wsX6_ifDropped_r3)) ++ wsX60)
def wsX6_ifMoved_r1 : List Cond := [Cond.methodLink RX6 118 yX6_isRule, Cond.instanceMethod yX6_isRule, Cond.selects RX6 yX6_isRule yX6_isRule, Cond.initialized RX6, Cond.code yX6_isRule cX6_isRule 2 (some .boolean), Cond.fieldLink RX6 7 "ParityRulesModel" "all" "[I", Cond.methodLink RX6 61 yX6_in, Cond.static yX6_in, Cond.code yX6_in cX6_in 6 (some .boolean), Cond.methodLink RX6 97 yX6_keep, Cond.instanceMethod yX6_keep, Cond.selects RX6 yX6_keep yX6_keep, Cond.code yX6_keep cX6_keep 2 none, Cond.fieldLink RX6 13 "ParityRulesModel" "kept" "[I", Cond.methodLink RX6 121 yX6_moves, Cond.instanceMethod yX6_moves, Cond.selects RX6 yX6_moves yX6_moves, Cond.code yX6_moves cX6_moves 5 none, Cond.methodLink RX6 111 yX6_takesOut, Cond.instanceMethod yX6_takesOut, Cond.selects RX6 yX6_takesOut yX6_takesOut, Cond.code yX6_takesOut cX6_takesOut 3 none, Cond.methodLink RX6 114 yX6_putsIn, Cond.instanceMethod yX6_putsIn]
def wsX6_ifMoved_r2 : List Cond := [Cond.selects RX6 yX6_putsIn yX6_putsIn, Cond.code yX6_putsIn cX6_putsIn 5 none, Cond.methodLink RX6 88 yX6_rulesIn, Cond.instanceMethod yX6_rulesIn, Cond.selects RX6 yX6_rulesIn yX6_rulesIn, Cond.code yX6_rulesIn cX6_rulesIn 4 (some .int), Cond.fieldLink RX6 31 "ParityRulesModel" "state" "[I", Cond.methodLink RX6 85 yX6_judges, Cond.instanceMethod yX6_judges, Cond.selects RX6 yX6_judges yX6_judges, Cond.code yX6_judges cX6_judges 3 none, Cond.fieldLink RX6 25 "ParityRulesModel" "leading" "[I", Cond.fieldLink RX6 28 "ParityRulesModel" "which" "[I", Cond.fieldLink RX6 34 "ParityRulesModel" "reason" "[I", Cond.fieldLink RX6 71 "ParityRulesModel" "made" "I", Cond.fieldLink RX6 68 "ParityRulesModel" "left" "I", Cond.methodLink RX6 81 yX6_stateOf, Cond.instanceMethod yX6_stateOf, Cond.selects RX6 yX6_stateOf yX6_stateOf, Cond.code yX6_stateOf cX6_stateOf 3 (some .int), Cond.methodLink RX6 74 yX6_reduces, Cond.instanceMethod yX6_reduces, Cond.selects RX6 yX6_reduces yX6_reduces, Cond.code yX6_reduces cX6_reduces 3 none]
def wsX6_ifMoved_r3 : List Cond := [Cond.methodLink RX6 78 yX6_sumOf, Cond.instanceMethod yX6_sumOf, Cond.selects RX6 yX6_sumOf yX6_sumOf, Cond.code yX6_sumOf cX6_sumOf 4 (some .int), Cond.methodLink RX6 153 yX6_giveBack, Cond.instanceMethod yX6_giveBack, Cond.selects RX6 yX6_giveBack yX6_giveBack, Cond.code yX6_giveBack cX6_giveBack 2 none]
def wsX6_ifMoved : List Cond := .code yX6_ifMoved cX6_ifMoved 4 (some .int) :: ((wsX6_ifMoved_r1 ++ (wsX6_ifMoved_r2 ++ wsX6_ifMoved_r3)) ++ wsX60)
def wsX6_put : List Cond := .code yX6_put cX6_put 8 (some .int) :: ([.constantLong RX6 156 (255), .constantLong RX6 158 (33), .constantLong RX6 160 (126), .fieldLink RX6 142 "ParityRulesModel" "padLong" "I", .fieldLink RX6 40 "ParityRulesModel" "pad" "[I", .methodLink RX6 61 yX6_in, .static yX6_in, .initialized RX6, .code yX6_in cX6_in 6 (some .boolean)] ++ wsX60)
def wsX6_wipe : List Cond := .code yX6_wipe cX6_wipe 2 (some .int) :: ([.fieldLink RX6 142 "ParityRulesModel" "padLong" "I"] ++ wsX60)
def wsX6_isHere : List Cond := .code yX6_isHere cX6_isHere 3 (some .boolean) :: ([.fieldLink RX6 162 "ParityRulesModel" "spot" "I", .fieldLink RX6 142 "ParityRulesModel" "padLong" "I", .fieldLink RX6 40 "ParityRulesModel" "pad" "[I", .methodLink RX6 61 yX6_in, .static yX6_in, .initialized RX6, .code yX6_in cX6_in 6 (some .boolean)] ++ wsX60)
def wsX6_takes : List Cond := .code yX6_takes cX6_takes 3 (some .boolean) :: ([.fieldLink RX6 162 "ParityRulesModel" "spot" "I", .methodLink RX6 165 yX6_isHere, .instanceMethod yX6_isHere, .selects RX6 yX6_isHere yX6_isHere, .initialized RX6, .code yX6_isHere cX6_isHere 3 (some .boolean), .fieldLink RX6 142 "ParityRulesModel" "padLong" "I", .fieldLink RX6 40 "ParityRulesModel" "pad" "[I", .methodLink RX6 61 yX6_in, .static yX6_in, .code yX6_in cX6_in 6 (some .boolean)] ++ wsX60)
def wsX6_readsChoice : List Cond := .code yX6_readsChoice cX6_readsChoice 4 (some .boolean) :: ([.fieldLink RX6 40 "ParityRulesModel" "pad" "[I", .fieldLink RX6 162 "ParityRulesModel" "spot" "I", .fieldLink RX6 168 "ParityRulesModel" "last" "I", .methodLink RX6 165 yX6_isHere, .instanceMethod yX6_isHere, .selects RX6 yX6_isHere yX6_isHere, .initialized RX6, .code yX6_isHere cX6_isHere 3 (some .boolean), .fieldLink RX6 142 "ParityRulesModel" "padLong" "I", .methodLink RX6 61 yX6_in, .static yX6_in, .code yX6_in cX6_in 6 (some .boolean)] ++ wsX60)
def wsX6_readsRule : List Cond := .code yX6_readsRule cX6_readsRule 3 (some .boolean) :: ([.fieldLink RX6 168 "ParityRulesModel" "last" "I", .fieldLink RX6 43 "ParityRulesModel" "readSet" "[I", .fieldLink RX6 178 "ParityRulesModel" "readMany" "I", .fieldLink RX6 46 "ParityRulesModel" "readSum" "[I", .fieldLink RX6 40 "ParityRulesModel" "pad" "[I", .fieldLink RX6 162 "ParityRulesModel" "spot" "I", .methodLink RX6 171 yX6_readsChoice, .instanceMethod yX6_readsChoice, .selects RX6 yX6_readsChoice yX6_readsChoice, .initialized RX6, .code yX6_readsChoice cX6_readsChoice 4 (some .boolean), .methodLink RX6 165 yX6_isHere, .instanceMethod yX6_isHere, .selects RX6 yX6_isHere yX6_isHere, .code yX6_isHere cX6_isHere 3 (some .boolean), .fieldLink RX6 142 "ParityRulesModel" "padLong" "I", .methodLink RX6 61 yX6_in, .static yX6_in, .code yX6_in cX6_in 6 (some .boolean), .methodLink RX6 175 yX6_takes, .instanceMethod yX6_takes, .selects RX6 yX6_takes yX6_takes, .code yX6_takes cX6_takes 3 (some .boolean)] ++ wsX60)
def wsX6_fault_r1 : List Cond := [Cond.fieldLink RX6 162 "ParityRulesModel" "spot" "I", Cond.fieldLink RX6 178 "ParityRulesModel" "readMany" "I", Cond.fieldLink RX6 142 "ParityRulesModel" "padLong" "I", Cond.methodLink RX6 181 yX6_readsRule, Cond.instanceMethod yX6_readsRule, Cond.selects RX6 yX6_readsRule yX6_readsRule, Cond.initialized RX6, Cond.code yX6_readsRule cX6_readsRule 3 (some .boolean), Cond.fieldLink RX6 168 "ParityRulesModel" "last" "I", Cond.fieldLink RX6 43 "ParityRulesModel" "readSet" "[I", Cond.fieldLink RX6 46 "ParityRulesModel" "readSum" "[I", Cond.fieldLink RX6 40 "ParityRulesModel" "pad" "[I", Cond.methodLink RX6 171 yX6_readsChoice, Cond.instanceMethod yX6_readsChoice, Cond.selects RX6 yX6_readsChoice yX6_readsChoice, Cond.code yX6_readsChoice cX6_readsChoice 4 (some .boolean), Cond.methodLink RX6 165 yX6_isHere, Cond.instanceMethod yX6_isHere, Cond.selects RX6 yX6_isHere yX6_isHere, Cond.code yX6_isHere cX6_isHere 3 (some .boolean), Cond.methodLink RX6 61 yX6_in, Cond.static yX6_in, Cond.code yX6_in cX6_in 6 (some .boolean), Cond.methodLink RX6 175 yX6_takes]
def wsX6_fault_r2 : List Cond := [Cond.instanceMethod yX6_takes, Cond.selects RX6 yX6_takes yX6_takes, Cond.code yX6_takes cX6_takes 3 (some .boolean)]
def wsX6_fault : List Cond := .code yX6_fault cX6_fault 2 (some .int) :: ((wsX6_fault_r1 ++ wsX6_fault_r2) ++ wsX60)
def wsX6_read_r1 : List Cond := [Cond.fieldLink RX6 178 "ParityRulesModel" "readMany" "I", Cond.fieldLink RX6 43 "ParityRulesModel" "readSet" "[I", Cond.fieldLink RX6 7 "ParityRulesModel" "all" "[I", Cond.fieldLink RX6 46 "ParityRulesModel" "readSum" "[I", Cond.fieldLink RX6 142 "ParityRulesModel" "padLong" "I", Cond.methodLink RX6 184 yX6_fault, Cond.instanceMethod yX6_fault, Cond.selects RX6 yX6_fault yX6_fault, Cond.initialized RX6, Cond.code yX6_fault cX6_fault 2 (some .int), Cond.fieldLink RX6 162 "ParityRulesModel" "spot" "I", Cond.methodLink RX6 181 yX6_readsRule, Cond.instanceMethod yX6_readsRule, Cond.selects RX6 yX6_readsRule yX6_readsRule, Cond.code yX6_readsRule cX6_readsRule 3 (some .boolean), Cond.fieldLink RX6 168 "ParityRulesModel" "last" "I", Cond.fieldLink RX6 40 "ParityRulesModel" "pad" "[I", Cond.methodLink RX6 171 yX6_readsChoice, Cond.instanceMethod yX6_readsChoice, Cond.selects RX6 yX6_readsChoice yX6_readsChoice, Cond.code yX6_readsChoice cX6_readsChoice 4 (some .boolean), Cond.methodLink RX6 165 yX6_isHere, Cond.instanceMethod yX6_isHere, Cond.selects RX6 yX6_isHere yX6_isHere]
def wsX6_read_r2 : List Cond := [Cond.code yX6_isHere cX6_isHere 3 (some .boolean), Cond.methodLink RX6 61 yX6_in, Cond.static yX6_in, Cond.code yX6_in cX6_in 6 (some .boolean), Cond.methodLink RX6 175 yX6_takes, Cond.instanceMethod yX6_takes, Cond.selects RX6 yX6_takes yX6_takes, Cond.code yX6_takes cX6_takes 3 (some .boolean), Cond.methodLink RX6 103 yX6_isSet, Cond.instanceMethod yX6_isSet, Cond.selects RX6 yX6_isSet yX6_isSet, Cond.code yX6_isSet cX6_isSet 2 (some .boolean), Cond.methodLink RX6 57 yX6_masks, Cond.instanceMethod yX6_masks, Cond.selects RX6 yX6_masks yX6_masks, Cond.code yX6_masks cX6_masks 1 (some .int), Cond.methodLink RX6 97 yX6_keep, Cond.instanceMethod yX6_keep, Cond.selects RX6 yX6_keep yX6_keep, Cond.code yX6_keep cX6_keep 2 none, Cond.fieldLink RX6 13 "ParityRulesModel" "kept" "[I", Cond.methodLink RX6 107 yX6_adds, Cond.instanceMethod yX6_adds, Cond.selects RX6 yX6_adds yX6_adds]
def wsX6_read_r3 : List Cond := [Cond.code yX6_adds cX6_adds 3 none, Cond.methodLink RX6 100 yX6_changed, Cond.instanceMethod yX6_changed, Cond.selects RX6 yX6_changed yX6_changed, Cond.code yX6_changed cX6_changed 3 (some .int), Cond.fieldLink RX6 49 "ParityRulesModel" "historyLong" "I", Cond.fieldLink RX6 16 "ParityRulesModel" "history" "[I"]
def wsX6_read : List Cond := .code yX6_read cX6_read 2 (some .int) :: ((wsX6_read_r1 ++ (wsX6_read_r2 ++ wsX6_read_r3)) ++ wsX60)
def wsX6_undo : List Cond := .code yX6_undo cX6_undo 2 (some .int) :: ([.fieldLink RX6 49 "ParityRulesModel" "historyLong" "I", .fieldLink RX6 7 "ParityRulesModel" "all" "[I", .fieldLink RX6 16 "ParityRulesModel" "history" "[I"] ++ wsX60)
def wsX6_save : List Cond := .code yX6_save cX6_save 3 (some .int) :: ([.fieldLink RX6 19 "ParityRulesModel" "slots" "[I", .fieldLink RX6 7 "ParityRulesModel" "all" "[I", .fieldLink RX6 22 "ParityRulesModel" "isSaved" "[I", .methodLink RX6 61 yX6_in, .static yX6_in, .initialized RX6, .code yX6_in cX6_in 6 (some .boolean)] ++ wsX60)
def wsX6_restore : List Cond := .code yX6_restore cX6_restore 3 (some .int) :: ([.fieldLink RX6 22 "ParityRulesModel" "isSaved" "[I", .fieldLink RX6 7 "ParityRulesModel" "all" "[I", .fieldLink RX6 19 "ParityRulesModel" "slots" "[I", .methodLink RX6 61 yX6_in, .static yX6_in, .initialized RX6, .code yX6_in cX6_in 6 (some .boolean), .methodLink RX6 97 yX6_keep, .instanceMethod yX6_keep, .selects RX6 yX6_keep yX6_keep, .code yX6_keep cX6_keep 2 none, .fieldLink RX6 13 "ParityRulesModel" "kept" "[I", .methodLink RX6 100 yX6_changed, .instanceMethod yX6_changed, .selects RX6 yX6_changed yX6_changed, .code yX6_changed cX6_changed 3 (some .int), .fieldLink RX6 49 "ParityRulesModel" "historyLong" "I", .fieldLink RX6 16 "ParityRulesModel" "history" "[I"] ++ wsX60)
def wsL_law_r1 : List Cond := [Cond.classLink RL 7 RX5, Cond.instantiable RX5 11, Cond.initialized RX5, Cond.classLink RL 10 RX6, Cond.instantiable RX6 20, Cond.initialized RX6, Cond.constantLong RL 80 (4294967295), Cond.methodLink RL 9 yX5_init, Cond.instanceMethod yX5_init, Cond.code yX5_init cX5_init 2 none, Cond.methodLink RX5 1 objectInit, Cond.instanceMethod objectInit, Cond.code objectInit ⟨#[0xb1]⟩ 1 none, Cond.classLink RX5 7 RX3, Cond.instantiable RX3 4, Cond.initialized RX3, Cond.fieldLink RX5 10 "ParityRules" "now" "LParityRules$Row;", Cond.classLink RX5 16 RX4, Cond.instantiable RX4 12, Cond.initialized RX4, Cond.fieldLink RX5 19 "ParityRules" "verdict" "LParityRules$Verdict;", Cond.fieldLink RX5 23 "ParityRules" "trialRow" "LParityRules$Row;", Cond.fieldLink RX5 26 "ParityRules" "trialVerdict" "LParityRules$Verdict;", Cond.arrayClass .int]
def wsL_law_r2 : List Cond := [Cond.fieldLink RX5 29 "ParityRules" "statesBefore" "[I", Cond.classLink RX5 33 RX0, Cond.instantiable RX0 4, Cond.initialized RX0, Cond.fieldLink RX5 36 "ParityRules" "bestAnswer" "LParityRules$BestAnswer;", Cond.classLink RX5 40 RX2, Cond.instantiable RX2 6, Cond.initialized RX2, Cond.fieldLink RX5 43 "ParityRules" "pad" "LParityRules$Pad;", Cond.fieldLink RX5 47 "ParityRules" "padRules" "LParityRules$Row;", Cond.classLink RX5 50 RX1, Cond.instantiable RX1 2, Cond.initialized RX1, Cond.fieldLink RX5 53 "ParityRules" "history" "LParityRules$History;", Cond.fieldLink RX5 57 "ParityRules" "slots" "[LParityRules$Row;", Cond.arrayClass .boolean, Cond.fieldLink RX5 61 "ParityRules" "saved" "[Z", Cond.instanceMethod yX3_init, Cond.code yX3_init cX3_init 1 none, Cond.methodLink RX3 3 objectInit, Cond.fieldLink RX3 9 "ParityRules$Row" "choices" "I", Cond.fieldLink RX3 15 "ParityRules$Row" "sets" "[I", Cond.fieldLink RX3 19 "ParityRules$Row" "sums" "[I", Cond.instanceMethod yX4_init]
def wsL_law_r3 : List Cond := [Cond.code yX4_init cX4_init 1 none, Cond.methodLink RX4 3 objectInit, Cond.fieldLink RX4 9 "ParityRules$Verdict" "states" "[I", Cond.fieldLink RX4 15 "ParityRules$Verdict" "reasons" "[I", Cond.fieldLink RX4 18 "ParityRules$Verdict" "tally" "[I", Cond.fieldLink RX4 21 "ParityRules$Verdict" "stepSets" "[I", Cond.fieldLink RX4 24 "ParityRules$Verdict" "stepSums" "[I", Cond.fieldLink RX4 27 "ParityRules$Verdict" "stepReasons" "[I", Cond.fieldLink RX4 30 "ParityRules$Verdict" "exchanges" "[I", Cond.instanceMethod yX0_init, Cond.code yX0_init cX0_init 1 none, Cond.methodLink RX0 3 objectInit, Cond.fieldLink RX0 9 "ParityRules$BestAnswer" "exchanges" "[I", Cond.instanceMethod yX2_init, Cond.code yX2_init cX2_init 1 none, Cond.methodLink RX2 3 objectInit, Cond.arrayClass .char, Cond.fieldLink RX2 9 "ParityRules$Pad" "characters" "[C", Cond.methodLink RX5 52 yX1_init, Cond.instanceMethod yX1_init, Cond.code yX1_init cX1_init 2 none, Cond.methodLink RX1 3 objectInit, Cond.classLink RX1 9 RX3, Cond.fieldLink RX1 11 "ParityRules$History" "states" "[LParityRules$Row;"]
def wsL_law_r4 : List Cond := [Cond.methodLink RX5 65 yX4_judge, Cond.instanceMethod yX4_judge, Cond.selects RX4 yX4_judge yX4_judge, Cond.code yX4_judge cX4_judge 3 none, Cond.fieldLink RX4 33 "ParityRules$Row" "choices" "I", Cond.fieldLink RX4 39 "ParityRules$Verdict" "choices" "I", Cond.fieldLink RX4 40 "ParityRules$Verdict" "many" "I", Cond.fieldLink RX4 43 "ParityRules$Row" "many" "I", Cond.fieldLink RX4 44 "ParityRules$Row" "sets" "[I", Cond.fieldLink RX4 47 "ParityRules$Row" "sums" "[I", Cond.methodLink RX4 50 yX4_judgeNext, Cond.instanceMethod yX4_judgeNext, Cond.selects RX4 yX4_judgeNext yX4_judgeNext, Cond.code yX4_judgeNext cX4_judgeNext 5 none, Cond.fieldLink RX4 58 "ParityRules$Verdict" "restSet" "I", Cond.fieldLink RX4 65 "ParityRules$Verdict" "restSum" "I", Cond.fieldLink RX4 68 "ParityRules$Verdict" "restReason" "I", Cond.methodLink RX4 54 yX4_stateOf, Cond.instanceMethod yX4_stateOf, Cond.selects RX4 yX4_stateOf yX4_stateOf, Cond.code yX4_stateOf cX4_stateOf 3 (some .int), Cond.methodLink RX4 71 yX4_combine, Cond.instanceMethod yX4_combine, Cond.selects RX4 yX4_combine yX4_combine]
def wsL_law_r5 : List Cond := [Cond.code yX4_combine cX4_combine 4 none, Cond.static yX5_lowestBit, Cond.code yX5_lowestBit cX5_lowestBit 1 (some .int), Cond.methodLink RX5 163 yJ6_bitCount_0f7a4, Cond.static yJ6_bitCount_0f7a4, Cond.initialized RJ6, Cond.code yJ6_bitCount_0f7a4 cJ6_bitCount_0f7a4 1 (some .int), Cond.constant RJ6 265 (1431655765), Cond.constant RJ6 266 (858993459), Cond.constant RJ6 267 (252645135), Cond.methodLink RL 12 yX6_init, Cond.instanceMethod yX6_init, Cond.code yX6_init cX6_init 1 none, Cond.methodLink RX6 1 objectInit, Cond.fieldLink RX6 7 "ParityRulesModel" "all" "[I", Cond.fieldLink RX6 13 "ParityRulesModel" "kept" "[I", Cond.fieldLink RX6 16 "ParityRulesModel" "history" "[I", Cond.fieldLink RX6 19 "ParityRulesModel" "slots" "[I", Cond.fieldLink RX6 22 "ParityRulesModel" "isSaved" "[I", Cond.fieldLink RX6 25 "ParityRulesModel" "leading" "[I", Cond.fieldLink RX6 28 "ParityRulesModel" "which" "[I", Cond.fieldLink RX6 31 "ParityRulesModel" "state" "[I", Cond.fieldLink RX6 34 "ParityRulesModel" "reason" "[I", Cond.fieldLink RX6 37 "ParityRulesModel" "had" "[I"]
def wsL_law_r6 : List Cond := [Cond.fieldLink RX6 40 "ParityRulesModel" "pad" "[I", Cond.fieldLink RX6 43 "ParityRulesModel" "readSet" "[I", Cond.fieldLink RX6 46 "ParityRulesModel" "readSum" "[I", Cond.methodLink RL 13 yX5_choices, Cond.instanceMethod yX5_choices, Cond.selects RX5 yX5_choices yX5_choices, Cond.code yX5_choices cX5_choices 3 (some .int), Cond.fieldLink RX5 73 "ParityRules$Row" "choices" "I", Cond.methodLink RX5 69 yX3_setsStayBelow, Cond.instanceMethod yX3_setsStayBelow, Cond.selects RX3 yX3_setsStayBelow yX3_setsStayBelow, Cond.code yX3_setsStayBelow cX3_setsStayBelow 4 (some .boolean), Cond.fieldLink RX3 22 "ParityRules$Row" "many" "I", Cond.methodLink RX5 77 yX1_remember, Cond.instanceMethod yX1_remember, Cond.selects RX1 yX1_remember yX1_remember, Cond.code yX1_remember cX1_remember 2 none, Cond.fieldLink RX1 18 "ParityRules$History" "many" "I", Cond.methodLink RX1 22 yX1_dropOldest, Cond.instanceMethod yX1_dropOldest, Cond.selects RX1 yX1_dropOldest yX1_dropOldest, Cond.code yX1_dropOldest cX1_dropOldest 3 none, Cond.methodLink RX1 25 yX3_become, Cond.instanceMethod yX3_become]
def wsL_law_r7 : List Cond := [Cond.selects RX3 yX3_become yX3_become, Cond.code yX3_become cX3_become 2 none, Cond.methodLink RX3 25 arraycopyName, Cond.native arraycopyName, Cond.static arraycopyName, Cond.initialized "java/lang/System", Cond.methodLink RL 17 yX6_choices, Cond.instanceMethod yX6_choices, Cond.selects RX6 yX6_choices yX6_choices, Cond.code yX6_choices cX6_choices 3 (some .int), Cond.constantLong RX6 95 (12), Cond.methodLink RX6 61 yX6_in, Cond.static yX6_in, Cond.code yX6_in cX6_in 6 (some .boolean), Cond.methodLink RX6 97 yX6_keep, Cond.instanceMethod yX6_keep, Cond.selects RX6 yX6_keep yX6_keep, Cond.code yX6_keep cX6_keep 2 none, Cond.methodLink RX6 100 yX6_changed, Cond.instanceMethod yX6_changed, Cond.selects RX6 yX6_changed yX6_changed, Cond.code yX6_changed cX6_changed 3 (some .int), Cond.fieldLink RX6 49 "ParityRulesModel" "historyLong" "I", Cond.methodLink RL 18 yX5_tell]
def wsL_law_r8 : List Cond := [Cond.instanceMethod yX5_tell, Cond.selects RX5 yX5_tell yX5_tell, Cond.code yX5_tell cX5_tell 3 (some .int), Cond.fieldLink RX5 84 "ParityRules$Row" "many" "I", Cond.fieldLink RX5 91 "ParityRules$Verdict" "states" "[I", Cond.methodLink RX5 80 yX5_isRule, Cond.instanceMethod yX5_isRule, Cond.selects RX5 yX5_isRule yX5_isRule, Cond.code yX5_isRule cX5_isRule 3 (some .boolean), Cond.methodLink RX5 157 yX3_hasSet, Cond.instanceMethod yX3_hasSet, Cond.selects RX3 yX3_hasSet yX3_hasSet, Cond.code yX3_hasSet cX3_hasSet 2 (some .boolean), Cond.methodLink RX5 87 yX3_append, Cond.instanceMethod yX3_append, Cond.selects RX3 yX3_append yX3_append, Cond.code yX3_append cX3_append 3 none, Cond.methodLink RL 22 yX6_tell, Cond.instanceMethod yX6_tell, Cond.selects RX6 yX6_tell yX6_tell, Cond.code yX6_tell cX6_tell 3 (some .int), Cond.methodLink RX6 103 yX6_isSet, Cond.instanceMethod yX6_isSet, Cond.selects RX6 yX6_isSet yX6_isSet]
def wsL_law_r9 : List Cond := [Cond.code yX6_isSet cX6_isSet 2 (some .boolean), Cond.methodLink RX6 57 yX6_masks, Cond.instanceMethod yX6_masks, Cond.selects RX6 yX6_masks yX6_masks, Cond.code yX6_masks cX6_masks 1 (some .int), Cond.methodLink RX6 107 yX6_adds, Cond.instanceMethod yX6_adds, Cond.selects RX6 yX6_adds yX6_adds, Cond.code yX6_adds cX6_adds 3 none, Cond.methodLink RX6 85 yX6_judges, Cond.instanceMethod yX6_judges, Cond.selects RX6 yX6_judges yX6_judges, Cond.code yX6_judges cX6_judges 3 none, Cond.fieldLink RX6 71 "ParityRulesModel" "made" "I", Cond.fieldLink RX6 68 "ParityRulesModel" "left" "I", Cond.methodLink RX6 81 yX6_stateOf, Cond.instanceMethod yX6_stateOf, Cond.selects RX6 yX6_stateOf yX6_stateOf, Cond.code yX6_stateOf cX6_stateOf 3 (some .int), Cond.methodLink RX6 74 yX6_reduces, Cond.instanceMethod yX6_reduces, Cond.selects RX6 yX6_reduces yX6_reduces, Cond.code yX6_reduces cX6_reduces 3 none, Cond.methodLink RX6 78 yX6_sumOf]
def wsL_law_r10 : List Cond := [Cond.instanceMethod yX6_sumOf, Cond.selects RX6 yX6_sumOf yX6_sumOf, Cond.code yX6_sumOf cX6_sumOf 4 (some .int), Cond.methodLink RL 23 yX5_drop, Cond.instanceMethod yX5_drop, Cond.selects RX5 yX5_drop yX5_drop, Cond.code yX5_drop cX5_drop 2 (some .int), Cond.methodLink RX5 94 yX3_hasPlace, Cond.instanceMethod yX3_hasPlace, Cond.selects RX3 yX3_hasPlace yX3_hasPlace, Cond.code yX3_hasPlace cX3_hasPlace 2 (some .boolean), Cond.methodLink RX5 97 yX3_takeOut, Cond.instanceMethod yX3_takeOut, Cond.selects RX3 yX3_takeOut yX3_takeOut, Cond.code yX3_takeOut cX3_takeOut 2 none, Cond.methodLink RX3 35 yX3_carryRule, Cond.instanceMethod yX3_carryRule, Cond.selects RX3 yX3_carryRule yX3_carryRule, Cond.code yX3_carryRule cX3_carryRule 3 none, Cond.static yX5_carry, Cond.code yX5_carry cX5_carry 5 none, Cond.methodLink RL 26 yX6_drop, Cond.instanceMethod yX6_drop, Cond.selects RX6 yX6_drop yX6_drop]
def wsL_law_r11 : List Cond := [Cond.code yX6_drop cX6_drop 2 (some .int), Cond.methodLink RX6 118 yX6_isRule, Cond.instanceMethod yX6_isRule, Cond.selects RX6 yX6_isRule yX6_isRule, Cond.code yX6_isRule cX6_isRule 2 (some .boolean), Cond.methodLink RX6 111 yX6_takesOut, Cond.instanceMethod yX6_takesOut, Cond.selects RX6 yX6_takesOut yX6_takesOut, Cond.code yX6_takesOut cX6_takesOut 3 none, Cond.methodLink RL 27 yX5_move, Cond.instanceMethod yX5_move, Cond.selects RX5 yX5_move yX5_move, Cond.code yX5_move cX5_move 5 (some .int), Cond.methodLink RX5 101 arraycopyName, Cond.methodLink RX5 107 yX5_carry, Cond.methodLink RX5 111 yX3_carryRule, Cond.methodLink RL 30 yX6_move, Cond.instanceMethod yX6_move, Cond.selects RX6 yX6_move yX6_move, Cond.code yX6_move cX6_move 6 (some .int), Cond.methodLink RX6 121 yX6_moves, Cond.instanceMethod yX6_moves, Cond.selects RX6 yX6_moves yX6_moves, Cond.code yX6_moves cX6_moves 5 none]
def wsL_law_r12 : List Cond := [Cond.methodLink RX6 114 yX6_putsIn, Cond.instanceMethod yX6_putsIn, Cond.selects RX6 yX6_putsIn yX6_putsIn, Cond.code yX6_putsIn cX6_putsIn 5 none, Cond.methodLink RL 31 yX5_turn, Cond.instanceMethod yX5_turn, Cond.selects RX5 yX5_turn yX5_turn, Cond.code yX5_turn cX5_turn 2 (some .int), Cond.fieldLink RX5 114 "ParityRules$Row" "sums" "[I", Cond.methodLink RL 34 yX6_turn, Cond.instanceMethod yX6_turn, Cond.selects RX6 yX6_turn yX6_turn, Cond.code yX6_turn cX6_turn 2 (some .int), Cond.methodLink RL 35 yX5_read, Cond.instanceMethod yX5_read, Cond.selects RX5 yX5_read yX5_read, Cond.code yX5_read cX5_read 2 (some .int), Cond.fieldLink RX5 121 "ParityRules$Row" "sets" "[I", Cond.fieldLink RX5 124 "ParityRules$Pad" "length" "I", Cond.methodLink RX5 117 yX2_readInto, Cond.instanceMethod yX2_readInto, Cond.selects RX2 yX2_readInto yX2_readInto, Cond.code yX2_readInto cX2_readInto 3 (some .int), Cond.fieldLink RX2 19 "ParityRules$Row" "many" "I"]
def wsL_law_r13 : List Cond := [Cond.fieldLink RX2 15 "ParityRules$Pad" "length" "I", Cond.fieldLink RX2 31 "ParityRules$Pad" "stage" "I", Cond.methodLink RX2 24 yX2_startRule, Cond.instanceMethod yX2_startRule, Cond.selects RX2 yX2_startRule yX2_startRule, Cond.code yX2_startRule cX2_startRule 1 none, Cond.fieldLink RX2 34 "ParityRules$Pad" "choiceAhead" "I", Cond.fieldLink RX2 37 "ParityRules$Pad" "set" "I", Cond.methodLink RX2 27 yX2_canStand, Cond.instanceMethod yX2_canStand, Cond.selects RX2 yX2_canStand yX2_canStand, Cond.code yX2_canStand cX2_canStand 3 (some .boolean), Cond.methodLink RX2 40 yX2_canStartChoice, Cond.instanceMethod yX2_canStartChoice, Cond.selects RX2 yX2_canStartChoice yX2_canStartChoice, Cond.code yX2_canStartChoice cX2_canStartChoice 4 (some .boolean), Cond.fieldLink RX2 50 "ParityRules$Pad" "choiceHere" "I", Cond.methodLink RX2 44 yX2_canStandInChoice, Cond.instanceMethod yX2_canStandInChoice, Cond.selects RX2 yX2_canStandInChoice yX2_canStandInChoice, Cond.code yX2_canStandInChoice cX2_canStandInChoice 3 (some .boolean), Cond.methodLink RX2 47 yX2_canBeSum, Cond.instanceMethod yX2_canBeSum, Cond.selects RX2 yX2_canBeSum yX2_canBeSum]
def wsL_law_r14 : List Cond := [Cond.code yX2_canBeSum cX2_canBeSum 3 (some .boolean), Cond.methodLink RX2 53 yX3_append, Cond.methodLink RL 39 yX6_read, Cond.instanceMethod yX6_read, Cond.selects RX6 yX6_read yX6_read, Cond.code yX6_read cX6_read 2 (some .int), Cond.fieldLink RX6 178 "ParityRulesModel" "readMany" "I", Cond.fieldLink RX6 142 "ParityRulesModel" "padLong" "I", Cond.methodLink RX6 184 yX6_fault, Cond.instanceMethod yX6_fault, Cond.selects RX6 yX6_fault yX6_fault, Cond.code yX6_fault cX6_fault 2 (some .int), Cond.fieldLink RX6 162 "ParityRulesModel" "spot" "I", Cond.methodLink RX6 181 yX6_readsRule, Cond.instanceMethod yX6_readsRule, Cond.selects RX6 yX6_readsRule yX6_readsRule, Cond.code yX6_readsRule cX6_readsRule 3 (some .boolean), Cond.fieldLink RX6 168 "ParityRulesModel" "last" "I", Cond.methodLink RX6 171 yX6_readsChoice, Cond.instanceMethod yX6_readsChoice, Cond.selects RX6 yX6_readsChoice yX6_readsChoice, Cond.code yX6_readsChoice cX6_readsChoice 4 (some .boolean), Cond.methodLink RX6 165 yX6_isHere, Cond.instanceMethod yX6_isHere]
def wsL_law_r15 : List Cond := [Cond.selects RX6 yX6_isHere yX6_isHere, Cond.code yX6_isHere cX6_isHere 3 (some .boolean), Cond.methodLink RX6 175 yX6_takes, Cond.instanceMethod yX6_takes, Cond.selects RX6 yX6_takes yX6_takes, Cond.code yX6_takes cX6_takes 3 (some .boolean), Cond.methodLink RL 40 yX5_rule, Cond.instanceMethod yX5_rule, Cond.selects RX5 yX5_rule yX5_rule, Cond.code yX5_rule cX5_rule 4 (some .int), Cond.fieldLink RX5 127 "ParityRules$Verdict" "reasons" "[I", Cond.methodLink RX5 130 yX4_reasonsWith, Cond.instanceMethod yX4_reasonsWith, Cond.selects RX4 yX4_reasonsWith yX4_reasonsWith, Cond.code yX4_reasonsWith cX4_reasonsWith 4 (some .int), Cond.methodLink RX5 134 yX4_answers, Cond.instanceMethod yX4_answers, Cond.selects RX4 yX4_answers yX4_answers, Cond.code yX4_answers cX4_answers 1 (some .int), Cond.methodLink RL 43 yX6_rule, Cond.instanceMethod yX6_rule, Cond.selects RX6 yX6_rule yX6_rule, Cond.code yX6_rule cX6_rule 3 (some .int), Cond.methodLink RX6 124 yX6_reasonsWith]
def wsL_law_r16 : List Cond := [Cond.instanceMethod yX6_reasonsWith, Cond.selects RX6 yX6_reasonsWith yX6_reasonsWith, Cond.code yX6_reasonsWith cX6_reasonsWith 4 (some .int), Cond.methodLink RX6 127 yX6_answers, Cond.instanceMethod yX6_answers, Cond.selects RX6 yX6_answers yX6_answers, Cond.code yX6_answers cX6_answers 1 (some .int), Cond.methodLink RX6 88 yX6_rulesIn, Cond.instanceMethod yX6_rulesIn, Cond.selects RX6 yX6_rulesIn yX6_rulesIn, Cond.code yX6_rulesIn cX6_rulesIn 4 (some .int), Cond.methodLink RL 44 yX5_choice, Cond.instanceMethod yX5_choice, Cond.selects RX5 yX5_choice yX5_choice, Cond.code yX5_choice cX5_choice 3 (some .int), Cond.methodLink RX5 138 yX4_sumOf, Cond.instanceMethod yX4_sumOf, Cond.selects RX4 yX4_sumOf yX4_sumOf, Cond.code yX4_sumOf cX4_sumOf 2 (some .int), Cond.methodLink RX5 141 yX3_rulesWith, Cond.instanceMethod yX3_rulesWith, Cond.selects RX3 yX3_rulesWith yX3_rulesWith, Cond.code yX3_rulesWith cX3_rulesWith 4 (some .int), Cond.methodLink RX5 144 yX4_boundTo]
def wsL_law_r17 : List Cond := [Cond.instanceMethod yX4_boundTo, Cond.selects RX4 yX4_boundTo yX4_boundTo, Cond.code yX4_boundTo cX4_boundTo 5 (some .int), Cond.methodLink RX4 74 yX4_sumOf, Cond.methodLink RL 47 yX6_choice, Cond.instanceMethod yX6_choice, Cond.selects RX6 yX6_choice yX6_choice, Cond.code yX6_choice cX6_choice 3 (some .int), Cond.methodLink RX6 130 yX6_knownOf, Cond.instanceMethod yX6_knownOf, Cond.selects RX6 yX6_knownOf yX6_knownOf, Cond.code yX6_knownOf cX6_knownOf 2 (some .int), Cond.methodLink RX6 133 yX6_rulesWith, Cond.instanceMethod yX6_rulesWith, Cond.selects RX6 yX6_rulesWith yX6_rulesWith, Cond.code yX6_rulesWith cX6_rulesWith 4 (some .int), Cond.methodLink RX6 136 yX6_tiedTo, Cond.instanceMethod yX6_tiedTo, Cond.selects RX6 yX6_tiedTo yX6_tiedTo, Cond.code yX6_tiedTo cX6_tiedTo 5 (some .int), Cond.methodLink RL 48 yX5_count, Cond.instanceMethod yX5_count, Cond.selects RX5 yX5_count yX5_count, Cond.code yX5_count cX5_count 2 (some .int)]
def wsL_law_r18 : List Cond := [Cond.fieldLink RX5 147 "ParityRules$Verdict" "tally" "[I", Cond.fieldLink RX5 153 "ParityRules$History" "many" "I", Cond.methodLink RX5 150 yX4_settled, Cond.instanceMethod yX4_settled, Cond.selects RX4 yX4_settled yX4_settled, Cond.code yX4_settled cX4_settled 3 (some .int), Cond.methodLink RL 51 yX6_count, Cond.instanceMethod yX6_count, Cond.selects RX6 yX6_count yX6_count, Cond.code yX6_count cX6_count 2 (some .int), Cond.methodLink RX6 139 yX6_settled, Cond.instanceMethod yX6_settled, Cond.selects RX6 yX6_settled yX6_settled, Cond.code yX6_settled cX6_settled 3 (some .int), Cond.methodLink RL 52 yX5_answer, Cond.instanceMethod yX5_answer, Cond.selects RX5 yX5_answer yX5_answer, Cond.code yX5_answer cX5_answer 2 (some .int), Cond.methodLink RX5 154 yX4_answerAt, Cond.instanceMethod yX4_answerAt, Cond.selects RX4 yX4_answerAt yX4_answerAt, Cond.code yX4_answerAt cX4_answerAt 6 (some .int), Cond.static yX5_parity, Cond.code yX5_parity cX5_parity 1 (some .int)]
def wsL_law_r19 : List Cond := [Cond.methodLink RL 55 yX6_answer, Cond.instanceMethod yX6_answer, Cond.selects RX6 yX6_answer yX6_answer, Cond.code yX6_answer cX6_answer 4 (some .int), Cond.methodLink RX6 145 yX6_isAnswer, Cond.instanceMethod yX6_isAnswer, Cond.selects RX6 yX6_isAnswer yX6_isAnswer, Cond.code yX6_isAnswer cX6_isAnswer 4 (some .boolean), Cond.methodLink RX6 91 yX6_fits, Cond.instanceMethod yX6_fits, Cond.selects RX6 yX6_fits yX6_fits, Cond.code yX6_fits cX6_fits 3 (some .boolean), Cond.methodLink RX6 65 yX6_odd, Cond.static yX6_odd, Cond.code yX6_odd cX6_odd 1 (some .int), Cond.methodLink RX6 53 yX6_bits, Cond.static yX6_bits, Cond.code yX6_bits cX6_bits 3 (some .int), Cond.methodLink RL 56 yX5_known, Cond.instanceMethod yX5_known, Cond.selects RX5 yX5_known yX5_known, Cond.code yX5_known cX5_known 2 (some .int), Cond.methodLink RL 59 yX6_known, Cond.instanceMethod yX6_known]
def wsL_law_r20 : List Cond := [Cond.selects RX6 yX6_known yX6_known, Cond.code yX6_known cX6_known 2 (some .int), Cond.methodLink RL 60 yX5_nearest, Cond.instanceMethod yX5_nearest, Cond.selects RX5 yX5_nearest yX5_nearest, Cond.code yX5_nearest cX5_nearest 4 (some .int), Cond.methodLink RX5 160 yX4_nearestTo, Cond.instanceMethod yX4_nearestTo, Cond.selects RX4 yX4_nearestTo yX4_nearestTo, Cond.code yX4_nearestTo cX4_nearestTo 8 (some .int), Cond.methodLink RX4 80 yX4_fillExchanges, Cond.instanceMethod yX4_fillExchanges, Cond.selects RX4 yX4_fillExchanges yX4_fillExchanges, Cond.code yX4_fillExchanges cX4_fillExchanges 4 none, Cond.methodLink RX4 83 yX4_answerAt, Cond.methodLink RX4 86 yJ6_bitCount_0f7a4, Cond.methodLink RX4 91 yX4_answers, Cond.methodLink RL 63 yX6_nearest, Cond.instanceMethod yX6_nearest, Cond.selects RX6 yX6_nearest yX6_nearest, Cond.code yX6_nearest cX6_nearest 8 (some .int), Cond.methodLink RL 64 yX5_best, Cond.instanceMethod yX5_best, Cond.selects RX5 yX5_best yX5_best]
def wsL_law_r21 : List Cond := [Cond.code yX5_best cX5_best 2 (some .int), Cond.fieldLink RX5 171 "ParityRules$BestAnswer" "lowest" "I", Cond.fieldLink RX5 174 "ParityRules$BestAnswer" "broken" "I", Cond.fieldLink RX5 177 "ParityRules$BestAnswer" "asGood" "I", Cond.methodLink RX5 168 yX0_find, Cond.instanceMethod yX0_find, Cond.selects RX0 yX0_find yX0_find, Cond.code yX0_find cX0_find 6 none, Cond.fieldLink RX0 23 "ParityRules$BestAnswer" "lowest" "I", Cond.fieldLink RX0 33 "ParityRules$BestAnswer" "broken" "I", Cond.fieldLink RX0 36 "ParityRules$BestAnswer" "asGood" "I", Cond.fieldLink RX0 39 "ParityRules$Row" "choices" "I", Cond.methodLink RX0 15 yX0_fillExchanges, Cond.instanceMethod yX0_fillExchanges, Cond.selects RX0 yX0_fillExchanges yX0_fillExchanges, Cond.code yX0_fillExchanges cX0_fillExchanges 6 none, Cond.fieldLink RX0 47 "ParityRules$Row" "many" "I", Cond.fieldLink RX0 53 "ParityRules$Row" "sets" "[I", Cond.methodLink RX0 19 yX0_brokenByNone, Cond.static yX0_brokenByNone, Cond.code yX0_brokenByNone cX0_brokenByNone 3 (some .int), Cond.fieldLink RX0 50 "ParityRules$Row" "sums" "[I", Cond.methodLink RX0 27 yJ6_bitCount_0f7a4, Cond.methodLink RL 67 yX6_best]
def wsL_law_r22 : List Cond := [Cond.instanceMethod yX6_best, Cond.selects RX6 yX6_best yX6_best, Cond.code yX6_best cX6_best 7 (some .int), Cond.constantLong RX6 148 (2), Cond.methodLink RX6 150 yX6_broken, Cond.instanceMethod yX6_broken, Cond.selects RX6 yX6_broken yX6_broken, Cond.code yX6_broken cX6_broken 4 (some .int), Cond.methodLink RL 68 yX5_ifTold, Cond.instanceMethod yX5_ifTold, Cond.selects RX5 yX5_ifTold yX5_ifTold, Cond.code yX5_ifTold cX5_ifTold 3 (some .int), Cond.methodLink RX5 180 yX4_stateOf, Cond.methodLink RL 71 yX6_ifTold, Cond.instanceMethod yX6_ifTold, Cond.selects RX6 yX6_ifTold yX6_ifTold, Cond.code yX6_ifTold cX6_ifTold 3 (some .int), Cond.methodLink RL 72 yX5_ifDropped, Cond.instanceMethod yX5_ifDropped, Cond.selects RX5 yX5_ifDropped yX5_ifDropped, Cond.code yX5_ifDropped cX5_ifDropped 2 (some .int), Cond.methodLink RX5 184 yX3_become, Cond.methodLink RL 75 yX6_ifDropped, Cond.instanceMethod yX6_ifDropped]
def wsL_law_r23 : List Cond := [Cond.selects RX6 yX6_ifDropped yX6_ifDropped, Cond.code yX6_ifDropped cX6_ifDropped 3 (some .int), Cond.methodLink RX6 153 yX6_giveBack, Cond.instanceMethod yX6_giveBack, Cond.selects RX6 yX6_giveBack yX6_giveBack, Cond.code yX6_giveBack cX6_giveBack 2 none, Cond.methodLink RL 76 yX5_ifMoved, Cond.instanceMethod yX5_ifMoved, Cond.selects RX5 yX5_ifMoved yX5_ifMoved, Cond.code yX5_ifMoved cX5_ifMoved 3 (some .int), Cond.methodLink RL 79 yX6_ifMoved, Cond.instanceMethod yX6_ifMoved, Cond.selects RX6 yX6_ifMoved yX6_ifMoved, Cond.code yX6_ifMoved cX6_ifMoved 4 (some .int), Cond.methodLink RL 82 yX5_put, Cond.instanceMethod yX5_put, Cond.selects RX5 yX5_put yX5_put, Cond.code yX5_put cX5_put 5 (some .int), Cond.constantLong RX5 191 (255), Cond.methodLink RX5 187 yX5_charactersIn, Cond.static yX5_charactersIn, Cond.code yX5_charactersIn cX5_charactersIn 7 (some .int), Cond.constantLong RX5 199 (33), Cond.constantLong RX5 201 (126)]
def wsL_law_r24 : List Cond := [Cond.methodLink RX5 193 yX2_append, Cond.instanceMethod yX2_append, Cond.selects RX2 yX2_append yX2_append, Cond.code yX2_append cX2_append 2 none, Cond.methodLink RL 86 yX6_put, Cond.instanceMethod yX6_put, Cond.selects RX6 yX6_put yX6_put, Cond.code yX6_put cX6_put 8 (some .int), Cond.constantLong RX6 156 (255), Cond.constantLong RX6 158 (33), Cond.constantLong RX6 160 (126), Cond.methodLink RL 87 yX5_wipe, Cond.instanceMethod yX5_wipe, Cond.selects RX5 yX5_wipe yX5_wipe, Cond.code yX5_wipe cX5_wipe 2 (some .int), Cond.methodLink RL 90 yX6_wipe, Cond.instanceMethod yX6_wipe, Cond.selects RX6 yX6_wipe yX6_wipe, Cond.code yX6_wipe cX6_wipe 2 (some .int), Cond.methodLink RL 91 yX5_fault, Cond.instanceMethod yX5_fault, Cond.selects RX5 yX5_fault yX5_fault, Cond.code yX5_fault cX5_fault 1 (some .int), Cond.methodLink RL 94 yX6_fault]
def wsL_law_r25 : List Cond := [Cond.methodLink RL 95 yX5_undo, Cond.instanceMethod yX5_undo, Cond.selects RX5 yX5_undo yX5_undo, Cond.code yX5_undo cX5_undo 1 (some .int), Cond.methodLink RX5 196 yX1_giveBack, Cond.instanceMethod yX1_giveBack, Cond.selects RX1 yX1_giveBack yX1_giveBack, Cond.code yX1_giveBack cX1_giveBack 2 none, Cond.methodLink RL 98 yX6_undo, Cond.instanceMethod yX6_undo, Cond.selects RX6 yX6_undo yX6_undo, Cond.code yX6_undo cX6_undo 2 (some .int), Cond.methodLink RL 99 yX5_save, Cond.instanceMethod yX5_save, Cond.selects RX5 yX5_save yX5_save, Cond.code yX5_save cX5_save 2 (some .int), Cond.methodLink RL 102 yX6_save, Cond.instanceMethod yX6_save, Cond.selects RX6 yX6_save yX6_save, Cond.code yX6_save cX6_save 3 (some .int), Cond.methodLink RL 103 yX5_restore, Cond.instanceMethod yX5_restore, Cond.selects RX5 yX5_restore yX5_restore, Cond.code yX5_restore cX5_restore 2 (some .int)]
def wsL_law_r26 : List Cond := [Cond.methodLink RL 106 yX6_restore, Cond.instanceMethod yX6_restore, Cond.selects RX6 yX6_restore yX6_restore, Cond.code yX6_restore cX6_restore 3 (some .int)]
def wsL_law : List Cond := (wsL_law_r1 ++ (wsL_law_r2 ++ (wsL_law_r3 ++ (wsL_law_r4 ++ (wsL_law_r5 ++ (wsL_law_r6 ++ (wsL_law_r7 ++ (wsL_law_r8 ++ (wsL_law_r9 ++ (wsL_law_r10 ++ (wsL_law_r11 ++ (wsL_law_r12 ++ (wsL_law_r13 ++ (wsL_law_r14 ++ (wsL_law_r15 ++ (wsL_law_r16 ++ (wsL_law_r17 ++ (wsL_law_r18 ++ (wsL_law_r19 ++ (wsL_law_r20 ++ (wsL_law_r21 ++ (wsL_law_r22 ++ (wsL_law_r23 ++ (wsL_law_r24 ++ (wsL_law_r25 ++ wsL_law_r26))))))))))))))))))))))))) ++ wsX50 ++ wsX60 ++ wsX30 ++ wsX40 ++ wsX00 ++ wsX20 ++ wsX10 ++ ([] : List Cond)
abbrev vwCl : List vw_C := [(RX0, TX0, 4), (RX1, TX1, 2), (RX2, TX2, 6), (RX3, TX3, 4), (RX4, TX4, 12), (RX5, TX5, 11), (RX6, TX6, 20)]
end
section
theorem zm_r {big : List Cond} (ws : List Cond) (ps : List Nat) (hp : ws = ps.filterMap (fun i => big[i]?)) : ∀ w ∈ ws, w ∈ big := by
  intro w hw
  rw [hp] at hw
  obtain ⟨i, -, hi⟩ := List.mem_filterMap.mp hw
  exact List.mem_of_getElem? hi
set_option maxRecDepth 20000 in
theorem mwsL_law_r1 : ∀ w ∈ wsL_law_r1, w ∈ lw_tbl := zm_r _ [49, 50, 40, 497, 498, 47, 779, 51, 52, 53, 54, 55, 56, 57, 58, 41, 227, 90, 91, 42, 228, 229, 230, 89] rfl
set_option maxRecDepth 20000 in
theorem mwsL_law_r2 : ∀ w ∈ wsL_law_r2, w ∈ lw_tbl := zm_r _ [231, 136, 137, 43, 232, 158, 159, 44, 233, 234, 185, 186, 45, 235, 236, 261, 237, 60, 61, 62, 63, 72, 76, 93] rfl
set_option maxRecDepth 20000 in
theorem mwsL_law_r3 : ∀ w ∈ wsL_law_r3, w ∈ lw_tbl := zm_r _ [94, 95, 98, 100, 102, 104, 105, 106, 110, 139, 140, 141, 148, 161, 162, 163, 184, 164, 187, 188, 189, 190, 191, 194] rfl
set_option maxRecDepth 20000 in
theorem mwsL_law_r4 : ∀ w ∈ wsL_law_r4, w ∈ lw_tbl := zm_r _ [202, 203, 204, 205, 64, 96, 97, 68, 73, 77, 206, 208, 0, 209, 107, 108, 109, 210, 211, 212, 213, 214, 216, 1] rfl
set_option maxRecDepth 20000 in
theorem mwsL_law_r5 : ∀ w ∈ wsL_law_r5, w ∈ lw_tbl := zm_r _ [217, 219, 220, 221, 222, 46, 223, 224, 225, 226, 499, 500, 501, 502, 503, 504, 505, 507, 508, 509, 510, 511, 512, 515] rfl
set_option maxRecDepth 20000 in
theorem mwsL_law_r6 : ∀ w ∈ wsL_law_r6, w ∈ lw_tbl := zm_r _ [516, 519, 520, 262, 263, 264, 265, 66, 266, 267, 268, 269, 67, 270, 271, 272, 273, 195, 274, 276, 2, 277, 278, 279] rfl
set_option maxRecDepth 20000 in
theorem mwsL_law_r7 : ∀ w ∈ wsL_law_r7, w ∈ lw_tbl := zm_r _ [280, 281, 282, 284, 283, 48, 564, 565, 566, 567, 568, 569, 570, 571, 572, 574, 11, 575, 576, 578, 12, 579, 506, 285] rfl
set_option maxRecDepth 20000 in
theorem mwsL_law_r8 : ∀ w ∈ wsL_law_r8, w ∈ lw_tbl := zm_r _ [286, 287, 288, 71, 99, 289, 291, 3, 292, 293, 294, 295, 296, 297, 298, 299, 300, 580, 581, 582, 583, 584, 586, 13] rfl
set_option maxRecDepth 20000 in
theorem mwsL_law_r9 : ∀ w ∈ wsL_law_r9, w ∈ lw_tbl := zm_r _ [587, 588, 590, 14, 591, 592, 594, 15, 595, 596, 598, 16, 599, 514, 513, 600, 602, 17, 603, 604, 606, 18, 607, 608] rfl
set_option maxRecDepth 20000 in
theorem mwsL_law_r10 : ∀ w ∈ wsL_law_r10, w ∈ lw_tbl := zm_r _ [610, 19, 611, 301, 302, 303, 304, 305, 306, 307, 308, 309, 310, 311, 312, 313, 314, 315, 316, 318, 319, 612, 613, 614] rfl
set_option maxRecDepth 20000 in
theorem mwsL_law_r11 : ∀ w ∈ wsL_law_r11, w ∈ lw_tbl := zm_r _ [615, 616, 618, 20, 619, 620, 622, 21, 623, 320, 321, 322, 323, 324, 325, 326, 624, 625, 626, 627, 628, 630, 22, 631] rfl
set_option maxRecDepth 20000 in
theorem mwsL_law_r12 : ∀ w ∈ wsL_law_r12, w ∈ lw_tbl := zm_r _ [632, 634, 23, 635, 327, 328, 329, 330, 79, 636, 637, 638, 639, 331, 332, 333, 334, 75, 166, 335, 336, 337, 338, 69] rfl
set_option maxRecDepth 20000 in
theorem mwsL_law_r13 : ∀ w ∈ wsL_law_r13, w ∈ lw_tbl := zm_r _ [165, 167, 339, 341, 4, 342, 168, 170, 343, 345, 5, 346, 347, 349, 6, 350, 169, 351, 353, 7, 354, 355, 357, 8] rfl
set_option maxRecDepth 20000 in
theorem mwsL_law_r14 : ∀ w ∈ wsL_law_r14, w ∈ lw_tbl := zm_r _ [358, 359, 762, 763, 764, 765, 521, 517, 766, 743, 744, 745, 518, 746, 748, 35, 749, 522, 750, 752, 36, 753, 754, 756] rfl
set_option maxRecDepth 20000 in
theorem mwsL_law_r15 : ∀ w ∈ wsL_law_r15, w ∈ lw_tbl := zm_r _ [37, 757, 758, 760, 38, 761, 360, 361, 362, 363, 101, 364, 365, 366, 367, 368, 369, 370, 371, 640, 641, 642, 643, 644] rfl
set_option maxRecDepth 20000 in
theorem mwsL_law_r16 : ∀ w ∈ wsL_law_r16, w ∈ lw_tbl := zm_r _ [646, 24, 647, 648, 650, 25, 651, 652, 654, 26, 655, 372, 373, 374, 375, 376, 377, 378, 379, 380, 381, 382, 383, 384] rfl
set_option maxRecDepth 20000 in
theorem mwsL_law_r17 : ∀ w ∈ wsL_law_r17, w ∈ lw_tbl := zm_r _ [385, 386, 387, 388, 656, 657, 658, 659, 660, 662, 27, 663, 664, 666, 28, 667, 668, 670, 29, 671, 389, 390, 391, 392] rfl
set_option maxRecDepth 20000 in
theorem mwsL_law_r18 : ∀ w ∈ wsL_law_r18, w ∈ lw_tbl := zm_r _ [103, 196, 393, 394, 395, 396, 672, 673, 674, 675, 676, 678, 30, 679, 397, 398, 399, 400, 401, 402, 403, 404, 406, 407] rfl
set_option maxRecDepth 20000 in
theorem mwsL_law_r19 : ∀ w ∈ wsL_law_r19, w ∈ lw_tbl := zm_r _ [680, 681, 682, 683, 684, 686, 31, 687, 688, 690, 32, 691, 692, 693, 694, 695, 696, 697, 408, 409, 410, 411, 698, 699] rfl
set_option maxRecDepth 20000 in
theorem mwsL_law_r20 : ∀ w ∈ wsL_law_r20, w ∈ lw_tbl := zm_r _ [700, 701, 412, 413, 414, 415, 416, 417, 418, 419, 420, 422, 9, 423, 424, 425, 426, 702, 703, 704, 705, 427, 428, 429] rfl
set_option maxRecDepth 20000 in
theorem mwsL_law_r21 : ∀ w ∈ wsL_law_r21, w ∈ lw_tbl := zm_r _ [430, 143, 145, 147, 431, 432, 433, 434, 142, 144, 146, 65, 435, 437, 10, 438, 70, 74, 440, 441, 442, 78, 443, 706] rfl
set_option maxRecDepth 20000 in
theorem mwsL_law_r22 : ∀ w ∈ wsL_law_r22, w ∈ lw_tbl := zm_r _ [707, 708, 709, 710, 711, 713, 33, 714, 445, 446, 447, 448, 449, 715, 716, 717, 718, 450, 451, 452, 453, 454, 719, 720] rfl
set_option maxRecDepth 20000 in
theorem mwsL_law_r23 : ∀ w ∈ wsL_law_r23, w ∈ lw_tbl := zm_r _ [721, 722, 723, 725, 34, 726, 455, 456, 457, 458, 727, 728, 729, 730, 459, 460, 461, 462, 466, 463, 464, 465, 467, 468] rfl
set_option maxRecDepth 20000 in
theorem mwsL_law_r24 : ∀ w ∈ wsL_law_r24, w ∈ lw_tbl := zm_r _ [469, 470, 471, 472, 731, 732, 733, 734, 735, 736, 737, 473, 474, 475, 476, 738, 739, 740, 741, 477, 478, 479, 480, 742] rfl
set_option maxRecDepth 20000 in
theorem mwsL_law_r25 : ∀ w ∈ wsL_law_r25, w ∈ lw_tbl := zm_r _ [481, 482, 483, 484, 485, 486, 487, 488, 767, 768, 769, 770, 489, 490, 491, 492, 771, 772, 773, 774, 493, 494, 495, 496] rfl
set_option maxRecDepth 20000 in
theorem mwsL_law_r26 : ∀ w ∈ wsL_law_r26, w ∈ lw_tbl := zm_r _ [775, 776, 777, 778] rfl
set_option maxRecDepth 20000 in
theorem mwsX00 : ∀ w ∈ wsX00, w ∈ lw_tbl := zm_r _ [149, 151, 153, 155] rfl
set_option maxRecDepth 20000 in
theorem mwsX10 : ∀ w ∈ wsX10, w ∈ lw_tbl := zm_r _ [197, 199] rfl
set_option maxRecDepth 20000 in
theorem mwsX20 : ∀ w ∈ wsX20, w ∈ lw_tbl := zm_r _ [171, 173, 175, 177, 179, 181] rfl
set_option maxRecDepth 20000 in
theorem mwsX30 : ∀ w ∈ wsX30, w ∈ lw_tbl := zm_r _ [80, 82, 84, 86] rfl
set_option maxRecDepth 20000 in
theorem mwsX40 : ∀ w ∈ wsX40, w ∈ lw_tbl := zm_r _ [111, 113, 115, 117, 119, 121, 123, 125, 127, 129, 131, 133] rfl
set_option maxRecDepth 20000 in
theorem mwsX50 : ∀ w ∈ wsX50, w ∈ lw_tbl := zm_r _ [238, 240, 242, 244, 246, 248, 250, 252, 254, 256, 258] rfl
set_option maxRecDepth 20000 in
theorem mwsX60 : ∀ w ∈ wsX60, w ∈ lw_tbl := zm_r _ [523, 525, 527, 529, 531, 533, 535, 537, 539, 541, 543, 545, 547, 549, 551, 553, 555, 557, 559, 561] rfl
theorem zm_app {big a b : List Cond} (ha : ∀ w ∈ a, w ∈ big) (hb : ∀ w ∈ b, w ∈ big) : ∀ w ∈ a ++ b, w ∈ big := fun w h => (List.mem_append.mp h).elim (ha w) (hb w)
theorem wsL_law_in : ∀ w ∈ wsL_law, w ∈ lw_tbl := zm_app (zm_app (zm_app (zm_app (zm_app (zm_app (zm_app (zm_app (zm_app mwsL_law_r1 (zm_app mwsL_law_r2 (zm_app mwsL_law_r3 (zm_app mwsL_law_r4 (zm_app mwsL_law_r5 (zm_app mwsL_law_r6 (zm_app mwsL_law_r7 (zm_app mwsL_law_r8 (zm_app mwsL_law_r9 (zm_app mwsL_law_r10 (zm_app mwsL_law_r11 (zm_app mwsL_law_r12 (zm_app mwsL_law_r13 (zm_app mwsL_law_r14 (zm_app mwsL_law_r15 (zm_app mwsL_law_r16 (zm_app mwsL_law_r17 (zm_app mwsL_law_r18 (zm_app mwsL_law_r19 (zm_app mwsL_law_r20 (zm_app mwsL_law_r21 (zm_app mwsL_law_r22 (zm_app mwsL_law_r23 (zm_app mwsL_law_r24 (zm_app mwsL_law_r25 (mwsL_law_r26)))))))))))))))))))))))))) mwsX50) mwsX60) mwsX30) mwsX40) mwsX00) mwsX20) mwsX10) (fun _ h => absurd h List.not_mem_nil)
theorem inlX0 : ∀ w ∈ wsX00, w ∈ wsL_law := fun _ h => List.mem_append_left _ (List.mem_append_left _ (List.mem_append_left _ (List.mem_append_right _ h)))
theorem inX0 : ∀ w ∈ wsX00, w ∈ lw_tbl := fun w h => wsL_law_in w (inlX0 w h)
theorem inlX1 : ∀ w ∈ wsX10, w ∈ wsL_law := fun _ h => List.mem_append_left _ (List.mem_append_right _ h)
theorem inX1 : ∀ w ∈ wsX10, w ∈ lw_tbl := fun w h => wsL_law_in w (inlX1 w h)
theorem inlX2 : ∀ w ∈ wsX20, w ∈ wsL_law := fun _ h => List.mem_append_left _ (List.mem_append_left _ (List.mem_append_right _ h))
theorem inX2 : ∀ w ∈ wsX20, w ∈ lw_tbl := fun w h => wsL_law_in w (inlX2 w h)
theorem inlX3 : ∀ w ∈ wsX30, w ∈ wsL_law := fun _ h => List.mem_append_left _ (List.mem_append_left _ (List.mem_append_left _ (List.mem_append_left _ (List.mem_append_left _ (List.mem_append_right _ h)))))
theorem inX3 : ∀ w ∈ wsX30, w ∈ lw_tbl := fun w h => wsL_law_in w (inlX3 w h)
theorem inlX4 : ∀ w ∈ wsX40, w ∈ wsL_law := fun _ h => List.mem_append_left _ (List.mem_append_left _ (List.mem_append_left _ (List.mem_append_left _ (List.mem_append_right _ h))))
theorem inX4 : ∀ w ∈ wsX40, w ∈ lw_tbl := fun w h => wsL_law_in w (inlX4 w h)
theorem inlX5 : ∀ w ∈ wsX50, w ∈ wsL_law := fun _ h => List.mem_append_left _ (List.mem_append_left _ (List.mem_append_left _ (List.mem_append_left _ (List.mem_append_left _ (List.mem_append_left _ (List.mem_append_left _ (List.mem_append_right _ h)))))))
theorem inX5 : ∀ w ∈ wsX50, w ∈ lw_tbl := fun w h => wsL_law_in w (inlX5 w h)
theorem inlX6 : ∀ w ∈ wsX60, w ∈ wsL_law := fun _ h => List.mem_append_left _ (List.mem_append_left _ (List.mem_append_left _ (List.mem_append_left _ (List.mem_append_left _ (List.mem_append_left _ (List.mem_append_right _ h))))))
theorem inX6 : ∀ w ∈ wsX60, w ∈ lw_tbl := fun w h => wsL_law_in w (inlX6 w h)
theorem inJ6 : ∀ w ∈ wsJ60, w ∈ lw_tbl := by decide +kernel
theorem inJ10 : ∀ w ∈ wsJ100, w ∈ lw_tbl := by decide +kernel
end
section
theorem dX0_init_0 : decode cX0_init 0 = .ok (.aload_n 0, 1) := by decide +kernel
theorem dX0_init_1 : decode cX0_init 1 = .ok (.invokespecial 3, 3) := by decide +kernel
theorem dX0_init_4 : decode cX0_init 4 = .ok (.aload_n 0, 1) := by decide +kernel
theorem dX0_init_5 : decode cX0_init 5 = .ok (.bipush 12, 2) := by decide +kernel
theorem dX0_init_7 : decode cX0_init 7 = .ok (.newarray .int, 2) := by decide +kernel
theorem dX0_init_9 : decode cX0_init 9 = .ok (.putfield 9, 3) := by decide +kernel
theorem dX0_init_12 : decode cX0_init 12 = .ok (.return_, 1) := by decide +kernel
set_option maxRecDepth 20000 in
theorem ggX0_find_X0_fillExchanges : GoodIn wsX0_find wsX0_fillExchanges := goodIn_r _ [10, 4, 11, 12, 5, 13, 14, 15, 16, 17, 18, 19, 20, 21, 22, 34, 35, 36, 37, 30, 31, 32, 33] (by decide +kernel) (by decide +kernel)
set_option maxRecDepth 20000 in
theorem gX0_find_X0_fillExchanges : GoodIn wsX0_find (wsV RX0 15 RX0 yX0_fillExchanges wsX0_fillExchanges) := goodIn_app (goodIn_of _ (by decide +kernel)) ggX0_find_X0_fillExchanges
set_option maxRecDepth 20000 in
theorem ggX0_find_X0_brokenByNone : GoodIn wsX0_find wsX0_brokenByNone := goodIn_r _ [25, 11, 26, 34, 35, 36, 37] (by decide +kernel) (by decide +kernel)
set_option maxRecDepth 20000 in
theorem gX0_find_X0_brokenByNone : GoodIn wsX0_find (va_wsS RX0 19 yX0_brokenByNone wsX0_brokenByNone) := goodIn_app (goodIn_of _ (by decide +kernel)) ggX0_find_X0_brokenByNone
set_option maxRecDepth 20000 in
theorem ggX0_find_J6_bitCount_0f7a4 : GoodIn wsX0_find wsJ6_bitCount_0f7a4 := goodIn_r _ [19, 20, 21, 22] (by decide +kernel) (by decide +kernel)
set_option maxRecDepth 20000 in
theorem gX0_find_J6_bitCount_0f7a4 : GoodIn wsX0_find (va_wsS RX0 27 yJ6_bitCount_0f7a4 wsJ6_bitCount_0f7a4) := goodIn_app (goodIn_of _ (by decide +kernel)) ggX0_find_J6_bitCount_0f7a4
set_option maxRecDepth 20000 in
theorem ggX0_find_X5_lowestBit : GoodIn wsX0_find wsX5_lowestBit := goodIn_r _ [29, 16, 17, 18, 19, 20, 21, 22] (by decide +kernel) (by decide +kernel)
set_option maxRecDepth 20000 in
theorem gX0_find_X5_lowestBit_n44 : GoodIn wsX0_find (wsX5_lowestBit) := ggX0_find_X5_lowestBit
theorem dX0_find_0 : decode cX0_find 0 = .ok (.aload_n 0, 1) := by decide +kernel
theorem dX0_find_1 : decode cX0_find 1 = .ok (.aload_n 1, 1) := by decide +kernel
theorem dX0_find_2 : decode cX0_find 2 = .ok (.invokevirtual 15, 3) := by decide +kernel
theorem dX0_find_5 : decode cX0_find 5 = .ok (.aload_n 1, 1) := by decide +kernel
theorem dX0_find_6 : decode cX0_find 6 = .ok (.invokestatic 19, 3) := by decide +kernel
theorem dX0_find_9 : decode cX0_find 9 = .ok (.istore_n 2, 1) := by decide +kernel
theorem dX0_find_10 : decode cX0_find 10 = .ok (.aload_n 0, 1) := by decide +kernel
theorem dX0_find_11 : decode cX0_find 11 = .ok (.iconst 0, 1) := by decide +kernel
theorem dX0_find_12 : decode cX0_find 12 = .ok (.putfield 23, 3) := by decide +kernel
theorem dX0_find_15 : decode cX0_find 15 = .ok (.aload_n 0, 1) := by decide +kernel
theorem dX0_find_16 : decode cX0_find 16 = .ok (.iload_n 2, 1) := by decide +kernel
theorem dX0_find_17 : decode cX0_find 17 = .ok (.invokestatic 27, 3) := by decide +kernel
theorem dX0_find_20 : decode cX0_find 20 = .ok (.putfield 33, 3) := by decide +kernel
theorem dX0_find_23 : decode cX0_find 23 = .ok (.aload_n 0, 1) := by decide +kernel
theorem dX0_find_24 : decode cX0_find 24 = .ok (.iconst 1, 1) := by decide +kernel
theorem dX0_find_25 : decode cX0_find 25 = .ok (.putfield 36, 3) := by decide +kernel
theorem dX0_find_28 : decode cX0_find 28 = .ok (.iconst 1, 1) := by decide +kernel
theorem dX0_find_29 : decode cX0_find 29 = .ok (.aload_n 1, 1) := by decide +kernel
theorem dX0_find_30 : decode cX0_find 30 = .ok (.getfield 39, 3) := by decide +kernel
theorem dX0_find_33 : decode cX0_find 33 = .ok (.ishl, 1) := by decide +kernel
theorem dX0_find_34 : decode cX0_find 34 = .ok (.iconst 1, 1) := by decide +kernel
theorem dX0_find_35 : decode cX0_find 35 = .ok (.isub, 1) := by decide +kernel
theorem dX0_find_36 : decode cX0_find 36 = .ok (.istore_n 3, 1) := by decide +kernel
theorem dX0_find_37 : decode cX0_find 37 = .ok (.iconst 1, 1) := by decide +kernel
theorem dX0_find_38 : decode cX0_find 38 = .ok (.istore 4, 2) := by decide +kernel
theorem dX0_find_40 : decode cX0_find 40 = .ok (.iload 4, 2) := by decide +kernel
theorem dX0_find_42 : decode cX0_find 42 = .ok (.iload_n 3, 1) := by decide +kernel
theorem dX0_find_43 : decode cX0_find 43 = .ok (.if_icmp .gt 76, 3) := by decide +kernel
theorem dX0_find_46 : decode cX0_find 46 = .ok (.iload_n 2, 1) := by decide +kernel
theorem dX0_find_47 : decode cX0_find 47 = .ok (.aload_n 0, 1) := by decide +kernel
theorem dX0_find_48 : decode cX0_find 48 = .ok (.getfield 9, 3) := by decide +kernel
theorem dX0_find_51 : decode cX0_find 51 = .ok (.iload 4, 2) := by decide +kernel
theorem dX0_find_53 : decode cX0_find 53 = .ok (.invokestatic 44, 3) := by decide +kernel
theorem dX0_find_56 : decode cX0_find 56 = .ok (.iaload, 1) := by decide +kernel
theorem dX0_find_57 : decode cX0_find 57 = .ok (.ixor, 1) := by decide +kernel
theorem dX0_find_58 : decode cX0_find 58 = .ok (.istore_n 2, 1) := by decide +kernel
theorem dX0_find_59 : decode cX0_find 59 = .ok (.iload_n 2, 1) := by decide +kernel
theorem dX0_find_60 : decode cX0_find 60 = .ok (.invokestatic 27, 3) := by decide +kernel
theorem dX0_find_63 : decode cX0_find 63 = .ok (.istore 5, 2) := by decide +kernel
theorem dX0_find_65 : decode cX0_find 65 = .ok (.iload 5, 2) := by decide +kernel
theorem dX0_find_67 : decode cX0_find 67 = .ok (.aload_n 0, 1) := by decide +kernel
theorem dX0_find_68 : decode cX0_find 68 = .ok (.getfield 33, 3) := by decide +kernel
theorem dX0_find_71 : decode cX0_find 71 = .ok (.if_icmp .ge 23, 3) := by decide +kernel
theorem dX0_find_74 : decode cX0_find 74 = .ok (.aload_n 0, 1) := by decide +kernel
theorem dX0_find_75 : decode cX0_find 75 = .ok (.iload 4, 2) := by decide +kernel
theorem dX0_find_77 : decode cX0_find 77 = .ok (.putfield 23, 3) := by decide +kernel
theorem dX0_find_80 : decode cX0_find 80 = .ok (.aload_n 0, 1) := by decide +kernel
theorem dX0_find_81 : decode cX0_find 81 = .ok (.iload 5, 2) := by decide +kernel
theorem dX0_find_83 : decode cX0_find 83 = .ok (.putfield 33, 3) := by decide +kernel
theorem dX0_find_86 : decode cX0_find 86 = .ok (.aload_n 0, 1) := by decide +kernel
theorem dX0_find_87 : decode cX0_find 87 = .ok (.iconst 1, 1) := by decide +kernel
theorem dX0_find_88 : decode cX0_find 88 = .ok (.putfield 36, 3) := by decide +kernel
theorem dX0_find_91 : decode cX0_find 91 = .ok (.goto 22, 3) := by decide +kernel
theorem dX0_find_94 : decode cX0_find 94 = .ok (.iload 5, 2) := by decide +kernel
theorem dX0_find_96 : decode cX0_find 96 = .ok (.aload_n 0, 1) := by decide +kernel
theorem dX0_find_97 : decode cX0_find 97 = .ok (.getfield 33, 3) := by decide +kernel
theorem dX0_find_100 : decode cX0_find 100 = .ok (.if_icmp .ne 13, 3) := by decide +kernel
theorem dX0_find_103 : decode cX0_find 103 = .ok (.aload_n 0, 1) := by decide +kernel
theorem dX0_find_104 : decode cX0_find 104 = .ok (.dup, 1) := by decide +kernel
theorem dX0_find_105 : decode cX0_find 105 = .ok (.getfield 36, 3) := by decide +kernel
theorem dX0_find_108 : decode cX0_find 108 = .ok (.iconst 1, 1) := by decide +kernel
theorem dX0_find_109 : decode cX0_find 109 = .ok (.iadd, 1) := by decide +kernel
theorem dX0_find_110 : decode cX0_find 110 = .ok (.putfield 36, 3) := by decide +kernel
theorem dX0_find_113 : decode cX0_find 113 = .ok (.iinc 4 1, 3) := by decide +kernel
theorem dX0_find_116 : decode cX0_find 116 = .ok (.goto (-76), 3) := by decide +kernel
theorem dX0_find_119 : decode cX0_find 119 = .ok (.return_, 1) := by decide +kernel
theorem dX0_brokenByNone_0 : decode cX0_brokenByNone 0 = .ok (.iconst 0, 1) := by decide +kernel
theorem dX0_brokenByNone_1 : decode cX0_brokenByNone 1 = .ok (.istore_n 1, 1) := by decide +kernel
theorem dX0_brokenByNone_2 : decode cX0_brokenByNone 2 = .ok (.iconst 0, 1) := by decide +kernel
theorem dX0_brokenByNone_3 : decode cX0_brokenByNone 3 = .ok (.istore_n 2, 1) := by decide +kernel
theorem dX0_brokenByNone_4 : decode cX0_brokenByNone 4 = .ok (.iload_n 2, 1) := by decide +kernel
theorem dX0_brokenByNone_5 : decode cX0_brokenByNone 5 = .ok (.aload_n 0, 1) := by decide +kernel
theorem dX0_brokenByNone_6 : decode cX0_brokenByNone 6 = .ok (.getfield 47, 3) := by decide +kernel
theorem dX0_brokenByNone_9 : decode cX0_brokenByNone 9 = .ok (.if_icmp .ge 20, 3) := by decide +kernel
theorem dX0_brokenByNone_12 : decode cX0_brokenByNone 12 = .ok (.iload_n 1, 1) := by decide +kernel
theorem dX0_brokenByNone_13 : decode cX0_brokenByNone 13 = .ok (.aload_n 0, 1) := by decide +kernel
theorem dX0_brokenByNone_14 : decode cX0_brokenByNone 14 = .ok (.getfield 50, 3) := by decide +kernel
theorem dX0_brokenByNone_17 : decode cX0_brokenByNone 17 = .ok (.iload_n 2, 1) := by decide +kernel
theorem dX0_brokenByNone_18 : decode cX0_brokenByNone 18 = .ok (.iaload, 1) := by decide +kernel
theorem dX0_brokenByNone_19 : decode cX0_brokenByNone 19 = .ok (.iload_n 2, 1) := by decide +kernel
theorem dX0_brokenByNone_20 : decode cX0_brokenByNone 20 = .ok (.ishl, 1) := by decide +kernel
theorem dX0_brokenByNone_21 : decode cX0_brokenByNone 21 = .ok (.ior, 1) := by decide +kernel
theorem dX0_brokenByNone_22 : decode cX0_brokenByNone 22 = .ok (.istore_n 1, 1) := by decide +kernel
theorem dX0_brokenByNone_23 : decode cX0_brokenByNone 23 = .ok (.iinc 2 1, 3) := by decide +kernel
theorem dX0_brokenByNone_26 : decode cX0_brokenByNone 26 = .ok (.goto (-22), 3) := by decide +kernel
theorem dX0_brokenByNone_29 : decode cX0_brokenByNone 29 = .ok (.iload_n 1, 1) := by decide +kernel
theorem dX0_brokenByNone_30 : decode cX0_brokenByNone 30 = .ok (.ireturn, 1) := by decide +kernel
set_option maxRecDepth 20000 in
theorem ggX0_fillExchanges_X5_parity : GoodIn wsX0_fillExchanges wsX5_parity := goodIn_r _ [7, 8, 9, 10, 11, 12, 13, 14] (by decide +kernel) (by decide +kernel)
set_option maxRecDepth 20000 in
theorem gX0_fillExchanges_X5_parity_n56 : GoodIn wsX0_fillExchanges (wsX5_parity) := ggX0_fillExchanges_X5_parity
theorem dX0_fillExchanges_0 : decode cX0_fillExchanges 0 = .ok (.iconst 0, 1) := by decide +kernel
theorem dX0_fillExchanges_1 : decode cX0_fillExchanges 1 = .ok (.istore_n 2, 1) := by decide +kernel
theorem dX0_fillExchanges_2 : decode cX0_fillExchanges 2 = .ok (.iload_n 2, 1) := by decide +kernel
theorem dX0_fillExchanges_3 : decode cX0_fillExchanges 3 = .ok (.aload_n 1, 1) := by decide +kernel
theorem dX0_fillExchanges_4 : decode cX0_fillExchanges 4 = .ok (.getfield 39, 3) := by decide +kernel
theorem dX0_fillExchanges_7 : decode cX0_fillExchanges 7 = .ok (.if_icmp .ge 64, 3) := by decide +kernel
theorem dX0_fillExchanges_10 : decode cX0_fillExchanges 10 = .ok (.iconst 2, 1) := by decide +kernel
theorem dX0_fillExchanges_11 : decode cX0_fillExchanges 11 = .ok (.iload_n 2, 1) := by decide +kernel
theorem dX0_fillExchanges_12 : decode cX0_fillExchanges 12 = .ok (.ishl, 1) := by decide +kernel
theorem dX0_fillExchanges_13 : decode cX0_fillExchanges 13 = .ok (.iconst 1, 1) := by decide +kernel
theorem dX0_fillExchanges_14 : decode cX0_fillExchanges 14 = .ok (.isub, 1) := by decide +kernel
theorem dX0_fillExchanges_15 : decode cX0_fillExchanges 15 = .ok (.istore_n 3, 1) := by decide +kernel
theorem dX0_fillExchanges_16 : decode cX0_fillExchanges 16 = .ok (.iconst 0, 1) := by decide +kernel
theorem dX0_fillExchanges_17 : decode cX0_fillExchanges 17 = .ok (.istore 4, 2) := by decide +kernel
theorem dX0_fillExchanges_19 : decode cX0_fillExchanges 19 = .ok (.iconst 0, 1) := by decide +kernel
theorem dX0_fillExchanges_20 : decode cX0_fillExchanges 20 = .ok (.istore 5, 2) := by decide +kernel
theorem dX0_fillExchanges_22 : decode cX0_fillExchanges 22 = .ok (.iload 5, 2) := by decide +kernel
theorem dX0_fillExchanges_24 : decode cX0_fillExchanges 24 = .ok (.aload_n 1, 1) := by decide +kernel
theorem dX0_fillExchanges_25 : decode cX0_fillExchanges 25 = .ok (.getfield 47, 3) := by decide +kernel
theorem dX0_fillExchanges_28 : decode cX0_fillExchanges 28 = .ok (.if_icmp .ge 29, 3) := by decide +kernel
theorem dX0_fillExchanges_31 : decode cX0_fillExchanges 31 = .ok (.iload 4, 2) := by decide +kernel
theorem dX0_fillExchanges_33 : decode cX0_fillExchanges 33 = .ok (.aload_n 1, 1) := by decide +kernel
theorem dX0_fillExchanges_34 : decode cX0_fillExchanges 34 = .ok (.getfield 53, 3) := by decide +kernel
theorem dX0_fillExchanges_37 : decode cX0_fillExchanges 37 = .ok (.iload 5, 2) := by decide +kernel
theorem dX0_fillExchanges_39 : decode cX0_fillExchanges 39 = .ok (.iaload, 1) := by decide +kernel
theorem dX0_fillExchanges_40 : decode cX0_fillExchanges 40 = .ok (.iload_n 3, 1) := by decide +kernel
theorem dX0_fillExchanges_41 : decode cX0_fillExchanges 41 = .ok (.iand, 1) := by decide +kernel
theorem dX0_fillExchanges_42 : decode cX0_fillExchanges 42 = .ok (.invokestatic 56, 3) := by decide +kernel
theorem dX0_fillExchanges_45 : decode cX0_fillExchanges 45 = .ok (.iload 5, 2) := by decide +kernel
theorem dX0_fillExchanges_47 : decode cX0_fillExchanges 47 = .ok (.ishl, 1) := by decide +kernel
theorem dX0_fillExchanges_48 : decode cX0_fillExchanges 48 = .ok (.ior, 1) := by decide +kernel
theorem dX0_fillExchanges_49 : decode cX0_fillExchanges 49 = .ok (.istore 4, 2) := by decide +kernel
theorem dX0_fillExchanges_51 : decode cX0_fillExchanges 51 = .ok (.iinc 5 1, 3) := by decide +kernel
theorem dX0_fillExchanges_54 : decode cX0_fillExchanges 54 = .ok (.goto (-32), 3) := by decide +kernel
theorem dX0_fillExchanges_57 : decode cX0_fillExchanges 57 = .ok (.aload_n 0, 1) := by decide +kernel
theorem dX0_fillExchanges_58 : decode cX0_fillExchanges 58 = .ok (.getfield 9, 3) := by decide +kernel
theorem dX0_fillExchanges_61 : decode cX0_fillExchanges 61 = .ok (.iload_n 2, 1) := by decide +kernel
theorem dX0_fillExchanges_62 : decode cX0_fillExchanges 62 = .ok (.iload 4, 2) := by decide +kernel
theorem dX0_fillExchanges_64 : decode cX0_fillExchanges 64 = .ok (.iastore, 1) := by decide +kernel
theorem dX0_fillExchanges_65 : decode cX0_fillExchanges 65 = .ok (.iinc 2 1, 3) := by decide +kernel
theorem dX0_fillExchanges_68 : decode cX0_fillExchanges 68 = .ok (.goto (-66), 3) := by decide +kernel
theorem dX0_fillExchanges_71 : decode cX0_fillExchanges 71 = .ok (.return_, 1) := by decide +kernel
set_option maxRecDepth 20000 in
theorem ggX1_init_X3_init : GoodIn wsX1_init wsX3_init := goodIn_r _ [9, 10, 2, 3, 11, 12, 13, 14, 17, 18, 19, 20] (by decide +kernel) (by decide +kernel)
set_option maxRecDepth 20000 in
theorem gX1_init_X3_init_n17 : GoodIn wsX1_init (wsX3_init) := ggX1_init_X3_init
theorem dX1_init_0 : decode cX1_init 0 = .ok (.aload_n 0, 1) := by decide +kernel
theorem dX1_init_1 : decode cX1_init 1 = .ok (.invokespecial 3, 3) := by decide +kernel
theorem dX1_init_4 : decode cX1_init 4 = .ok (.aload_n 0, 1) := by decide +kernel
theorem dX1_init_5 : decode cX1_init 5 = .ok (.bipush 6, 2) := by decide +kernel
theorem dX1_init_7 : decode cX1_init 7 = .ok (.anewarray 9, 3) := by decide +kernel
theorem dX1_init_10 : decode cX1_init 10 = .ok (.putfield 11, 3) := by decide +kernel
theorem dX1_init_13 : decode cX1_init 13 = .ok (.iconst 0, 1) := by decide +kernel
theorem dX1_init_14 : decode cX1_init 14 = .ok (.istore_n 1, 1) := by decide +kernel
theorem dX1_init_15 : decode cX1_init 15 = .ok (.iload_n 1, 1) := by decide +kernel
theorem dX1_init_16 : decode cX1_init 16 = .ok (.bipush 6, 2) := by decide +kernel
theorem dX1_init_18 : decode cX1_init 18 = .ok (.if_icmp .ge 22, 3) := by decide +kernel
theorem dX1_init_21 : decode cX1_init 21 = .ok (.aload_n 0, 1) := by decide +kernel
theorem dX1_init_22 : decode cX1_init 22 = .ok (.getfield 11, 3) := by decide +kernel
theorem dX1_init_25 : decode cX1_init 25 = .ok (.iload_n 1, 1) := by decide +kernel
theorem dX1_init_26 : decode cX1_init 26 = .ok (.new 9, 3) := by decide +kernel
theorem dX1_init_29 : decode cX1_init 29 = .ok (.dup, 1) := by decide +kernel
theorem dX1_init_30 : decode cX1_init 30 = .ok (.invokespecial 17, 3) := by decide +kernel
theorem dX1_init_33 : decode cX1_init 33 = .ok (.aastore, 1) := by decide +kernel
theorem dX1_init_34 : decode cX1_init 34 = .ok (.iinc 1 1, 3) := by decide +kernel
theorem dX1_init_37 : decode cX1_init 37 = .ok (.goto (-22), 3) := by decide +kernel
theorem dX1_init_40 : decode cX1_init 40 = .ok (.return_, 1) := by decide +kernel
set_option maxRecDepth 20000 in
theorem ggX1_remember_X1_dropOldest : GoodIn wsX1_remember wsX1_dropOldest := goodIn_r _ [7, 2, 1, 21, 22] (by decide +kernel) (by decide +kernel)
set_option maxRecDepth 20000 in
theorem gX1_remember_X1_dropOldest : GoodIn wsX1_remember (wsV RX1 22 RX1 yX1_dropOldest wsX1_dropOldest) := goodIn_app (goodIn_of _ (by decide +kernel)) ggX1_remember_X1_dropOldest
set_option maxRecDepth 20000 in
theorem ggX1_remember_X3_become : GoodIn wsX1_remember wsX3_become := goodIn_r _ [12, 13, 14, 15, 16, 17, 18, 19, 20, 23, 24, 25, 26] (by decide +kernel) (by decide +kernel)
set_option maxRecDepth 20000 in
theorem gX1_remember_X3_become : GoodIn wsX1_remember (wsV RX1 25 RX3 yX3_become wsX3_become) := goodIn_app (goodIn_of _ (by decide +kernel)) ggX1_remember_X3_become
theorem dX1_remember_0 : decode cX1_remember 0 = .ok (.aload_n 0, 1) := by decide +kernel
theorem dX1_remember_1 : decode cX1_remember 1 = .ok (.getfield 18, 3) := by decide +kernel
theorem dX1_remember_4 : decode cX1_remember 4 = .ok (.bipush 6, 2) := by decide +kernel
theorem dX1_remember_6 : decode cX1_remember 6 = .ok (.if_icmp .lt 7, 3) := by decide +kernel
theorem dX1_remember_9 : decode cX1_remember 9 = .ok (.aload_n 0, 1) := by decide +kernel
theorem dX1_remember_10 : decode cX1_remember 10 = .ok (.invokevirtual 22, 3) := by decide +kernel
theorem dX1_remember_13 : decode cX1_remember 13 = .ok (.aload_n 0, 1) := by decide +kernel
theorem dX1_remember_14 : decode cX1_remember 14 = .ok (.getfield 11, 3) := by decide +kernel
theorem dX1_remember_17 : decode cX1_remember 17 = .ok (.aload_n 0, 1) := by decide +kernel
theorem dX1_remember_18 : decode cX1_remember 18 = .ok (.getfield 18, 3) := by decide +kernel
theorem dX1_remember_21 : decode cX1_remember 21 = .ok (.aaload, 1) := by decide +kernel
theorem dX1_remember_22 : decode cX1_remember 22 = .ok (.aload_n 1, 1) := by decide +kernel
theorem dX1_remember_23 : decode cX1_remember 23 = .ok (.invokevirtual 25, 3) := by decide +kernel
theorem dX1_remember_26 : decode cX1_remember 26 = .ok (.aload_n 0, 1) := by decide +kernel
theorem dX1_remember_27 : decode cX1_remember 27 = .ok (.dup, 1) := by decide +kernel
theorem dX1_remember_28 : decode cX1_remember 28 = .ok (.getfield 18, 3) := by decide +kernel
theorem dX1_remember_31 : decode cX1_remember 31 = .ok (.iconst 1, 1) := by decide +kernel
theorem dX1_remember_32 : decode cX1_remember 32 = .ok (.iadd, 1) := by decide +kernel
theorem dX1_remember_33 : decode cX1_remember 33 = .ok (.putfield 18, 3) := by decide +kernel
theorem dX1_remember_36 : decode cX1_remember 36 = .ok (.return_, 1) := by decide +kernel
theorem dX1_dropOldest_0 : decode cX1_dropOldest 0 = .ok (.aload_n 0, 1) := by decide +kernel
theorem dX1_dropOldest_1 : decode cX1_dropOldest 1 = .ok (.getfield 11, 3) := by decide +kernel
theorem dX1_dropOldest_4 : decode cX1_dropOldest 4 = .ok (.iconst 0, 1) := by decide +kernel
theorem dX1_dropOldest_5 : decode cX1_dropOldest 5 = .ok (.aaload, 1) := by decide +kernel
theorem dX1_dropOldest_6 : decode cX1_dropOldest 6 = .ok (.astore_n 1, 1) := by decide +kernel
theorem dX1_dropOldest_7 : decode cX1_dropOldest 7 = .ok (.iconst 1, 1) := by decide +kernel
theorem dX1_dropOldest_8 : decode cX1_dropOldest 8 = .ok (.istore_n 2, 1) := by decide +kernel
theorem dX1_dropOldest_9 : decode cX1_dropOldest 9 = .ok (.iload_n 2, 1) := by decide +kernel
theorem dX1_dropOldest_10 : decode cX1_dropOldest 10 = .ok (.bipush 6, 2) := by decide +kernel
theorem dX1_dropOldest_12 : decode cX1_dropOldest 12 = .ok (.if_icmp .ge 23, 3) := by decide +kernel
theorem dX1_dropOldest_15 : decode cX1_dropOldest 15 = .ok (.aload_n 0, 1) := by decide +kernel
theorem dX1_dropOldest_16 : decode cX1_dropOldest 16 = .ok (.getfield 11, 3) := by decide +kernel
theorem dX1_dropOldest_19 : decode cX1_dropOldest 19 = .ok (.iload_n 2, 1) := by decide +kernel
theorem dX1_dropOldest_20 : decode cX1_dropOldest 20 = .ok (.iconst 1, 1) := by decide +kernel
theorem dX1_dropOldest_21 : decode cX1_dropOldest 21 = .ok (.isub, 1) := by decide +kernel
theorem dX1_dropOldest_22 : decode cX1_dropOldest 22 = .ok (.aload_n 0, 1) := by decide +kernel
theorem dX1_dropOldest_23 : decode cX1_dropOldest 23 = .ok (.getfield 11, 3) := by decide +kernel
theorem dX1_dropOldest_26 : decode cX1_dropOldest 26 = .ok (.iload_n 2, 1) := by decide +kernel
theorem dX1_dropOldest_27 : decode cX1_dropOldest 27 = .ok (.aaload, 1) := by decide +kernel
theorem dX1_dropOldest_28 : decode cX1_dropOldest 28 = .ok (.aastore, 1) := by decide +kernel
theorem dX1_dropOldest_29 : decode cX1_dropOldest 29 = .ok (.iinc 2 1, 3) := by decide +kernel
theorem dX1_dropOldest_32 : decode cX1_dropOldest 32 = .ok (.goto (-23), 3) := by decide +kernel
theorem dX1_dropOldest_35 : decode cX1_dropOldest 35 = .ok (.aload_n 0, 1) := by decide +kernel
theorem dX1_dropOldest_36 : decode cX1_dropOldest 36 = .ok (.getfield 11, 3) := by decide +kernel
theorem dX1_dropOldest_39 : decode cX1_dropOldest 39 = .ok (.iconst 5, 1) := by decide +kernel
theorem dX1_dropOldest_40 : decode cX1_dropOldest 40 = .ok (.aload_n 1, 1) := by decide +kernel
theorem dX1_dropOldest_41 : decode cX1_dropOldest 41 = .ok (.aastore, 1) := by decide +kernel
theorem dX1_dropOldest_42 : decode cX1_dropOldest 42 = .ok (.aload_n 0, 1) := by decide +kernel
theorem dX1_dropOldest_43 : decode cX1_dropOldest 43 = .ok (.iconst 5, 1) := by decide +kernel
theorem dX1_dropOldest_44 : decode cX1_dropOldest 44 = .ok (.putfield 18, 3) := by decide +kernel
theorem dX1_dropOldest_47 : decode cX1_dropOldest 47 = .ok (.return_, 1) := by decide +kernel
set_option maxRecDepth 20000 in
theorem ggX1_giveBack_X3_become : GoodIn wsX1_giveBack wsX3_become := goodIn_r _ [7, 8, 9, 10, 11, 12, 13, 14, 15, 18, 19, 20, 21] (by decide +kernel) (by decide +kernel)
set_option maxRecDepth 20000 in
theorem gX1_giveBack_X3_become : GoodIn wsX1_giveBack (wsV RX1 25 RX3 yX3_become wsX3_become) := goodIn_app (goodIn_of _ (by decide +kernel)) ggX1_giveBack_X3_become
theorem dX1_giveBack_0 : decode cX1_giveBack 0 = .ok (.aload_n 0, 1) := by decide +kernel
theorem dX1_giveBack_1 : decode cX1_giveBack 1 = .ok (.getfield 18, 3) := by decide +kernel
theorem dX1_giveBack_4 : decode cX1_giveBack 4 = .ok (.ifCond .le 26, 3) := by decide +kernel
theorem dX1_giveBack_7 : decode cX1_giveBack 7 = .ok (.aload_n 0, 1) := by decide +kernel
theorem dX1_giveBack_8 : decode cX1_giveBack 8 = .ok (.dup, 1) := by decide +kernel
theorem dX1_giveBack_9 : decode cX1_giveBack 9 = .ok (.getfield 18, 3) := by decide +kernel
theorem dX1_giveBack_12 : decode cX1_giveBack 12 = .ok (.iconst 1, 1) := by decide +kernel
theorem dX1_giveBack_13 : decode cX1_giveBack 13 = .ok (.isub, 1) := by decide +kernel
theorem dX1_giveBack_14 : decode cX1_giveBack 14 = .ok (.putfield 18, 3) := by decide +kernel
theorem dX1_giveBack_17 : decode cX1_giveBack 17 = .ok (.aload_n 1, 1) := by decide +kernel
theorem dX1_giveBack_18 : decode cX1_giveBack 18 = .ok (.aload_n 0, 1) := by decide +kernel
theorem dX1_giveBack_19 : decode cX1_giveBack 19 = .ok (.getfield 11, 3) := by decide +kernel
theorem dX1_giveBack_22 : decode cX1_giveBack 22 = .ok (.aload_n 0, 1) := by decide +kernel
theorem dX1_giveBack_23 : decode cX1_giveBack 23 = .ok (.getfield 18, 3) := by decide +kernel
theorem dX1_giveBack_26 : decode cX1_giveBack 26 = .ok (.aaload, 1) := by decide +kernel
theorem dX1_giveBack_27 : decode cX1_giveBack 27 = .ok (.invokevirtual 25, 3) := by decide +kernel
theorem dX1_giveBack_30 : decode cX1_giveBack 30 = .ok (.return_, 1) := by decide +kernel
theorem dX2_init_0 : decode cX2_init 0 = .ok (.aload_n 0, 1) := by decide +kernel
theorem dX2_init_1 : decode cX2_init 1 = .ok (.invokespecial 3, 3) := by decide +kernel
theorem dX2_init_4 : decode cX2_init 4 = .ok (.aload_n 0, 1) := by decide +kernel
theorem dX2_init_5 : decode cX2_init 5 = .ok (.bipush 80, 2) := by decide +kernel
theorem dX2_init_7 : decode cX2_init 7 = .ok (.newarray .char, 2) := by decide +kernel
theorem dX2_init_9 : decode cX2_init 9 = .ok (.putfield 9, 3) := by decide +kernel
theorem dX2_init_12 : decode cX2_init 12 = .ok (.return_, 1) := by decide +kernel
theorem dX2_append_0 : decode cX2_append 0 = .ok (.aload_n 0, 1) := by decide +kernel
theorem dX2_append_1 : decode cX2_append 1 = .ok (.getfield 15, 3) := by decide +kernel
theorem dX2_append_4 : decode cX2_append 4 = .ok (.bipush 80, 2) := by decide +kernel
theorem dX2_append_6 : decode cX2_append 6 = .ok (.if_icmp .ge 23, 3) := by decide +kernel
theorem dX2_append_9 : decode cX2_append 9 = .ok (.aload_n 0, 1) := by decide +kernel
theorem dX2_append_10 : decode cX2_append 10 = .ok (.getfield 9, 3) := by decide +kernel
theorem dX2_append_13 : decode cX2_append 13 = .ok (.aload_n 0, 1) := by decide +kernel
theorem dX2_append_14 : decode cX2_append 14 = .ok (.getfield 15, 3) := by decide +kernel
theorem dX2_append_17 : decode cX2_append 17 = .ok (.iload_n 1, 1) := by decide +kernel
theorem dX2_append_18 : decode cX2_append 18 = .ok (.castore, 1) := by decide +kernel
theorem dX2_append_19 : decode cX2_append 19 = .ok (.aload_n 0, 1) := by decide +kernel
theorem dX2_append_20 : decode cX2_append 20 = .ok (.dup, 1) := by decide +kernel
theorem dX2_append_21 : decode cX2_append 21 = .ok (.getfield 15, 3) := by decide +kernel
theorem dX2_append_24 : decode cX2_append 24 = .ok (.iconst 1, 1) := by decide +kernel
theorem dX2_append_25 : decode cX2_append 25 = .ok (.iadd, 1) := by decide +kernel
theorem dX2_append_26 : decode cX2_append 26 = .ok (.putfield 15, 3) := by decide +kernel
theorem dX2_append_29 : decode cX2_append 29 = .ok (.return_, 1) := by decide +kernel
set_option maxRecDepth 20000 in
theorem ggX2_readInto_X2_startRule : GoodIn wsX2_readInto wsX2_startRule := goodIn_r _ [9, 4, 10, 11, 41, 42, 43, 44, 45, 46] (by decide +kernel) (by decide +kernel)
set_option maxRecDepth 20000 in
theorem gX2_readInto_X2_startRule : GoodIn wsX2_readInto (wsV RX2 24 RX2 yX2_startRule wsX2_startRule) := goodIn_app (goodIn_of _ (by decide +kernel)) ggX2_readInto_X2_startRule
set_option maxRecDepth 20000 in
theorem ggX2_readInto_X2_canStand : GoodIn wsX2_readInto wsX2_canStand := goodIn_r _ [15, 4, 16, 17, 18, 8, 19, 10, 20, 21, 22, 23, 24, 11, 25, 26, 27, 28, 29, 30, 31, 32, 33, 34, 35, 36, 5, 6, 7, 9, 41, 42, 43, 44, 45, 46, 37, 38, 39, 40] (by decide +kernel) (by decide +kernel)
set_option maxRecDepth 20000 in
theorem gX2_readInto_X2_canStand : GoodIn wsX2_readInto (wsV RX2 27 RX2 yX2_canStand wsX2_canStand) := goodIn_app (goodIn_of _ (by decide +kernel)) ggX2_readInto_X2_canStand
theorem dX2_readInto_0 : decode cX2_readInto 0 = .ok (.aload_n 1, 1) := by decide +kernel
theorem dX2_readInto_1 : decode cX2_readInto 1 = .ok (.iconst 0, 1) := by decide +kernel
theorem dX2_readInto_2 : decode cX2_readInto 2 = .ok (.putfield 19, 3) := by decide +kernel
theorem dX2_readInto_5 : decode cX2_readInto 5 = .ok (.aload_n 0, 1) := by decide +kernel
theorem dX2_readInto_6 : decode cX2_readInto 6 = .ok (.invokevirtual 24, 3) := by decide +kernel
theorem dX2_readInto_9 : decode cX2_readInto 9 = .ok (.iconst 0, 1) := by decide +kernel
theorem dX2_readInto_10 : decode cX2_readInto 10 = .ok (.istore_n 2, 1) := by decide +kernel
theorem dX2_readInto_11 : decode cX2_readInto 11 = .ok (.iload_n 2, 1) := by decide +kernel
theorem dX2_readInto_12 : decode cX2_readInto 12 = .ok (.aload_n 0, 1) := by decide +kernel
theorem dX2_readInto_13 : decode cX2_readInto 13 = .ok (.getfield 15, 3) := by decide +kernel
theorem dX2_readInto_16 : decode cX2_readInto 16 = .ok (.if_icmp .ge 25, 3) := by decide +kernel
theorem dX2_readInto_19 : decode cX2_readInto 19 = .ok (.aload_n 0, 1) := by decide +kernel
theorem dX2_readInto_20 : decode cX2_readInto 20 = .ok (.aload_n 0, 1) := by decide +kernel
theorem dX2_readInto_21 : decode cX2_readInto 21 = .ok (.getfield 9, 3) := by decide +kernel
theorem dX2_readInto_24 : decode cX2_readInto 24 = .ok (.iload_n 2, 1) := by decide +kernel
theorem dX2_readInto_25 : decode cX2_readInto 25 = .ok (.caload, 1) := by decide +kernel
theorem dX2_readInto_26 : decode cX2_readInto 26 = .ok (.aload_n 1, 1) := by decide +kernel
theorem dX2_readInto_27 : decode cX2_readInto 27 = .ok (.invokevirtual 27, 3) := by decide +kernel
theorem dX2_readInto_30 : decode cX2_readInto 30 = .ok (.ifCond .ne 5, 3) := by decide +kernel
theorem dX2_readInto_33 : decode cX2_readInto 33 = .ok (.iload_n 2, 1) := by decide +kernel
theorem dX2_readInto_34 : decode cX2_readInto 34 = .ok (.ireturn, 1) := by decide +kernel
theorem dX2_readInto_35 : decode cX2_readInto 35 = .ok (.iinc 2 1, 3) := by decide +kernel
theorem dX2_readInto_38 : decode cX2_readInto 38 = .ok (.goto (-27), 3) := by decide +kernel
theorem dX2_readInto_41 : decode cX2_readInto 41 = .ok (.aload_n 0, 1) := by decide +kernel
theorem dX2_readInto_42 : decode cX2_readInto 42 = .ok (.getfield 31, 3) := by decide +kernel
theorem dX2_readInto_45 : decode cX2_readInto 45 = .ok (.iconst 3, 1) := by decide +kernel
theorem dX2_readInto_46 : decode cX2_readInto 46 = .ok (.if_icmp .ne 8, 3) := by decide +kernel
theorem dX2_readInto_49 : decode cX2_readInto 49 = .ok (.bipush (-6), 2) := by decide +kernel
theorem dX2_readInto_51 : decode cX2_readInto 51 = .ok (.goto 7, 3) := by decide +kernel
theorem dX2_readInto_54 : decode cX2_readInto 54 = .ok (.aload_n 0, 1) := by decide +kernel
theorem dX2_readInto_55 : decode cX2_readInto 55 = .ok (.getfield 15, 3) := by decide +kernel
theorem dX2_readInto_58 : decode cX2_readInto 58 = .ok (.ireturn, 1) := by decide +kernel
theorem dX2_startRule_0 : decode cX2_startRule 0 = .ok (.aload_n 0, 1) := by decide +kernel
theorem dX2_startRule_1 : decode cX2_startRule 1 = .ok (.iconst 0, 1) := by decide +kernel
theorem dX2_startRule_2 : decode cX2_startRule 2 = .ok (.putfield 31, 3) := by decide +kernel
theorem dX2_startRule_5 : decode cX2_startRule 5 = .ok (.aload_n 0, 1) := by decide +kernel
theorem dX2_startRule_6 : decode cX2_startRule 6 = .ok (.iconst (-1), 1) := by decide +kernel
theorem dX2_startRule_7 : decode cX2_startRule 7 = .ok (.putfield 34, 3) := by decide +kernel
theorem dX2_startRule_10 : decode cX2_startRule 10 = .ok (.aload_n 0, 1) := by decide +kernel
theorem dX2_startRule_11 : decode cX2_startRule 11 = .ok (.iconst 0, 1) := by decide +kernel
theorem dX2_startRule_12 : decode cX2_startRule 12 = .ok (.putfield 37, 3) := by decide +kernel
theorem dX2_startRule_15 : decode cX2_startRule 15 = .ok (.return_, 1) := by decide +kernel
set_option maxRecDepth 20000 in
theorem ggX2_canStand_X2_canStartChoice : GoodIn wsX2_canStand wsX2_canStartChoice := goodIn_r _ [6, 7, 8, 1, 30, 31, 32, 33, 34, 35] (by decide +kernel) (by decide +kernel)
set_option maxRecDepth 20000 in
theorem gX2_canStand_X2_canStartChoice : GoodIn wsX2_canStand (wsV RX2 40 RX2 yX2_canStartChoice wsX2_canStartChoice) := goodIn_app (goodIn_of _ (by decide +kernel)) ggX2_canStand_X2_canStartChoice
set_option maxRecDepth 20000 in
theorem ggX2_canStand_X2_canStandInChoice : GoodIn wsX2_canStand wsX2_canStandInChoice := goodIn_r _ [12, 8, 7, 13, 1, 30, 31, 32, 33, 34, 35] (by decide +kernel) (by decide +kernel)
set_option maxRecDepth 20000 in
theorem gX2_canStand_X2_canStandInChoice : GoodIn wsX2_canStand (wsV RX2 44 RX2 yX2_canStandInChoice wsX2_canStandInChoice) := goodIn_app (goodIn_of _ (by decide +kernel)) ggX2_canStand_X2_canStandInChoice
set_option maxRecDepth 20000 in
theorem ggX2_canStand_X2_canBeSum : GoodIn wsX2_canStand wsX2_canBeSum := goodIn_r _ [17, 13, 1, 18, 19, 20, 21, 22, 23, 24, 25, 30, 31, 32, 33, 34, 35, 36, 37, 38, 39] (by decide +kernel) (by decide +kernel)
set_option maxRecDepth 20000 in
theorem gX2_canStand_X2_canBeSum : GoodIn wsX2_canStand (wsV RX2 47 RX2 yX2_canBeSum wsX2_canBeSum) := goodIn_app (goodIn_of _ (by decide +kernel)) ggX2_canStand_X2_canBeSum
set_option maxRecDepth 20000 in
theorem ggX2_canStand_X2_startRule : GoodIn wsX2_canStand wsX2_startRule := goodIn_r _ [29, 1, 7, 13, 30, 31, 32, 33, 34, 35] (by decide +kernel) (by decide +kernel)
set_option maxRecDepth 20000 in
theorem gX2_canStand_X2_startRule : GoodIn wsX2_canStand (wsV RX2 24 RX2 yX2_startRule wsX2_startRule) := goodIn_app (goodIn_of _ (by decide +kernel)) ggX2_canStand_X2_startRule
theorem dX2_canStand_0 : decode cX2_canStand 0 = .ok (.aload_n 0, 1) := by decide +kernel
theorem dX2_canStand_1 : decode cX2_canStand 1 = .ok (.getfield 31, 3) := by decide +kernel
theorem dX2_canStand_4 : decode cX2_canStand 4 = .ok (.tableswitch 47 0 2 #[28, 34, 40], 28) := by decide +kernel
theorem dX2_canStand_32 : decode cX2_canStand 32 = .ok (.aload_n 0, 1) := by decide +kernel
theorem dX2_canStand_33 : decode cX2_canStand 33 = .ok (.iload_n 1, 1) := by decide +kernel
theorem dX2_canStand_34 : decode cX2_canStand 34 = .ok (.invokevirtual 40, 3) := by decide +kernel
theorem dX2_canStand_37 : decode cX2_canStand 37 = .ok (.ireturn, 1) := by decide +kernel
theorem dX2_canStand_38 : decode cX2_canStand 38 = .ok (.aload_n 0, 1) := by decide +kernel
theorem dX2_canStand_39 : decode cX2_canStand 39 = .ok (.iload_n 1, 1) := by decide +kernel
theorem dX2_canStand_40 : decode cX2_canStand 40 = .ok (.invokevirtual 44, 3) := by decide +kernel
theorem dX2_canStand_43 : decode cX2_canStand 43 = .ok (.ireturn, 1) := by decide +kernel
theorem dX2_canStand_44 : decode cX2_canStand 44 = .ok (.aload_n 0, 1) := by decide +kernel
theorem dX2_canStand_45 : decode cX2_canStand 45 = .ok (.iload_n 1, 1) := by decide +kernel
theorem dX2_canStand_46 : decode cX2_canStand 46 = .ok (.aload_n 2, 1) := by decide +kernel
theorem dX2_canStand_47 : decode cX2_canStand 47 = .ok (.invokevirtual 47, 3) := by decide +kernel
theorem dX2_canStand_50 : decode cX2_canStand 50 = .ok (.ireturn, 1) := by decide +kernel
theorem dX2_canStand_51 : decode cX2_canStand 51 = .ok (.iload_n 1, 1) := by decide +kernel
theorem dX2_canStand_52 : decode cX2_canStand 52 = .ok (.bipush 59, 2) := by decide +kernel
theorem dX2_canStand_54 : decode cX2_canStand 54 = .ok (.if_icmp .eq 5, 3) := by decide +kernel
theorem dX2_canStand_57 : decode cX2_canStand 57 = .ok (.iconst 0, 1) := by decide +kernel
theorem dX2_canStand_58 : decode cX2_canStand 58 = .ok (.ireturn, 1) := by decide +kernel
theorem dX2_canStand_59 : decode cX2_canStand 59 = .ok (.aload_n 0, 1) := by decide +kernel
theorem dX2_canStand_60 : decode cX2_canStand 60 = .ok (.invokevirtual 24, 3) := by decide +kernel
theorem dX2_canStand_63 : decode cX2_canStand 63 = .ok (.iconst 1, 1) := by decide +kernel
theorem dX2_canStand_64 : decode cX2_canStand 64 = .ok (.ireturn, 1) := by decide +kernel
theorem dX2_canStartChoice_0 : decode cX2_canStartChoice 0 = .ok (.iload_n 1, 1) := by decide +kernel
theorem dX2_canStartChoice_1 : decode cX2_canStartChoice 1 = .ok (.bipush 48, 2) := by decide +kernel
theorem dX2_canStartChoice_3 : decode cX2_canStartChoice 3 = .ok (.if_icmp .lt 9, 3) := by decide +kernel
theorem dX2_canStartChoice_6 : decode cX2_canStartChoice 6 = .ok (.iload_n 1, 1) := by decide +kernel
theorem dX2_canStartChoice_7 : decode cX2_canStartChoice 7 = .ok (.bipush 57, 2) := by decide +kernel
theorem dX2_canStartChoice_9 : decode cX2_canStartChoice 9 = .ok (.if_icmp .le 5, 3) := by decide +kernel
theorem dX2_canStartChoice_12 : decode cX2_canStartChoice 12 = .ok (.iconst 0, 1) := by decide +kernel
theorem dX2_canStartChoice_13 : decode cX2_canStartChoice 13 = .ok (.ireturn, 1) := by decide +kernel
theorem dX2_canStartChoice_14 : decode cX2_canStartChoice 14 = .ok (.iload_n 1, 1) := by decide +kernel
theorem dX2_canStartChoice_15 : decode cX2_canStartChoice 15 = .ok (.bipush 48, 2) := by decide +kernel
theorem dX2_canStartChoice_17 : decode cX2_canStartChoice 17 = .ok (.isub, 1) := by decide +kernel
theorem dX2_canStartChoice_18 : decode cX2_canStartChoice 18 = .ok (.istore_n 2, 1) := by decide +kernel
theorem dX2_canStartChoice_19 : decode cX2_canStartChoice 19 = .ok (.iload_n 2, 1) := by decide +kernel
theorem dX2_canStartChoice_20 : decode cX2_canStartChoice 20 = .ok (.iconst 1, 1) := by decide +kernel
theorem dX2_canStartChoice_21 : decode cX2_canStartChoice 21 = .ok (.if_icmp .ne 8, 3) := by decide +kernel
theorem dX2_canStartChoice_24 : decode cX2_canStartChoice 24 = .ok (.bipush 11, 2) := by decide +kernel
theorem dX2_canStartChoice_26 : decode cX2_canStartChoice 26 = .ok (.goto 4, 3) := by decide +kernel
theorem dX2_canStartChoice_29 : decode cX2_canStartChoice 29 = .ok (.iload_n 2, 1) := by decide +kernel
theorem dX2_canStartChoice_30 : decode cX2_canStartChoice 30 = .ok (.istore_n 3, 1) := by decide +kernel
theorem dX2_canStartChoice_31 : decode cX2_canStartChoice 31 = .ok (.iload_n 3, 1) := by decide +kernel
theorem dX2_canStartChoice_32 : decode cX2_canStartChoice 32 = .ok (.aload_n 0, 1) := by decide +kernel
theorem dX2_canStartChoice_33 : decode cX2_canStartChoice 33 = .ok (.getfield 34, 3) := by decide +kernel
theorem dX2_canStartChoice_36 : decode cX2_canStartChoice 36 = .ok (.if_icmp .gt 5, 3) := by decide +kernel
theorem dX2_canStartChoice_39 : decode cX2_canStartChoice 39 = .ok (.iconst 0, 1) := by decide +kernel
theorem dX2_canStartChoice_40 : decode cX2_canStartChoice 40 = .ok (.ireturn, 1) := by decide +kernel
theorem dX2_canStartChoice_41 : decode cX2_canStartChoice 41 = .ok (.aload_n 0, 1) := by decide +kernel
theorem dX2_canStartChoice_42 : decode cX2_canStartChoice 42 = .ok (.iload_n 2, 1) := by decide +kernel
theorem dX2_canStartChoice_43 : decode cX2_canStartChoice 43 = .ok (.putfield 50, 3) := by decide +kernel
theorem dX2_canStartChoice_46 : decode cX2_canStartChoice 46 = .ok (.aload_n 0, 1) := by decide +kernel
theorem dX2_canStartChoice_47 : decode cX2_canStartChoice 47 = .ok (.iconst 1, 1) := by decide +kernel
theorem dX2_canStartChoice_48 : decode cX2_canStartChoice 48 = .ok (.putfield 31, 3) := by decide +kernel
theorem dX2_canStartChoice_51 : decode cX2_canStartChoice 51 = .ok (.iconst 1, 1) := by decide +kernel
theorem dX2_canStartChoice_52 : decode cX2_canStartChoice 52 = .ok (.ireturn, 1) := by decide +kernel
theorem dX2_canStandInChoice_0 : decode cX2_canStandInChoice 0 = .ok (.aload_n 0, 1) := by decide +kernel
theorem dX2_canStandInChoice_1 : decode cX2_canStandInChoice 1 = .ok (.getfield 50, 3) := by decide +kernel
theorem dX2_canStandInChoice_4 : decode cX2_canStandInChoice 4 = .ok (.iconst 1, 1) := by decide +kernel
theorem dX2_canStandInChoice_5 : decode cX2_canStandInChoice 5 = .ok (.if_icmp .ne 43, 3) := by decide +kernel
theorem dX2_canStandInChoice_8 : decode cX2_canStandInChoice 8 = .ok (.iload_n 1, 1) := by decide +kernel
theorem dX2_canStandInChoice_9 : decode cX2_canStandInChoice 9 = .ok (.bipush 48, 2) := by decide +kernel
theorem dX2_canStandInChoice_11 : decode cX2_canStandInChoice 11 = .ok (.if_icmp .eq 9, 3) := by decide +kernel
theorem dX2_canStandInChoice_14 : decode cX2_canStandInChoice 14 = .ok (.iload_n 1, 1) := by decide +kernel
theorem dX2_canStandInChoice_15 : decode cX2_canStandInChoice 15 = .ok (.bipush 49, 2) := by decide +kernel
theorem dX2_canStandInChoice_17 : decode cX2_canStandInChoice 17 = .ok (.if_icmp .ne 31, 3) := by decide +kernel
theorem dX2_canStandInChoice_20 : decode cX2_canStandInChoice 20 = .ok (.aload_n 0, 1) := by decide +kernel
theorem dX2_canStandInChoice_21 : decode cX2_canStandInChoice 21 = .ok (.bipush 10, 2) := by decide +kernel
theorem dX2_canStandInChoice_23 : decode cX2_canStandInChoice 23 = .ok (.iload_n 1, 1) := by decide +kernel
theorem dX2_canStandInChoice_24 : decode cX2_canStandInChoice 24 = .ok (.iadd, 1) := by decide +kernel
theorem dX2_canStandInChoice_25 : decode cX2_canStandInChoice 25 = .ok (.bipush 48, 2) := by decide +kernel
theorem dX2_canStandInChoice_27 : decode cX2_canStandInChoice 27 = .ok (.isub, 1) := by decide +kernel
theorem dX2_canStandInChoice_28 : decode cX2_canStandInChoice 28 = .ok (.putfield 50, 3) := by decide +kernel
theorem dX2_canStandInChoice_31 : decode cX2_canStandInChoice 31 = .ok (.aload_n 0, 1) := by decide +kernel
theorem dX2_canStandInChoice_32 : decode cX2_canStandInChoice 32 = .ok (.getfield 50, 3) := by decide +kernel
theorem dX2_canStandInChoice_35 : decode cX2_canStandInChoice 35 = .ok (.aload_n 0, 1) := by decide +kernel
theorem dX2_canStandInChoice_36 : decode cX2_canStandInChoice 36 = .ok (.getfield 34, 3) := by decide +kernel
theorem dX2_canStandInChoice_39 : decode cX2_canStandInChoice 39 = .ok (.if_icmp .le 7, 3) := by decide +kernel
theorem dX2_canStandInChoice_42 : decode cX2_canStandInChoice 42 = .ok (.iconst 1, 1) := by decide +kernel
theorem dX2_canStandInChoice_43 : decode cX2_canStandInChoice 43 = .ok (.goto 4, 3) := by decide +kernel
theorem dX2_canStandInChoice_46 : decode cX2_canStandInChoice 46 = .ok (.iconst 0, 1) := by decide +kernel
theorem dX2_canStandInChoice_47 : decode cX2_canStandInChoice 47 = .ok (.ireturn, 1) := by decide +kernel
theorem dX2_canStandInChoice_48 : decode cX2_canStandInChoice 48 = .ok (.iload_n 1, 1) := by decide +kernel
theorem dX2_canStandInChoice_49 : decode cX2_canStandInChoice 49 = .ok (.bipush 61, 2) := by decide +kernel
theorem dX2_canStandInChoice_51 : decode cX2_canStandInChoice 51 = .ok (.if_icmp .eq 18, 3) := by decide +kernel
theorem dX2_canStandInChoice_54 : decode cX2_canStandInChoice 54 = .ok (.iload_n 1, 1) := by decide +kernel
theorem dX2_canStandInChoice_55 : decode cX2_canStandInChoice 55 = .ok (.bipush 43, 2) := by decide +kernel
theorem dX2_canStandInChoice_57 : decode cX2_canStandInChoice 57 = .ok (.if_icmp .ne 16, 3) := by decide +kernel
theorem dX2_canStandInChoice_60 : decode cX2_canStandInChoice 60 = .ok (.aload_n 0, 1) := by decide +kernel
theorem dX2_canStandInChoice_61 : decode cX2_canStandInChoice 61 = .ok (.getfield 50, 3) := by decide +kernel
theorem dX2_canStandInChoice_64 : decode cX2_canStandInChoice 64 = .ok (.bipush 11, 2) := by decide +kernel
theorem dX2_canStandInChoice_66 : decode cX2_canStandInChoice 66 = .ok (.if_icmp .ge 7, 3) := by decide +kernel
theorem dX2_canStandInChoice_69 : decode cX2_canStandInChoice 69 = .ok (.iconst 1, 1) := by decide +kernel
theorem dX2_canStandInChoice_70 : decode cX2_canStandInChoice 70 = .ok (.goto 4, 3) := by decide +kernel
theorem dX2_canStandInChoice_73 : decode cX2_canStandInChoice 73 = .ok (.iconst 0, 1) := by decide +kernel
theorem dX2_canStandInChoice_74 : decode cX2_canStandInChoice 74 = .ok (.istore_n 2, 1) := by decide +kernel
theorem dX2_canStandInChoice_75 : decode cX2_canStandInChoice 75 = .ok (.iload_n 2, 1) := by decide +kernel
theorem dX2_canStandInChoice_76 : decode cX2_canStandInChoice 76 = .ok (.ifCond .eq 14, 3) := by decide +kernel
theorem dX2_canStandInChoice_79 : decode cX2_canStandInChoice 79 = .ok (.aload_n 0, 1) := by decide +kernel
theorem dX2_canStandInChoice_80 : decode cX2_canStandInChoice 80 = .ok (.getfield 50, 3) := by decide +kernel
theorem dX2_canStandInChoice_83 : decode cX2_canStandInChoice 83 = .ok (.aload_n 0, 1) := by decide +kernel
theorem dX2_canStandInChoice_84 : decode cX2_canStandInChoice 84 = .ok (.getfield 34, 3) := by decide +kernel
theorem dX2_canStandInChoice_87 : decode cX2_canStandInChoice 87 = .ok (.if_icmp .gt 5, 3) := by decide +kernel
theorem dX2_canStandInChoice_90 : decode cX2_canStandInChoice 90 = .ok (.iconst 0, 1) := by decide +kernel
theorem dX2_canStandInChoice_91 : decode cX2_canStandInChoice 91 = .ok (.ireturn, 1) := by decide +kernel
theorem dX2_canStandInChoice_92 : decode cX2_canStandInChoice 92 = .ok (.aload_n 0, 1) := by decide +kernel
theorem dX2_canStandInChoice_93 : decode cX2_canStandInChoice 93 = .ok (.dup, 1) := by decide +kernel
theorem dX2_canStandInChoice_94 : decode cX2_canStandInChoice 94 = .ok (.getfield 37, 3) := by decide +kernel
theorem dX2_canStandInChoice_97 : decode cX2_canStandInChoice 97 = .ok (.iconst 1, 1) := by decide +kernel
theorem dX2_canStandInChoice_98 : decode cX2_canStandInChoice 98 = .ok (.aload_n 0, 1) := by decide +kernel
theorem dX2_canStandInChoice_99 : decode cX2_canStandInChoice 99 = .ok (.getfield 50, 3) := by decide +kernel
theorem dX2_canStandInChoice_102 : decode cX2_canStandInChoice 102 = .ok (.ishl, 1) := by decide +kernel
theorem dX2_canStandInChoice_103 : decode cX2_canStandInChoice 103 = .ok (.ior, 1) := by decide +kernel
theorem dX2_canStandInChoice_104 : decode cX2_canStandInChoice 104 = .ok (.putfield 37, 3) := by decide +kernel
theorem dX2_canStandInChoice_107 : decode cX2_canStandInChoice 107 = .ok (.aload_n 0, 1) := by decide +kernel
theorem dX2_canStandInChoice_108 : decode cX2_canStandInChoice 108 = .ok (.aload_n 0, 1) := by decide +kernel
theorem dX2_canStandInChoice_109 : decode cX2_canStandInChoice 109 = .ok (.getfield 50, 3) := by decide +kernel
theorem dX2_canStandInChoice_112 : decode cX2_canStandInChoice 112 = .ok (.putfield 34, 3) := by decide +kernel
theorem dX2_canStandInChoice_115 : decode cX2_canStandInChoice 115 = .ok (.aload_n 0, 1) := by decide +kernel
theorem dX2_canStandInChoice_116 : decode cX2_canStandInChoice 116 = .ok (.iload_n 1, 1) := by decide +kernel
theorem dX2_canStandInChoice_117 : decode cX2_canStandInChoice 117 = .ok (.bipush 43, 2) := by decide +kernel
theorem dX2_canStandInChoice_119 : decode cX2_canStandInChoice 119 = .ok (.if_icmp .ne 7, 3) := by decide +kernel
theorem dX2_canStandInChoice_122 : decode cX2_canStandInChoice 122 = .ok (.iconst 0, 1) := by decide +kernel
theorem dX2_canStandInChoice_123 : decode cX2_canStandInChoice 123 = .ok (.goto 4, 3) := by decide +kernel
theorem dX2_canStandInChoice_126 : decode cX2_canStandInChoice 126 = .ok (.iconst 2, 1) := by decide +kernel
theorem dX2_canStandInChoice_127 : decode cX2_canStandInChoice 127 = .ok (.putfield 31, 3) := by decide +kernel
theorem dX2_canStandInChoice_130 : decode cX2_canStandInChoice 130 = .ok (.iconst 1, 1) := by decide +kernel
theorem dX2_canStandInChoice_131 : decode cX2_canStandInChoice 131 = .ok (.ireturn, 1) := by decide +kernel
set_option maxRecDepth 20000 in
theorem ggX2_canBeSum_X3_append : GoodIn wsX2_canBeSum wsX3_append := goodIn_r _ [7, 8, 9, 10, 17, 18, 19, 20] (by decide +kernel) (by decide +kernel)
set_option maxRecDepth 20000 in
theorem gX2_canBeSum_X3_append : GoodIn wsX2_canBeSum (wsV RX2 53 RX3 yX3_append wsX3_append) := goodIn_app (goodIn_of _ (by decide +kernel)) ggX2_canBeSum_X3_append
theorem dX2_canBeSum_0 : decode cX2_canBeSum 0 = .ok (.iload_n 1, 1) := by decide +kernel
theorem dX2_canBeSum_1 : decode cX2_canBeSum 1 = .ok (.bipush 48, 2) := by decide +kernel
theorem dX2_canBeSum_3 : decode cX2_canBeSum 3 = .ok (.if_icmp .eq 11, 3) := by decide +kernel
theorem dX2_canBeSum_6 : decode cX2_canBeSum 6 = .ok (.iload_n 1, 1) := by decide +kernel
theorem dX2_canBeSum_7 : decode cX2_canBeSum 7 = .ok (.bipush 49, 2) := by decide +kernel
theorem dX2_canBeSum_9 : decode cX2_canBeSum 9 = .ok (.if_icmp .eq 5, 3) := by decide +kernel
theorem dX2_canBeSum_12 : decode cX2_canBeSum 12 = .ok (.iconst 0, 1) := by decide +kernel
theorem dX2_canBeSum_13 : decode cX2_canBeSum 13 = .ok (.ireturn, 1) := by decide +kernel
theorem dX2_canBeSum_14 : decode cX2_canBeSum 14 = .ok (.aload_n 2, 1) := by decide +kernel
theorem dX2_canBeSum_15 : decode cX2_canBeSum 15 = .ok (.aload_n 0, 1) := by decide +kernel
theorem dX2_canBeSum_16 : decode cX2_canBeSum 16 = .ok (.getfield 37, 3) := by decide +kernel
theorem dX2_canBeSum_19 : decode cX2_canBeSum 19 = .ok (.iload_n 1, 1) := by decide +kernel
theorem dX2_canBeSum_20 : decode cX2_canBeSum 20 = .ok (.bipush 48, 2) := by decide +kernel
theorem dX2_canBeSum_22 : decode cX2_canBeSum 22 = .ok (.isub, 1) := by decide +kernel
theorem dX2_canBeSum_23 : decode cX2_canBeSum 23 = .ok (.invokevirtual 53, 3) := by decide +kernel
theorem dX2_canBeSum_26 : decode cX2_canBeSum 26 = .ok (.aload_n 0, 1) := by decide +kernel
theorem dX2_canBeSum_27 : decode cX2_canBeSum 27 = .ok (.iconst 3, 1) := by decide +kernel
theorem dX2_canBeSum_28 : decode cX2_canBeSum 28 = .ok (.putfield 31, 3) := by decide +kernel
theorem dX2_canBeSum_31 : decode cX2_canBeSum 31 = .ok (.iconst 1, 1) := by decide +kernel
theorem dX2_canBeSum_32 : decode cX2_canBeSum 32 = .ok (.ireturn, 1) := by decide +kernel
theorem dX3_init_0 : decode cX3_init 0 = .ok (.aload_n 0, 1) := by decide +kernel
theorem dX3_init_1 : decode cX3_init 1 = .ok (.invokespecial 3, 3) := by decide +kernel
theorem dX3_init_4 : decode cX3_init 4 = .ok (.aload_n 0, 1) := by decide +kernel
theorem dX3_init_5 : decode cX3_init 5 = .ok (.bipush 6, 2) := by decide +kernel
theorem dX3_init_7 : decode cX3_init 7 = .ok (.putfield 9, 3) := by decide +kernel
theorem dX3_init_10 : decode cX3_init 10 = .ok (.aload_n 0, 1) := by decide +kernel
theorem dX3_init_11 : decode cX3_init 11 = .ok (.bipush 20, 2) := by decide +kernel
theorem dX3_init_13 : decode cX3_init 13 = .ok (.newarray .int, 2) := by decide +kernel
theorem dX3_init_15 : decode cX3_init 15 = .ok (.putfield 15, 3) := by decide +kernel
theorem dX3_init_18 : decode cX3_init 18 = .ok (.aload_n 0, 1) := by decide +kernel
theorem dX3_init_19 : decode cX3_init 19 = .ok (.bipush 20, 2) := by decide +kernel
theorem dX3_init_21 : decode cX3_init 21 = .ok (.newarray .int, 2) := by decide +kernel
theorem dX3_init_23 : decode cX3_init 23 = .ok (.putfield 19, 3) := by decide +kernel
theorem dX3_init_26 : decode cX3_init 26 = .ok (.return_, 1) := by decide +kernel
theorem dX3_hasPlace_0 : decode cX3_hasPlace 0 = .ok (.iload_n 1, 1) := by decide +kernel
theorem dX3_hasPlace_1 : decode cX3_hasPlace 1 = .ok (.ifCond .lt 15, 3) := by decide +kernel
theorem dX3_hasPlace_4 : decode cX3_hasPlace 4 = .ok (.iload_n 1, 1) := by decide +kernel
theorem dX3_hasPlace_5 : decode cX3_hasPlace 5 = .ok (.aload_n 0, 1) := by decide +kernel
theorem dX3_hasPlace_6 : decode cX3_hasPlace 6 = .ok (.getfield 22, 3) := by decide +kernel
theorem dX3_hasPlace_9 : decode cX3_hasPlace 9 = .ok (.if_icmp .ge 7, 3) := by decide +kernel
theorem dX3_hasPlace_12 : decode cX3_hasPlace 12 = .ok (.iconst 1, 1) := by decide +kernel
theorem dX3_hasPlace_13 : decode cX3_hasPlace 13 = .ok (.goto 4, 3) := by decide +kernel
theorem dX3_hasPlace_16 : decode cX3_hasPlace 16 = .ok (.iconst 0, 1) := by decide +kernel
theorem dX3_hasPlace_17 : decode cX3_hasPlace 17 = .ok (.ireturn, 1) := by decide +kernel
theorem dX3_hasSet_0 : decode cX3_hasSet 0 = .ok (.iload_n 1, 1) := by decide +kernel
theorem dX3_hasSet_1 : decode cX3_hasSet 1 = .ok (.ifCond .lt 17, 3) := by decide +kernel
theorem dX3_hasSet_4 : decode cX3_hasSet 4 = .ok (.iload_n 1, 1) := by decide +kernel
theorem dX3_hasSet_5 : decode cX3_hasSet 5 = .ok (.iconst 1, 1) := by decide +kernel
theorem dX3_hasSet_6 : decode cX3_hasSet 6 = .ok (.aload_n 0, 1) := by decide +kernel
theorem dX3_hasSet_7 : decode cX3_hasSet 7 = .ok (.getfield 9, 3) := by decide +kernel
theorem dX3_hasSet_10 : decode cX3_hasSet 10 = .ok (.ishl, 1) := by decide +kernel
theorem dX3_hasSet_11 : decode cX3_hasSet 11 = .ok (.if_icmp .ge 7, 3) := by decide +kernel
theorem dX3_hasSet_14 : decode cX3_hasSet 14 = .ok (.iconst 1, 1) := by decide +kernel
theorem dX3_hasSet_15 : decode cX3_hasSet 15 = .ok (.goto 4, 3) := by decide +kernel
theorem dX3_hasSet_18 : decode cX3_hasSet 18 = .ok (.iconst 0, 1) := by decide +kernel
theorem dX3_hasSet_19 : decode cX3_hasSet 19 = .ok (.ireturn, 1) := by decide +kernel
theorem dX3_setsStayBelow_0 : decode cX3_setsStayBelow 0 = .ok (.iconst 0, 1) := by decide +kernel
theorem dX3_setsStayBelow_1 : decode cX3_setsStayBelow 1 = .ok (.istore_n 2, 1) := by decide +kernel
theorem dX3_setsStayBelow_2 : decode cX3_setsStayBelow 2 = .ok (.iconst 0, 1) := by decide +kernel
theorem dX3_setsStayBelow_3 : decode cX3_setsStayBelow 3 = .ok (.istore_n 3, 1) := by decide +kernel
theorem dX3_setsStayBelow_4 : decode cX3_setsStayBelow 4 = .ok (.iload_n 3, 1) := by decide +kernel
theorem dX3_setsStayBelow_5 : decode cX3_setsStayBelow 5 = .ok (.aload_n 0, 1) := by decide +kernel
theorem dX3_setsStayBelow_6 : decode cX3_setsStayBelow 6 = .ok (.getfield 22, 3) := by decide +kernel
theorem dX3_setsStayBelow_9 : decode cX3_setsStayBelow 9 = .ok (.if_icmp .ge 18, 3) := by decide +kernel
theorem dX3_setsStayBelow_12 : decode cX3_setsStayBelow 12 = .ok (.iload_n 2, 1) := by decide +kernel
theorem dX3_setsStayBelow_13 : decode cX3_setsStayBelow 13 = .ok (.aload_n 0, 1) := by decide +kernel
theorem dX3_setsStayBelow_14 : decode cX3_setsStayBelow 14 = .ok (.getfield 15, 3) := by decide +kernel
theorem dX3_setsStayBelow_17 : decode cX3_setsStayBelow 17 = .ok (.iload_n 3, 1) := by decide +kernel
theorem dX3_setsStayBelow_18 : decode cX3_setsStayBelow 18 = .ok (.iaload, 1) := by decide +kernel
theorem dX3_setsStayBelow_19 : decode cX3_setsStayBelow 19 = .ok (.ior, 1) := by decide +kernel
theorem dX3_setsStayBelow_20 : decode cX3_setsStayBelow 20 = .ok (.istore_n 2, 1) := by decide +kernel
theorem dX3_setsStayBelow_21 : decode cX3_setsStayBelow 21 = .ok (.iinc 3 1, 3) := by decide +kernel
theorem dX3_setsStayBelow_24 : decode cX3_setsStayBelow 24 = .ok (.goto (-20), 3) := by decide +kernel
theorem dX3_setsStayBelow_27 : decode cX3_setsStayBelow 27 = .ok (.iload_n 2, 1) := by decide +kernel
theorem dX3_setsStayBelow_28 : decode cX3_setsStayBelow 28 = .ok (.iload_n 1, 1) := by decide +kernel
theorem dX3_setsStayBelow_29 : decode cX3_setsStayBelow 29 = .ok (.ishr, 1) := by decide +kernel
theorem dX3_setsStayBelow_30 : decode cX3_setsStayBelow 30 = .ok (.ifCond .ne 7, 3) := by decide +kernel
theorem dX3_setsStayBelow_33 : decode cX3_setsStayBelow 33 = .ok (.iconst 1, 1) := by decide +kernel
theorem dX3_setsStayBelow_34 : decode cX3_setsStayBelow 34 = .ok (.goto 4, 3) := by decide +kernel
theorem dX3_setsStayBelow_37 : decode cX3_setsStayBelow 37 = .ok (.iconst 0, 1) := by decide +kernel
theorem dX3_setsStayBelow_38 : decode cX3_setsStayBelow 38 = .ok (.ireturn, 1) := by decide +kernel
theorem dX3_rulesWith_0 : decode cX3_rulesWith 0 = .ok (.iconst 0, 1) := by decide +kernel
theorem dX3_rulesWith_1 : decode cX3_rulesWith 1 = .ok (.istore_n 2, 1) := by decide +kernel
theorem dX3_rulesWith_2 : decode cX3_rulesWith 2 = .ok (.iconst 0, 1) := by decide +kernel
theorem dX3_rulesWith_3 : decode cX3_rulesWith 3 = .ok (.istore_n 3, 1) := by decide +kernel
theorem dX3_rulesWith_4 : decode cX3_rulesWith 4 = .ok (.iload_n 3, 1) := by decide +kernel
theorem dX3_rulesWith_5 : decode cX3_rulesWith 5 = .ok (.aload_n 0, 1) := by decide +kernel
theorem dX3_rulesWith_6 : decode cX3_rulesWith 6 = .ok (.getfield 22, 3) := by decide +kernel
theorem dX3_rulesWith_9 : decode cX3_rulesWith 9 = .ok (.if_icmp .ge 22, 3) := by decide +kernel
theorem dX3_rulesWith_12 : decode cX3_rulesWith 12 = .ok (.iload_n 2, 1) := by decide +kernel
theorem dX3_rulesWith_13 : decode cX3_rulesWith 13 = .ok (.aload_n 0, 1) := by decide +kernel
theorem dX3_rulesWith_14 : decode cX3_rulesWith 14 = .ok (.getfield 15, 3) := by decide +kernel
theorem dX3_rulesWith_17 : decode cX3_rulesWith 17 = .ok (.iload_n 3, 1) := by decide +kernel
theorem dX3_rulesWith_18 : decode cX3_rulesWith 18 = .ok (.iaload, 1) := by decide +kernel
theorem dX3_rulesWith_19 : decode cX3_rulesWith 19 = .ok (.iload_n 1, 1) := by decide +kernel
theorem dX3_rulesWith_20 : decode cX3_rulesWith 20 = .ok (.ishr, 1) := by decide +kernel
theorem dX3_rulesWith_21 : decode cX3_rulesWith 21 = .ok (.iconst 1, 1) := by decide +kernel
theorem dX3_rulesWith_22 : decode cX3_rulesWith 22 = .ok (.iand, 1) := by decide +kernel
theorem dX3_rulesWith_23 : decode cX3_rulesWith 23 = .ok (.iadd, 1) := by decide +kernel
theorem dX3_rulesWith_24 : decode cX3_rulesWith 24 = .ok (.istore_n 2, 1) := by decide +kernel
theorem dX3_rulesWith_25 : decode cX3_rulesWith 25 = .ok (.iinc 3 1, 3) := by decide +kernel
theorem dX3_rulesWith_28 : decode cX3_rulesWith 28 = .ok (.goto (-24), 3) := by decide +kernel
theorem dX3_rulesWith_31 : decode cX3_rulesWith 31 = .ok (.iload_n 2, 1) := by decide +kernel
theorem dX3_rulesWith_32 : decode cX3_rulesWith 32 = .ok (.ireturn, 1) := by decide +kernel
theorem dX3_become_0 : decode cX3_become 0 = .ok (.aload_n 0, 1) := by decide +kernel
theorem dX3_become_1 : decode cX3_become 1 = .ok (.aload_n 1, 1) := by decide +kernel
theorem dX3_become_2 : decode cX3_become 2 = .ok (.getfield 9, 3) := by decide +kernel
theorem dX3_become_5 : decode cX3_become 5 = .ok (.putfield 9, 3) := by decide +kernel
theorem dX3_become_8 : decode cX3_become 8 = .ok (.aload_n 0, 1) := by decide +kernel
theorem dX3_become_9 : decode cX3_become 9 = .ok (.aload_n 1, 1) := by decide +kernel
theorem dX3_become_10 : decode cX3_become 10 = .ok (.getfield 22, 3) := by decide +kernel
theorem dX3_become_13 : decode cX3_become 13 = .ok (.putfield 22, 3) := by decide +kernel
theorem dX3_become_16 : decode cX3_become 16 = .ok (.aload_n 1, 1) := by decide +kernel
theorem dX3_become_17 : decode cX3_become 17 = .ok (.getfield 15, 3) := by decide +kernel
theorem dX3_become_20 : decode cX3_become 20 = .ok (.iconst 0, 1) := by decide +kernel
theorem dX3_become_21 : decode cX3_become 21 = .ok (.aload_n 0, 1) := by decide +kernel
theorem dX3_become_22 : decode cX3_become 22 = .ok (.getfield 15, 3) := by decide +kernel
theorem dX3_become_25 : decode cX3_become 25 = .ok (.iconst 0, 1) := by decide +kernel
theorem dX3_become_26 : decode cX3_become 26 = .ok (.bipush 20, 2) := by decide +kernel
theorem dX3_become_28 : decode cX3_become 28 = .ok (.invokestatic 25, 3) := by decide +kernel
theorem dX3_become_31 : decode cX3_become 31 = .ok (.aload_n 1, 1) := by decide +kernel
theorem dX3_become_32 : decode cX3_become 32 = .ok (.getfield 19, 3) := by decide +kernel
theorem dX3_become_35 : decode cX3_become 35 = .ok (.iconst 0, 1) := by decide +kernel
theorem dX3_become_36 : decode cX3_become 36 = .ok (.aload_n 0, 1) := by decide +kernel
theorem dX3_become_37 : decode cX3_become 37 = .ok (.getfield 19, 3) := by decide +kernel
theorem dX3_become_40 : decode cX3_become 40 = .ok (.iconst 0, 1) := by decide +kernel
theorem dX3_become_41 : decode cX3_become 41 = .ok (.bipush 20, 2) := by decide +kernel
theorem dX3_become_43 : decode cX3_become 43 = .ok (.invokestatic 25, 3) := by decide +kernel
theorem dX3_become_46 : decode cX3_become 46 = .ok (.return_, 1) := by decide +kernel
theorem dX3_append_0 : decode cX3_append 0 = .ok (.aload_n 0, 1) := by decide +kernel
theorem dX3_append_1 : decode cX3_append 1 = .ok (.getfield 22, 3) := by decide +kernel
theorem dX3_append_4 : decode cX3_append 4 = .ok (.bipush 20, 2) := by decide +kernel
theorem dX3_append_6 : decode cX3_append 6 = .ok (.if_icmp .ge 33, 3) := by decide +kernel
theorem dX3_append_9 : decode cX3_append 9 = .ok (.aload_n 0, 1) := by decide +kernel
theorem dX3_append_10 : decode cX3_append 10 = .ok (.getfield 15, 3) := by decide +kernel
theorem dX3_append_13 : decode cX3_append 13 = .ok (.aload_n 0, 1) := by decide +kernel
theorem dX3_append_14 : decode cX3_append 14 = .ok (.getfield 22, 3) := by decide +kernel
theorem dX3_append_17 : decode cX3_append 17 = .ok (.iload_n 1, 1) := by decide +kernel
theorem dX3_append_18 : decode cX3_append 18 = .ok (.iastore, 1) := by decide +kernel
theorem dX3_append_19 : decode cX3_append 19 = .ok (.aload_n 0, 1) := by decide +kernel
theorem dX3_append_20 : decode cX3_append 20 = .ok (.getfield 19, 3) := by decide +kernel
theorem dX3_append_23 : decode cX3_append 23 = .ok (.aload_n 0, 1) := by decide +kernel
theorem dX3_append_24 : decode cX3_append 24 = .ok (.getfield 22, 3) := by decide +kernel
theorem dX3_append_27 : decode cX3_append 27 = .ok (.iload_n 2, 1) := by decide +kernel
theorem dX3_append_28 : decode cX3_append 28 = .ok (.iastore, 1) := by decide +kernel
theorem dX3_append_29 : decode cX3_append 29 = .ok (.aload_n 0, 1) := by decide +kernel
theorem dX3_append_30 : decode cX3_append 30 = .ok (.dup, 1) := by decide +kernel
theorem dX3_append_31 : decode cX3_append 31 = .ok (.getfield 22, 3) := by decide +kernel
theorem dX3_append_34 : decode cX3_append 34 = .ok (.iconst 1, 1) := by decide +kernel
theorem dX3_append_35 : decode cX3_append 35 = .ok (.iadd, 1) := by decide +kernel
theorem dX3_append_36 : decode cX3_append 36 = .ok (.putfield 22, 3) := by decide +kernel
theorem dX3_append_39 : decode cX3_append 39 = .ok (.return_, 1) := by decide +kernel
set_option maxRecDepth 20000 in
theorem ggX3_carryRule_X5_carry : GoodIn wsX3_carryRule wsX5_carry := goodIn_r _ [5] (by decide +kernel) (by decide +kernel)
set_option maxRecDepth 20000 in
theorem gX3_carryRule_X5_carry_n31 : GoodIn wsX3_carryRule (wsX5_carry) := ggX3_carryRule_X5_carry
theorem dX3_carryRule_0 : decode cX3_carryRule 0 = .ok (.aload_n 0, 1) := by decide +kernel
theorem dX3_carryRule_1 : decode cX3_carryRule 1 = .ok (.getfield 15, 3) := by decide +kernel
theorem dX3_carryRule_4 : decode cX3_carryRule 4 = .ok (.iload_n 1, 1) := by decide +kernel
theorem dX3_carryRule_5 : decode cX3_carryRule 5 = .ok (.iload_n 2, 1) := by decide +kernel
theorem dX3_carryRule_6 : decode cX3_carryRule 6 = .ok (.invokestatic 31, 3) := by decide +kernel
theorem dX3_carryRule_9 : decode cX3_carryRule 9 = .ok (.aload_n 0, 1) := by decide +kernel
theorem dX3_carryRule_10 : decode cX3_carryRule 10 = .ok (.getfield 19, 3) := by decide +kernel
theorem dX3_carryRule_13 : decode cX3_carryRule 13 = .ok (.iload_n 1, 1) := by decide +kernel
theorem dX3_carryRule_14 : decode cX3_carryRule 14 = .ok (.iload_n 2, 1) := by decide +kernel
theorem dX3_carryRule_15 : decode cX3_carryRule 15 = .ok (.invokestatic 31, 3) := by decide +kernel
theorem dX3_carryRule_18 : decode cX3_carryRule 18 = .ok (.return_, 1) := by decide +kernel
set_option maxRecDepth 20000 in
theorem ggX3_takeOut_X3_carryRule : GoodIn wsX3_takeOut wsX3_carryRule := goodIn_r _ [6, 7, 8, 9, 10, 11, 12, 13, 14, 15] (by decide +kernel) (by decide +kernel)
set_option maxRecDepth 20000 in
theorem gX3_takeOut_X3_carryRule : GoodIn wsX3_takeOut (wsV RX3 35 RX3 yX3_carryRule wsX3_carryRule) := goodIn_app (goodIn_of _ (by decide +kernel)) ggX3_takeOut_X3_carryRule
theorem dX3_takeOut_0 : decode cX3_takeOut 0 = .ok (.aload_n 0, 1) := by decide +kernel
theorem dX3_takeOut_1 : decode cX3_takeOut 1 = .ok (.iload_n 1, 1) := by decide +kernel
theorem dX3_takeOut_2 : decode cX3_takeOut 2 = .ok (.aload_n 0, 1) := by decide +kernel
theorem dX3_takeOut_3 : decode cX3_takeOut 3 = .ok (.getfield 22, 3) := by decide +kernel
theorem dX3_takeOut_6 : decode cX3_takeOut 6 = .ok (.iconst 1, 1) := by decide +kernel
theorem dX3_takeOut_7 : decode cX3_takeOut 7 = .ok (.isub, 1) := by decide +kernel
theorem dX3_takeOut_8 : decode cX3_takeOut 8 = .ok (.invokevirtual 35, 3) := by decide +kernel
theorem dX3_takeOut_11 : decode cX3_takeOut 11 = .ok (.aload_n 0, 1) := by decide +kernel
theorem dX3_takeOut_12 : decode cX3_takeOut 12 = .ok (.dup, 1) := by decide +kernel
theorem dX3_takeOut_13 : decode cX3_takeOut 13 = .ok (.getfield 22, 3) := by decide +kernel
theorem dX3_takeOut_16 : decode cX3_takeOut 16 = .ok (.iconst 1, 1) := by decide +kernel
theorem dX3_takeOut_17 : decode cX3_takeOut 17 = .ok (.isub, 1) := by decide +kernel
theorem dX3_takeOut_18 : decode cX3_takeOut 18 = .ok (.putfield 22, 3) := by decide +kernel
theorem dX3_takeOut_21 : decode cX3_takeOut 21 = .ok (.return_, 1) := by decide +kernel
theorem dX4_init_0 : decode cX4_init 0 = .ok (.aload_n 0, 1) := by decide +kernel
theorem dX4_init_1 : decode cX4_init 1 = .ok (.invokespecial 3, 3) := by decide +kernel
theorem dX4_init_4 : decode cX4_init 4 = .ok (.aload_n 0, 1) := by decide +kernel
theorem dX4_init_5 : decode cX4_init 5 = .ok (.bipush 20, 2) := by decide +kernel
theorem dX4_init_7 : decode cX4_init 7 = .ok (.newarray .int, 2) := by decide +kernel
theorem dX4_init_9 : decode cX4_init 9 = .ok (.putfield 9, 3) := by decide +kernel
theorem dX4_init_12 : decode cX4_init 12 = .ok (.aload_n 0, 1) := by decide +kernel
theorem dX4_init_13 : decode cX4_init 13 = .ok (.bipush 20, 2) := by decide +kernel
theorem dX4_init_15 : decode cX4_init 15 = .ok (.newarray .int, 2) := by decide +kernel
theorem dX4_init_17 : decode cX4_init 17 = .ok (.putfield 15, 3) := by decide +kernel
theorem dX4_init_20 : decode cX4_init 20 = .ok (.aload_n 0, 1) := by decide +kernel
theorem dX4_init_21 : decode cX4_init 21 = .ok (.iconst 3, 1) := by decide +kernel
theorem dX4_init_22 : decode cX4_init 22 = .ok (.newarray .int, 2) := by decide +kernel
theorem dX4_init_24 : decode cX4_init 24 = .ok (.putfield 18, 3) := by decide +kernel
theorem dX4_init_27 : decode cX4_init 27 = .ok (.aload_n 0, 1) := by decide +kernel
theorem dX4_init_28 : decode cX4_init 28 = .ok (.bipush 12, 2) := by decide +kernel
theorem dX4_init_30 : decode cX4_init 30 = .ok (.newarray .int, 2) := by decide +kernel
theorem dX4_init_32 : decode cX4_init 32 = .ok (.putfield 21, 3) := by decide +kernel
theorem dX4_init_35 : decode cX4_init 35 = .ok (.aload_n 0, 1) := by decide +kernel
theorem dX4_init_36 : decode cX4_init 36 = .ok (.bipush 12, 2) := by decide +kernel
theorem dX4_init_38 : decode cX4_init 38 = .ok (.newarray .int, 2) := by decide +kernel
theorem dX4_init_40 : decode cX4_init 40 = .ok (.putfield 24, 3) := by decide +kernel
theorem dX4_init_43 : decode cX4_init 43 = .ok (.aload_n 0, 1) := by decide +kernel
theorem dX4_init_44 : decode cX4_init 44 = .ok (.bipush 12, 2) := by decide +kernel
theorem dX4_init_46 : decode cX4_init 46 = .ok (.newarray .int, 2) := by decide +kernel
theorem dX4_init_48 : decode cX4_init 48 = .ok (.putfield 27, 3) := by decide +kernel
theorem dX4_init_51 : decode cX4_init 51 = .ok (.aload_n 0, 1) := by decide +kernel
theorem dX4_init_52 : decode cX4_init 52 = .ok (.bipush 12, 2) := by decide +kernel
theorem dX4_init_54 : decode cX4_init 54 = .ok (.newarray .int, 2) := by decide +kernel
theorem dX4_init_56 : decode cX4_init 56 = .ok (.putfield 30, 3) := by decide +kernel
theorem dX4_init_59 : decode cX4_init 59 = .ok (.return_, 1) := by decide +kernel
set_option maxRecDepth 20000 in
theorem ggX4_judge_X4_judgeNext : GoodIn wsX4_judge wsX4_judgeNext := goodIn_r _ [13, 14, 5, 15, 16, 17, 18, 3, 19, 20, 4, 21, 22, 23, 12, 24, 25, 26, 27, 28, 29, 30, 31, 32, 33, 34, 35, 36, 37, 38, 43, 44, 45, 46, 47, 48, 49, 50, 51, 52, 53, 54] (by decide +kernel) (by decide +kernel)
set_option maxRecDepth 20000 in
theorem gX4_judge_X4_judgeNext : GoodIn wsX4_judge (wsV RX4 50 RX4 yX4_judgeNext wsX4_judgeNext) := goodIn_app (goodIn_of _ (by decide +kernel)) ggX4_judge_X4_judgeNext
theorem dX4_judge_0 : decode cX4_judge 0 = .ok (.aload_n 0, 1) := by decide +kernel
theorem dX4_judge_1 : decode cX4_judge 1 = .ok (.aload_n 1, 1) := by decide +kernel
theorem dX4_judge_2 : decode cX4_judge 2 = .ok (.getfield 33, 3) := by decide +kernel
theorem dX4_judge_5 : decode cX4_judge 5 = .ok (.putfield 39, 3) := by decide +kernel
theorem dX4_judge_8 : decode cX4_judge 8 = .ok (.aload_n 0, 1) := by decide +kernel
theorem dX4_judge_9 : decode cX4_judge 9 = .ok (.iconst 0, 1) := by decide +kernel
theorem dX4_judge_10 : decode cX4_judge 10 = .ok (.putfield 40, 3) := by decide +kernel
theorem dX4_judge_13 : decode cX4_judge 13 = .ok (.iconst 0, 1) := by decide +kernel
theorem dX4_judge_14 : decode cX4_judge 14 = .ok (.istore_n 2, 1) := by decide +kernel
theorem dX4_judge_15 : decode cX4_judge 15 = .ok (.iload_n 2, 1) := by decide +kernel
theorem dX4_judge_16 : decode cX4_judge 16 = .ok (.iconst 2, 1) := by decide +kernel
theorem dX4_judge_17 : decode cX4_judge 17 = .ok (.if_icmp .gt 16, 3) := by decide +kernel
theorem dX4_judge_20 : decode cX4_judge 20 = .ok (.aload_n 0, 1) := by decide +kernel
theorem dX4_judge_21 : decode cX4_judge 21 = .ok (.getfield 18, 3) := by decide +kernel
theorem dX4_judge_24 : decode cX4_judge 24 = .ok (.iload_n 2, 1) := by decide +kernel
theorem dX4_judge_25 : decode cX4_judge 25 = .ok (.iconst 0, 1) := by decide +kernel
theorem dX4_judge_26 : decode cX4_judge 26 = .ok (.iastore, 1) := by decide +kernel
theorem dX4_judge_27 : decode cX4_judge 27 = .ok (.iinc 2 1, 3) := by decide +kernel
theorem dX4_judge_30 : decode cX4_judge 30 = .ok (.goto (-15), 3) := by decide +kernel
theorem dX4_judge_33 : decode cX4_judge 33 = .ok (.iconst 0, 1) := by decide +kernel
theorem dX4_judge_34 : decode cX4_judge 34 = .ok (.istore_n 2, 1) := by decide +kernel
theorem dX4_judge_35 : decode cX4_judge 35 = .ok (.iload_n 2, 1) := by decide +kernel
theorem dX4_judge_36 : decode cX4_judge 36 = .ok (.bipush 12, 2) := by decide +kernel
theorem dX4_judge_38 : decode cX4_judge 38 = .ok (.if_icmp .ge 16, 3) := by decide +kernel
theorem dX4_judge_41 : decode cX4_judge 41 = .ok (.aload_n 0, 1) := by decide +kernel
theorem dX4_judge_42 : decode cX4_judge 42 = .ok (.getfield 21, 3) := by decide +kernel
theorem dX4_judge_45 : decode cX4_judge 45 = .ok (.iload_n 2, 1) := by decide +kernel
theorem dX4_judge_46 : decode cX4_judge 46 = .ok (.iconst 0, 1) := by decide +kernel
theorem dX4_judge_47 : decode cX4_judge 47 = .ok (.iastore, 1) := by decide +kernel
theorem dX4_judge_48 : decode cX4_judge 48 = .ok (.iinc 2 1, 3) := by decide +kernel
theorem dX4_judge_51 : decode cX4_judge 51 = .ok (.goto (-16), 3) := by decide +kernel
theorem dX4_judge_54 : decode cX4_judge 54 = .ok (.iconst 0, 1) := by decide +kernel
theorem dX4_judge_55 : decode cX4_judge 55 = .ok (.istore_n 2, 1) := by decide +kernel
theorem dX4_judge_56 : decode cX4_judge 56 = .ok (.iload_n 2, 1) := by decide +kernel
theorem dX4_judge_57 : decode cX4_judge 57 = .ok (.aload_n 1, 1) := by decide +kernel
theorem dX4_judge_58 : decode cX4_judge 58 = .ok (.getfield 43, 3) := by decide +kernel
theorem dX4_judge_61 : decode cX4_judge 61 = .ok (.if_icmp .ge 25, 3) := by decide +kernel
theorem dX4_judge_64 : decode cX4_judge 64 = .ok (.aload_n 0, 1) := by decide +kernel
theorem dX4_judge_65 : decode cX4_judge 65 = .ok (.aload_n 1, 1) := by decide +kernel
theorem dX4_judge_66 : decode cX4_judge 66 = .ok (.getfield 44, 3) := by decide +kernel
theorem dX4_judge_69 : decode cX4_judge 69 = .ok (.iload_n 2, 1) := by decide +kernel
theorem dX4_judge_70 : decode cX4_judge 70 = .ok (.iaload, 1) := by decide +kernel
theorem dX4_judge_71 : decode cX4_judge 71 = .ok (.aload_n 1, 1) := by decide +kernel
theorem dX4_judge_72 : decode cX4_judge 72 = .ok (.getfield 47, 3) := by decide +kernel
theorem dX4_judge_75 : decode cX4_judge 75 = .ok (.iload_n 2, 1) := by decide +kernel
theorem dX4_judge_76 : decode cX4_judge 76 = .ok (.iaload, 1) := by decide +kernel
theorem dX4_judge_77 : decode cX4_judge 77 = .ok (.invokevirtual 50, 3) := by decide +kernel
theorem dX4_judge_80 : decode cX4_judge 80 = .ok (.iinc 2 1, 3) := by decide +kernel
theorem dX4_judge_83 : decode cX4_judge 83 = .ok (.goto (-27), 3) := by decide +kernel
theorem dX4_judge_86 : decode cX4_judge 86 = .ok (.return_, 1) := by decide +kernel
set_option maxRecDepth 20000 in
theorem ggX4_judgeNext_X4_stateOf : GoodIn wsX4_judgeNext wsX4_stateOf := goodIn_r _ [15, 1, 4, 16, 17, 18, 14, 19, 6, 2, 3, 5, 30, 31, 32, 33, 34, 35, 36, 37, 38, 39, 40, 41] (by decide +kernel) (by decide +kernel)
set_option maxRecDepth 20000 in
theorem gX4_judgeNext_X4_stateOf : GoodIn wsX4_judgeNext (wsV RX4 54 RX4 yX4_stateOf wsX4_stateOf) := goodIn_app (goodIn_of _ (by decide +kernel)) ggX4_judgeNext_X4_stateOf
set_option maxRecDepth 20000 in
theorem ggX4_judgeNext_X5_lowestBit : GoodIn wsX4_judgeNext wsX5_lowestBit := goodIn_r _ [22, 23, 24, 25, 26, 27, 28, 29] (by decide +kernel) (by decide +kernel)
set_option maxRecDepth 20000 in
theorem gX4_judgeNext_X5_lowestBit_n61 : GoodIn wsX4_judgeNext (wsX5_lowestBit) := ggX4_judgeNext_X5_lowestBit
theorem dX4_judgeNext_0 : decode cX4_judgeNext 0 = .ok (.aload_n 0, 1) := by decide +kernel
theorem dX4_judgeNext_1 : decode cX4_judgeNext 1 = .ok (.iload_n 1, 1) := by decide +kernel
theorem dX4_judgeNext_2 : decode cX4_judgeNext 2 = .ok (.iload_n 2, 1) := by decide +kernel
theorem dX4_judgeNext_3 : decode cX4_judgeNext 3 = .ok (.invokevirtual 54, 3) := by decide +kernel
theorem dX4_judgeNext_6 : decode cX4_judgeNext 6 = .ok (.istore_n 3, 1) := by decide +kernel
theorem dX4_judgeNext_7 : decode cX4_judgeNext 7 = .ok (.iload_n 3, 1) := by decide +kernel
theorem dX4_judgeNext_8 : decode cX4_judgeNext 8 = .ok (.ifCond .ne 52, 3) := by decide +kernel
theorem dX4_judgeNext_11 : decode cX4_judgeNext 11 = .ok (.aload_n 0, 1) := by decide +kernel
theorem dX4_judgeNext_12 : decode cX4_judgeNext 12 = .ok (.getfield 58, 3) := by decide +kernel
theorem dX4_judgeNext_15 : decode cX4_judgeNext 15 = .ok (.invokestatic 61, 3) := by decide +kernel
theorem dX4_judgeNext_18 : decode cX4_judgeNext 18 = .ok (.istore 4, 2) := by decide +kernel
theorem dX4_judgeNext_20 : decode cX4_judgeNext 20 = .ok (.aload_n 0, 1) := by decide +kernel
theorem dX4_judgeNext_21 : decode cX4_judgeNext 21 = .ok (.getfield 21, 3) := by decide +kernel
theorem dX4_judgeNext_24 : decode cX4_judgeNext 24 = .ok (.iload 4, 2) := by decide +kernel
theorem dX4_judgeNext_26 : decode cX4_judgeNext 26 = .ok (.aload_n 0, 1) := by decide +kernel
theorem dX4_judgeNext_27 : decode cX4_judgeNext 27 = .ok (.getfield 58, 3) := by decide +kernel
theorem dX4_judgeNext_30 : decode cX4_judgeNext 30 = .ok (.iastore, 1) := by decide +kernel
theorem dX4_judgeNext_31 : decode cX4_judgeNext 31 = .ok (.aload_n 0, 1) := by decide +kernel
theorem dX4_judgeNext_32 : decode cX4_judgeNext 32 = .ok (.getfield 24, 3) := by decide +kernel
theorem dX4_judgeNext_35 : decode cX4_judgeNext 35 = .ok (.iload 4, 2) := by decide +kernel
theorem dX4_judgeNext_37 : decode cX4_judgeNext 37 = .ok (.aload_n 0, 1) := by decide +kernel
theorem dX4_judgeNext_38 : decode cX4_judgeNext 38 = .ok (.getfield 65, 3) := by decide +kernel
theorem dX4_judgeNext_41 : decode cX4_judgeNext 41 = .ok (.iastore, 1) := by decide +kernel
theorem dX4_judgeNext_42 : decode cX4_judgeNext 42 = .ok (.aload_n 0, 1) := by decide +kernel
theorem dX4_judgeNext_43 : decode cX4_judgeNext 43 = .ok (.getfield 27, 3) := by decide +kernel
theorem dX4_judgeNext_46 : decode cX4_judgeNext 46 = .ok (.iload 4, 2) := by decide +kernel
theorem dX4_judgeNext_48 : decode cX4_judgeNext 48 = .ok (.aload_n 0, 1) := by decide +kernel
theorem dX4_judgeNext_49 : decode cX4_judgeNext 49 = .ok (.getfield 68, 3) := by decide +kernel
theorem dX4_judgeNext_52 : decode cX4_judgeNext 52 = .ok (.iconst 1, 1) := by decide +kernel
theorem dX4_judgeNext_53 : decode cX4_judgeNext 53 = .ok (.aload_n 0, 1) := by decide +kernel
theorem dX4_judgeNext_54 : decode cX4_judgeNext 54 = .ok (.getfield 40, 3) := by decide +kernel
theorem dX4_judgeNext_57 : decode cX4_judgeNext 57 = .ok (.ishl, 1) := by decide +kernel
theorem dX4_judgeNext_58 : decode cX4_judgeNext 58 = .ok (.ior, 1) := by decide +kernel
theorem dX4_judgeNext_59 : decode cX4_judgeNext 59 = .ok (.iastore, 1) := by decide +kernel
theorem dX4_judgeNext_60 : decode cX4_judgeNext 60 = .ok (.aload_n 0, 1) := by decide +kernel
theorem dX4_judgeNext_61 : decode cX4_judgeNext 61 = .ok (.getfield 9, 3) := by decide +kernel
theorem dX4_judgeNext_64 : decode cX4_judgeNext 64 = .ok (.aload_n 0, 1) := by decide +kernel
theorem dX4_judgeNext_65 : decode cX4_judgeNext 65 = .ok (.getfield 40, 3) := by decide +kernel
theorem dX4_judgeNext_68 : decode cX4_judgeNext 68 = .ok (.iload_n 3, 1) := by decide +kernel
theorem dX4_judgeNext_69 : decode cX4_judgeNext 69 = .ok (.iastore, 1) := by decide +kernel
theorem dX4_judgeNext_70 : decode cX4_judgeNext 70 = .ok (.aload_n 0, 1) := by decide +kernel
theorem dX4_judgeNext_71 : decode cX4_judgeNext 71 = .ok (.getfield 15, 3) := by decide +kernel
theorem dX4_judgeNext_74 : decode cX4_judgeNext 74 = .ok (.aload_n 0, 1) := by decide +kernel
theorem dX4_judgeNext_75 : decode cX4_judgeNext 75 = .ok (.getfield 40, 3) := by decide +kernel
theorem dX4_judgeNext_78 : decode cX4_judgeNext 78 = .ok (.iload_n 3, 1) := by decide +kernel
theorem dX4_judgeNext_79 : decode cX4_judgeNext 79 = .ok (.ifCond .ne 7, 3) := by decide +kernel
theorem dX4_judgeNext_82 : decode cX4_judgeNext 82 = .ok (.iconst 0, 1) := by decide +kernel
theorem dX4_judgeNext_83 : decode cX4_judgeNext 83 = .ok (.goto 7, 3) := by decide +kernel
theorem dX4_judgeNext_86 : decode cX4_judgeNext 86 = .ok (.aload_n 0, 1) := by decide +kernel
theorem dX4_judgeNext_87 : decode cX4_judgeNext 87 = .ok (.getfield 68, 3) := by decide +kernel
theorem dX4_judgeNext_90 : decode cX4_judgeNext 90 = .ok (.iastore, 1) := by decide +kernel
theorem dX4_judgeNext_91 : decode cX4_judgeNext 91 = .ok (.aload_n 0, 1) := by decide +kernel
theorem dX4_judgeNext_92 : decode cX4_judgeNext 92 = .ok (.getfield 18, 3) := by decide +kernel
theorem dX4_judgeNext_95 : decode cX4_judgeNext 95 = .ok (.iload_n 3, 1) := by decide +kernel
theorem dX4_judgeNext_96 : decode cX4_judgeNext 96 = .ok (.dup2, 1) := by decide +kernel
theorem dX4_judgeNext_97 : decode cX4_judgeNext 97 = .ok (.iaload, 1) := by decide +kernel
theorem dX4_judgeNext_98 : decode cX4_judgeNext 98 = .ok (.iconst 1, 1) := by decide +kernel
theorem dX4_judgeNext_99 : decode cX4_judgeNext 99 = .ok (.iadd, 1) := by decide +kernel
theorem dX4_judgeNext_100 : decode cX4_judgeNext 100 = .ok (.iastore, 1) := by decide +kernel
theorem dX4_judgeNext_101 : decode cX4_judgeNext 101 = .ok (.aload_n 0, 1) := by decide +kernel
theorem dX4_judgeNext_102 : decode cX4_judgeNext 102 = .ok (.dup, 1) := by decide +kernel
theorem dX4_judgeNext_103 : decode cX4_judgeNext 103 = .ok (.getfield 40, 3) := by decide +kernel
theorem dX4_judgeNext_106 : decode cX4_judgeNext 106 = .ok (.iconst 1, 1) := by decide +kernel
theorem dX4_judgeNext_107 : decode cX4_judgeNext 107 = .ok (.iadd, 1) := by decide +kernel
theorem dX4_judgeNext_108 : decode cX4_judgeNext 108 = .ok (.putfield 40, 3) := by decide +kernel
theorem dX4_judgeNext_111 : decode cX4_judgeNext 111 = .ok (.return_, 1) := by decide +kernel
set_option maxRecDepth 20000 in
theorem ggX4_stateOf_X4_combine : GoodIn wsX4_stateOf wsX4_combine := goodIn_r _ [7, 1, 2, 8, 9, 10, 11, 12, 13, 14, 15, 16, 17, 18, 19, 20, 21, 22, 23] (by decide +kernel) (by decide +kernel)
set_option maxRecDepth 20000 in
theorem gX4_stateOf_X4_combine : GoodIn wsX4_stateOf (wsV RX4 71 RX4 yX4_combine wsX4_combine) := goodIn_app (goodIn_of _ (by decide +kernel)) ggX4_stateOf_X4_combine
theorem dX4_stateOf_0 : decode cX4_stateOf 0 = .ok (.aload_n 0, 1) := by decide +kernel
theorem dX4_stateOf_1 : decode cX4_stateOf 1 = .ok (.iload_n 1, 1) := by decide +kernel
theorem dX4_stateOf_2 : decode cX4_stateOf 2 = .ok (.iload_n 2, 1) := by decide +kernel
theorem dX4_stateOf_3 : decode cX4_stateOf 3 = .ok (.invokevirtual 71, 3) := by decide +kernel
theorem dX4_stateOf_6 : decode cX4_stateOf 6 = .ok (.aload_n 0, 1) := by decide +kernel
theorem dX4_stateOf_7 : decode cX4_stateOf 7 = .ok (.getfield 58, 3) := by decide +kernel
theorem dX4_stateOf_10 : decode cX4_stateOf 10 = .ok (.ifCond .eq 5, 3) := by decide +kernel
theorem dX4_stateOf_13 : decode cX4_stateOf 13 = .ok (.iconst 0, 1) := by decide +kernel
theorem dX4_stateOf_14 : decode cX4_stateOf 14 = .ok (.ireturn, 1) := by decide +kernel
theorem dX4_stateOf_15 : decode cX4_stateOf 15 = .ok (.aload_n 0, 1) := by decide +kernel
theorem dX4_stateOf_16 : decode cX4_stateOf 16 = .ok (.getfield 65, 3) := by decide +kernel
theorem dX4_stateOf_19 : decode cX4_stateOf 19 = .ok (.ifCond .ne 7, 3) := by decide +kernel
theorem dX4_stateOf_22 : decode cX4_stateOf 22 = .ok (.iconst 1, 1) := by decide +kernel
theorem dX4_stateOf_23 : decode cX4_stateOf 23 = .ok (.goto 4, 3) := by decide +kernel
theorem dX4_stateOf_26 : decode cX4_stateOf 26 = .ok (.iconst 2, 1) := by decide +kernel
theorem dX4_stateOf_27 : decode cX4_stateOf 27 = .ok (.ireturn, 1) := by decide +kernel
set_option maxRecDepth 20000 in
theorem ggX4_sumOf_X4_combine : GoodIn wsX4_sumOf wsX4_combine := goodIn_r _ [7, 1, 2, 8, 9, 10, 11, 12, 13, 14, 15, 16, 17, 18, 19, 20, 21, 22, 23] (by decide +kernel) (by decide +kernel)
set_option maxRecDepth 20000 in
theorem gX4_sumOf_X4_combine : GoodIn wsX4_sumOf (wsV RX4 71 RX4 yX4_combine wsX4_combine) := goodIn_app (goodIn_of _ (by decide +kernel)) ggX4_sumOf_X4_combine
theorem dX4_sumOf_0 : decode cX4_sumOf 0 = .ok (.aload_n 0, 1) := by decide +kernel
theorem dX4_sumOf_1 : decode cX4_sumOf 1 = .ok (.iload_n 1, 1) := by decide +kernel
theorem dX4_sumOf_2 : decode cX4_sumOf 2 = .ok (.iconst 0, 1) := by decide +kernel
theorem dX4_sumOf_3 : decode cX4_sumOf 3 = .ok (.invokevirtual 71, 3) := by decide +kernel
theorem dX4_sumOf_6 : decode cX4_sumOf 6 = .ok (.aload_n 0, 1) := by decide +kernel
theorem dX4_sumOf_7 : decode cX4_sumOf 7 = .ok (.getfield 58, 3) := by decide +kernel
theorem dX4_sumOf_10 : decode cX4_sumOf 10 = .ok (.ifCond .ne 10, 3) := by decide +kernel
theorem dX4_sumOf_13 : decode cX4_sumOf 13 = .ok (.aload_n 0, 1) := by decide +kernel
theorem dX4_sumOf_14 : decode cX4_sumOf 14 = .ok (.getfield 65, 3) := by decide +kernel
theorem dX4_sumOf_17 : decode cX4_sumOf 17 = .ok (.goto 5, 3) := by decide +kernel
theorem dX4_sumOf_20 : decode cX4_sumOf 20 = .ok (.bipush (-6), 2) := by decide +kernel
theorem dX4_sumOf_22 : decode cX4_sumOf 22 = .ok (.ireturn, 1) := by decide +kernel
theorem dX4_combine_0 : decode cX4_combine 0 = .ok (.aload_n 0, 1) := by decide +kernel
theorem dX4_combine_1 : decode cX4_combine 1 = .ok (.iload_n 1, 1) := by decide +kernel
theorem dX4_combine_2 : decode cX4_combine 2 = .ok (.putfield 58, 3) := by decide +kernel
theorem dX4_combine_5 : decode cX4_combine 5 = .ok (.aload_n 0, 1) := by decide +kernel
theorem dX4_combine_6 : decode cX4_combine 6 = .ok (.iload_n 2, 1) := by decide +kernel
theorem dX4_combine_7 : decode cX4_combine 7 = .ok (.putfield 65, 3) := by decide +kernel
theorem dX4_combine_10 : decode cX4_combine 10 = .ok (.aload_n 0, 1) := by decide +kernel
theorem dX4_combine_11 : decode cX4_combine 11 = .ok (.iconst 0, 1) := by decide +kernel
theorem dX4_combine_12 : decode cX4_combine 12 = .ok (.putfield 68, 3) := by decide +kernel
theorem dX4_combine_15 : decode cX4_combine 15 = .ok (.iconst 0, 1) := by decide +kernel
theorem dX4_combine_16 : decode cX4_combine 16 = .ok (.istore_n 3, 1) := by decide +kernel
theorem dX4_combine_17 : decode cX4_combine 17 = .ok (.iload_n 3, 1) := by decide +kernel
theorem dX4_combine_18 : decode cX4_combine 18 = .ok (.bipush 12, 2) := by decide +kernel
theorem dX4_combine_20 : decode cX4_combine 20 = .ok (.if_icmp .ge 75, 3) := by decide +kernel
theorem dX4_combine_23 : decode cX4_combine 23 = .ok (.aload_n 0, 1) := by decide +kernel
theorem dX4_combine_24 : decode cX4_combine 24 = .ok (.getfield 58, 3) := by decide +kernel
theorem dX4_combine_27 : decode cX4_combine 27 = .ok (.iload_n 3, 1) := by decide +kernel
theorem dX4_combine_28 : decode cX4_combine 28 = .ok (.ishr, 1) := by decide +kernel
theorem dX4_combine_29 : decode cX4_combine 29 = .ok (.iconst 1, 1) := by decide +kernel
theorem dX4_combine_30 : decode cX4_combine 30 = .ok (.iand, 1) := by decide +kernel
theorem dX4_combine_31 : decode cX4_combine 31 = .ok (.iconst 1, 1) := by decide +kernel
theorem dX4_combine_32 : decode cX4_combine 32 = .ok (.if_icmp .ne 57, 3) := by decide +kernel
theorem dX4_combine_35 : decode cX4_combine 35 = .ok (.aload_n 0, 1) := by decide +kernel
theorem dX4_combine_36 : decode cX4_combine 36 = .ok (.getfield 21, 3) := by decide +kernel
theorem dX4_combine_39 : decode cX4_combine 39 = .ok (.iload_n 3, 1) := by decide +kernel
theorem dX4_combine_40 : decode cX4_combine 40 = .ok (.iaload, 1) := by decide +kernel
theorem dX4_combine_41 : decode cX4_combine 41 = .ok (.ifCond .eq 48, 3) := by decide +kernel
theorem dX4_combine_44 : decode cX4_combine 44 = .ok (.aload_n 0, 1) := by decide +kernel
theorem dX4_combine_45 : decode cX4_combine 45 = .ok (.dup, 1) := by decide +kernel
theorem dX4_combine_46 : decode cX4_combine 46 = .ok (.getfield 58, 3) := by decide +kernel
theorem dX4_combine_49 : decode cX4_combine 49 = .ok (.aload_n 0, 1) := by decide +kernel
theorem dX4_combine_50 : decode cX4_combine 50 = .ok (.getfield 21, 3) := by decide +kernel
theorem dX4_combine_53 : decode cX4_combine 53 = .ok (.iload_n 3, 1) := by decide +kernel
theorem dX4_combine_54 : decode cX4_combine 54 = .ok (.iaload, 1) := by decide +kernel
theorem dX4_combine_55 : decode cX4_combine 55 = .ok (.ixor, 1) := by decide +kernel
theorem dX4_combine_56 : decode cX4_combine 56 = .ok (.putfield 58, 3) := by decide +kernel
theorem dX4_combine_59 : decode cX4_combine 59 = .ok (.aload_n 0, 1) := by decide +kernel
theorem dX4_combine_60 : decode cX4_combine 60 = .ok (.dup, 1) := by decide +kernel
theorem dX4_combine_61 : decode cX4_combine 61 = .ok (.getfield 65, 3) := by decide +kernel
theorem dX4_combine_64 : decode cX4_combine 64 = .ok (.aload_n 0, 1) := by decide +kernel
theorem dX4_combine_65 : decode cX4_combine 65 = .ok (.getfield 24, 3) := by decide +kernel
theorem dX4_combine_68 : decode cX4_combine 68 = .ok (.iload_n 3, 1) := by decide +kernel
theorem dX4_combine_69 : decode cX4_combine 69 = .ok (.iaload, 1) := by decide +kernel
theorem dX4_combine_70 : decode cX4_combine 70 = .ok (.ixor, 1) := by decide +kernel
theorem dX4_combine_71 : decode cX4_combine 71 = .ok (.putfield 65, 3) := by decide +kernel
theorem dX4_combine_74 : decode cX4_combine 74 = .ok (.aload_n 0, 1) := by decide +kernel
theorem dX4_combine_75 : decode cX4_combine 75 = .ok (.dup, 1) := by decide +kernel
theorem dX4_combine_76 : decode cX4_combine 76 = .ok (.getfield 68, 3) := by decide +kernel
theorem dX4_combine_79 : decode cX4_combine 79 = .ok (.aload_n 0, 1) := by decide +kernel
theorem dX4_combine_80 : decode cX4_combine 80 = .ok (.getfield 27, 3) := by decide +kernel
theorem dX4_combine_83 : decode cX4_combine 83 = .ok (.iload_n 3, 1) := by decide +kernel
theorem dX4_combine_84 : decode cX4_combine 84 = .ok (.iaload, 1) := by decide +kernel
theorem dX4_combine_85 : decode cX4_combine 85 = .ok (.ixor, 1) := by decide +kernel
theorem dX4_combine_86 : decode cX4_combine 86 = .ok (.putfield 68, 3) := by decide +kernel
theorem dX4_combine_89 : decode cX4_combine 89 = .ok (.iinc 3 1, 3) := by decide +kernel
theorem dX4_combine_92 : decode cX4_combine 92 = .ok (.goto (-75), 3) := by decide +kernel
theorem dX4_combine_95 : decode cX4_combine 95 = .ok (.return_, 1) := by decide +kernel
theorem dX4_reasonsWith_0 : decode cX4_reasonsWith 0 = .ok (.iconst 0, 1) := by decide +kernel
theorem dX4_reasonsWith_1 : decode cX4_reasonsWith 1 = .ok (.istore_n 2, 1) := by decide +kernel
theorem dX4_reasonsWith_2 : decode cX4_reasonsWith 2 = .ok (.iconst 0, 1) := by decide +kernel
theorem dX4_reasonsWith_3 : decode cX4_reasonsWith 3 = .ok (.istore_n 3, 1) := by decide +kernel
theorem dX4_reasonsWith_4 : decode cX4_reasonsWith 4 = .ok (.iload_n 3, 1) := by decide +kernel
theorem dX4_reasonsWith_5 : decode cX4_reasonsWith 5 = .ok (.aload_n 0, 1) := by decide +kernel
theorem dX4_reasonsWith_6 : decode cX4_reasonsWith 6 = .ok (.getfield 40, 3) := by decide +kernel
theorem dX4_reasonsWith_9 : decode cX4_reasonsWith 9 = .ok (.if_icmp .ge 22, 3) := by decide +kernel
theorem dX4_reasonsWith_12 : decode cX4_reasonsWith 12 = .ok (.iload_n 2, 1) := by decide +kernel
theorem dX4_reasonsWith_13 : decode cX4_reasonsWith 13 = .ok (.aload_n 0, 1) := by decide +kernel
theorem dX4_reasonsWith_14 : decode cX4_reasonsWith 14 = .ok (.getfield 15, 3) := by decide +kernel
theorem dX4_reasonsWith_17 : decode cX4_reasonsWith 17 = .ok (.iload_n 3, 1) := by decide +kernel
theorem dX4_reasonsWith_18 : decode cX4_reasonsWith 18 = .ok (.iaload, 1) := by decide +kernel
theorem dX4_reasonsWith_19 : decode cX4_reasonsWith 19 = .ok (.iload_n 1, 1) := by decide +kernel
theorem dX4_reasonsWith_20 : decode cX4_reasonsWith 20 = .ok (.ishr, 1) := by decide +kernel
theorem dX4_reasonsWith_21 : decode cX4_reasonsWith 21 = .ok (.iconst 1, 1) := by decide +kernel
theorem dX4_reasonsWith_22 : decode cX4_reasonsWith 22 = .ok (.iand, 1) := by decide +kernel
theorem dX4_reasonsWith_23 : decode cX4_reasonsWith 23 = .ok (.iadd, 1) := by decide +kernel
theorem dX4_reasonsWith_24 : decode cX4_reasonsWith 24 = .ok (.istore_n 2, 1) := by decide +kernel
theorem dX4_reasonsWith_25 : decode cX4_reasonsWith 25 = .ok (.iinc 3 1, 3) := by decide +kernel
theorem dX4_reasonsWith_28 : decode cX4_reasonsWith 28 = .ok (.goto (-24), 3) := by decide +kernel
theorem dX4_reasonsWith_31 : decode cX4_reasonsWith 31 = .ok (.iload_n 2, 1) := by decide +kernel
theorem dX4_reasonsWith_32 : decode cX4_reasonsWith 32 = .ok (.ireturn, 1) := by decide +kernel
set_option maxRecDepth 20000 in
theorem ggX4_settled_X4_sumOf : GoodIn wsX4_settled wsX4_sumOf := goodIn_r _ [6, 7, 8, 9, 10, 11, 5, 12, 13, 14, 15, 16, 17, 18, 19, 20, 21, 22, 23, 24, 25, 26, 27, 28] (by decide +kernel) (by decide +kernel)
set_option maxRecDepth 20000 in
theorem gX4_settled_X4_sumOf : GoodIn wsX4_settled (wsV RX4 74 RX4 yX4_sumOf wsX4_sumOf) := goodIn_app (goodIn_of _ (by decide +kernel)) ggX4_settled_X4_sumOf
theorem dX4_settled_0 : decode cX4_settled 0 = .ok (.iconst 0, 1) := by decide +kernel
theorem dX4_settled_1 : decode cX4_settled 1 = .ok (.istore_n 1, 1) := by decide +kernel
theorem dX4_settled_2 : decode cX4_settled 2 = .ok (.iconst 0, 1) := by decide +kernel
theorem dX4_settled_3 : decode cX4_settled 3 = .ok (.istore_n 2, 1) := by decide +kernel
theorem dX4_settled_4 : decode cX4_settled 4 = .ok (.iload_n 2, 1) := by decide +kernel
theorem dX4_settled_5 : decode cX4_settled 5 = .ok (.aload_n 0, 1) := by decide +kernel
theorem dX4_settled_6 : decode cX4_settled 6 = .ok (.getfield 39, 3) := by decide +kernel
theorem dX4_settled_9 : decode cX4_settled 9 = .ok (.if_icmp .ge 27, 3) := by decide +kernel
theorem dX4_settled_12 : decode cX4_settled 12 = .ok (.aload_n 0, 1) := by decide +kernel
theorem dX4_settled_13 : decode cX4_settled 13 = .ok (.iconst 1, 1) := by decide +kernel
theorem dX4_settled_14 : decode cX4_settled 14 = .ok (.iload_n 2, 1) := by decide +kernel
theorem dX4_settled_15 : decode cX4_settled 15 = .ok (.ishl, 1) := by decide +kernel
theorem dX4_settled_16 : decode cX4_settled 16 = .ok (.invokevirtual 74, 3) := by decide +kernel
theorem dX4_settled_19 : decode cX4_settled 19 = .ok (.bipush (-6), 2) := by decide +kernel
theorem dX4_settled_21 : decode cX4_settled 21 = .ok (.if_icmp .eq 9, 3) := by decide +kernel
theorem dX4_settled_24 : decode cX4_settled 24 = .ok (.iload_n 1, 1) := by decide +kernel
theorem dX4_settled_25 : decode cX4_settled 25 = .ok (.iconst 1, 1) := by decide +kernel
theorem dX4_settled_26 : decode cX4_settled 26 = .ok (.iload_n 2, 1) := by decide +kernel
theorem dX4_settled_27 : decode cX4_settled 27 = .ok (.ishl, 1) := by decide +kernel
theorem dX4_settled_28 : decode cX4_settled 28 = .ok (.ior, 1) := by decide +kernel
theorem dX4_settled_29 : decode cX4_settled 29 = .ok (.istore_n 1, 1) := by decide +kernel
theorem dX4_settled_30 : decode cX4_settled 30 = .ok (.iinc 2 1, 3) := by decide +kernel
theorem dX4_settled_33 : decode cX4_settled 33 = .ok (.goto (-29), 3) := by decide +kernel
theorem dX4_settled_36 : decode cX4_settled 36 = .ok (.iload_n 1, 1) := by decide +kernel
theorem dX4_settled_37 : decode cX4_settled 37 = .ok (.ireturn, 1) := by decide +kernel
set_option maxRecDepth 20000 in
theorem ggX4_boundTo_X4_sumOf : GoodIn wsX4_boundTo wsX4_sumOf := goodIn_r _ [6, 7, 8, 9, 10, 11, 5, 12, 13, 14, 15, 16, 17, 18, 19, 20, 21, 22, 23, 24, 25, 26, 27, 28] (by decide +kernel) (by decide +kernel)
set_option maxRecDepth 20000 in
theorem gX4_boundTo_X4_sumOf : GoodIn wsX4_boundTo (wsV RX4 74 RX4 yX4_sumOf wsX4_sumOf) := goodIn_app (goodIn_of _ (by decide +kernel)) ggX4_boundTo_X4_sumOf
theorem dX4_boundTo_0 : decode cX4_boundTo 0 = .ok (.iconst 1, 1) := by decide +kernel
theorem dX4_boundTo_1 : decode cX4_boundTo 1 = .ok (.iload_n 1, 1) := by decide +kernel
theorem dX4_boundTo_2 : decode cX4_boundTo 2 = .ok (.ishl, 1) := by decide +kernel
theorem dX4_boundTo_3 : decode cX4_boundTo 3 = .ok (.istore_n 2, 1) := by decide +kernel
theorem dX4_boundTo_4 : decode cX4_boundTo 4 = .ok (.aload_n 0, 1) := by decide +kernel
theorem dX4_boundTo_5 : decode cX4_boundTo 5 = .ok (.iload_n 2, 1) := by decide +kernel
theorem dX4_boundTo_6 : decode cX4_boundTo 6 = .ok (.invokevirtual 74, 3) := by decide +kernel
theorem dX4_boundTo_9 : decode cX4_boundTo 9 = .ok (.bipush (-6), 2) := by decide +kernel
theorem dX4_boundTo_11 : decode cX4_boundTo 11 = .ok (.if_icmp .eq 5, 3) := by decide +kernel
theorem dX4_boundTo_14 : decode cX4_boundTo 14 = .ok (.iconst 0, 1) := by decide +kernel
theorem dX4_boundTo_15 : decode cX4_boundTo 15 = .ok (.ireturn, 1) := by decide +kernel
theorem dX4_boundTo_16 : decode cX4_boundTo 16 = .ok (.iconst 0, 1) := by decide +kernel
theorem dX4_boundTo_17 : decode cX4_boundTo 17 = .ok (.istore_n 3, 1) := by decide +kernel
theorem dX4_boundTo_18 : decode cX4_boundTo 18 = .ok (.iconst 0, 1) := by decide +kernel
theorem dX4_boundTo_19 : decode cX4_boundTo 19 = .ok (.istore 4, 2) := by decide +kernel
theorem dX4_boundTo_21 : decode cX4_boundTo 21 = .ok (.iload 4, 2) := by decide +kernel
theorem dX4_boundTo_23 : decode cX4_boundTo 23 = .ok (.aload_n 0, 1) := by decide +kernel
theorem dX4_boundTo_24 : decode cX4_boundTo 24 = .ok (.getfield 39, 3) := by decide +kernel
theorem dX4_boundTo_27 : decode cX4_boundTo 27 = .ok (.if_icmp .ge 37, 3) := by decide +kernel
theorem dX4_boundTo_30 : decode cX4_boundTo 30 = .ok (.iload 4, 2) := by decide +kernel
theorem dX4_boundTo_32 : decode cX4_boundTo 32 = .ok (.iload_n 1, 1) := by decide +kernel
theorem dX4_boundTo_33 : decode cX4_boundTo 33 = .ok (.if_icmp .eq 25, 3) := by decide +kernel
theorem dX4_boundTo_36 : decode cX4_boundTo 36 = .ok (.aload_n 0, 1) := by decide +kernel
theorem dX4_boundTo_37 : decode cX4_boundTo 37 = .ok (.iload_n 2, 1) := by decide +kernel
theorem dX4_boundTo_38 : decode cX4_boundTo 38 = .ok (.iconst 1, 1) := by decide +kernel
theorem dX4_boundTo_39 : decode cX4_boundTo 39 = .ok (.iload 4, 2) := by decide +kernel
theorem dX4_boundTo_41 : decode cX4_boundTo 41 = .ok (.ishl, 1) := by decide +kernel
theorem dX4_boundTo_42 : decode cX4_boundTo 42 = .ok (.ior, 1) := by decide +kernel
theorem dX4_boundTo_43 : decode cX4_boundTo 43 = .ok (.invokevirtual 74, 3) := by decide +kernel
theorem dX4_boundTo_46 : decode cX4_boundTo 46 = .ok (.bipush (-6), 2) := by decide +kernel
theorem dX4_boundTo_48 : decode cX4_boundTo 48 = .ok (.if_icmp .eq 10, 3) := by decide +kernel
theorem dX4_boundTo_51 : decode cX4_boundTo 51 = .ok (.iload_n 3, 1) := by decide +kernel
theorem dX4_boundTo_52 : decode cX4_boundTo 52 = .ok (.iconst 1, 1) := by decide +kernel
theorem dX4_boundTo_53 : decode cX4_boundTo 53 = .ok (.iload 4, 2) := by decide +kernel
theorem dX4_boundTo_55 : decode cX4_boundTo 55 = .ok (.ishl, 1) := by decide +kernel
theorem dX4_boundTo_56 : decode cX4_boundTo 56 = .ok (.ior, 1) := by decide +kernel
theorem dX4_boundTo_57 : decode cX4_boundTo 57 = .ok (.istore_n 3, 1) := by decide +kernel
theorem dX4_boundTo_58 : decode cX4_boundTo 58 = .ok (.iinc 4 1, 3) := by decide +kernel
theorem dX4_boundTo_61 : decode cX4_boundTo 61 = .ok (.goto (-40), 3) := by decide +kernel
theorem dX4_boundTo_64 : decode cX4_boundTo 64 = .ok (.iload_n 3, 1) := by decide +kernel
theorem dX4_boundTo_65 : decode cX4_boundTo 65 = .ok (.ireturn, 1) := by decide +kernel
theorem dX4_answers_0 : decode cX4_answers 0 = .ok (.iconst 1, 1) := by decide +kernel
theorem dX4_answers_1 : decode cX4_answers 1 = .ok (.aload_n 0, 1) := by decide +kernel
theorem dX4_answers_2 : decode cX4_answers 2 = .ok (.getfield 39, 3) := by decide +kernel
theorem dX4_answers_5 : decode cX4_answers 5 = .ok (.aload_n 0, 1) := by decide +kernel
theorem dX4_answers_6 : decode cX4_answers 6 = .ok (.getfield 18, 3) := by decide +kernel
theorem dX4_answers_9 : decode cX4_answers 9 = .ok (.iconst 0, 1) := by decide +kernel
theorem dX4_answers_10 : decode cX4_answers 10 = .ok (.iaload, 1) := by decide +kernel
theorem dX4_answers_11 : decode cX4_answers 11 = .ok (.isub, 1) := by decide +kernel
theorem dX4_answers_12 : decode cX4_answers 12 = .ok (.ishl, 1) := by decide +kernel
theorem dX4_answers_13 : decode cX4_answers 13 = .ok (.ireturn, 1) := by decide +kernel
set_option maxRecDepth 20000 in
theorem ggX4_answerAt_X5_parity : GoodIn wsX4_answerAt wsX5_parity := goodIn_r _ [7, 8, 9, 10, 11, 12, 13, 14] (by decide +kernel) (by decide +kernel)
set_option maxRecDepth 20000 in
theorem gX4_answerAt_X5_parity_n77 : GoodIn wsX4_answerAt (wsX5_parity) := ggX4_answerAt_X5_parity
theorem dX4_answerAt_0 : decode cX4_answerAt 0 = .ok (.aload_n 0, 1) := by decide +kernel
theorem dX4_answerAt_1 : decode cX4_answerAt 1 = .ok (.getfield 39, 3) := by decide +kernel
theorem dX4_answerAt_4 : decode cX4_answerAt 4 = .ok (.aload_n 0, 1) := by decide +kernel
theorem dX4_answerAt_5 : decode cX4_answerAt 5 = .ok (.getfield 18, 3) := by decide +kernel
theorem dX4_answerAt_8 : decode cX4_answerAt 8 = .ok (.iconst 0, 1) := by decide +kernel
theorem dX4_answerAt_9 : decode cX4_answerAt 9 = .ok (.iaload, 1) := by decide +kernel
theorem dX4_answerAt_10 : decode cX4_answerAt 10 = .ok (.isub, 1) := by decide +kernel
theorem dX4_answerAt_11 : decode cX4_answerAt 11 = .ok (.istore_n 2, 1) := by decide +kernel
theorem dX4_answerAt_12 : decode cX4_answerAt 12 = .ok (.iconst 0, 1) := by decide +kernel
theorem dX4_answerAt_13 : decode cX4_answerAt 13 = .ok (.istore_n 3, 1) := by decide +kernel
theorem dX4_answerAt_14 : decode cX4_answerAt 14 = .ok (.aload_n 0, 1) := by decide +kernel
theorem dX4_answerAt_15 : decode cX4_answerAt 15 = .ok (.getfield 39, 3) := by decide +kernel
theorem dX4_answerAt_18 : decode cX4_answerAt 18 = .ok (.iconst 1, 1) := by decide +kernel
theorem dX4_answerAt_19 : decode cX4_answerAt 19 = .ok (.isub, 1) := by decide +kernel
theorem dX4_answerAt_20 : decode cX4_answerAt 20 = .ok (.istore 4, 2) := by decide +kernel
theorem dX4_answerAt_22 : decode cX4_answerAt 22 = .ok (.iload 4, 2) := by decide +kernel
theorem dX4_answerAt_24 : decode cX4_answerAt 24 = .ok (.ifCond .lt 62, 3) := by decide +kernel
theorem dX4_answerAt_27 : decode cX4_answerAt 27 = .ok (.aload_n 0, 1) := by decide +kernel
theorem dX4_answerAt_28 : decode cX4_answerAt 28 = .ok (.getfield 21, 3) := by decide +kernel
theorem dX4_answerAt_31 : decode cX4_answerAt 31 = .ok (.iload 4, 2) := by decide +kernel
theorem dX4_answerAt_33 : decode cX4_answerAt 33 = .ok (.iaload, 1) := by decide +kernel
theorem dX4_answerAt_34 : decode cX4_answerAt 34 = .ok (.ifCond .ne 16, 3) := by decide +kernel
theorem dX4_answerAt_37 : decode cX4_answerAt 37 = .ok (.iinc 2 (-1), 3) := by decide +kernel
theorem dX4_answerAt_40 : decode cX4_answerAt 40 = .ok (.iload_n 1, 1) := by decide +kernel
theorem dX4_answerAt_41 : decode cX4_answerAt 41 = .ok (.iload_n 2, 1) := by decide +kernel
theorem dX4_answerAt_42 : decode cX4_answerAt 42 = .ok (.ishr, 1) := by decide +kernel
theorem dX4_answerAt_43 : decode cX4_answerAt 43 = .ok (.iconst 1, 1) := by decide +kernel
theorem dX4_answerAt_44 : decode cX4_answerAt 44 = .ok (.iand, 1) := by decide +kernel
theorem dX4_answerAt_45 : decode cX4_answerAt 45 = .ok (.istore 5, 2) := by decide +kernel
theorem dX4_answerAt_47 : decode cX4_answerAt 47 = .ok (.goto 25, 3) := by decide +kernel
theorem dX4_answerAt_50 : decode cX4_answerAt 50 = .ok (.aload_n 0, 1) := by decide +kernel
theorem dX4_answerAt_51 : decode cX4_answerAt 51 = .ok (.getfield 24, 3) := by decide +kernel
theorem dX4_answerAt_54 : decode cX4_answerAt 54 = .ok (.iload 4, 2) := by decide +kernel
theorem dX4_answerAt_56 : decode cX4_answerAt 56 = .ok (.iaload, 1) := by decide +kernel
theorem dX4_answerAt_57 : decode cX4_answerAt 57 = .ok (.aload_n 0, 1) := by decide +kernel
theorem dX4_answerAt_58 : decode cX4_answerAt 58 = .ok (.getfield 21, 3) := by decide +kernel
theorem dX4_answerAt_61 : decode cX4_answerAt 61 = .ok (.iload 4, 2) := by decide +kernel
theorem dX4_answerAt_63 : decode cX4_answerAt 63 = .ok (.iaload, 1) := by decide +kernel
theorem dX4_answerAt_64 : decode cX4_answerAt 64 = .ok (.iload_n 3, 1) := by decide +kernel
theorem dX4_answerAt_65 : decode cX4_answerAt 65 = .ok (.iand, 1) := by decide +kernel
theorem dX4_answerAt_66 : decode cX4_answerAt 66 = .ok (.invokestatic 77, 3) := by decide +kernel
theorem dX4_answerAt_69 : decode cX4_answerAt 69 = .ok (.ixor, 1) := by decide +kernel
theorem dX4_answerAt_70 : decode cX4_answerAt 70 = .ok (.istore 5, 2) := by decide +kernel
theorem dX4_answerAt_72 : decode cX4_answerAt 72 = .ok (.iload_n 3, 1) := by decide +kernel
theorem dX4_answerAt_73 : decode cX4_answerAt 73 = .ok (.iload 5, 2) := by decide +kernel
theorem dX4_answerAt_75 : decode cX4_answerAt 75 = .ok (.iload 4, 2) := by decide +kernel
theorem dX4_answerAt_77 : decode cX4_answerAt 77 = .ok (.ishl, 1) := by decide +kernel
theorem dX4_answerAt_78 : decode cX4_answerAt 78 = .ok (.ior, 1) := by decide +kernel
theorem dX4_answerAt_79 : decode cX4_answerAt 79 = .ok (.istore_n 3, 1) := by decide +kernel
theorem dX4_answerAt_80 : decode cX4_answerAt 80 = .ok (.iinc 4 (-1), 3) := by decide +kernel
theorem dX4_answerAt_83 : decode cX4_answerAt 83 = .ok (.goto (-61), 3) := by decide +kernel
theorem dX4_answerAt_86 : decode cX4_answerAt 86 = .ok (.iload_n 3, 1) := by decide +kernel
theorem dX4_answerAt_87 : decode cX4_answerAt 87 = .ok (.ireturn, 1) := by decide +kernel
set_option maxRecDepth 20000 in
theorem ggX4_nearestTo_X4_fillExchanges : GoodIn wsX4_nearestTo wsX4_fillExchanges := goodIn_r _ [6, 7, 8, 1, 9, 10, 11, 5, 12, 13, 14, 15, 16, 17, 18, 19, 20, 21, 22, 23, 24, 32, 33, 34, 35, 36, 37, 38, 39, 40, 41, 42, 43] (by decide +kernel) (by decide +kernel)
set_option maxRecDepth 20000 in
theorem gX4_nearestTo_X4_fillExchanges : GoodIn wsX4_nearestTo (wsV RX4 80 RX4 yX4_fillExchanges wsX4_fillExchanges) := goodIn_app (goodIn_of _ (by decide +kernel)) ggX4_nearestTo_X4_fillExchanges
set_option maxRecDepth 20000 in
theorem ggX4_nearestTo_X4_answerAt : GoodIn wsX4_nearestTo wsX4_answerAt := goodIn_r _ [12, 7, 8, 13, 14, 15, 16, 17, 18, 19, 20, 21, 22, 23, 24, 32, 33, 34, 35, 36, 37, 38, 39, 40, 41, 42, 43] (by decide +kernel) (by decide +kernel)
set_option maxRecDepth 20000 in
theorem gX4_nearestTo_X4_answerAt : GoodIn wsX4_nearestTo (wsV RX4 83 RX4 yX4_answerAt wsX4_answerAt) := goodIn_app (goodIn_of _ (by decide +kernel)) ggX4_nearestTo_X4_answerAt
set_option maxRecDepth 20000 in
theorem ggX4_nearestTo_J6_bitCount_0f7a4 : GoodIn wsX4_nearestTo wsJ6_bitCount_0f7a4 := goodIn_r _ [21, 22, 23, 24] (by decide +kernel) (by decide +kernel)
set_option maxRecDepth 20000 in
theorem gX4_nearestTo_J6_bitCount_0f7a4 : GoodIn wsX4_nearestTo (va_wsS RX4 86 yJ6_bitCount_0f7a4 wsJ6_bitCount_0f7a4) := goodIn_app (goodIn_of _ (by decide +kernel)) ggX4_nearestTo_J6_bitCount_0f7a4
set_option maxRecDepth 20000 in
theorem ggX4_nearestTo_X4_answers : GoodIn wsX4_nearestTo wsX4_answers := goodIn_r _ [29, 7, 8, 32, 33, 34, 35, 36, 37, 38, 39, 40, 41, 42, 43] (by decide +kernel) (by decide +kernel)
set_option maxRecDepth 20000 in
theorem gX4_nearestTo_X4_answers : GoodIn wsX4_nearestTo (wsV RX4 91 RX4 yX4_answers wsX4_answers) := goodIn_app (goodIn_of _ (by decide +kernel)) ggX4_nearestTo_X4_answers
set_option maxRecDepth 20000 in
theorem ggX4_nearestTo_X5_lowestBit : GoodIn wsX4_nearestTo wsX5_lowestBit := goodIn_r _ [31, 18, 19, 20, 21, 22, 23, 24] (by decide +kernel) (by decide +kernel)
set_option maxRecDepth 20000 in
theorem gX4_nearestTo_X5_lowestBit_n61 : GoodIn wsX4_nearestTo (wsX5_lowestBit) := ggX4_nearestTo_X5_lowestBit
theorem dX4_nearestTo_0 : decode cX4_nearestTo 0 = .ok (.aload_n 0, 1) := by decide +kernel
theorem dX4_nearestTo_1 : decode cX4_nearestTo 1 = .ok (.invokevirtual 80, 3) := by decide +kernel
theorem dX4_nearestTo_4 : decode cX4_nearestTo 4 = .ok (.aload_n 0, 1) := by decide +kernel
theorem dX4_nearestTo_5 : decode cX4_nearestTo 5 = .ok (.iconst 0, 1) := by decide +kernel
theorem dX4_nearestTo_6 : decode cX4_nearestTo 6 = .ok (.invokevirtual 83, 3) := by decide +kernel
theorem dX4_nearestTo_9 : decode cX4_nearestTo 9 = .ok (.istore_n 2, 1) := by decide +kernel
theorem dX4_nearestTo_10 : decode cX4_nearestTo 10 = .ok (.iload_n 2, 1) := by decide +kernel
theorem dX4_nearestTo_11 : decode cX4_nearestTo 11 = .ok (.istore_n 3, 1) := by decide +kernel
theorem dX4_nearestTo_12 : decode cX4_nearestTo 12 = .ok (.iload_n 2, 1) := by decide +kernel
theorem dX4_nearestTo_13 : decode cX4_nearestTo 13 = .ok (.iload_n 1, 1) := by decide +kernel
theorem dX4_nearestTo_14 : decode cX4_nearestTo 14 = .ok (.ixor, 1) := by decide +kernel
theorem dX4_nearestTo_15 : decode cX4_nearestTo 15 = .ok (.invokestatic 86, 3) := by decide +kernel
theorem dX4_nearestTo_18 : decode cX4_nearestTo 18 = .ok (.istore 4, 2) := by decide +kernel
theorem dX4_nearestTo_20 : decode cX4_nearestTo 20 = .ok (.aload_n 0, 1) := by decide +kernel
theorem dX4_nearestTo_21 : decode cX4_nearestTo 21 = .ok (.invokevirtual 91, 3) := by decide +kernel
theorem dX4_nearestTo_24 : decode cX4_nearestTo 24 = .ok (.iconst 1, 1) := by decide +kernel
theorem dX4_nearestTo_25 : decode cX4_nearestTo 25 = .ok (.isub, 1) := by decide +kernel
theorem dX4_nearestTo_26 : decode cX4_nearestTo 26 = .ok (.istore 5, 2) := by decide +kernel
theorem dX4_nearestTo_28 : decode cX4_nearestTo 28 = .ok (.iconst 1, 1) := by decide +kernel
theorem dX4_nearestTo_29 : decode cX4_nearestTo 29 = .ok (.istore 6, 2) := by decide +kernel
theorem dX4_nearestTo_31 : decode cX4_nearestTo 31 = .ok (.iload 6, 2) := by decide +kernel
theorem dX4_nearestTo_33 : decode cX4_nearestTo 33 = .ok (.iload 5, 2) := by decide +kernel
theorem dX4_nearestTo_35 : decode cX4_nearestTo 35 = .ok (.if_icmp .gt 43, 3) := by decide +kernel
theorem dX4_nearestTo_38 : decode cX4_nearestTo 38 = .ok (.iload_n 2, 1) := by decide +kernel
theorem dX4_nearestTo_39 : decode cX4_nearestTo 39 = .ok (.aload_n 0, 1) := by decide +kernel
theorem dX4_nearestTo_40 : decode cX4_nearestTo 40 = .ok (.getfield 30, 3) := by decide +kernel
theorem dX4_nearestTo_43 : decode cX4_nearestTo 43 = .ok (.iload 6, 2) := by decide +kernel
theorem dX4_nearestTo_45 : decode cX4_nearestTo 45 = .ok (.invokestatic 61, 3) := by decide +kernel
theorem dX4_nearestTo_48 : decode cX4_nearestTo 48 = .ok (.iaload, 1) := by decide +kernel
theorem dX4_nearestTo_49 : decode cX4_nearestTo 49 = .ok (.ixor, 1) := by decide +kernel
theorem dX4_nearestTo_50 : decode cX4_nearestTo 50 = .ok (.istore_n 2, 1) := by decide +kernel
theorem dX4_nearestTo_51 : decode cX4_nearestTo 51 = .ok (.iload_n 2, 1) := by decide +kernel
theorem dX4_nearestTo_52 : decode cX4_nearestTo 52 = .ok (.iload_n 1, 1) := by decide +kernel
theorem dX4_nearestTo_53 : decode cX4_nearestTo 53 = .ok (.ixor, 1) := by decide +kernel
theorem dX4_nearestTo_54 : decode cX4_nearestTo 54 = .ok (.invokestatic 86, 3) := by decide +kernel
theorem dX4_nearestTo_57 : decode cX4_nearestTo 57 = .ok (.istore 7, 2) := by decide +kernel
theorem dX4_nearestTo_59 : decode cX4_nearestTo 59 = .ok (.iload 7, 2) := by decide +kernel
theorem dX4_nearestTo_61 : decode cX4_nearestTo 61 = .ok (.iload 4, 2) := by decide +kernel
theorem dX4_nearestTo_63 : decode cX4_nearestTo 63 = .ok (.if_icmp .ge 9, 3) := by decide +kernel
theorem dX4_nearestTo_66 : decode cX4_nearestTo 66 = .ok (.iload 7, 2) := by decide +kernel
theorem dX4_nearestTo_68 : decode cX4_nearestTo 68 = .ok (.istore 4, 2) := by decide +kernel
theorem dX4_nearestTo_70 : decode cX4_nearestTo 70 = .ok (.iload_n 2, 1) := by decide +kernel
theorem dX4_nearestTo_71 : decode cX4_nearestTo 71 = .ok (.istore_n 3, 1) := by decide +kernel
theorem dX4_nearestTo_72 : decode cX4_nearestTo 72 = .ok (.iinc 6 1, 3) := by decide +kernel
theorem dX4_nearestTo_75 : decode cX4_nearestTo 75 = .ok (.goto (-44), 3) := by decide +kernel
theorem dX4_nearestTo_78 : decode cX4_nearestTo 78 = .ok (.iload_n 3, 1) := by decide +kernel
theorem dX4_nearestTo_79 : decode cX4_nearestTo 79 = .ok (.ireturn, 1) := by decide +kernel
set_option maxRecDepth 20000 in
theorem ggX4_fillExchanges_X4_answerAt : GoodIn wsX4_fillExchanges wsX4_answerAt := goodIn_r _ [8, 1, 2, 9, 10, 11, 12, 13, 14, 15, 16, 17, 18, 19, 20, 21, 22, 23, 24, 25, 26, 27, 28, 29, 30, 31, 32] (by decide +kernel) (by decide +kernel)
set_option maxRecDepth 20000 in
theorem gX4_fillExchanges_X4_answerAt : GoodIn wsX4_fillExchanges (wsV RX4 83 RX4 yX4_answerAt wsX4_answerAt) := goodIn_app (goodIn_of _ (by decide +kernel)) ggX4_fillExchanges_X4_answerAt
theorem dX4_fillExchanges_0 : decode cX4_fillExchanges 0 = .ok (.aload_n 0, 1) := by decide +kernel
theorem dX4_fillExchanges_1 : decode cX4_fillExchanges 1 = .ok (.iconst 0, 1) := by decide +kernel
theorem dX4_fillExchanges_2 : decode cX4_fillExchanges 2 = .ok (.invokevirtual 83, 3) := by decide +kernel
theorem dX4_fillExchanges_5 : decode cX4_fillExchanges 5 = .ok (.istore_n 1, 1) := by decide +kernel
theorem dX4_fillExchanges_6 : decode cX4_fillExchanges 6 = .ok (.aload_n 0, 1) := by decide +kernel
theorem dX4_fillExchanges_7 : decode cX4_fillExchanges 7 = .ok (.getfield 39, 3) := by decide +kernel
theorem dX4_fillExchanges_10 : decode cX4_fillExchanges 10 = .ok (.aload_n 0, 1) := by decide +kernel
theorem dX4_fillExchanges_11 : decode cX4_fillExchanges 11 = .ok (.getfield 18, 3) := by decide +kernel
theorem dX4_fillExchanges_14 : decode cX4_fillExchanges 14 = .ok (.iconst 0, 1) := by decide +kernel
theorem dX4_fillExchanges_15 : decode cX4_fillExchanges 15 = .ok (.iaload, 1) := by decide +kernel
theorem dX4_fillExchanges_16 : decode cX4_fillExchanges 16 = .ok (.isub, 1) := by decide +kernel
theorem dX4_fillExchanges_17 : decode cX4_fillExchanges 17 = .ok (.istore_n 2, 1) := by decide +kernel
theorem dX4_fillExchanges_18 : decode cX4_fillExchanges 18 = .ok (.iconst 0, 1) := by decide +kernel
theorem dX4_fillExchanges_19 : decode cX4_fillExchanges 19 = .ok (.istore_n 3, 1) := by decide +kernel
theorem dX4_fillExchanges_20 : decode cX4_fillExchanges 20 = .ok (.iload_n 3, 1) := by decide +kernel
theorem dX4_fillExchanges_21 : decode cX4_fillExchanges 21 = .ok (.iload_n 2, 1) := by decide +kernel
theorem dX4_fillExchanges_22 : decode cX4_fillExchanges 22 = .ok (.if_icmp .ge 26, 3) := by decide +kernel
theorem dX4_fillExchanges_25 : decode cX4_fillExchanges 25 = .ok (.aload_n 0, 1) := by decide +kernel
theorem dX4_fillExchanges_26 : decode cX4_fillExchanges 26 = .ok (.getfield 30, 3) := by decide +kernel
theorem dX4_fillExchanges_29 : decode cX4_fillExchanges 29 = .ok (.iload_n 3, 1) := by decide +kernel
theorem dX4_fillExchanges_30 : decode cX4_fillExchanges 30 = .ok (.iload_n 1, 1) := by decide +kernel
theorem dX4_fillExchanges_31 : decode cX4_fillExchanges 31 = .ok (.aload_n 0, 1) := by decide +kernel
theorem dX4_fillExchanges_32 : decode cX4_fillExchanges 32 = .ok (.iconst 2, 1) := by decide +kernel
theorem dX4_fillExchanges_33 : decode cX4_fillExchanges 33 = .ok (.iload_n 3, 1) := by decide +kernel
theorem dX4_fillExchanges_34 : decode cX4_fillExchanges 34 = .ok (.ishl, 1) := by decide +kernel
theorem dX4_fillExchanges_35 : decode cX4_fillExchanges 35 = .ok (.iconst 1, 1) := by decide +kernel
theorem dX4_fillExchanges_36 : decode cX4_fillExchanges 36 = .ok (.isub, 1) := by decide +kernel
theorem dX4_fillExchanges_37 : decode cX4_fillExchanges 37 = .ok (.invokevirtual 83, 3) := by decide +kernel
theorem dX4_fillExchanges_40 : decode cX4_fillExchanges 40 = .ok (.ixor, 1) := by decide +kernel
theorem dX4_fillExchanges_41 : decode cX4_fillExchanges 41 = .ok (.iastore, 1) := by decide +kernel
theorem dX4_fillExchanges_42 : decode cX4_fillExchanges 42 = .ok (.iinc 3 1, 3) := by decide +kernel
theorem dX4_fillExchanges_45 : decode cX4_fillExchanges 45 = .ok (.goto (-25), 3) := by decide +kernel
theorem dX4_fillExchanges_48 : decode cX4_fillExchanges 48 = .ok (.return_, 1) := by decide +kernel
set_option maxRecDepth 20000 in
theorem ggX5_init_X3_init : GoodIn wsX5_init wsX3_init := goodIn_r _ [33, 34, 2, 3, 35, 14, 36, 37, 98, 99, 100, 101] (by decide +kernel) (by decide +kernel)
set_option maxRecDepth 20000 in
theorem gX5_init_X3_init_n9 : GoodIn wsX5_init (wsX3_init) := ggX5_init_X3_init
set_option maxRecDepth 20000 in
theorem ggX5_init_X4_init : GoodIn wsX5_init wsX4_init := goodIn_r _ [39, 40, 2, 3, 14, 41, 42, 43, 44, 45, 46, 47, 113, 114, 115, 116, 117, 118, 119, 120, 121, 122, 123, 124] (by decide +kernel) (by decide +kernel)
set_option maxRecDepth 20000 in
theorem gX5_init_X4_init_n18 : GoodIn wsX5_init (wsX4_init) := ggX5_init_X4_init
set_option maxRecDepth 20000 in
theorem ggX5_init_X0_init : GoodIn wsX5_init wsX0_init := goodIn_r _ [49, 50, 2, 3, 14, 51, 125, 126, 127, 128] (by decide +kernel) (by decide +kernel)
set_option maxRecDepth 20000 in
theorem gX5_init_X0_init_n35 : GoodIn wsX5_init (wsX0_init) := ggX5_init_X0_init
set_option maxRecDepth 20000 in
theorem ggX5_init_X2_init : GoodIn wsX5_init wsX2_init := goodIn_r _ [53, 54, 2, 3, 55, 56, 129, 130, 131, 132, 133, 134] (by decide +kernel) (by decide +kernel)
set_option maxRecDepth 20000 in
theorem gX5_init_X2_init_n42 : GoodIn wsX5_init (wsX2_init) := ggX5_init_X2_init
set_option maxRecDepth 20000 in
theorem ggX5_init_X1_init : GoodIn wsX5_init wsX1_init := goodIn_r _ [59, 60, 2, 3, 61, 62, 5, 6, 32, 33, 34, 35, 14, 36, 37, 135, 136, 98, 99, 100, 101] (by decide +kernel) (by decide +kernel)
set_option maxRecDepth 20000 in
theorem gX5_init_X1_init : GoodIn wsX5_init (wsX1_init) := ggX5_init_X1_init
set_option maxRecDepth 20000 in
theorem ggX5_init_X4_judge : GoodIn wsX5_init wsX4_judge := goodIn_r _ [66, 67, 68, 69, 43, 44, 70, 71, 72, 73, 74, 75, 10, 76, 77, 45, 78, 46, 79, 41, 42, 80, 81, 82, 83, 84, 85, 86, 87, 88, 89, 90, 91, 92, 93, 94, 95, 96, 97, 98, 99, 100, 101, 113, 114, 115, 116, 117, 118, 119, 120, 121, 122, 123, 124] (by decide +kernel) (by decide +kernel)
set_option maxRecDepth 20000 in
theorem gX5_init_X4_judge : GoodIn wsX5_init (wsV RX5 65 RX4 yX4_judge wsX4_judge) := goodIn_app (goodIn_of _ (by decide +kernel)) ggX5_init_X4_judge
theorem dX5_init_0 : decode cX5_init 0 = .ok (.aload_n 0, 1) := by decide +kernel
theorem dX5_init_1 : decode cX5_init 1 = .ok (.invokespecial 1, 3) := by decide +kernel
theorem dX5_init_4 : decode cX5_init 4 = .ok (.aload_n 0, 1) := by decide +kernel
theorem dX5_init_5 : decode cX5_init 5 = .ok (.new 7, 3) := by decide +kernel
theorem dX5_init_8 : decode cX5_init 8 = .ok (.dup, 1) := by decide +kernel
theorem dX5_init_9 : decode cX5_init 9 = .ok (.invokespecial 9, 3) := by decide +kernel
theorem dX5_init_12 : decode cX5_init 12 = .ok (.putfield 10, 3) := by decide +kernel
theorem dX5_init_15 : decode cX5_init 15 = .ok (.aload_n 0, 1) := by decide +kernel
theorem dX5_init_16 : decode cX5_init 16 = .ok (.new 16, 3) := by decide +kernel
theorem dX5_init_19 : decode cX5_init 19 = .ok (.dup, 1) := by decide +kernel
theorem dX5_init_20 : decode cX5_init 20 = .ok (.invokespecial 18, 3) := by decide +kernel
theorem dX5_init_23 : decode cX5_init 23 = .ok (.putfield 19, 3) := by decide +kernel
theorem dX5_init_26 : decode cX5_init 26 = .ok (.aload_n 0, 1) := by decide +kernel
theorem dX5_init_27 : decode cX5_init 27 = .ok (.new 7, 3) := by decide +kernel
theorem dX5_init_30 : decode cX5_init 30 = .ok (.dup, 1) := by decide +kernel
theorem dX5_init_31 : decode cX5_init 31 = .ok (.invokespecial 9, 3) := by decide +kernel
theorem dX5_init_34 : decode cX5_init 34 = .ok (.putfield 23, 3) := by decide +kernel
theorem dX5_init_37 : decode cX5_init 37 = .ok (.aload_n 0, 1) := by decide +kernel
theorem dX5_init_38 : decode cX5_init 38 = .ok (.new 16, 3) := by decide +kernel
theorem dX5_init_41 : decode cX5_init 41 = .ok (.dup, 1) := by decide +kernel
theorem dX5_init_42 : decode cX5_init 42 = .ok (.invokespecial 18, 3) := by decide +kernel
theorem dX5_init_45 : decode cX5_init 45 = .ok (.putfield 26, 3) := by decide +kernel
theorem dX5_init_48 : decode cX5_init 48 = .ok (.aload_n 0, 1) := by decide +kernel
theorem dX5_init_49 : decode cX5_init 49 = .ok (.bipush 20, 2) := by decide +kernel
theorem dX5_init_51 : decode cX5_init 51 = .ok (.newarray .int, 2) := by decide +kernel
theorem dX5_init_53 : decode cX5_init 53 = .ok (.putfield 29, 3) := by decide +kernel
theorem dX5_init_56 : decode cX5_init 56 = .ok (.aload_n 0, 1) := by decide +kernel
theorem dX5_init_57 : decode cX5_init 57 = .ok (.new 33, 3) := by decide +kernel
theorem dX5_init_60 : decode cX5_init 60 = .ok (.dup, 1) := by decide +kernel
theorem dX5_init_61 : decode cX5_init 61 = .ok (.invokespecial 35, 3) := by decide +kernel
theorem dX5_init_64 : decode cX5_init 64 = .ok (.putfield 36, 3) := by decide +kernel
theorem dX5_init_67 : decode cX5_init 67 = .ok (.aload_n 0, 1) := by decide +kernel
theorem dX5_init_68 : decode cX5_init 68 = .ok (.new 40, 3) := by decide +kernel
theorem dX5_init_71 : decode cX5_init 71 = .ok (.dup, 1) := by decide +kernel
theorem dX5_init_72 : decode cX5_init 72 = .ok (.invokespecial 42, 3) := by decide +kernel
theorem dX5_init_75 : decode cX5_init 75 = .ok (.putfield 43, 3) := by decide +kernel
theorem dX5_init_78 : decode cX5_init 78 = .ok (.aload_n 0, 1) := by decide +kernel
theorem dX5_init_79 : decode cX5_init 79 = .ok (.new 7, 3) := by decide +kernel
theorem dX5_init_82 : decode cX5_init 82 = .ok (.dup, 1) := by decide +kernel
theorem dX5_init_83 : decode cX5_init 83 = .ok (.invokespecial 9, 3) := by decide +kernel
theorem dX5_init_86 : decode cX5_init 86 = .ok (.putfield 47, 3) := by decide +kernel
theorem dX5_init_89 : decode cX5_init 89 = .ok (.aload_n 0, 1) := by decide +kernel
theorem dX5_init_90 : decode cX5_init 90 = .ok (.new 50, 3) := by decide +kernel
theorem dX5_init_93 : decode cX5_init 93 = .ok (.dup, 1) := by decide +kernel
theorem dX5_init_94 : decode cX5_init 94 = .ok (.invokespecial 52, 3) := by decide +kernel
theorem dX5_init_97 : decode cX5_init 97 = .ok (.putfield 53, 3) := by decide +kernel
theorem dX5_init_100 : decode cX5_init 100 = .ok (.aload_n 0, 1) := by decide +kernel
theorem dX5_init_101 : decode cX5_init 101 = .ok (.iconst 2, 1) := by decide +kernel
theorem dX5_init_102 : decode cX5_init 102 = .ok (.anewarray 7, 3) := by decide +kernel
theorem dX5_init_105 : decode cX5_init 105 = .ok (.putfield 57, 3) := by decide +kernel
theorem dX5_init_108 : decode cX5_init 108 = .ok (.aload_n 0, 1) := by decide +kernel
theorem dX5_init_109 : decode cX5_init 109 = .ok (.iconst 2, 1) := by decide +kernel
theorem dX5_init_110 : decode cX5_init 110 = .ok (.newarray .boolean, 2) := by decide +kernel
theorem dX5_init_112 : decode cX5_init 112 = .ok (.putfield 61, 3) := by decide +kernel
theorem dX5_init_115 : decode cX5_init 115 = .ok (.iconst 0, 1) := by decide +kernel
theorem dX5_init_116 : decode cX5_init 116 = .ok (.istore_n 1, 1) := by decide +kernel
theorem dX5_init_117 : decode cX5_init 117 = .ok (.iload_n 1, 1) := by decide +kernel
theorem dX5_init_118 : decode cX5_init 118 = .ok (.iconst 2, 1) := by decide +kernel
theorem dX5_init_119 : decode cX5_init 119 = .ok (.if_icmp .ge 22, 3) := by decide +kernel
theorem dX5_init_122 : decode cX5_init 122 = .ok (.aload_n 0, 1) := by decide +kernel
theorem dX5_init_123 : decode cX5_init 123 = .ok (.getfield 57, 3) := by decide +kernel
theorem dX5_init_126 : decode cX5_init 126 = .ok (.iload_n 1, 1) := by decide +kernel
theorem dX5_init_127 : decode cX5_init 127 = .ok (.new 7, 3) := by decide +kernel
theorem dX5_init_130 : decode cX5_init 130 = .ok (.dup, 1) := by decide +kernel
theorem dX5_init_131 : decode cX5_init 131 = .ok (.invokespecial 9, 3) := by decide +kernel
theorem dX5_init_134 : decode cX5_init 134 = .ok (.aastore, 1) := by decide +kernel
theorem dX5_init_135 : decode cX5_init 135 = .ok (.iinc 1 1, 3) := by decide +kernel
theorem dX5_init_138 : decode cX5_init 138 = .ok (.goto (-21), 3) := by decide +kernel
theorem dX5_init_141 : decode cX5_init 141 = .ok (.aload_n 0, 1) := by decide +kernel
theorem dX5_init_142 : decode cX5_init 142 = .ok (.getfield 19, 3) := by decide +kernel
theorem dX5_init_145 : decode cX5_init 145 = .ok (.aload_n 0, 1) := by decide +kernel
theorem dX5_init_146 : decode cX5_init 146 = .ok (.getfield 10, 3) := by decide +kernel
theorem dX5_init_149 : decode cX5_init 149 = .ok (.invokevirtual 65, 3) := by decide +kernel
theorem dX5_init_152 : decode cX5_init 152 = .ok (.return_, 1) := by decide +kernel
set_option maxRecDepth 20000 in
theorem ggX5_choices_X3_setsStayBelow : GoodIn wsX5_choices wsX3_setsStayBelow := goodIn_r _ [9, 10, 11, 86, 87, 88, 89] (by decide +kernel) (by decide +kernel)
set_option maxRecDepth 20000 in
theorem gX5_choices_X3_setsStayBelow : GoodIn wsX5_choices (wsV RX5 69 RX3 yX3_setsStayBelow wsX3_setsStayBelow) := goodIn_app (goodIn_of _ (by decide +kernel)) ggX5_choices_X3_setsStayBelow
set_option maxRecDepth 20000 in
theorem ggX5_choices_X1_remember : GoodIn wsX5_choices wsX1_remember := goodIn_r _ [16, 17, 18, 19, 20, 21, 15, 22, 23, 24, 25, 8, 26, 27, 10, 11, 28, 29, 30, 31, 32, 90, 91, 86, 87, 88, 89] (by decide +kernel) (by decide +kernel)
set_option maxRecDepth 20000 in
theorem gX5_choices_X1_remember : GoodIn wsX5_choices (wsV RX5 77 RX1 yX1_remember wsX1_remember) := goodIn_app (goodIn_of _ (by decide +kernel)) ggX5_choices_X1_remember
set_option maxRecDepth 20000 in
theorem ggX5_choices_X4_judge : GoodIn wsX5_choices wsX4_judge := goodIn_r _ [37, 38, 39, 40, 41, 42, 43, 44, 45, 46, 47, 48, 36, 49, 50, 51, 52, 53, 54, 55, 56, 57, 58, 59, 60, 61, 62, 63, 64, 65, 66, 67, 68, 69, 70, 71, 72, 73, 74, 86, 87, 88, 89, 92, 93, 94, 95, 96, 97, 98, 99, 100, 101, 102, 103] (by decide +kernel) (by decide +kernel)
set_option maxRecDepth 20000 in
theorem gX5_choices_X4_judge : GoodIn wsX5_choices (wsV RX5 65 RX4 yX4_judge wsX4_judge) := goodIn_app (goodIn_of _ (by decide +kernel)) ggX5_choices_X4_judge
theorem dX5_choices_0 : decode cX5_choices 0 = .ok (.iload_n 1, 1) := by decide +kernel
theorem dX5_choices_1 : decode cX5_choices 1 = .ok (.iconst 1, 1) := by decide +kernel
theorem dX5_choices_2 : decode cX5_choices 2 = .ok (.if_icmp .lt 9, 3) := by decide +kernel
theorem dX5_choices_5 : decode cX5_choices 5 = .ok (.iload_n 1, 1) := by decide +kernel
theorem dX5_choices_6 : decode cX5_choices 6 = .ok (.bipush 12, 2) := by decide +kernel
theorem dX5_choices_8 : decode cX5_choices 8 = .ok (.if_icmp .le 6, 3) := by decide +kernel
theorem dX5_choices_11 : decode cX5_choices 11 = .ok (.bipush (-2), 2) := by decide +kernel
theorem dX5_choices_13 : decode cX5_choices 13 = .ok (.ireturn, 1) := by decide +kernel
theorem dX5_choices_14 : decode cX5_choices 14 = .ok (.aload_n 0, 1) := by decide +kernel
theorem dX5_choices_15 : decode cX5_choices 15 = .ok (.getfield 10, 3) := by decide +kernel
theorem dX5_choices_18 : decode cX5_choices 18 = .ok (.iload_n 1, 1) := by decide +kernel
theorem dX5_choices_19 : decode cX5_choices 19 = .ok (.invokevirtual 69, 3) := by decide +kernel
theorem dX5_choices_22 : decode cX5_choices 22 = .ok (.ifCond .ne 6, 3) := by decide +kernel
theorem dX5_choices_25 : decode cX5_choices 25 = .ok (.bipush (-5), 2) := by decide +kernel
theorem dX5_choices_27 : decode cX5_choices 27 = .ok (.ireturn, 1) := by decide +kernel
theorem dX5_choices_28 : decode cX5_choices 28 = .ok (.aload_n 0, 1) := by decide +kernel
theorem dX5_choices_29 : decode cX5_choices 29 = .ok (.getfield 10, 3) := by decide +kernel
theorem dX5_choices_32 : decode cX5_choices 32 = .ok (.getfield 73, 3) := by decide +kernel
theorem dX5_choices_35 : decode cX5_choices 35 = .ok (.istore_n 2, 1) := by decide +kernel
theorem dX5_choices_36 : decode cX5_choices 36 = .ok (.aload_n 0, 1) := by decide +kernel
theorem dX5_choices_37 : decode cX5_choices 37 = .ok (.getfield 53, 3) := by decide +kernel
theorem dX5_choices_40 : decode cX5_choices 40 = .ok (.aload_n 0, 1) := by decide +kernel
theorem dX5_choices_41 : decode cX5_choices 41 = .ok (.getfield 10, 3) := by decide +kernel
theorem dX5_choices_44 : decode cX5_choices 44 = .ok (.invokevirtual 77, 3) := by decide +kernel
theorem dX5_choices_47 : decode cX5_choices 47 = .ok (.aload_n 0, 1) := by decide +kernel
theorem dX5_choices_48 : decode cX5_choices 48 = .ok (.getfield 10, 3) := by decide +kernel
theorem dX5_choices_51 : decode cX5_choices 51 = .ok (.iload_n 1, 1) := by decide +kernel
theorem dX5_choices_52 : decode cX5_choices 52 = .ok (.putfield 73, 3) := by decide +kernel
theorem dX5_choices_55 : decode cX5_choices 55 = .ok (.aload_n 0, 1) := by decide +kernel
theorem dX5_choices_56 : decode cX5_choices 56 = .ok (.getfield 19, 3) := by decide +kernel
theorem dX5_choices_59 : decode cX5_choices 59 = .ok (.aload_n 0, 1) := by decide +kernel
theorem dX5_choices_60 : decode cX5_choices 60 = .ok (.getfield 10, 3) := by decide +kernel
theorem dX5_choices_63 : decode cX5_choices 63 = .ok (.invokevirtual 65, 3) := by decide +kernel
theorem dX5_choices_66 : decode cX5_choices 66 = .ok (.iload_n 2, 1) := by decide +kernel
theorem dX5_choices_67 : decode cX5_choices 67 = .ok (.ireturn, 1) := by decide +kernel
set_option maxRecDepth 20000 in
theorem ggX5_tell_X5_isRule : GoodIn wsX5_tell wsX5_isRule := goodIn_r _ [10, 1, 11, 12, 13, 14, 15, 16, 84, 85, 86, 87, 88, 89, 90, 91, 92, 93, 94, 95, 96, 97, 98] (by decide +kernel) (by decide +kernel)
set_option maxRecDepth 20000 in
theorem gX5_tell_X5_isRule : GoodIn wsX5_tell (wsV RX5 80 RX5 yX5_isRule wsX5_isRule) := goodIn_app (goodIn_of _ (by decide +kernel)) ggX5_tell_X5_isRule
set_option maxRecDepth 20000 in
theorem ggX5_tell_X1_remember : GoodIn wsX5_tell wsX1_remember := goodIn_r _ [21, 22, 23, 24, 25, 26, 20, 27, 28, 29, 30, 14, 31, 16, 32, 33, 34, 35, 36, 37, 38, 111, 112, 95, 96, 97, 98] (by decide +kernel) (by decide +kernel)
set_option maxRecDepth 20000 in
theorem gX5_tell_X1_remember : GoodIn wsX5_tell (wsV RX5 77 RX1 yX1_remember wsX1_remember) := goodIn_app (goodIn_of _ (by decide +kernel)) ggX5_tell_X1_remember
set_option maxRecDepth 20000 in
theorem ggX5_tell_X3_append : GoodIn wsX5_tell wsX3_append := goodIn_r _ [42, 32, 33, 38, 95, 96, 97, 98] (by decide +kernel) (by decide +kernel)
set_option maxRecDepth 20000 in
theorem gX5_tell_X3_append : GoodIn wsX5_tell (wsV RX5 87 RX3 yX3_append wsX3_append) := goodIn_app (goodIn_of _ (by decide +kernel)) ggX5_tell_X3_append
set_option maxRecDepth 20000 in
theorem ggX5_tell_X4_judge : GoodIn wsX5_tell wsX4_judge := goodIn_r _ [47, 48, 49, 50, 51, 52, 53, 54, 55, 56, 57, 58, 46, 59, 60, 61, 62, 63, 64, 65, 66, 67, 68, 69, 70, 71, 72, 73, 74, 75, 9, 76, 77, 78, 79, 80, 81, 82, 83, 95, 96, 97, 98, 99, 100, 101, 102, 103, 104, 105, 106, 107, 108, 109, 110] (by decide +kernel) (by decide +kernel)
set_option maxRecDepth 20000 in
theorem gX5_tell_X4_judge : GoodIn wsX5_tell (wsV RX5 65 RX4 yX4_judge wsX4_judge) := goodIn_app (goodIn_of _ (by decide +kernel)) ggX5_tell_X4_judge
theorem dX5_tell_0 : decode cX5_tell 0 = .ok (.aload_n 0, 1) := by decide +kernel
theorem dX5_tell_1 : decode cX5_tell 1 = .ok (.iload_n 1, 1) := by decide +kernel
theorem dX5_tell_2 : decode cX5_tell 2 = .ok (.iload_n 2, 1) := by decide +kernel
theorem dX5_tell_3 : decode cX5_tell 3 = .ok (.invokevirtual 80, 3) := by decide +kernel
theorem dX5_tell_6 : decode cX5_tell 6 = .ok (.ifCond .ne 6, 3) := by decide +kernel
theorem dX5_tell_9 : decode cX5_tell 9 = .ok (.bipush (-2), 2) := by decide +kernel
theorem dX5_tell_11 : decode cX5_tell 11 = .ok (.ireturn, 1) := by decide +kernel
theorem dX5_tell_12 : decode cX5_tell 12 = .ok (.aload_n 0, 1) := by decide +kernel
theorem dX5_tell_13 : decode cX5_tell 13 = .ok (.getfield 10, 3) := by decide +kernel
theorem dX5_tell_16 : decode cX5_tell 16 = .ok (.getfield 84, 3) := by decide +kernel
theorem dX5_tell_19 : decode cX5_tell 19 = .ok (.bipush 20, 2) := by decide +kernel
theorem dX5_tell_21 : decode cX5_tell 21 = .ok (.if_icmp .lt 6, 3) := by decide +kernel
theorem dX5_tell_24 : decode cX5_tell 24 = .ok (.bipush (-4), 2) := by decide +kernel
theorem dX5_tell_26 : decode cX5_tell 26 = .ok (.ireturn, 1) := by decide +kernel
theorem dX5_tell_27 : decode cX5_tell 27 = .ok (.aload_n 0, 1) := by decide +kernel
theorem dX5_tell_28 : decode cX5_tell 28 = .ok (.getfield 53, 3) := by decide +kernel
theorem dX5_tell_31 : decode cX5_tell 31 = .ok (.aload_n 0, 1) := by decide +kernel
theorem dX5_tell_32 : decode cX5_tell 32 = .ok (.getfield 10, 3) := by decide +kernel
theorem dX5_tell_35 : decode cX5_tell 35 = .ok (.invokevirtual 77, 3) := by decide +kernel
theorem dX5_tell_38 : decode cX5_tell 38 = .ok (.aload_n 0, 1) := by decide +kernel
theorem dX5_tell_39 : decode cX5_tell 39 = .ok (.getfield 10, 3) := by decide +kernel
theorem dX5_tell_42 : decode cX5_tell 42 = .ok (.iload_n 1, 1) := by decide +kernel
theorem dX5_tell_43 : decode cX5_tell 43 = .ok (.iload_n 2, 1) := by decide +kernel
theorem dX5_tell_44 : decode cX5_tell 44 = .ok (.invokevirtual 87, 3) := by decide +kernel
theorem dX5_tell_47 : decode cX5_tell 47 = .ok (.aload_n 0, 1) := by decide +kernel
theorem dX5_tell_48 : decode cX5_tell 48 = .ok (.getfield 19, 3) := by decide +kernel
theorem dX5_tell_51 : decode cX5_tell 51 = .ok (.aload_n 0, 1) := by decide +kernel
theorem dX5_tell_52 : decode cX5_tell 52 = .ok (.getfield 10, 3) := by decide +kernel
theorem dX5_tell_55 : decode cX5_tell 55 = .ok (.invokevirtual 65, 3) := by decide +kernel
theorem dX5_tell_58 : decode cX5_tell 58 = .ok (.aload_n 0, 1) := by decide +kernel
theorem dX5_tell_59 : decode cX5_tell 59 = .ok (.getfield 19, 3) := by decide +kernel
theorem dX5_tell_62 : decode cX5_tell 62 = .ok (.getfield 91, 3) := by decide +kernel
theorem dX5_tell_65 : decode cX5_tell 65 = .ok (.aload_n 0, 1) := by decide +kernel
theorem dX5_tell_66 : decode cX5_tell 66 = .ok (.getfield 10, 3) := by decide +kernel
theorem dX5_tell_69 : decode cX5_tell 69 = .ok (.getfield 84, 3) := by decide +kernel
theorem dX5_tell_72 : decode cX5_tell 72 = .ok (.iconst 1, 1) := by decide +kernel
theorem dX5_tell_73 : decode cX5_tell 73 = .ok (.isub, 1) := by decide +kernel
theorem dX5_tell_74 : decode cX5_tell 74 = .ok (.iaload, 1) := by decide +kernel
theorem dX5_tell_75 : decode cX5_tell 75 = .ok (.ireturn, 1) := by decide +kernel
set_option maxRecDepth 20000 in
theorem ggX5_drop_X3_hasPlace : GoodIn wsX5_drop wsX3_hasPlace := goodIn_r _ [9, 10, 96, 97, 98, 99] (by decide +kernel) (by decide +kernel)
set_option maxRecDepth 20000 in
theorem gX5_drop_X3_hasPlace : GoodIn wsX5_drop (wsV RX5 94 RX3 yX3_hasPlace wsX3_hasPlace) := goodIn_app (goodIn_of _ (by decide +kernel)) ggX5_drop_X3_hasPlace
set_option maxRecDepth 20000 in
theorem ggX5_drop_X1_remember : GoodIn wsX5_drop wsX1_remember := goodIn_r _ [15, 16, 17, 18, 19, 20, 14, 21, 22, 23, 24, 8, 25, 26, 10, 27, 28, 29, 30, 31, 32, 100, 101, 96, 97, 98, 99] (by decide +kernel) (by decide +kernel)
set_option maxRecDepth 20000 in
theorem gX5_drop_X1_remember : GoodIn wsX5_drop (wsV RX5 77 RX1 yX1_remember wsX1_remember) := goodIn_app (goodIn_of _ (by decide +kernel)) ggX5_drop_X1_remember
set_option maxRecDepth 20000 in
theorem ggX5_drop_X3_takeOut : GoodIn wsX5_drop wsX3_takeOut := goodIn_r _ [36, 10, 37, 38, 39, 8, 40, 27, 32, 41, 42, 43, 96, 97, 98, 99] (by decide +kernel) (by decide +kernel)
set_option maxRecDepth 20000 in
theorem gX5_drop_X3_takeOut : GoodIn wsX5_drop (wsV RX5 97 RX3 yX3_takeOut wsX3_takeOut) := goodIn_app (goodIn_of _ (by decide +kernel)) ggX5_drop_X3_takeOut
set_option maxRecDepth 20000 in
theorem ggX5_drop_X4_judge : GoodIn wsX5_drop wsX4_judge := goodIn_r _ [48, 49, 50, 51, 52, 53, 54, 55, 56, 57, 58, 59, 47, 60, 61, 62, 63, 64, 65, 66, 67, 68, 69, 70, 71, 72, 73, 74, 75, 76, 42, 77, 78, 79, 80, 81, 82, 83, 84, 96, 97, 98, 99, 102, 103, 104, 105, 106, 107, 108, 109, 110, 111, 112, 113] (by decide +kernel) (by decide +kernel)
set_option maxRecDepth 20000 in
theorem gX5_drop_X4_judge : GoodIn wsX5_drop (wsV RX5 65 RX4 yX4_judge wsX4_judge) := goodIn_app (goodIn_of _ (by decide +kernel)) ggX5_drop_X4_judge
theorem dX5_drop_0 : decode cX5_drop 0 = .ok (.aload_n 0, 1) := by decide +kernel
theorem dX5_drop_1 : decode cX5_drop 1 = .ok (.getfield 10, 3) := by decide +kernel
theorem dX5_drop_4 : decode cX5_drop 4 = .ok (.iload_n 1, 1) := by decide +kernel
theorem dX5_drop_5 : decode cX5_drop 5 = .ok (.invokevirtual 94, 3) := by decide +kernel
theorem dX5_drop_8 : decode cX5_drop 8 = .ok (.ifCond .ne 5, 3) := by decide +kernel
theorem dX5_drop_11 : decode cX5_drop 11 = .ok (.iconst (-1), 1) := by decide +kernel
theorem dX5_drop_12 : decode cX5_drop 12 = .ok (.ireturn, 1) := by decide +kernel
theorem dX5_drop_13 : decode cX5_drop 13 = .ok (.aload_n 0, 1) := by decide +kernel
theorem dX5_drop_14 : decode cX5_drop 14 = .ok (.getfield 53, 3) := by decide +kernel
theorem dX5_drop_17 : decode cX5_drop 17 = .ok (.aload_n 0, 1) := by decide +kernel
theorem dX5_drop_18 : decode cX5_drop 18 = .ok (.getfield 10, 3) := by decide +kernel
theorem dX5_drop_21 : decode cX5_drop 21 = .ok (.invokevirtual 77, 3) := by decide +kernel
theorem dX5_drop_24 : decode cX5_drop 24 = .ok (.aload_n 0, 1) := by decide +kernel
theorem dX5_drop_25 : decode cX5_drop 25 = .ok (.getfield 10, 3) := by decide +kernel
theorem dX5_drop_28 : decode cX5_drop 28 = .ok (.iload_n 1, 1) := by decide +kernel
theorem dX5_drop_29 : decode cX5_drop 29 = .ok (.invokevirtual 97, 3) := by decide +kernel
theorem dX5_drop_32 : decode cX5_drop 32 = .ok (.aload_n 0, 1) := by decide +kernel
theorem dX5_drop_33 : decode cX5_drop 33 = .ok (.getfield 19, 3) := by decide +kernel
theorem dX5_drop_36 : decode cX5_drop 36 = .ok (.aload_n 0, 1) := by decide +kernel
theorem dX5_drop_37 : decode cX5_drop 37 = .ok (.getfield 10, 3) := by decide +kernel
theorem dX5_drop_40 : decode cX5_drop 40 = .ok (.invokevirtual 65, 3) := by decide +kernel
theorem dX5_drop_43 : decode cX5_drop 43 = .ok (.aload_n 0, 1) := by decide +kernel
theorem dX5_drop_44 : decode cX5_drop 44 = .ok (.getfield 10, 3) := by decide +kernel
theorem dX5_drop_47 : decode cX5_drop 47 = .ok (.getfield 84, 3) := by decide +kernel
theorem dX5_drop_50 : decode cX5_drop 50 = .ok (.ireturn, 1) := by decide +kernel
set_option maxRecDepth 20000 in
theorem ggX5_move_X3_hasPlace : GoodIn wsX5_move wsX3_hasPlace := goodIn_r _ [15, 16, 108, 109, 110, 111] (by decide +kernel) (by decide +kernel)
set_option maxRecDepth 20000 in
theorem gX5_move_X3_hasPlace : GoodIn wsX5_move (wsV RX5 94 RX3 yX3_hasPlace wsX3_hasPlace) := goodIn_app (goodIn_of _ (by decide +kernel)) ggX5_move_X3_hasPlace
set_option maxRecDepth 20000 in
theorem ggX5_move_X1_remember : GoodIn wsX5_move wsX1_remember := goodIn_r _ [21, 22, 23, 24, 25, 26, 20, 27, 28, 29, 30, 14, 31, 32, 16, 33, 34, 7, 8, 9, 35, 112, 113, 108, 109, 110, 111] (by decide +kernel) (by decide +kernel)
set_option maxRecDepth 20000 in
theorem gX5_move_X1_remember : GoodIn wsX5_move (wsV RX5 77 RX1 yX1_remember wsX1_remember) := goodIn_app (goodIn_of _ (by decide +kernel)) ggX5_move_X1_remember
set_option maxRecDepth 20000 in
theorem ggX5_move_X5_carry : GoodIn wsX5_move wsX5_carry := goodIn_r _ [39] (by decide +kernel) (by decide +kernel)
set_option maxRecDepth 20000 in
theorem gX5_move_X5_carry : GoodIn wsX5_move (va_wsS RX5 107 yX5_carry wsX5_carry) := goodIn_app (goodIn_of _ (by decide +kernel)) ggX5_move_X5_carry
set_option maxRecDepth 20000 in
theorem ggX5_move_X3_carryRule : GoodIn wsX5_move wsX3_carryRule := goodIn_r _ [43, 33, 35, 37, 38, 39, 108, 109, 110, 111] (by decide +kernel) (by decide +kernel)
set_option maxRecDepth 20000 in
theorem gX5_move_X3_carryRule : GoodIn wsX5_move (wsV RX5 111 RX3 yX3_carryRule wsX3_carryRule) := goodIn_app (goodIn_of _ (by decide +kernel)) ggX5_move_X3_carryRule
set_option maxRecDepth 20000 in
theorem ggX5_move_X4_judge : GoodIn wsX5_move wsX4_judge := goodIn_r _ [48, 49, 50, 51, 52, 53, 54, 55, 56, 57, 58, 59, 47, 60, 61, 62, 63, 64, 65, 66, 67, 68, 69, 70, 71, 72, 73, 74, 75, 76, 38, 77, 78, 79, 80, 81, 82, 83, 84, 108, 109, 110, 111, 96, 97, 98, 99, 100, 101, 102, 103, 104, 105, 106, 107] (by decide +kernel) (by decide +kernel)
set_option maxRecDepth 20000 in
theorem gX5_move_X4_judge : GoodIn wsX5_move (wsV RX5 65 RX4 yX4_judge wsX4_judge) := goodIn_app (goodIn_of _ (by decide +kernel)) ggX5_move_X4_judge
theorem dX5_move_0 : decode cX5_move 0 = .ok (.aload_n 0, 1) := by decide +kernel
theorem dX5_move_1 : decode cX5_move 1 = .ok (.getfield 10, 3) := by decide +kernel
theorem dX5_move_4 : decode cX5_move 4 = .ok (.iload_n 1, 1) := by decide +kernel
theorem dX5_move_5 : decode cX5_move 5 = .ok (.invokevirtual 94, 3) := by decide +kernel
theorem dX5_move_8 : decode cX5_move 8 = .ok (.ifCond .eq 14, 3) := by decide +kernel
theorem dX5_move_11 : decode cX5_move 11 = .ok (.aload_n 0, 1) := by decide +kernel
theorem dX5_move_12 : decode cX5_move 12 = .ok (.getfield 10, 3) := by decide +kernel
theorem dX5_move_15 : decode cX5_move 15 = .ok (.iload_n 2, 1) := by decide +kernel
theorem dX5_move_16 : decode cX5_move 16 = .ok (.invokevirtual 94, 3) := by decide +kernel
theorem dX5_move_19 : decode cX5_move 19 = .ok (.ifCond .ne 5, 3) := by decide +kernel
theorem dX5_move_22 : decode cX5_move 22 = .ok (.iconst (-1), 1) := by decide +kernel
theorem dX5_move_23 : decode cX5_move 23 = .ok (.ireturn, 1) := by decide +kernel
theorem dX5_move_24 : decode cX5_move 24 = .ok (.aload_n 0, 1) := by decide +kernel
theorem dX5_move_25 : decode cX5_move 25 = .ok (.getfield 53, 3) := by decide +kernel
theorem dX5_move_28 : decode cX5_move 28 = .ok (.aload_n 0, 1) := by decide +kernel
theorem dX5_move_29 : decode cX5_move 29 = .ok (.getfield 10, 3) := by decide +kernel
theorem dX5_move_32 : decode cX5_move 32 = .ok (.invokevirtual 77, 3) := by decide +kernel
theorem dX5_move_35 : decode cX5_move 35 = .ok (.aload_n 0, 1) := by decide +kernel
theorem dX5_move_36 : decode cX5_move 36 = .ok (.getfield 19, 3) := by decide +kernel
theorem dX5_move_39 : decode cX5_move 39 = .ok (.getfield 91, 3) := by decide +kernel
theorem dX5_move_42 : decode cX5_move 42 = .ok (.iconst 0, 1) := by decide +kernel
theorem dX5_move_43 : decode cX5_move 43 = .ok (.aload_n 0, 1) := by decide +kernel
theorem dX5_move_44 : decode cX5_move 44 = .ok (.getfield 29, 3) := by decide +kernel
theorem dX5_move_47 : decode cX5_move 47 = .ok (.iconst 0, 1) := by decide +kernel
theorem dX5_move_48 : decode cX5_move 48 = .ok (.bipush 20, 2) := by decide +kernel
theorem dX5_move_50 : decode cX5_move 50 = .ok (.invokestatic 101, 3) := by decide +kernel
theorem dX5_move_53 : decode cX5_move 53 = .ok (.aload_n 0, 1) := by decide +kernel
theorem dX5_move_54 : decode cX5_move 54 = .ok (.getfield 29, 3) := by decide +kernel
theorem dX5_move_57 : decode cX5_move 57 = .ok (.iload_n 1, 1) := by decide +kernel
theorem dX5_move_58 : decode cX5_move 58 = .ok (.iload_n 2, 1) := by decide +kernel
theorem dX5_move_59 : decode cX5_move 59 = .ok (.invokestatic 107, 3) := by decide +kernel
theorem dX5_move_62 : decode cX5_move 62 = .ok (.aload_n 0, 1) := by decide +kernel
theorem dX5_move_63 : decode cX5_move 63 = .ok (.getfield 10, 3) := by decide +kernel
theorem dX5_move_66 : decode cX5_move 66 = .ok (.iload_n 1, 1) := by decide +kernel
theorem dX5_move_67 : decode cX5_move 67 = .ok (.iload_n 2, 1) := by decide +kernel
theorem dX5_move_68 : decode cX5_move 68 = .ok (.invokevirtual 111, 3) := by decide +kernel
theorem dX5_move_71 : decode cX5_move 71 = .ok (.aload_n 0, 1) := by decide +kernel
theorem dX5_move_72 : decode cX5_move 72 = .ok (.getfield 19, 3) := by decide +kernel
theorem dX5_move_75 : decode cX5_move 75 = .ok (.aload_n 0, 1) := by decide +kernel
theorem dX5_move_76 : decode cX5_move 76 = .ok (.getfield 10, 3) := by decide +kernel
theorem dX5_move_79 : decode cX5_move 79 = .ok (.invokevirtual 65, 3) := by decide +kernel
theorem dX5_move_82 : decode cX5_move 82 = .ok (.iconst 0, 1) := by decide +kernel
theorem dX5_move_83 : decode cX5_move 83 = .ok (.istore_n 3, 1) := by decide +kernel
theorem dX5_move_84 : decode cX5_move 84 = .ok (.iconst 0, 1) := by decide +kernel
theorem dX5_move_85 : decode cX5_move 85 = .ok (.istore 4, 2) := by decide +kernel
theorem dX5_move_87 : decode cX5_move 87 = .ok (.iload 4, 2) := by decide +kernel
theorem dX5_move_89 : decode cX5_move 89 = .ok (.aload_n 0, 1) := by decide +kernel
theorem dX5_move_90 : decode cX5_move 90 = .ok (.getfield 10, 3) := by decide +kernel
theorem dX5_move_93 : decode cX5_move 93 = .ok (.getfield 84, 3) := by decide +kernel
theorem dX5_move_96 : decode cX5_move 96 = .ok (.if_icmp .ge 32, 3) := by decide +kernel
theorem dX5_move_99 : decode cX5_move 99 = .ok (.aload_n 0, 1) := by decide +kernel
theorem dX5_move_100 : decode cX5_move 100 = .ok (.getfield 19, 3) := by decide +kernel
theorem dX5_move_103 : decode cX5_move 103 = .ok (.getfield 91, 3) := by decide +kernel
theorem dX5_move_106 : decode cX5_move 106 = .ok (.iload 4, 2) := by decide +kernel
theorem dX5_move_108 : decode cX5_move 108 = .ok (.iaload, 1) := by decide +kernel
theorem dX5_move_109 : decode cX5_move 109 = .ok (.aload_n 0, 1) := by decide +kernel
theorem dX5_move_110 : decode cX5_move 110 = .ok (.getfield 29, 3) := by decide +kernel
theorem dX5_move_113 : decode cX5_move 113 = .ok (.iload 4, 2) := by decide +kernel
theorem dX5_move_115 : decode cX5_move 115 = .ok (.iaload, 1) := by decide +kernel
theorem dX5_move_116 : decode cX5_move 116 = .ok (.if_icmp .eq 6, 3) := by decide +kernel
theorem dX5_move_119 : decode cX5_move 119 = .ok (.iinc 3 1, 3) := by decide +kernel
theorem dX5_move_122 : decode cX5_move 122 = .ok (.iinc 4 1, 3) := by decide +kernel
theorem dX5_move_125 : decode cX5_move 125 = .ok (.goto (-38), 3) := by decide +kernel
theorem dX5_move_128 : decode cX5_move 128 = .ok (.iload_n 3, 1) := by decide +kernel
theorem dX5_move_129 : decode cX5_move 129 = .ok (.ireturn, 1) := by decide +kernel
set_option maxRecDepth 20000 in
theorem ggX5_turn_X3_hasPlace : GoodIn wsX5_turn wsX3_hasPlace := goodIn_r _ [10, 11, 87, 88, 89, 90] (by decide +kernel) (by decide +kernel)
set_option maxRecDepth 20000 in
theorem gX5_turn_X3_hasPlace : GoodIn wsX5_turn (wsV RX5 94 RX3 yX3_hasPlace wsX3_hasPlace) := goodIn_app (goodIn_of _ (by decide +kernel)) ggX5_turn_X3_hasPlace
set_option maxRecDepth 20000 in
theorem ggX5_turn_X1_remember : GoodIn wsX5_turn wsX1_remember := goodIn_r _ [16, 17, 18, 19, 20, 21, 15, 22, 23, 24, 25, 9, 26, 27, 11, 28, 29, 30, 31, 32, 33, 103, 104, 87, 88, 89, 90] (by decide +kernel) (by decide +kernel)
set_option maxRecDepth 20000 in
theorem gX5_turn_X1_remember : GoodIn wsX5_turn (wsV RX5 77 RX1 yX1_remember wsX1_remember) := goodIn_app (goodIn_of _ (by decide +kernel)) ggX5_turn_X1_remember
set_option maxRecDepth 20000 in
theorem ggX5_turn_X4_judge : GoodIn wsX5_turn wsX4_judge := goodIn_r _ [38, 39, 40, 41, 42, 43, 44, 45, 46, 47, 48, 49, 37, 50, 51, 52, 53, 54, 55, 56, 57, 58, 59, 60, 61, 62, 63, 64, 65, 66, 67, 68, 69, 70, 71, 72, 73, 74, 75, 87, 88, 89, 90, 91, 92, 93, 94, 95, 96, 97, 98, 99, 100, 101, 102] (by decide +kernel) (by decide +kernel)
set_option maxRecDepth 20000 in
theorem gX5_turn_X4_judge : GoodIn wsX5_turn (wsV RX5 65 RX4 yX4_judge wsX4_judge) := goodIn_app (goodIn_of _ (by decide +kernel)) ggX5_turn_X4_judge
theorem dX5_turn_0 : decode cX5_turn 0 = .ok (.aload_n 0, 1) := by decide +kernel
theorem dX5_turn_1 : decode cX5_turn 1 = .ok (.getfield 10, 3) := by decide +kernel
theorem dX5_turn_4 : decode cX5_turn 4 = .ok (.iload_n 1, 1) := by decide +kernel
theorem dX5_turn_5 : decode cX5_turn 5 = .ok (.invokevirtual 94, 3) := by decide +kernel
theorem dX5_turn_8 : decode cX5_turn 8 = .ok (.ifCond .ne 5, 3) := by decide +kernel
theorem dX5_turn_11 : decode cX5_turn 11 = .ok (.iconst (-1), 1) := by decide +kernel
theorem dX5_turn_12 : decode cX5_turn 12 = .ok (.ireturn, 1) := by decide +kernel
theorem dX5_turn_13 : decode cX5_turn 13 = .ok (.aload_n 0, 1) := by decide +kernel
theorem dX5_turn_14 : decode cX5_turn 14 = .ok (.getfield 53, 3) := by decide +kernel
theorem dX5_turn_17 : decode cX5_turn 17 = .ok (.aload_n 0, 1) := by decide +kernel
theorem dX5_turn_18 : decode cX5_turn 18 = .ok (.getfield 10, 3) := by decide +kernel
theorem dX5_turn_21 : decode cX5_turn 21 = .ok (.invokevirtual 77, 3) := by decide +kernel
theorem dX5_turn_24 : decode cX5_turn 24 = .ok (.aload_n 0, 1) := by decide +kernel
theorem dX5_turn_25 : decode cX5_turn 25 = .ok (.getfield 10, 3) := by decide +kernel
theorem dX5_turn_28 : decode cX5_turn 28 = .ok (.getfield 114, 3) := by decide +kernel
theorem dX5_turn_31 : decode cX5_turn 31 = .ok (.iload_n 1, 1) := by decide +kernel
theorem dX5_turn_32 : decode cX5_turn 32 = .ok (.iconst 1, 1) := by decide +kernel
theorem dX5_turn_33 : decode cX5_turn 33 = .ok (.aload_n 0, 1) := by decide +kernel
theorem dX5_turn_34 : decode cX5_turn 34 = .ok (.getfield 10, 3) := by decide +kernel
theorem dX5_turn_37 : decode cX5_turn 37 = .ok (.getfield 114, 3) := by decide +kernel
theorem dX5_turn_40 : decode cX5_turn 40 = .ok (.iload_n 1, 1) := by decide +kernel
theorem dX5_turn_41 : decode cX5_turn 41 = .ok (.iaload, 1) := by decide +kernel
theorem dX5_turn_42 : decode cX5_turn 42 = .ok (.isub, 1) := by decide +kernel
theorem dX5_turn_43 : decode cX5_turn 43 = .ok (.iastore, 1) := by decide +kernel
theorem dX5_turn_44 : decode cX5_turn 44 = .ok (.aload_n 0, 1) := by decide +kernel
theorem dX5_turn_45 : decode cX5_turn 45 = .ok (.getfield 19, 3) := by decide +kernel
theorem dX5_turn_48 : decode cX5_turn 48 = .ok (.aload_n 0, 1) := by decide +kernel
theorem dX5_turn_49 : decode cX5_turn 49 = .ok (.getfield 10, 3) := by decide +kernel
theorem dX5_turn_52 : decode cX5_turn 52 = .ok (.invokevirtual 65, 3) := by decide +kernel
theorem dX5_turn_55 : decode cX5_turn 55 = .ok (.aload_n 0, 1) := by decide +kernel
theorem dX5_turn_56 : decode cX5_turn 56 = .ok (.getfield 19, 3) := by decide +kernel
theorem dX5_turn_59 : decode cX5_turn 59 = .ok (.getfield 91, 3) := by decide +kernel
theorem dX5_turn_62 : decode cX5_turn 62 = .ok (.iload_n 1, 1) := by decide +kernel
theorem dX5_turn_63 : decode cX5_turn 63 = .ok (.iaload, 1) := by decide +kernel
theorem dX5_turn_64 : decode cX5_turn 64 = .ok (.ireturn, 1) := by decide +kernel
set_option maxRecDepth 20000 in
theorem ggX5_read_X2_readInto : GoodIn wsX5_read wsX2_readInto := goodIn_r _ [15, 16, 17, 18, 19, 20, 21, 22, 14, 23, 24, 25, 26, 27, 28, 29, 30, 31, 32, 33, 34, 35, 36, 37, 38, 39, 40, 41, 42, 43, 44, 45, 46, 47, 48, 49, 50, 129, 130, 131, 132, 133, 134, 135, 136, 137, 138] (by decide +kernel) (by decide +kernel)
set_option maxRecDepth 20000 in
theorem gX5_read_X2_readInto : GoodIn wsX5_read (wsV RX5 117 RX2 yX2_readInto wsX2_readInto) := goodIn_app (goodIn_of _ (by decide +kernel)) ggX5_read_X2_readInto
set_option maxRecDepth 20000 in
theorem ggX5_read_X3_setsStayBelow : GoodIn wsX5_read wsX3_setsStayBelow := goodIn_r _ [54, 48, 49, 129, 130, 131, 132] (by decide +kernel) (by decide +kernel)
set_option maxRecDepth 20000 in
theorem gX5_read_X3_setsStayBelow : GoodIn wsX5_read (wsV RX5 69 RX3 yX3_setsStayBelow wsX3_setsStayBelow) := goodIn_app (goodIn_of _ (by decide +kernel)) ggX5_read_X3_setsStayBelow
set_option maxRecDepth 20000 in
theorem ggX5_read_X1_remember : GoodIn wsX5_read wsX1_remember := goodIn_r _ [59, 60, 61, 62, 63, 64, 58, 65, 66, 67, 68, 46, 69, 70, 48, 49, 71, 72, 73, 74, 50, 139, 140, 129, 130, 131, 132] (by decide +kernel) (by decide +kernel)
set_option maxRecDepth 20000 in
theorem gX5_read_X1_remember : GoodIn wsX5_read (wsV RX5 77 RX1 yX1_remember wsX1_remember) := goodIn_app (goodIn_of _ (by decide +kernel)) ggX5_read_X1_remember
set_option maxRecDepth 20000 in
theorem ggX5_read_X3_append : GoodIn wsX5_read wsX3_append := goodIn_r _ [47, 48, 49, 50, 129, 130, 131, 132] (by decide +kernel) (by decide +kernel)
set_option maxRecDepth 20000 in
theorem gX5_read_X3_append : GoodIn wsX5_read (wsV RX5 87 RX3 yX3_append wsX3_append) := goodIn_app (goodIn_of _ (by decide +kernel)) ggX5_read_X3_append
set_option maxRecDepth 20000 in
theorem ggX5_read_X4_judge : GoodIn wsX5_read wsX4_judge := goodIn_r _ [80, 81, 82, 83, 84, 85, 86, 87, 88, 89, 90, 91, 79, 92, 93, 94, 95, 96, 97, 98, 99, 100, 101, 102, 103, 104, 105, 106, 107, 108, 109, 110, 111, 112, 113, 114, 115, 116, 117, 129, 130, 131, 132, 141, 142, 143, 144, 145, 146, 147, 148, 149, 150, 151, 152] (by decide +kernel) (by decide +kernel)
set_option maxRecDepth 20000 in
theorem gX5_read_X4_judge : GoodIn wsX5_read (wsV RX5 65 RX4 yX4_judge wsX4_judge) := goodIn_app (goodIn_of _ (by decide +kernel)) ggX5_read_X4_judge
theorem dX5_read_0 : decode cX5_read 0 = .ok (.aload_n 0, 1) := by decide +kernel
theorem dX5_read_1 : decode cX5_read 1 = .ok (.getfield 43, 3) := by decide +kernel
theorem dX5_read_4 : decode cX5_read 4 = .ok (.aload_n 0, 1) := by decide +kernel
theorem dX5_read_5 : decode cX5_read 5 = .ok (.getfield 47, 3) := by decide +kernel
theorem dX5_read_8 : decode cX5_read 8 = .ok (.invokevirtual 117, 3) := by decide +kernel
theorem dX5_read_11 : decode cX5_read 11 = .ok (.bipush (-6), 2) := by decide +kernel
theorem dX5_read_13 : decode cX5_read 13 = .ok (.if_icmp .eq 6, 3) := by decide +kernel
theorem dX5_read_16 : decode cX5_read 16 = .ok (.bipush (-3), 2) := by decide +kernel
theorem dX5_read_18 : decode cX5_read 18 = .ok (.ireturn, 1) := by decide +kernel
theorem dX5_read_19 : decode cX5_read 19 = .ok (.aload_n 0, 1) := by decide +kernel
theorem dX5_read_20 : decode cX5_read 20 = .ok (.getfield 47, 3) := by decide +kernel
theorem dX5_read_23 : decode cX5_read 23 = .ok (.aload_n 0, 1) := by decide +kernel
theorem dX5_read_24 : decode cX5_read 24 = .ok (.getfield 10, 3) := by decide +kernel
theorem dX5_read_27 : decode cX5_read 27 = .ok (.getfield 73, 3) := by decide +kernel
theorem dX5_read_30 : decode cX5_read 30 = .ok (.invokevirtual 69, 3) := by decide +kernel
theorem dX5_read_33 : decode cX5_read 33 = .ok (.ifCond .ne 6, 3) := by decide +kernel
theorem dX5_read_36 : decode cX5_read 36 = .ok (.bipush (-2), 2) := by decide +kernel
theorem dX5_read_38 : decode cX5_read 38 = .ok (.ireturn, 1) := by decide +kernel
theorem dX5_read_39 : decode cX5_read 39 = .ok (.aload_n 0, 1) := by decide +kernel
theorem dX5_read_40 : decode cX5_read 40 = .ok (.getfield 10, 3) := by decide +kernel
theorem dX5_read_43 : decode cX5_read 43 = .ok (.getfield 84, 3) := by decide +kernel
theorem dX5_read_46 : decode cX5_read 46 = .ok (.aload_n 0, 1) := by decide +kernel
theorem dX5_read_47 : decode cX5_read 47 = .ok (.getfield 47, 3) := by decide +kernel
theorem dX5_read_50 : decode cX5_read 50 = .ok (.getfield 84, 3) := by decide +kernel
theorem dX5_read_53 : decode cX5_read 53 = .ok (.iadd, 1) := by decide +kernel
theorem dX5_read_54 : decode cX5_read 54 = .ok (.bipush 20, 2) := by decide +kernel
theorem dX5_read_56 : decode cX5_read 56 = .ok (.if_icmp .le 6, 3) := by decide +kernel
theorem dX5_read_59 : decode cX5_read 59 = .ok (.bipush (-4), 2) := by decide +kernel
theorem dX5_read_61 : decode cX5_read 61 = .ok (.ireturn, 1) := by decide +kernel
theorem dX5_read_62 : decode cX5_read 62 = .ok (.aload_n 0, 1) := by decide +kernel
theorem dX5_read_63 : decode cX5_read 63 = .ok (.getfield 53, 3) := by decide +kernel
theorem dX5_read_66 : decode cX5_read 66 = .ok (.aload_n 0, 1) := by decide +kernel
theorem dX5_read_67 : decode cX5_read 67 = .ok (.getfield 10, 3) := by decide +kernel
theorem dX5_read_70 : decode cX5_read 70 = .ok (.invokevirtual 77, 3) := by decide +kernel
theorem dX5_read_73 : decode cX5_read 73 = .ok (.iconst 0, 1) := by decide +kernel
theorem dX5_read_74 : decode cX5_read 74 = .ok (.istore_n 1, 1) := by decide +kernel
theorem dX5_read_75 : decode cX5_read 75 = .ok (.iload_n 1, 1) := by decide +kernel
theorem dX5_read_76 : decode cX5_read 76 = .ok (.aload_n 0, 1) := by decide +kernel
theorem dX5_read_77 : decode cX5_read 77 = .ok (.getfield 47, 3) := by decide +kernel
theorem dX5_read_80 : decode cX5_read 80 = .ok (.getfield 84, 3) := by decide +kernel
theorem dX5_read_83 : decode cX5_read 83 = .ok (.if_icmp .ge 34, 3) := by decide +kernel
theorem dX5_read_86 : decode cX5_read 86 = .ok (.aload_n 0, 1) := by decide +kernel
theorem dX5_read_87 : decode cX5_read 87 = .ok (.getfield 10, 3) := by decide +kernel
theorem dX5_read_90 : decode cX5_read 90 = .ok (.aload_n 0, 1) := by decide +kernel
theorem dX5_read_91 : decode cX5_read 91 = .ok (.getfield 47, 3) := by decide +kernel
theorem dX5_read_94 : decode cX5_read 94 = .ok (.getfield 121, 3) := by decide +kernel
theorem dX5_read_97 : decode cX5_read 97 = .ok (.iload_n 1, 1) := by decide +kernel
theorem dX5_read_98 : decode cX5_read 98 = .ok (.iaload, 1) := by decide +kernel
theorem dX5_read_99 : decode cX5_read 99 = .ok (.aload_n 0, 1) := by decide +kernel
theorem dX5_read_100 : decode cX5_read 100 = .ok (.getfield 47, 3) := by decide +kernel
theorem dX5_read_103 : decode cX5_read 103 = .ok (.getfield 114, 3) := by decide +kernel
theorem dX5_read_106 : decode cX5_read 106 = .ok (.iload_n 1, 1) := by decide +kernel
theorem dX5_read_107 : decode cX5_read 107 = .ok (.iaload, 1) := by decide +kernel
theorem dX5_read_108 : decode cX5_read 108 = .ok (.invokevirtual 87, 3) := by decide +kernel
theorem dX5_read_111 : decode cX5_read 111 = .ok (.iinc 1 1, 3) := by decide +kernel
theorem dX5_read_114 : decode cX5_read 114 = .ok (.goto (-39), 3) := by decide +kernel
theorem dX5_read_117 : decode cX5_read 117 = .ok (.aload_n 0, 1) := by decide +kernel
theorem dX5_read_118 : decode cX5_read 118 = .ok (.getfield 43, 3) := by decide +kernel
theorem dX5_read_121 : decode cX5_read 121 = .ok (.iconst 0, 1) := by decide +kernel
theorem dX5_read_122 : decode cX5_read 122 = .ok (.putfield 124, 3) := by decide +kernel
theorem dX5_read_125 : decode cX5_read 125 = .ok (.aload_n 0, 1) := by decide +kernel
theorem dX5_read_126 : decode cX5_read 126 = .ok (.getfield 19, 3) := by decide +kernel
theorem dX5_read_129 : decode cX5_read 129 = .ok (.aload_n 0, 1) := by decide +kernel
theorem dX5_read_130 : decode cX5_read 130 = .ok (.getfield 10, 3) := by decide +kernel
theorem dX5_read_133 : decode cX5_read 133 = .ok (.invokevirtual 65, 3) := by decide +kernel
theorem dX5_read_136 : decode cX5_read 136 = .ok (.aload_n 0, 1) := by decide +kernel
theorem dX5_read_137 : decode cX5_read 137 = .ok (.getfield 10, 3) := by decide +kernel
theorem dX5_read_140 : decode cX5_read 140 = .ok (.getfield 84, 3) := by decide +kernel
theorem dX5_read_143 : decode cX5_read 143 = .ok (.ireturn, 1) := by decide +kernel
set_option maxRecDepth 20000 in
theorem ggX5_rule_X3_hasPlace : GoodIn wsX5_rule wsX3_hasPlace := goodIn_r _ [11, 12, 49, 50, 51, 52] (by decide +kernel) (by decide +kernel)
set_option maxRecDepth 20000 in
theorem gX5_rule_X3_hasPlace : GoodIn wsX5_rule (wsV RX5 94 RX3 yX3_hasPlace wsX3_hasPlace) := goodIn_app (goodIn_of _ (by decide +kernel)) ggX5_rule_X3_hasPlace
set_option maxRecDepth 20000 in
theorem ggX5_rule_X4_reasonsWith : GoodIn wsX5_rule wsX4_reasonsWith := goodIn_r _ [17, 18, 19, 37, 38, 39, 40, 41, 42, 43, 44, 45, 46, 47, 48] (by decide +kernel) (by decide +kernel)
set_option maxRecDepth 20000 in
theorem gX5_rule_X4_reasonsWith : GoodIn wsX5_rule (wsV RX5 130 RX4 yX4_reasonsWith wsX4_reasonsWith) := goodIn_app (goodIn_of _ (by decide +kernel)) ggX5_rule_X4_reasonsWith
set_option maxRecDepth 20000 in
theorem ggX5_rule_X4_answers : GoodIn wsX5_rule wsX4_answers := goodIn_r _ [23, 24, 25, 37, 38, 39, 40, 41, 42, 43, 44, 45, 46, 47, 48] (by decide +kernel) (by decide +kernel)
set_option maxRecDepth 20000 in
theorem gX5_rule_X4_answers : GoodIn wsX5_rule (wsV RX5 134 RX4 yX4_answers wsX4_answers) := goodIn_app (goodIn_of _ (by decide +kernel)) ggX5_rule_X4_answers
theorem dX5_rule_0 : decode cX5_rule 0 = .ok (.aload_n 0, 1) := by decide +kernel
theorem dX5_rule_1 : decode cX5_rule 1 = .ok (.getfield 10, 3) := by decide +kernel
theorem dX5_rule_4 : decode cX5_rule 4 = .ok (.iload_n 1, 1) := by decide +kernel
theorem dX5_rule_5 : decode cX5_rule 5 = .ok (.invokevirtual 94, 3) := by decide +kernel
theorem dX5_rule_8 : decode cX5_rule 8 = .ok (.ifCond .ne 5, 3) := by decide +kernel
theorem dX5_rule_11 : decode cX5_rule 11 = .ok (.iconst (-1), 1) := by decide +kernel
theorem dX5_rule_12 : decode cX5_rule 12 = .ok (.ireturn, 1) := by decide +kernel
theorem dX5_rule_13 : decode cX5_rule 13 = .ok (.aload_n 0, 1) := by decide +kernel
theorem dX5_rule_14 : decode cX5_rule 14 = .ok (.getfield 19, 3) := by decide +kernel
theorem dX5_rule_17 : decode cX5_rule 17 = .ok (.getfield 91, 3) := by decide +kernel
theorem dX5_rule_20 : decode cX5_rule 20 = .ok (.iload_n 1, 1) := by decide +kernel
theorem dX5_rule_21 : decode cX5_rule 21 = .ok (.iaload, 1) := by decide +kernel
theorem dX5_rule_22 : decode cX5_rule 22 = .ok (.istore_n 3, 1) := by decide +kernel
theorem dX5_rule_23 : decode cX5_rule 23 = .ok (.iload_n 2, 1) := by decide +kernel
theorem dX5_rule_24 : decode cX5_rule 24 = .ok (.tableswitch 107 0 5 #[40, 50, 60, 62, 81, 90], 40) := by decide +kernel
theorem dX5_rule_64 : decode cX5_rule 64 = .ok (.aload_n 0, 1) := by decide +kernel
theorem dX5_rule_65 : decode cX5_rule 65 = .ok (.getfield 10, 3) := by decide +kernel
theorem dX5_rule_68 : decode cX5_rule 68 = .ok (.getfield 121, 3) := by decide +kernel
theorem dX5_rule_71 : decode cX5_rule 71 = .ok (.iload_n 1, 1) := by decide +kernel
theorem dX5_rule_72 : decode cX5_rule 72 = .ok (.iaload, 1) := by decide +kernel
theorem dX5_rule_73 : decode cX5_rule 73 = .ok (.ireturn, 1) := by decide +kernel
theorem dX5_rule_74 : decode cX5_rule 74 = .ok (.aload_n 0, 1) := by decide +kernel
theorem dX5_rule_75 : decode cX5_rule 75 = .ok (.getfield 10, 3) := by decide +kernel
theorem dX5_rule_78 : decode cX5_rule 78 = .ok (.getfield 114, 3) := by decide +kernel
theorem dX5_rule_81 : decode cX5_rule 81 = .ok (.iload_n 1, 1) := by decide +kernel
theorem dX5_rule_82 : decode cX5_rule 82 = .ok (.iaload, 1) := by decide +kernel
theorem dX5_rule_83 : decode cX5_rule 83 = .ok (.ireturn, 1) := by decide +kernel
theorem dX5_rule_84 : decode cX5_rule 84 = .ok (.iload_n 3, 1) := by decide +kernel
theorem dX5_rule_85 : decode cX5_rule 85 = .ok (.ireturn, 1) := by decide +kernel
theorem dX5_rule_86 : decode cX5_rule 86 = .ok (.iload_n 3, 1) := by decide +kernel
theorem dX5_rule_87 : decode cX5_rule 87 = .ok (.ifCond .ne 8, 3) := by decide +kernel
theorem dX5_rule_90 : decode cX5_rule 90 = .ok (.bipush (-6), 2) := by decide +kernel
theorem dX5_rule_92 : decode cX5_rule 92 = .ok (.goto 12, 3) := by decide +kernel
theorem dX5_rule_95 : decode cX5_rule 95 = .ok (.aload_n 0, 1) := by decide +kernel
theorem dX5_rule_96 : decode cX5_rule 96 = .ok (.getfield 19, 3) := by decide +kernel
theorem dX5_rule_99 : decode cX5_rule 99 = .ok (.getfield 127, 3) := by decide +kernel
theorem dX5_rule_102 : decode cX5_rule 102 = .ok (.iload_n 1, 1) := by decide +kernel
theorem dX5_rule_103 : decode cX5_rule 103 = .ok (.iaload, 1) := by decide +kernel
theorem dX5_rule_104 : decode cX5_rule 104 = .ok (.ireturn, 1) := by decide +kernel
theorem dX5_rule_105 : decode cX5_rule 105 = .ok (.aload_n 0, 1) := by decide +kernel
theorem dX5_rule_106 : decode cX5_rule 106 = .ok (.getfield 19, 3) := by decide +kernel
theorem dX5_rule_109 : decode cX5_rule 109 = .ok (.iload_n 1, 1) := by decide +kernel
theorem dX5_rule_110 : decode cX5_rule 110 = .ok (.invokevirtual 130, 3) := by decide +kernel
theorem dX5_rule_113 : decode cX5_rule 113 = .ok (.ireturn, 1) := by decide +kernel
theorem dX5_rule_114 : decode cX5_rule 114 = .ok (.iload_n 3, 1) := by decide +kernel
theorem dX5_rule_115 : decode cX5_rule 115 = .ok (.iconst 2, 1) := by decide +kernel
theorem dX5_rule_116 : decode cX5_rule 116 = .ok (.if_icmp .ne 7, 3) := by decide +kernel
theorem dX5_rule_119 : decode cX5_rule 119 = .ok (.iconst 0, 1) := by decide +kernel
theorem dX5_rule_120 : decode cX5_rule 120 = .ok (.goto 10, 3) := by decide +kernel
theorem dX5_rule_123 : decode cX5_rule 123 = .ok (.aload_n 0, 1) := by decide +kernel
theorem dX5_rule_124 : decode cX5_rule 124 = .ok (.getfield 19, 3) := by decide +kernel
theorem dX5_rule_127 : decode cX5_rule 127 = .ok (.invokevirtual 134, 3) := by decide +kernel
theorem dX5_rule_130 : decode cX5_rule 130 = .ok (.ireturn, 1) := by decide +kernel
theorem dX5_rule_131 : decode cX5_rule 131 = .ok (.bipush (-2), 2) := by decide +kernel
theorem dX5_rule_133 : decode cX5_rule 133 = .ok (.ireturn, 1) := by decide +kernel
set_option maxRecDepth 20000 in
theorem ggX5_choice_X4_sumOf : GoodIn wsX5_choice wsX4_sumOf := goodIn_r _ [8, 9, 10, 11, 12, 13, 7, 14, 15, 16, 17, 18, 47, 48, 49, 50, 51, 52, 53, 54, 55, 56, 57, 58] (by decide +kernel) (by decide +kernel)
set_option maxRecDepth 20000 in
theorem gX5_choice_X4_sumOf : GoodIn wsX5_choice (wsV RX5 138 RX4 yX4_sumOf wsX4_sumOf) := goodIn_app (goodIn_of _ (by decide +kernel)) ggX5_choice_X4_sumOf
set_option maxRecDepth 20000 in
theorem ggX5_choice_X3_rulesWith : GoodIn wsX5_choice wsX3_rulesWith := goodIn_r _ [23, 24, 25, 43, 44, 45, 46] (by decide +kernel) (by decide +kernel)
set_option maxRecDepth 20000 in
theorem gX5_choice_X3_rulesWith : GoodIn wsX5_choice (wsV RX5 141 RX3 yX3_rulesWith wsX3_rulesWith) := goodIn_app (goodIn_of _ (by decide +kernel)) ggX5_choice_X3_rulesWith
set_option maxRecDepth 20000 in
theorem ggX5_choice_X4_boundTo : GoodIn wsX5_choice wsX4_boundTo := goodIn_r _ [29, 30, 31, 5, 6, 7, 8, 9, 10, 11, 12, 13, 14, 15, 16, 17, 18, 47, 48, 49, 50, 51, 52, 53, 54, 55, 56, 57, 58] (by decide +kernel) (by decide +kernel)
set_option maxRecDepth 20000 in
theorem gX5_choice_X4_boundTo : GoodIn wsX5_choice (wsV RX5 144 RX4 yX4_boundTo wsX4_boundTo) := goodIn_app (goodIn_of _ (by decide +kernel)) ggX5_choice_X4_boundTo
theorem dX5_choice_0 : decode cX5_choice 0 = .ok (.iload_n 1, 1) := by decide +kernel
theorem dX5_choice_1 : decode cX5_choice 1 = .ok (.ifCond .lt 14, 3) := by decide +kernel
theorem dX5_choice_4 : decode cX5_choice 4 = .ok (.iload_n 1, 1) := by decide +kernel
theorem dX5_choice_5 : decode cX5_choice 5 = .ok (.aload_n 0, 1) := by decide +kernel
theorem dX5_choice_6 : decode cX5_choice 6 = .ok (.getfield 10, 3) := by decide +kernel
theorem dX5_choice_9 : decode cX5_choice 9 = .ok (.getfield 73, 3) := by decide +kernel
theorem dX5_choice_12 : decode cX5_choice 12 = .ok (.if_icmp .lt 5, 3) := by decide +kernel
theorem dX5_choice_15 : decode cX5_choice 15 = .ok (.iconst (-1), 1) := by decide +kernel
theorem dX5_choice_16 : decode cX5_choice 16 = .ok (.ireturn, 1) := by decide +kernel
theorem dX5_choice_17 : decode cX5_choice 17 = .ok (.iload_n 2, 1) := by decide +kernel
theorem dX5_choice_18 : decode cX5_choice 18 = .ok (.tableswitch 55 0 2 #[26, 37, 46], 26) := by decide +kernel
theorem dX5_choice_44 : decode cX5_choice 44 = .ok (.aload_n 0, 1) := by decide +kernel
theorem dX5_choice_45 : decode cX5_choice 45 = .ok (.getfield 19, 3) := by decide +kernel
theorem dX5_choice_48 : decode cX5_choice 48 = .ok (.iconst 1, 1) := by decide +kernel
theorem dX5_choice_49 : decode cX5_choice 49 = .ok (.iload_n 1, 1) := by decide +kernel
theorem dX5_choice_50 : decode cX5_choice 50 = .ok (.ishl, 1) := by decide +kernel
theorem dX5_choice_51 : decode cX5_choice 51 = .ok (.invokevirtual 138, 3) := by decide +kernel
theorem dX5_choice_54 : decode cX5_choice 54 = .ok (.ireturn, 1) := by decide +kernel
theorem dX5_choice_55 : decode cX5_choice 55 = .ok (.aload_n 0, 1) := by decide +kernel
theorem dX5_choice_56 : decode cX5_choice 56 = .ok (.getfield 10, 3) := by decide +kernel
theorem dX5_choice_59 : decode cX5_choice 59 = .ok (.iload_n 1, 1) := by decide +kernel
theorem dX5_choice_60 : decode cX5_choice 60 = .ok (.invokevirtual 141, 3) := by decide +kernel
theorem dX5_choice_63 : decode cX5_choice 63 = .ok (.ireturn, 1) := by decide +kernel
theorem dX5_choice_64 : decode cX5_choice 64 = .ok (.aload_n 0, 1) := by decide +kernel
theorem dX5_choice_65 : decode cX5_choice 65 = .ok (.getfield 19, 3) := by decide +kernel
theorem dX5_choice_68 : decode cX5_choice 68 = .ok (.iload_n 1, 1) := by decide +kernel
theorem dX5_choice_69 : decode cX5_choice 69 = .ok (.invokevirtual 144, 3) := by decide +kernel
theorem dX5_choice_72 : decode cX5_choice 72 = .ok (.ireturn, 1) := by decide +kernel
theorem dX5_choice_73 : decode cX5_choice 73 = .ok (.bipush (-2), 2) := by decide +kernel
theorem dX5_choice_75 : decode cX5_choice 75 = .ok (.ireturn, 1) := by decide +kernel
set_option maxRecDepth 20000 in
theorem ggX5_count_X4_answers : GoodIn wsX5_count wsX4_answers := goodIn_r _ [14, 15, 16, 50, 51, 52, 53, 54, 55, 56, 57, 58, 59, 60, 61] (by decide +kernel) (by decide +kernel)
set_option maxRecDepth 20000 in
theorem gX5_count_X4_answers : GoodIn wsX5_count (wsV RX5 134 RX4 yX4_answers wsX4_answers) := goodIn_app (goodIn_of _ (by decide +kernel)) ggX5_count_X4_answers
set_option maxRecDepth 20000 in
theorem ggX5_count_X4_settled : GoodIn wsX5_count wsX4_settled := goodIn_r _ [20, 15, 21, 22, 23, 13, 24, 25, 26, 27, 28, 29, 30, 31, 32, 33, 34, 50, 51, 52, 53, 54, 55, 56, 57, 58, 59, 60, 61] (by decide +kernel) (by decide +kernel)
set_option maxRecDepth 20000 in
theorem gX5_count_X4_settled : GoodIn wsX5_count (wsV RX5 150 RX4 yX4_settled wsX4_settled) := goodIn_app (goodIn_of _ (by decide +kernel)) ggX5_count_X4_settled
theorem dX5_count_0 : decode cX5_count 0 = .ok (.iload_n 1, 1) := by decide +kernel
theorem dX5_count_1 : decode cX5_count 1 = .ok (.tableswitch 129 0 8 #[51, 59, 69, 79, 89, 97, 105, 113, 121], 51) := by decide +kernel
theorem dX5_count_52 : decode cX5_count 52 = .ok (.aload_n 0, 1) := by decide +kernel
theorem dX5_count_53 : decode cX5_count 53 = .ok (.getfield 10, 3) := by decide +kernel
theorem dX5_count_56 : decode cX5_count 56 = .ok (.getfield 84, 3) := by decide +kernel
theorem dX5_count_59 : decode cX5_count 59 = .ok (.ireturn, 1) := by decide +kernel
theorem dX5_count_60 : decode cX5_count 60 = .ok (.aload_n 0, 1) := by decide +kernel
theorem dX5_count_61 : decode cX5_count 61 = .ok (.getfield 19, 3) := by decide +kernel
theorem dX5_count_64 : decode cX5_count 64 = .ok (.getfield 147, 3) := by decide +kernel
theorem dX5_count_67 : decode cX5_count 67 = .ok (.iconst 0, 1) := by decide +kernel
theorem dX5_count_68 : decode cX5_count 68 = .ok (.iaload, 1) := by decide +kernel
theorem dX5_count_69 : decode cX5_count 69 = .ok (.ireturn, 1) := by decide +kernel
theorem dX5_count_70 : decode cX5_count 70 = .ok (.aload_n 0, 1) := by decide +kernel
theorem dX5_count_71 : decode cX5_count 71 = .ok (.getfield 19, 3) := by decide +kernel
theorem dX5_count_74 : decode cX5_count 74 = .ok (.getfield 147, 3) := by decide +kernel
theorem dX5_count_77 : decode cX5_count 77 = .ok (.iconst 1, 1) := by decide +kernel
theorem dX5_count_78 : decode cX5_count 78 = .ok (.iaload, 1) := by decide +kernel
theorem dX5_count_79 : decode cX5_count 79 = .ok (.ireturn, 1) := by decide +kernel
theorem dX5_count_80 : decode cX5_count 80 = .ok (.aload_n 0, 1) := by decide +kernel
theorem dX5_count_81 : decode cX5_count 81 = .ok (.getfield 19, 3) := by decide +kernel
theorem dX5_count_84 : decode cX5_count 84 = .ok (.getfield 147, 3) := by decide +kernel
theorem dX5_count_87 : decode cX5_count 87 = .ok (.iconst 2, 1) := by decide +kernel
theorem dX5_count_88 : decode cX5_count 88 = .ok (.iaload, 1) := by decide +kernel
theorem dX5_count_89 : decode cX5_count 89 = .ok (.ireturn, 1) := by decide +kernel
theorem dX5_count_90 : decode cX5_count 90 = .ok (.aload_n 0, 1) := by decide +kernel
theorem dX5_count_91 : decode cX5_count 91 = .ok (.getfield 19, 3) := by decide +kernel
theorem dX5_count_94 : decode cX5_count 94 = .ok (.invokevirtual 134, 3) := by decide +kernel
theorem dX5_count_97 : decode cX5_count 97 = .ok (.ireturn, 1) := by decide +kernel
theorem dX5_count_98 : decode cX5_count 98 = .ok (.aload_n 0, 1) := by decide +kernel
theorem dX5_count_99 : decode cX5_count 99 = .ok (.getfield 19, 3) := by decide +kernel
theorem dX5_count_102 : decode cX5_count 102 = .ok (.invokevirtual 150, 3) := by decide +kernel
theorem dX5_count_105 : decode cX5_count 105 = .ok (.ireturn, 1) := by decide +kernel
theorem dX5_count_106 : decode cX5_count 106 = .ok (.aload_n 0, 1) := by decide +kernel
theorem dX5_count_107 : decode cX5_count 107 = .ok (.getfield 10, 3) := by decide +kernel
theorem dX5_count_110 : decode cX5_count 110 = .ok (.getfield 73, 3) := by decide +kernel
theorem dX5_count_113 : decode cX5_count 113 = .ok (.ireturn, 1) := by decide +kernel
theorem dX5_count_114 : decode cX5_count 114 = .ok (.aload_n 0, 1) := by decide +kernel
theorem dX5_count_115 : decode cX5_count 115 = .ok (.getfield 43, 3) := by decide +kernel
theorem dX5_count_118 : decode cX5_count 118 = .ok (.getfield 124, 3) := by decide +kernel
theorem dX5_count_121 : decode cX5_count 121 = .ok (.ireturn, 1) := by decide +kernel
theorem dX5_count_122 : decode cX5_count 122 = .ok (.aload_n 0, 1) := by decide +kernel
theorem dX5_count_123 : decode cX5_count 123 = .ok (.getfield 53, 3) := by decide +kernel
theorem dX5_count_126 : decode cX5_count 126 = .ok (.getfield 153, 3) := by decide +kernel
theorem dX5_count_129 : decode cX5_count 129 = .ok (.ireturn, 1) := by decide +kernel
theorem dX5_count_130 : decode cX5_count 130 = .ok (.bipush (-2), 2) := by decide +kernel
theorem dX5_count_132 : decode cX5_count 132 = .ok (.ireturn, 1) := by decide +kernel
set_option maxRecDepth 20000 in
theorem ggX5_answer_X4_answers : GoodIn wsX5_answer wsX4_answers := goodIn_r _ [6, 7, 8, 36, 37, 38, 39, 40, 41, 42, 43, 44, 45, 46, 47] (by decide +kernel) (by decide +kernel)
set_option maxRecDepth 20000 in
theorem gX5_answer_X4_answers : GoodIn wsX5_answer (wsV RX5 134 RX4 yX4_answers wsX4_answers) := goodIn_app (goodIn_of _ (by decide +kernel)) ggX5_answer_X4_answers
set_option maxRecDepth 20000 in
theorem ggX5_answer_X4_answerAt : GoodIn wsX5_answer wsX4_answerAt := goodIn_r _ [12, 7, 8, 13, 14, 15, 16, 17, 18, 19, 20, 21, 22, 23, 24, 36, 37, 38, 39, 40, 41, 42, 43, 44, 45, 46, 47] (by decide +kernel) (by decide +kernel)
set_option maxRecDepth 20000 in
theorem gX5_answer_X4_answerAt : GoodIn wsX5_answer (wsV RX5 154 RX4 yX4_answerAt wsX4_answerAt) := goodIn_app (goodIn_of _ (by decide +kernel)) ggX5_answer_X4_answerAt
theorem dX5_answer_0 : decode cX5_answer 0 = .ok (.iload_n 1, 1) := by decide +kernel
theorem dX5_answer_1 : decode cX5_answer 1 = .ok (.ifCond .lt 14, 3) := by decide +kernel
theorem dX5_answer_4 : decode cX5_answer 4 = .ok (.iload_n 1, 1) := by decide +kernel
theorem dX5_answer_5 : decode cX5_answer 5 = .ok (.aload_n 0, 1) := by decide +kernel
theorem dX5_answer_6 : decode cX5_answer 6 = .ok (.getfield 19, 3) := by decide +kernel
theorem dX5_answer_9 : decode cX5_answer 9 = .ok (.invokevirtual 134, 3) := by decide +kernel
theorem dX5_answer_12 : decode cX5_answer 12 = .ok (.if_icmp .lt 5, 3) := by decide +kernel
theorem dX5_answer_15 : decode cX5_answer 15 = .ok (.iconst (-1), 1) := by decide +kernel
theorem dX5_answer_16 : decode cX5_answer 16 = .ok (.ireturn, 1) := by decide +kernel
theorem dX5_answer_17 : decode cX5_answer 17 = .ok (.aload_n 0, 1) := by decide +kernel
theorem dX5_answer_18 : decode cX5_answer 18 = .ok (.getfield 19, 3) := by decide +kernel
theorem dX5_answer_21 : decode cX5_answer 21 = .ok (.iload_n 1, 1) := by decide +kernel
theorem dX5_answer_22 : decode cX5_answer 22 = .ok (.invokevirtual 154, 3) := by decide +kernel
theorem dX5_answer_25 : decode cX5_answer 25 = .ok (.ireturn, 1) := by decide +kernel
set_option maxRecDepth 20000 in
theorem ggX5_known_X3_hasSet : GoodIn wsX5_known wsX3_hasSet := goodIn_r _ [7, 8, 35, 36, 37, 38] (by decide +kernel) (by decide +kernel)
set_option maxRecDepth 20000 in
theorem gX5_known_X3_hasSet : GoodIn wsX5_known (wsV RX5 157 RX3 yX3_hasSet wsX3_hasSet) := goodIn_app (goodIn_of _ (by decide +kernel)) ggX5_known_X3_hasSet
set_option maxRecDepth 20000 in
theorem ggX5_known_X4_sumOf : GoodIn wsX5_known wsX4_sumOf := goodIn_r _ [13, 14, 15, 16, 17, 18, 12, 19, 20, 21, 22, 23, 39, 40, 41, 42, 43, 44, 45, 46, 47, 48, 49, 50] (by decide +kernel) (by decide +kernel)
set_option maxRecDepth 20000 in
theorem gX5_known_X4_sumOf : GoodIn wsX5_known (wsV RX5 138 RX4 yX4_sumOf wsX4_sumOf) := goodIn_app (goodIn_of _ (by decide +kernel)) ggX5_known_X4_sumOf
theorem dX5_known_0 : decode cX5_known 0 = .ok (.aload_n 0, 1) := by decide +kernel
theorem dX5_known_1 : decode cX5_known 1 = .ok (.getfield 10, 3) := by decide +kernel
theorem dX5_known_4 : decode cX5_known 4 = .ok (.iload_n 1, 1) := by decide +kernel
theorem dX5_known_5 : decode cX5_known 5 = .ok (.invokevirtual 157, 3) := by decide +kernel
theorem dX5_known_8 : decode cX5_known 8 = .ok (.ifCond .eq 14, 3) := by decide +kernel
theorem dX5_known_11 : decode cX5_known 11 = .ok (.aload_n 0, 1) := by decide +kernel
theorem dX5_known_12 : decode cX5_known 12 = .ok (.getfield 19, 3) := by decide +kernel
theorem dX5_known_15 : decode cX5_known 15 = .ok (.iload_n 1, 1) := by decide +kernel
theorem dX5_known_16 : decode cX5_known 16 = .ok (.invokevirtual 138, 3) := by decide +kernel
theorem dX5_known_19 : decode cX5_known 19 = .ok (.goto 5, 3) := by decide +kernel
theorem dX5_known_22 : decode cX5_known 22 = .ok (.bipush (-2), 2) := by decide +kernel
theorem dX5_known_24 : decode cX5_known 24 = .ok (.ireturn, 1) := by decide +kernel
set_option maxRecDepth 20000 in
theorem ggX5_nearest_X3_hasSet : GoodIn wsX5_nearest wsX3_hasSet := goodIn_r _ [7, 8, 55, 56, 57, 58] (by decide +kernel) (by decide +kernel)
set_option maxRecDepth 20000 in
theorem gX5_nearest_X3_hasSet : GoodIn wsX5_nearest (wsV RX5 157 RX3 yX3_hasSet wsX3_hasSet) := goodIn_app (goodIn_of _ (by decide +kernel)) ggX5_nearest_X3_hasSet
set_option maxRecDepth 20000 in
theorem ggX5_nearest_X4_nearestTo : GoodIn wsX5_nearest wsX4_nearestTo := goodIn_r _ [13, 14, 15, 16, 17, 12, 18, 19, 20, 21, 22, 23, 24, 25, 26, 27, 28, 29, 30, 31, 32, 33, 34, 35, 36, 37, 38, 39, 40, 41, 42, 43, 59, 60, 61, 62, 63, 64, 65, 66, 67, 68, 69, 70] (by decide +kernel) (by decide +kernel)
set_option maxRecDepth 20000 in
theorem gX5_nearest_X4_nearestTo : GoodIn wsX5_nearest (wsV RX5 160 RX4 yX4_nearestTo wsX4_nearestTo) := goodIn_app (goodIn_of _ (by decide +kernel)) ggX5_nearest_X4_nearestTo
set_option maxRecDepth 20000 in
theorem ggX5_nearest_J6_bitCount_0f7a4 : GoodIn wsX5_nearest wsJ6_bitCount_0f7a4 := goodIn_r _ [33, 34, 35, 36] (by decide +kernel) (by decide +kernel)
set_option maxRecDepth 20000 in
theorem gX5_nearest_J6_bitCount_0f7a4 : GoodIn wsX5_nearest (va_wsS RX5 163 yJ6_bitCount_0f7a4 wsJ6_bitCount_0f7a4) := goodIn_app (goodIn_of _ (by decide +kernel)) ggX5_nearest_J6_bitCount_0f7a4
theorem dX5_nearest_0 : decode cX5_nearest 0 = .ok (.aload_n 0, 1) := by decide +kernel
theorem dX5_nearest_1 : decode cX5_nearest 1 = .ok (.getfield 10, 3) := by decide +kernel
theorem dX5_nearest_4 : decode cX5_nearest 4 = .ok (.iload_n 1, 1) := by decide +kernel
theorem dX5_nearest_5 : decode cX5_nearest 5 = .ok (.invokevirtual 157, 3) := by decide +kernel
theorem dX5_nearest_8 : decode cX5_nearest 8 = .ok (.ifCond .eq 12, 3) := by decide +kernel
theorem dX5_nearest_11 : decode cX5_nearest 11 = .ok (.iload_n 2, 1) := by decide +kernel
theorem dX5_nearest_12 : decode cX5_nearest 12 = .ok (.ifCond .lt 8, 3) := by decide +kernel
theorem dX5_nearest_15 : decode cX5_nearest 15 = .ok (.iload_n 2, 1) := by decide +kernel
theorem dX5_nearest_16 : decode cX5_nearest 16 = .ok (.iconst 1, 1) := by decide +kernel
theorem dX5_nearest_17 : decode cX5_nearest 17 = .ok (.if_icmp .le 6, 3) := by decide +kernel
theorem dX5_nearest_20 : decode cX5_nearest 20 = .ok (.bipush (-2), 2) := by decide +kernel
theorem dX5_nearest_22 : decode cX5_nearest 22 = .ok (.ireturn, 1) := by decide +kernel
theorem dX5_nearest_23 : decode cX5_nearest 23 = .ok (.aload_n 0, 1) := by decide +kernel
theorem dX5_nearest_24 : decode cX5_nearest 24 = .ok (.getfield 19, 3) := by decide +kernel
theorem dX5_nearest_27 : decode cX5_nearest 27 = .ok (.iload_n 1, 1) := by decide +kernel
theorem dX5_nearest_28 : decode cX5_nearest 28 = .ok (.invokevirtual 160, 3) := by decide +kernel
theorem dX5_nearest_31 : decode cX5_nearest 31 = .ok (.istore_n 3, 1) := by decide +kernel
theorem dX5_nearest_32 : decode cX5_nearest 32 = .ok (.iload_n 2, 1) := by decide +kernel
theorem dX5_nearest_33 : decode cX5_nearest 33 = .ok (.ifCond .ne 7, 3) := by decide +kernel
theorem dX5_nearest_36 : decode cX5_nearest 36 = .ok (.iload_n 3, 1) := by decide +kernel
theorem dX5_nearest_37 : decode cX5_nearest 37 = .ok (.goto 9, 3) := by decide +kernel
theorem dX5_nearest_40 : decode cX5_nearest 40 = .ok (.iload_n 3, 1) := by decide +kernel
theorem dX5_nearest_41 : decode cX5_nearest 41 = .ok (.iload_n 1, 1) := by decide +kernel
theorem dX5_nearest_42 : decode cX5_nearest 42 = .ok (.ixor, 1) := by decide +kernel
theorem dX5_nearest_43 : decode cX5_nearest 43 = .ok (.invokestatic 163, 3) := by decide +kernel
theorem dX5_nearest_46 : decode cX5_nearest 46 = .ok (.ireturn, 1) := by decide +kernel
set_option maxRecDepth 20000 in
theorem ggX5_best_X0_find : GoodIn wsX5_best wsX0_find := goodIn_r _ [10, 11, 12, 13, 14, 15, 16, 17, 18, 9, 19, 20, 21, 22, 23, 24, 25, 26, 27, 28, 29, 30, 31, 32, 33, 34, 35, 36, 37, 38, 50, 51, 52, 53, 54, 55, 56, 57] (by decide +kernel) (by decide +kernel)
set_option maxRecDepth 20000 in
theorem gX5_best_X0_find : GoodIn wsX5_best (wsV RX5 168 RX0 yX0_find wsX0_find) := goodIn_app (goodIn_of _ (by decide +kernel)) ggX5_best_X0_find
theorem dX5_best_0 : decode cX5_best 0 = .ok (.iload_n 1, 1) := by decide +kernel
theorem dX5_best_1 : decode cX5_best 1 = .ok (.ifCond .lt 8, 3) := by decide +kernel
theorem dX5_best_4 : decode cX5_best 4 = .ok (.iload_n 1, 1) := by decide +kernel
theorem dX5_best_5 : decode cX5_best 5 = .ok (.iconst 2, 1) := by decide +kernel
theorem dX5_best_6 : decode cX5_best 6 = .ok (.if_icmp .le 6, 3) := by decide +kernel
theorem dX5_best_9 : decode cX5_best 9 = .ok (.bipush (-2), 2) := by decide +kernel
theorem dX5_best_11 : decode cX5_best 11 = .ok (.ireturn, 1) := by decide +kernel
theorem dX5_best_12 : decode cX5_best 12 = .ok (.aload_n 0, 1) := by decide +kernel
theorem dX5_best_13 : decode cX5_best 13 = .ok (.getfield 36, 3) := by decide +kernel
theorem dX5_best_16 : decode cX5_best 16 = .ok (.aload_n 0, 1) := by decide +kernel
theorem dX5_best_17 : decode cX5_best 17 = .ok (.getfield 10, 3) := by decide +kernel
theorem dX5_best_20 : decode cX5_best 20 = .ok (.invokevirtual 168, 3) := by decide +kernel
theorem dX5_best_23 : decode cX5_best 23 = .ok (.iload_n 1, 1) := by decide +kernel
theorem dX5_best_24 : decode cX5_best 24 = .ok (.ifCond .ne 11, 3) := by decide +kernel
theorem dX5_best_27 : decode cX5_best 27 = .ok (.aload_n 0, 1) := by decide +kernel
theorem dX5_best_28 : decode cX5_best 28 = .ok (.getfield 36, 3) := by decide +kernel
theorem dX5_best_31 : decode cX5_best 31 = .ok (.getfield 171, 3) := by decide +kernel
theorem dX5_best_34 : decode cX5_best 34 = .ok (.ireturn, 1) := by decide +kernel
theorem dX5_best_35 : decode cX5_best 35 = .ok (.iload_n 1, 1) := by decide +kernel
theorem dX5_best_36 : decode cX5_best 36 = .ok (.iconst 1, 1) := by decide +kernel
theorem dX5_best_37 : decode cX5_best 37 = .ok (.if_icmp .ne 13, 3) := by decide +kernel
theorem dX5_best_40 : decode cX5_best 40 = .ok (.aload_n 0, 1) := by decide +kernel
theorem dX5_best_41 : decode cX5_best 41 = .ok (.getfield 36, 3) := by decide +kernel
theorem dX5_best_44 : decode cX5_best 44 = .ok (.getfield 174, 3) := by decide +kernel
theorem dX5_best_47 : decode cX5_best 47 = .ok (.goto 10, 3) := by decide +kernel
theorem dX5_best_50 : decode cX5_best 50 = .ok (.aload_n 0, 1) := by decide +kernel
theorem dX5_best_51 : decode cX5_best 51 = .ok (.getfield 36, 3) := by decide +kernel
theorem dX5_best_54 : decode cX5_best 54 = .ok (.getfield 177, 3) := by decide +kernel
theorem dX5_best_57 : decode cX5_best 57 = .ok (.ireturn, 1) := by decide +kernel
set_option maxRecDepth 20000 in
theorem ggX5_ifTold_X5_isRule : GoodIn wsX5_ifTold wsX5_isRule := goodIn_r _ [6, 7, 8, 9, 10, 11, 12, 13, 29, 30, 31, 32, 33, 34, 35, 36, 37, 38, 39, 40, 41, 42, 43] (by decide +kernel) (by decide +kernel)
set_option maxRecDepth 20000 in
theorem gX5_ifTold_X5_isRule : GoodIn wsX5_ifTold (wsV RX5 80 RX5 yX5_isRule wsX5_isRule) := goodIn_app (goodIn_of _ (by decide +kernel)) ggX5_ifTold_X5_isRule
set_option maxRecDepth 20000 in
theorem ggX5_ifTold_X4_stateOf : GoodIn wsX5_ifTold wsX4_stateOf := goodIn_r _ [18, 19, 20, 21, 22, 23, 17, 24, 25, 26, 27, 28, 44, 45, 46, 47, 48, 49, 50, 51, 52, 53, 54, 55] (by decide +kernel) (by decide +kernel)
set_option maxRecDepth 20000 in
theorem gX5_ifTold_X4_stateOf : GoodIn wsX5_ifTold (wsV RX5 180 RX4 yX4_stateOf wsX4_stateOf) := goodIn_app (goodIn_of _ (by decide +kernel)) ggX5_ifTold_X4_stateOf
theorem dX5_ifTold_0 : decode cX5_ifTold 0 = .ok (.aload_n 0, 1) := by decide +kernel
theorem dX5_ifTold_1 : decode cX5_ifTold 1 = .ok (.iload_n 1, 1) := by decide +kernel
theorem dX5_ifTold_2 : decode cX5_ifTold 2 = .ok (.iload_n 2, 1) := by decide +kernel
theorem dX5_ifTold_3 : decode cX5_ifTold 3 = .ok (.invokevirtual 80, 3) := by decide +kernel
theorem dX5_ifTold_6 : decode cX5_ifTold 6 = .ok (.ifCond .eq 15, 3) := by decide +kernel
theorem dX5_ifTold_9 : decode cX5_ifTold 9 = .ok (.aload_n 0, 1) := by decide +kernel
theorem dX5_ifTold_10 : decode cX5_ifTold 10 = .ok (.getfield 19, 3) := by decide +kernel
theorem dX5_ifTold_13 : decode cX5_ifTold 13 = .ok (.iload_n 1, 1) := by decide +kernel
theorem dX5_ifTold_14 : decode cX5_ifTold 14 = .ok (.iload_n 2, 1) := by decide +kernel
theorem dX5_ifTold_15 : decode cX5_ifTold 15 = .ok (.invokevirtual 180, 3) := by decide +kernel
theorem dX5_ifTold_18 : decode cX5_ifTold 18 = .ok (.goto 5, 3) := by decide +kernel
theorem dX5_ifTold_21 : decode cX5_ifTold 21 = .ok (.bipush (-2), 2) := by decide +kernel
theorem dX5_ifTold_23 : decode cX5_ifTold 23 = .ok (.ireturn, 1) := by decide +kernel
set_option maxRecDepth 20000 in
theorem ggX5_ifDropped_X3_hasPlace : GoodIn wsX5_ifDropped wsX3_hasPlace := goodIn_r _ [8, 9, 88, 89, 90, 91] (by decide +kernel) (by decide +kernel)
set_option maxRecDepth 20000 in
theorem gX5_ifDropped_X3_hasPlace : GoodIn wsX5_ifDropped (wsV RX5 94 RX3 yX3_hasPlace wsX3_hasPlace) := goodIn_app (goodIn_of _ (by decide +kernel)) ggX5_ifDropped_X3_hasPlace
set_option maxRecDepth 20000 in
theorem ggX5_ifDropped_X3_become : GoodIn wsX5_ifDropped wsX3_become := goodIn_r _ [13, 14, 9, 15, 16, 17, 18, 19, 20, 88, 89, 90, 91] (by decide +kernel) (by decide +kernel)
set_option maxRecDepth 20000 in
theorem gX5_ifDropped_X3_become : GoodIn wsX5_ifDropped (wsV RX5 184 RX3 yX3_become wsX3_become) := goodIn_app (goodIn_of _ (by decide +kernel)) ggX5_ifDropped_X3_become
set_option maxRecDepth 20000 in
theorem ggX5_ifDropped_X3_takeOut : GoodIn wsX5_ifDropped wsX3_takeOut := goodIn_r _ [24, 9, 25, 26, 27, 7, 28, 15, 20, 29, 30, 31, 88, 89, 90, 91] (by decide +kernel) (by decide +kernel)
set_option maxRecDepth 20000 in
theorem gX5_ifDropped_X3_takeOut : GoodIn wsX5_ifDropped (wsV RX5 97 RX3 yX3_takeOut wsX3_takeOut) := goodIn_app (goodIn_of _ (by decide +kernel)) ggX5_ifDropped_X3_takeOut
set_option maxRecDepth 20000 in
theorem ggX5_ifDropped_X4_judge : GoodIn wsX5_ifDropped wsX4_judge := goodIn_r _ [36, 37, 38, 39, 40, 41, 42, 43, 44, 45, 46, 47, 35, 48, 49, 50, 51, 52, 53, 54, 55, 56, 57, 58, 59, 60, 61, 62, 63, 64, 30, 65, 66, 67, 68, 69, 70, 71, 72, 88, 89, 90, 91, 92, 93, 94, 95, 96, 97, 98, 99, 100, 101, 102, 103] (by decide +kernel) (by decide +kernel)
set_option maxRecDepth 20000 in
theorem gX5_ifDropped_X4_judge : GoodIn wsX5_ifDropped (wsV RX5 65 RX4 yX4_judge wsX4_judge) := goodIn_app (goodIn_of _ (by decide +kernel)) ggX5_ifDropped_X4_judge
set_option maxRecDepth 20000 in
theorem ggX5_ifDropped_X4_answers : GoodIn wsX5_ifDropped wsX4_answers := goodIn_r _ [76, 38, 40, 92, 93, 94, 95, 96, 97, 98, 99, 100, 101, 102, 103] (by decide +kernel) (by decide +kernel)
set_option maxRecDepth 20000 in
theorem gX5_ifDropped_X4_answers : GoodIn wsX5_ifDropped (wsV RX5 134 RX4 yX4_answers wsX4_answers) := goodIn_app (goodIn_of _ (by decide +kernel)) ggX5_ifDropped_X4_answers
theorem dX5_ifDropped_0 : decode cX5_ifDropped 0 = .ok (.aload_n 0, 1) := by decide +kernel
theorem dX5_ifDropped_1 : decode cX5_ifDropped 1 = .ok (.getfield 10, 3) := by decide +kernel
theorem dX5_ifDropped_4 : decode cX5_ifDropped 4 = .ok (.iload_n 1, 1) := by decide +kernel
theorem dX5_ifDropped_5 : decode cX5_ifDropped 5 = .ok (.invokevirtual 94, 3) := by decide +kernel
theorem dX5_ifDropped_8 : decode cX5_ifDropped 8 = .ok (.ifCond .ne 5, 3) := by decide +kernel
theorem dX5_ifDropped_11 : decode cX5_ifDropped 11 = .ok (.iconst (-1), 1) := by decide +kernel
theorem dX5_ifDropped_12 : decode cX5_ifDropped 12 = .ok (.ireturn, 1) := by decide +kernel
theorem dX5_ifDropped_13 : decode cX5_ifDropped 13 = .ok (.aload_n 0, 1) := by decide +kernel
theorem dX5_ifDropped_14 : decode cX5_ifDropped 14 = .ok (.getfield 23, 3) := by decide +kernel
theorem dX5_ifDropped_17 : decode cX5_ifDropped 17 = .ok (.aload_n 0, 1) := by decide +kernel
theorem dX5_ifDropped_18 : decode cX5_ifDropped 18 = .ok (.getfield 10, 3) := by decide +kernel
theorem dX5_ifDropped_21 : decode cX5_ifDropped 21 = .ok (.invokevirtual 184, 3) := by decide +kernel
theorem dX5_ifDropped_24 : decode cX5_ifDropped 24 = .ok (.aload_n 0, 1) := by decide +kernel
theorem dX5_ifDropped_25 : decode cX5_ifDropped 25 = .ok (.getfield 23, 3) := by decide +kernel
theorem dX5_ifDropped_28 : decode cX5_ifDropped 28 = .ok (.iload_n 1, 1) := by decide +kernel
theorem dX5_ifDropped_29 : decode cX5_ifDropped 29 = .ok (.invokevirtual 97, 3) := by decide +kernel
theorem dX5_ifDropped_32 : decode cX5_ifDropped 32 = .ok (.aload_n 0, 1) := by decide +kernel
theorem dX5_ifDropped_33 : decode cX5_ifDropped 33 = .ok (.getfield 26, 3) := by decide +kernel
theorem dX5_ifDropped_36 : decode cX5_ifDropped 36 = .ok (.aload_n 0, 1) := by decide +kernel
theorem dX5_ifDropped_37 : decode cX5_ifDropped 37 = .ok (.getfield 23, 3) := by decide +kernel
theorem dX5_ifDropped_40 : decode cX5_ifDropped 40 = .ok (.invokevirtual 65, 3) := by decide +kernel
theorem dX5_ifDropped_43 : decode cX5_ifDropped 43 = .ok (.aload_n 0, 1) := by decide +kernel
theorem dX5_ifDropped_44 : decode cX5_ifDropped 44 = .ok (.getfield 26, 3) := by decide +kernel
theorem dX5_ifDropped_47 : decode cX5_ifDropped 47 = .ok (.invokevirtual 134, 3) := by decide +kernel
theorem dX5_ifDropped_50 : decode cX5_ifDropped 50 = .ok (.ireturn, 1) := by decide +kernel
set_option maxRecDepth 20000 in
theorem ggX5_ifMoved_X3_hasPlace : GoodIn wsX5_ifMoved wsX3_hasPlace := goodIn_r _ [9, 10, 93, 94, 95, 96] (by decide +kernel) (by decide +kernel)
set_option maxRecDepth 20000 in
theorem gX5_ifMoved_X3_hasPlace : GoodIn wsX5_ifMoved (wsV RX5 94 RX3 yX3_hasPlace wsX3_hasPlace) := goodIn_app (goodIn_of _ (by decide +kernel)) ggX5_ifMoved_X3_hasPlace
set_option maxRecDepth 20000 in
theorem ggX5_ifMoved_X3_become : GoodIn wsX5_ifMoved wsX3_become := goodIn_r _ [14, 15, 10, 16, 17, 18, 19, 20, 21, 93, 94, 95, 96] (by decide +kernel) (by decide +kernel)
set_option maxRecDepth 20000 in
theorem gX5_ifMoved_X3_become : GoodIn wsX5_ifMoved (wsV RX5 184 RX3 yX3_become wsX3_become) := goodIn_app (goodIn_of _ (by decide +kernel)) ggX5_ifMoved_X3_become
set_option maxRecDepth 20000 in
theorem ggX5_ifMoved_X3_carryRule : GoodIn wsX5_ifMoved wsX3_carryRule := goodIn_r _ [25, 16, 21, 26, 27, 28, 93, 94, 95, 96] (by decide +kernel) (by decide +kernel)
set_option maxRecDepth 20000 in
theorem gX5_ifMoved_X3_carryRule : GoodIn wsX5_ifMoved (wsV RX5 111 RX3 yX3_carryRule wsX3_carryRule) := goodIn_app (goodIn_of _ (by decide +kernel)) ggX5_ifMoved_X3_carryRule
set_option maxRecDepth 20000 in
theorem ggX5_ifMoved_X4_judge : GoodIn wsX5_ifMoved wsX4_judge := goodIn_r _ [33, 34, 35, 36, 37, 38, 39, 40, 41, 42, 43, 44, 32, 45, 46, 47, 48, 49, 50, 51, 52, 53, 54, 55, 56, 57, 58, 59, 60, 61, 27, 62, 63, 64, 65, 66, 67, 68, 69, 93, 94, 95, 96, 81, 82, 83, 84, 85, 86, 87, 88, 89, 90, 91, 92] (by decide +kernel) (by decide +kernel)
set_option maxRecDepth 20000 in
theorem gX5_ifMoved_X4_judge : GoodIn wsX5_ifMoved (wsV RX5 65 RX4 yX4_judge wsX4_judge) := goodIn_app (goodIn_of _ (by decide +kernel)) ggX5_ifMoved_X4_judge
theorem dX5_ifMoved_0 : decode cX5_ifMoved 0 = .ok (.aload_n 0, 1) := by decide +kernel
theorem dX5_ifMoved_1 : decode cX5_ifMoved 1 = .ok (.getfield 10, 3) := by decide +kernel
theorem dX5_ifMoved_4 : decode cX5_ifMoved 4 = .ok (.iload_n 1, 1) := by decide +kernel
theorem dX5_ifMoved_5 : decode cX5_ifMoved 5 = .ok (.invokevirtual 94, 3) := by decide +kernel
theorem dX5_ifMoved_8 : decode cX5_ifMoved 8 = .ok (.ifCond .eq 14, 3) := by decide +kernel
theorem dX5_ifMoved_11 : decode cX5_ifMoved 11 = .ok (.aload_n 0, 1) := by decide +kernel
theorem dX5_ifMoved_12 : decode cX5_ifMoved 12 = .ok (.getfield 10, 3) := by decide +kernel
theorem dX5_ifMoved_15 : decode cX5_ifMoved 15 = .ok (.iload_n 2, 1) := by decide +kernel
theorem dX5_ifMoved_16 : decode cX5_ifMoved 16 = .ok (.invokevirtual 94, 3) := by decide +kernel
theorem dX5_ifMoved_19 : decode cX5_ifMoved 19 = .ok (.ifCond .ne 5, 3) := by decide +kernel
theorem dX5_ifMoved_22 : decode cX5_ifMoved 22 = .ok (.iconst (-1), 1) := by decide +kernel
theorem dX5_ifMoved_23 : decode cX5_ifMoved 23 = .ok (.ireturn, 1) := by decide +kernel
theorem dX5_ifMoved_24 : decode cX5_ifMoved 24 = .ok (.aload_n 0, 1) := by decide +kernel
theorem dX5_ifMoved_25 : decode cX5_ifMoved 25 = .ok (.getfield 23, 3) := by decide +kernel
theorem dX5_ifMoved_28 : decode cX5_ifMoved 28 = .ok (.aload_n 0, 1) := by decide +kernel
theorem dX5_ifMoved_29 : decode cX5_ifMoved 29 = .ok (.getfield 10, 3) := by decide +kernel
theorem dX5_ifMoved_32 : decode cX5_ifMoved 32 = .ok (.invokevirtual 184, 3) := by decide +kernel
theorem dX5_ifMoved_35 : decode cX5_ifMoved 35 = .ok (.aload_n 0, 1) := by decide +kernel
theorem dX5_ifMoved_36 : decode cX5_ifMoved 36 = .ok (.getfield 23, 3) := by decide +kernel
theorem dX5_ifMoved_39 : decode cX5_ifMoved 39 = .ok (.iload_n 1, 1) := by decide +kernel
theorem dX5_ifMoved_40 : decode cX5_ifMoved 40 = .ok (.iload_n 2, 1) := by decide +kernel
theorem dX5_ifMoved_41 : decode cX5_ifMoved 41 = .ok (.invokevirtual 111, 3) := by decide +kernel
theorem dX5_ifMoved_44 : decode cX5_ifMoved 44 = .ok (.aload_n 0, 1) := by decide +kernel
theorem dX5_ifMoved_45 : decode cX5_ifMoved 45 = .ok (.getfield 26, 3) := by decide +kernel
theorem dX5_ifMoved_48 : decode cX5_ifMoved 48 = .ok (.aload_n 0, 1) := by decide +kernel
theorem dX5_ifMoved_49 : decode cX5_ifMoved 49 = .ok (.getfield 23, 3) := by decide +kernel
theorem dX5_ifMoved_52 : decode cX5_ifMoved 52 = .ok (.invokevirtual 65, 3) := by decide +kernel
theorem dX5_ifMoved_55 : decode cX5_ifMoved 55 = .ok (.aload_n 0, 1) := by decide +kernel
theorem dX5_ifMoved_56 : decode cX5_ifMoved 56 = .ok (.getfield 26, 3) := by decide +kernel
theorem dX5_ifMoved_59 : decode cX5_ifMoved 59 = .ok (.getfield 147, 3) := by decide +kernel
theorem dX5_ifMoved_62 : decode cX5_ifMoved 62 = .ok (.iconst 2, 1) := by decide +kernel
theorem dX5_ifMoved_63 : decode cX5_ifMoved 63 = .ok (.iaload, 1) := by decide +kernel
theorem dX5_ifMoved_64 : decode cX5_ifMoved 64 = .ok (.ireturn, 1) := by decide +kernel
set_option maxRecDepth 20000 in
theorem ggX5_put_X5_charactersIn : GoodIn wsX5_put wsX5_charactersIn := goodIn_r _ [7, 3, 8, 9] (by decide +kernel) (by decide +kernel)
set_option maxRecDepth 20000 in
theorem gX5_put_X5_charactersIn : GoodIn wsX5_put (va_wsS RX5 187 yX5_charactersIn wsX5_charactersIn) := goodIn_app (goodIn_of _ (by decide +kernel)) ggX5_put_X5_charactersIn
set_option maxRecDepth 20000 in
theorem ggX5_put_X2_append : GoodIn wsX5_put wsX2_append := goodIn_r _ [14, 15, 16, 28, 29, 30, 31, 32, 33] (by decide +kernel) (by decide +kernel)
set_option maxRecDepth 20000 in
theorem gX5_put_X2_append : GoodIn wsX5_put (wsV RX5 193 RX2 yX2_append wsX2_append) := goodIn_app (goodIn_of _ (by decide +kernel)) ggX5_put_X2_append
theorem dX5_put_0 : decode cX5_put 0 = .ok (.lload_n 1, 1) := by decide +kernel
theorem dX5_put_1 : decode cX5_put 1 = .ok (.invokestatic 187, 3) := by decide +kernel
theorem dX5_put_4 : decode cX5_put 4 = .ok (.istore_n 3, 1) := by decide +kernel
theorem dX5_put_5 : decode cX5_put 5 = .ok (.iload_n 3, 1) := by decide +kernel
theorem dX5_put_6 : decode cX5_put 6 = .ok (.ifCond .ne 6, 3) := by decide +kernel
theorem dX5_put_9 : decode cX5_put 9 = .ok (.bipush (-2), 2) := by decide +kernel
theorem dX5_put_11 : decode cX5_put 11 = .ok (.ireturn, 1) := by decide +kernel
theorem dX5_put_12 : decode cX5_put 12 = .ok (.aload_n 0, 1) := by decide +kernel
theorem dX5_put_13 : decode cX5_put 13 = .ok (.getfield 43, 3) := by decide +kernel
theorem dX5_put_16 : decode cX5_put 16 = .ok (.getfield 124, 3) := by decide +kernel
theorem dX5_put_19 : decode cX5_put 19 = .ok (.iload_n 3, 1) := by decide +kernel
theorem dX5_put_20 : decode cX5_put 20 = .ok (.iadd, 1) := by decide +kernel
theorem dX5_put_21 : decode cX5_put 21 = .ok (.bipush 80, 2) := by decide +kernel
theorem dX5_put_23 : decode cX5_put 23 = .ok (.if_icmp .le 6, 3) := by decide +kernel
theorem dX5_put_26 : decode cX5_put 26 = .ok (.bipush (-4), 2) := by decide +kernel
theorem dX5_put_28 : decode cX5_put 28 = .ok (.ireturn, 1) := by decide +kernel
theorem dX5_put_29 : decode cX5_put 29 = .ok (.iload_n 3, 1) := by decide +kernel
theorem dX5_put_30 : decode cX5_put 30 = .ok (.iconst 1, 1) := by decide +kernel
theorem dX5_put_31 : decode cX5_put 31 = .ok (.isub, 1) := by decide +kernel
theorem dX5_put_32 : decode cX5_put 32 = .ok (.istore 4, 2) := by decide +kernel
theorem dX5_put_34 : decode cX5_put 34 = .ok (.iload 4, 2) := by decide +kernel
theorem dX5_put_36 : decode cX5_put 36 = .ok (.ifCond .lt 29, 3) := by decide +kernel
theorem dX5_put_39 : decode cX5_put 39 = .ok (.aload_n 0, 1) := by decide +kernel
theorem dX5_put_40 : decode cX5_put 40 = .ok (.getfield 43, 3) := by decide +kernel
theorem dX5_put_43 : decode cX5_put 43 = .ok (.lload_n 1, 1) := by decide +kernel
theorem dX5_put_44 : decode cX5_put 44 = .ok (.bipush 8, 2) := by decide +kernel
theorem dX5_put_46 : decode cX5_put 46 = .ok (.iload 4, 2) := by decide +kernel
theorem dX5_put_48 : decode cX5_put 48 = .ok (.imul, 1) := by decide +kernel
theorem dX5_put_49 : decode cX5_put 49 = .ok (.lushr, 1) := by decide +kernel
theorem dX5_put_50 : decode cX5_put 50 = .ok (.ldc2_w 191, 3) := by decide +kernel
theorem dX5_put_53 : decode cX5_put 53 = .ok (.land, 1) := by decide +kernel
theorem dX5_put_54 : decode cX5_put 54 = .ok (.l2i, 1) := by decide +kernel
theorem dX5_put_55 : decode cX5_put 55 = .ok (.i2c, 1) := by decide +kernel
theorem dX5_put_56 : decode cX5_put 56 = .ok (.invokevirtual 193, 3) := by decide +kernel
theorem dX5_put_59 : decode cX5_put 59 = .ok (.iinc 4 (-1), 3) := by decide +kernel
theorem dX5_put_62 : decode cX5_put 62 = .ok (.goto (-28), 3) := by decide +kernel
theorem dX5_put_65 : decode cX5_put 65 = .ok (.aload_n 0, 1) := by decide +kernel
theorem dX5_put_66 : decode cX5_put 66 = .ok (.getfield 43, 3) := by decide +kernel
theorem dX5_put_69 : decode cX5_put 69 = .ok (.getfield 124, 3) := by decide +kernel
theorem dX5_put_72 : decode cX5_put 72 = .ok (.ireturn, 1) := by decide +kernel
theorem dX5_wipe_0 : decode cX5_wipe 0 = .ok (.aload_n 0, 1) := by decide +kernel
theorem dX5_wipe_1 : decode cX5_wipe 1 = .ok (.getfield 43, 3) := by decide +kernel
theorem dX5_wipe_4 : decode cX5_wipe 4 = .ok (.getfield 124, 3) := by decide +kernel
theorem dX5_wipe_7 : decode cX5_wipe 7 = .ok (.istore_n 1, 1) := by decide +kernel
theorem dX5_wipe_8 : decode cX5_wipe 8 = .ok (.aload_n 0, 1) := by decide +kernel
theorem dX5_wipe_9 : decode cX5_wipe 9 = .ok (.getfield 43, 3) := by decide +kernel
theorem dX5_wipe_12 : decode cX5_wipe 12 = .ok (.iconst 0, 1) := by decide +kernel
theorem dX5_wipe_13 : decode cX5_wipe 13 = .ok (.putfield 124, 3) := by decide +kernel
theorem dX5_wipe_16 : decode cX5_wipe 16 = .ok (.iload_n 1, 1) := by decide +kernel
theorem dX5_wipe_17 : decode cX5_wipe 17 = .ok (.ireturn, 1) := by decide +kernel
set_option maxRecDepth 20000 in
theorem ggX5_fault_X2_readInto : GoodIn wsX5_fault wsX2_readInto := goodIn_r _ [7, 8, 9, 10, 11, 12, 13, 14, 6, 15, 16, 17, 18, 19, 20, 21, 22, 23, 24, 25, 26, 27, 28, 29, 30, 31, 32, 33, 34, 35, 36, 37, 38, 39, 40, 41, 42, 54, 55, 56, 57, 58, 59, 60, 61, 62, 63] (by decide +kernel) (by decide +kernel)
set_option maxRecDepth 20000 in
theorem gX5_fault_X2_readInto : GoodIn wsX5_fault (wsV RX5 117 RX2 yX2_readInto wsX2_readInto) := goodIn_app (goodIn_of _ (by decide +kernel)) ggX5_fault_X2_readInto
theorem dX5_fault_0 : decode cX5_fault 0 = .ok (.aload_n 0, 1) := by decide +kernel
theorem dX5_fault_1 : decode cX5_fault 1 = .ok (.getfield 43, 3) := by decide +kernel
theorem dX5_fault_4 : decode cX5_fault 4 = .ok (.aload_n 0, 1) := by decide +kernel
theorem dX5_fault_5 : decode cX5_fault 5 = .ok (.getfield 47, 3) := by decide +kernel
theorem dX5_fault_8 : decode cX5_fault 8 = .ok (.invokevirtual 117, 3) := by decide +kernel
theorem dX5_fault_11 : decode cX5_fault 11 = .ok (.ireturn, 1) := by decide +kernel
set_option maxRecDepth 20000 in
theorem ggX5_undo_X1_giveBack : GoodIn wsX5_undo wsX1_giveBack := goodIn_r _ [9, 10, 11, 12, 13, 14, 15, 16, 17, 18, 19, 20, 21, 22, 23, 24, 78, 79, 80, 81, 82, 83] (by decide +kernel) (by decide +kernel)
set_option maxRecDepth 20000 in
theorem gX5_undo_X1_giveBack : GoodIn wsX5_undo (wsV RX5 196 RX1 yX1_giveBack wsX1_giveBack) := goodIn_app (goodIn_of _ (by decide +kernel)) ggX5_undo_X1_giveBack
set_option maxRecDepth 20000 in
theorem ggX5_undo_X4_judge : GoodIn wsX5_undo wsX4_judge := goodIn_r _ [29, 30, 31, 32, 33, 34, 35, 36, 37, 38, 39, 40, 28, 41, 42, 43, 44, 45, 46, 47, 48, 49, 50, 51, 52, 53, 54, 55, 56, 57, 58, 59, 60, 61, 62, 63, 64, 65, 66, 80, 81, 82, 83, 84, 85, 86, 87, 88, 89, 90, 91, 92, 93, 94, 95] (by decide +kernel) (by decide +kernel)
set_option maxRecDepth 20000 in
theorem gX5_undo_X4_judge : GoodIn wsX5_undo (wsV RX5 65 RX4 yX4_judge wsX4_judge) := goodIn_app (goodIn_of _ (by decide +kernel)) ggX5_undo_X4_judge
theorem dX5_undo_0 : decode cX5_undo 0 = .ok (.aload_n 0, 1) := by decide +kernel
theorem dX5_undo_1 : decode cX5_undo 1 = .ok (.getfield 53, 3) := by decide +kernel
theorem dX5_undo_4 : decode cX5_undo 4 = .ok (.getfield 153, 3) := by decide +kernel
theorem dX5_undo_7 : decode cX5_undo 7 = .ok (.ifCond .ne 6, 3) := by decide +kernel
theorem dX5_undo_10 : decode cX5_undo 10 = .ok (.bipush (-5), 2) := by decide +kernel
theorem dX5_undo_12 : decode cX5_undo 12 = .ok (.ireturn, 1) := by decide +kernel
theorem dX5_undo_13 : decode cX5_undo 13 = .ok (.aload_n 0, 1) := by decide +kernel
theorem dX5_undo_14 : decode cX5_undo 14 = .ok (.getfield 53, 3) := by decide +kernel
theorem dX5_undo_17 : decode cX5_undo 17 = .ok (.aload_n 0, 1) := by decide +kernel
theorem dX5_undo_18 : decode cX5_undo 18 = .ok (.getfield 10, 3) := by decide +kernel
theorem dX5_undo_21 : decode cX5_undo 21 = .ok (.invokevirtual 196, 3) := by decide +kernel
theorem dX5_undo_24 : decode cX5_undo 24 = .ok (.aload_n 0, 1) := by decide +kernel
theorem dX5_undo_25 : decode cX5_undo 25 = .ok (.getfield 19, 3) := by decide +kernel
theorem dX5_undo_28 : decode cX5_undo 28 = .ok (.aload_n 0, 1) := by decide +kernel
theorem dX5_undo_29 : decode cX5_undo 29 = .ok (.getfield 10, 3) := by decide +kernel
theorem dX5_undo_32 : decode cX5_undo 32 = .ok (.invokevirtual 65, 3) := by decide +kernel
theorem dX5_undo_35 : decode cX5_undo 35 = .ok (.aload_n 0, 1) := by decide +kernel
theorem dX5_undo_36 : decode cX5_undo 36 = .ok (.getfield 53, 3) := by decide +kernel
theorem dX5_undo_39 : decode cX5_undo 39 = .ok (.getfield 153, 3) := by decide +kernel
theorem dX5_undo_42 : decode cX5_undo 42 = .ok (.ireturn, 1) := by decide +kernel
set_option maxRecDepth 20000 in
theorem ggX5_save_X3_become : GoodIn wsX5_save wsX3_become := goodIn_r _ [9, 10, 11, 12, 13, 14, 15, 16, 17, 29, 30, 31, 32] (by decide +kernel) (by decide +kernel)
set_option maxRecDepth 20000 in
theorem gX5_save_X3_become : GoodIn wsX5_save (wsV RX5 184 RX3 yX3_become wsX3_become) := goodIn_app (goodIn_of _ (by decide +kernel)) ggX5_save_X3_become
theorem dX5_save_0 : decode cX5_save 0 = .ok (.iload_n 1, 1) := by decide +kernel
theorem dX5_save_1 : decode cX5_save 1 = .ok (.ifCond .lt 8, 3) := by decide +kernel
theorem dX5_save_4 : decode cX5_save 4 = .ok (.iload_n 1, 1) := by decide +kernel
theorem dX5_save_5 : decode cX5_save 5 = .ok (.iconst 2, 1) := by decide +kernel
theorem dX5_save_6 : decode cX5_save 6 = .ok (.if_icmp .lt 6, 3) := by decide +kernel
theorem dX5_save_9 : decode cX5_save 9 = .ok (.bipush (-2), 2) := by decide +kernel
theorem dX5_save_11 : decode cX5_save 11 = .ok (.ireturn, 1) := by decide +kernel
theorem dX5_save_12 : decode cX5_save 12 = .ok (.aload_n 0, 1) := by decide +kernel
theorem dX5_save_13 : decode cX5_save 13 = .ok (.getfield 57, 3) := by decide +kernel
theorem dX5_save_16 : decode cX5_save 16 = .ok (.iload_n 1, 1) := by decide +kernel
theorem dX5_save_17 : decode cX5_save 17 = .ok (.aaload, 1) := by decide +kernel
theorem dX5_save_18 : decode cX5_save 18 = .ok (.aload_n 0, 1) := by decide +kernel
theorem dX5_save_19 : decode cX5_save 19 = .ok (.getfield 10, 3) := by decide +kernel
theorem dX5_save_22 : decode cX5_save 22 = .ok (.invokevirtual 184, 3) := by decide +kernel
theorem dX5_save_25 : decode cX5_save 25 = .ok (.aload_n 0, 1) := by decide +kernel
theorem dX5_save_26 : decode cX5_save 26 = .ok (.getfield 61, 3) := by decide +kernel
theorem dX5_save_29 : decode cX5_save 29 = .ok (.iload_n 1, 1) := by decide +kernel
theorem dX5_save_30 : decode cX5_save 30 = .ok (.iconst 1, 1) := by decide +kernel
theorem dX5_save_31 : decode cX5_save 31 = .ok (.bastore, 1) := by decide +kernel
theorem dX5_save_32 : decode cX5_save 32 = .ok (.aload_n 0, 1) := by decide +kernel
theorem dX5_save_33 : decode cX5_save 33 = .ok (.getfield 10, 3) := by decide +kernel
theorem dX5_save_36 : decode cX5_save 36 = .ok (.getfield 84, 3) := by decide +kernel
theorem dX5_save_39 : decode cX5_save 39 = .ok (.ireturn, 1) := by decide +kernel
set_option maxRecDepth 20000 in
theorem ggX5_restore_X1_remember : GoodIn wsX5_restore wsX1_remember := goodIn_r _ [11, 12, 13, 14, 15, 16, 10, 17, 18, 19, 20, 21, 22, 23, 24, 25, 26, 27, 28, 29, 30, 89, 90, 85, 86, 87, 88] (by decide +kernel) (by decide +kernel)
set_option maxRecDepth 20000 in
theorem gX5_restore_X1_remember : GoodIn wsX5_restore (wsV RX5 77 RX1 yX1_remember wsX1_remember) := goodIn_app (goodIn_of _ (by decide +kernel)) ggX5_restore_X1_remember
set_option maxRecDepth 20000 in
theorem ggX5_restore_X3_become : GoodIn wsX5_restore wsX3_become := goodIn_r _ [22, 23, 24, 25, 26, 27, 28, 29, 30, 85, 86, 87, 88] (by decide +kernel) (by decide +kernel)
set_option maxRecDepth 20000 in
theorem gX5_restore_X3_become : GoodIn wsX5_restore (wsV RX5 184 RX3 yX3_become wsX3_become) := goodIn_app (goodIn_of _ (by decide +kernel)) ggX5_restore_X3_become
set_option maxRecDepth 20000 in
theorem ggX5_restore_X4_judge : GoodIn wsX5_restore wsX4_judge := goodIn_r _ [36, 37, 38, 39, 40, 41, 42, 43, 44, 45, 46, 47, 35, 48, 49, 50, 51, 52, 53, 54, 55, 56, 57, 58, 59, 60, 61, 62, 63, 64, 65, 66, 67, 68, 69, 70, 71, 72, 73, 85, 86, 87, 88, 91, 92, 93, 94, 95, 96, 97, 98, 99, 100, 101, 102] (by decide +kernel) (by decide +kernel)
set_option maxRecDepth 20000 in
theorem gX5_restore_X4_judge : GoodIn wsX5_restore (wsV RX5 65 RX4 yX4_judge wsX4_judge) := goodIn_app (goodIn_of _ (by decide +kernel)) ggX5_restore_X4_judge
theorem dX5_restore_0 : decode cX5_restore 0 = .ok (.iload_n 1, 1) := by decide +kernel
theorem dX5_restore_1 : decode cX5_restore 1 = .ok (.ifCond .lt 8, 3) := by decide +kernel
theorem dX5_restore_4 : decode cX5_restore 4 = .ok (.iload_n 1, 1) := by decide +kernel
theorem dX5_restore_5 : decode cX5_restore 5 = .ok (.iconst 2, 1) := by decide +kernel
theorem dX5_restore_6 : decode cX5_restore 6 = .ok (.if_icmp .lt 6, 3) := by decide +kernel
theorem dX5_restore_9 : decode cX5_restore 9 = .ok (.bipush (-2), 2) := by decide +kernel
theorem dX5_restore_11 : decode cX5_restore 11 = .ok (.ireturn, 1) := by decide +kernel
theorem dX5_restore_12 : decode cX5_restore 12 = .ok (.aload_n 0, 1) := by decide +kernel
theorem dX5_restore_13 : decode cX5_restore 13 = .ok (.getfield 61, 3) := by decide +kernel
theorem dX5_restore_16 : decode cX5_restore 16 = .ok (.iload_n 1, 1) := by decide +kernel
theorem dX5_restore_17 : decode cX5_restore 17 = .ok (.baload, 1) := by decide +kernel
theorem dX5_restore_18 : decode cX5_restore 18 = .ok (.ifCond .ne 6, 3) := by decide +kernel
theorem dX5_restore_21 : decode cX5_restore 21 = .ok (.bipush (-5), 2) := by decide +kernel
theorem dX5_restore_23 : decode cX5_restore 23 = .ok (.ireturn, 1) := by decide +kernel
theorem dX5_restore_24 : decode cX5_restore 24 = .ok (.aload_n 0, 1) := by decide +kernel
theorem dX5_restore_25 : decode cX5_restore 25 = .ok (.getfield 53, 3) := by decide +kernel
theorem dX5_restore_28 : decode cX5_restore 28 = .ok (.aload_n 0, 1) := by decide +kernel
theorem dX5_restore_29 : decode cX5_restore 29 = .ok (.getfield 10, 3) := by decide +kernel
theorem dX5_restore_32 : decode cX5_restore 32 = .ok (.invokevirtual 77, 3) := by decide +kernel
theorem dX5_restore_35 : decode cX5_restore 35 = .ok (.aload_n 0, 1) := by decide +kernel
theorem dX5_restore_36 : decode cX5_restore 36 = .ok (.getfield 10, 3) := by decide +kernel
theorem dX5_restore_39 : decode cX5_restore 39 = .ok (.aload_n 0, 1) := by decide +kernel
theorem dX5_restore_40 : decode cX5_restore 40 = .ok (.getfield 57, 3) := by decide +kernel
theorem dX5_restore_43 : decode cX5_restore 43 = .ok (.iload_n 1, 1) := by decide +kernel
theorem dX5_restore_44 : decode cX5_restore 44 = .ok (.aaload, 1) := by decide +kernel
theorem dX5_restore_45 : decode cX5_restore 45 = .ok (.invokevirtual 184, 3) := by decide +kernel
theorem dX5_restore_48 : decode cX5_restore 48 = .ok (.aload_n 0, 1) := by decide +kernel
theorem dX5_restore_49 : decode cX5_restore 49 = .ok (.getfield 19, 3) := by decide +kernel
theorem dX5_restore_52 : decode cX5_restore 52 = .ok (.aload_n 0, 1) := by decide +kernel
theorem dX5_restore_53 : decode cX5_restore 53 = .ok (.getfield 10, 3) := by decide +kernel
theorem dX5_restore_56 : decode cX5_restore 56 = .ok (.invokevirtual 65, 3) := by decide +kernel
theorem dX5_restore_59 : decode cX5_restore 59 = .ok (.aload_n 0, 1) := by decide +kernel
theorem dX5_restore_60 : decode cX5_restore 60 = .ok (.getfield 10, 3) := by decide +kernel
theorem dX5_restore_63 : decode cX5_restore 63 = .ok (.getfield 84, 3) := by decide +kernel
theorem dX5_restore_66 : decode cX5_restore 66 = .ok (.ireturn, 1) := by decide +kernel
set_option maxRecDepth 20000 in
theorem ggX5_isRule_X3_hasSet : GoodIn wsX5_isRule wsX3_hasSet := goodIn_r _ [6, 7, 19, 20, 21, 22] (by decide +kernel) (by decide +kernel)
set_option maxRecDepth 20000 in
theorem gX5_isRule_X3_hasSet : GoodIn wsX5_isRule (wsV RX5 157 RX3 yX3_hasSet wsX3_hasSet) := goodIn_app (goodIn_of _ (by decide +kernel)) ggX5_isRule_X3_hasSet
theorem dX5_isRule_0 : decode cX5_isRule 0 = .ok (.iload_n 1, 1) := by decide +kernel
theorem dX5_isRule_1 : decode cX5_isRule 1 = .ok (.ifCond .eq 27, 3) := by decide +kernel
theorem dX5_isRule_4 : decode cX5_isRule 4 = .ok (.aload_n 0, 1) := by decide +kernel
theorem dX5_isRule_5 : decode cX5_isRule 5 = .ok (.getfield 10, 3) := by decide +kernel
theorem dX5_isRule_8 : decode cX5_isRule 8 = .ok (.iload_n 1, 1) := by decide +kernel
theorem dX5_isRule_9 : decode cX5_isRule 9 = .ok (.invokevirtual 157, 3) := by decide +kernel
theorem dX5_isRule_12 : decode cX5_isRule 12 = .ok (.ifCond .eq 16, 3) := by decide +kernel
theorem dX5_isRule_15 : decode cX5_isRule 15 = .ok (.iload_n 2, 1) := by decide +kernel
theorem dX5_isRule_16 : decode cX5_isRule 16 = .ok (.ifCond .eq 8, 3) := by decide +kernel
theorem dX5_isRule_19 : decode cX5_isRule 19 = .ok (.iload_n 2, 1) := by decide +kernel
theorem dX5_isRule_20 : decode cX5_isRule 20 = .ok (.iconst 1, 1) := by decide +kernel
theorem dX5_isRule_21 : decode cX5_isRule 21 = .ok (.if_icmp .ne 7, 3) := by decide +kernel
theorem dX5_isRule_24 : decode cX5_isRule 24 = .ok (.iconst 1, 1) := by decide +kernel
theorem dX5_isRule_25 : decode cX5_isRule 25 = .ok (.goto 4, 3) := by decide +kernel
theorem dX5_isRule_28 : decode cX5_isRule 28 = .ok (.iconst 0, 1) := by decide +kernel
theorem dX5_isRule_29 : decode cX5_isRule 29 = .ok (.ireturn, 1) := by decide +kernel
theorem dX5_charactersIn_0 : decode cX5_charactersIn 0 = .ok (.lload_n 0, 1) := by decide +kernel
theorem dX5_charactersIn_1 : decode cX5_charactersIn 1 = .ok (.lstore_n 2, 1) := by decide +kernel
theorem dX5_charactersIn_2 : decode cX5_charactersIn 2 = .ok (.iconst 0, 1) := by decide +kernel
theorem dX5_charactersIn_3 : decode cX5_charactersIn 3 = .ok (.istore 4, 2) := by decide +kernel
theorem dX5_charactersIn_5 : decode cX5_charactersIn 5 = .ok (.iload 4, 2) := by decide +kernel
theorem dX5_charactersIn_7 : decode cX5_charactersIn 7 = .ok (.bipush 8, 2) := by decide +kernel
theorem dX5_charactersIn_9 : decode cX5_charactersIn 9 = .ok (.if_icmp .ge 51, 3) := by decide +kernel
theorem dX5_charactersIn_12 : decode cX5_charactersIn 12 = .ok (.lload_n 2, 1) := by decide +kernel
theorem dX5_charactersIn_13 : decode cX5_charactersIn 13 = .ok (.ldc2_w 191, 3) := by decide +kernel
theorem dX5_charactersIn_16 : decode cX5_charactersIn 16 = .ok (.land, 1) := by decide +kernel
theorem dX5_charactersIn_17 : decode cX5_charactersIn 17 = .ok (.lconst 0, 1) := by decide +kernel
theorem dX5_charactersIn_18 : decode cX5_charactersIn 18 = .ok (.lcmp, 1) := by decide +kernel
theorem dX5_charactersIn_19 : decode cX5_charactersIn 19 = .ok (.ifCond .eq 41, 3) := by decide +kernel
theorem dX5_charactersIn_22 : decode cX5_charactersIn 22 = .ok (.lload_n 2, 1) := by decide +kernel
theorem dX5_charactersIn_23 : decode cX5_charactersIn 23 = .ok (.ldc2_w 191, 3) := by decide +kernel
theorem dX5_charactersIn_26 : decode cX5_charactersIn 26 = .ok (.land, 1) := by decide +kernel
theorem dX5_charactersIn_27 : decode cX5_charactersIn 27 = .ok (.lstore 5, 2) := by decide +kernel
theorem dX5_charactersIn_29 : decode cX5_charactersIn 29 = .ok (.lload 5, 2) := by decide +kernel
theorem dX5_charactersIn_31 : decode cX5_charactersIn 31 = .ok (.ldc2_w 199, 3) := by decide +kernel
theorem dX5_charactersIn_34 : decode cX5_charactersIn 34 = .ok (.lcmp, 1) := by decide +kernel
theorem dX5_charactersIn_35 : decode cX5_charactersIn 35 = .ok (.ifCond .lt 12, 3) := by decide +kernel
theorem dX5_charactersIn_38 : decode cX5_charactersIn 38 = .ok (.lload 5, 2) := by decide +kernel
theorem dX5_charactersIn_40 : decode cX5_charactersIn 40 = .ok (.ldc2_w 201, 3) := by decide +kernel
theorem dX5_charactersIn_43 : decode cX5_charactersIn 43 = .ok (.lcmp, 1) := by decide +kernel
theorem dX5_charactersIn_44 : decode cX5_charactersIn 44 = .ok (.ifCond .le 5, 3) := by decide +kernel
theorem dX5_charactersIn_47 : decode cX5_charactersIn 47 = .ok (.iconst 0, 1) := by decide +kernel
theorem dX5_charactersIn_48 : decode cX5_charactersIn 48 = .ok (.ireturn, 1) := by decide +kernel
theorem dX5_charactersIn_49 : decode cX5_charactersIn 49 = .ok (.lload_n 2, 1) := by decide +kernel
theorem dX5_charactersIn_50 : decode cX5_charactersIn 50 = .ok (.bipush 8, 2) := by decide +kernel
theorem dX5_charactersIn_52 : decode cX5_charactersIn 52 = .ok (.lushr, 1) := by decide +kernel
theorem dX5_charactersIn_53 : decode cX5_charactersIn 53 = .ok (.lstore_n 2, 1) := by decide +kernel
theorem dX5_charactersIn_54 : decode cX5_charactersIn 54 = .ok (.iinc 4 1, 3) := by decide +kernel
theorem dX5_charactersIn_57 : decode cX5_charactersIn 57 = .ok (.goto (-52), 3) := by decide +kernel
theorem dX5_charactersIn_60 : decode cX5_charactersIn 60 = .ok (.lload_n 2, 1) := by decide +kernel
theorem dX5_charactersIn_61 : decode cX5_charactersIn 61 = .ok (.lconst 0, 1) := by decide +kernel
theorem dX5_charactersIn_62 : decode cX5_charactersIn 62 = .ok (.lcmp, 1) := by decide +kernel
theorem dX5_charactersIn_63 : decode cX5_charactersIn 63 = .ok (.ifCond .ne 8, 3) := by decide +kernel
theorem dX5_charactersIn_66 : decode cX5_charactersIn 66 = .ok (.iload 4, 2) := by decide +kernel
theorem dX5_charactersIn_68 : decode cX5_charactersIn 68 = .ok (.goto 4, 3) := by decide +kernel
theorem dX5_charactersIn_71 : decode cX5_charactersIn 71 = .ok (.iconst 0, 1) := by decide +kernel
theorem dX5_charactersIn_72 : decode cX5_charactersIn 72 = .ok (.ireturn, 1) := by decide +kernel
set_option maxRecDepth 20000 in
theorem ggX5_parity_J6_bitCount_0f7a4 : GoodIn wsX5_parity wsJ6_bitCount_0f7a4 := goodIn_r _ [4, 5, 6, 7] (by decide +kernel) (by decide +kernel)
set_option maxRecDepth 20000 in
theorem gX5_parity_J6_bitCount_0f7a4 : GoodIn wsX5_parity (va_wsS RX5 163 yJ6_bitCount_0f7a4 wsJ6_bitCount_0f7a4) := goodIn_app (goodIn_of _ (by decide +kernel)) ggX5_parity_J6_bitCount_0f7a4
theorem dX5_parity_0 : decode cX5_parity 0 = .ok (.iload_n 0, 1) := by decide +kernel
theorem dX5_parity_1 : decode cX5_parity 1 = .ok (.invokestatic 163, 3) := by decide +kernel
theorem dX5_parity_4 : decode cX5_parity 4 = .ok (.iconst 1, 1) := by decide +kernel
theorem dX5_parity_5 : decode cX5_parity 5 = .ok (.iand, 1) := by decide +kernel
theorem dX5_parity_6 : decode cX5_parity 6 = .ok (.ireturn, 1) := by decide +kernel
set_option maxRecDepth 20000 in
theorem ggX5_lowestBit_J6_bitCount_0f7a4 : GoodIn wsX5_lowestBit wsJ6_bitCount_0f7a4 := goodIn_r _ [4, 5, 6, 7] (by decide +kernel) (by decide +kernel)
set_option maxRecDepth 20000 in
theorem gX5_lowestBit_J6_bitCount_0f7a4 : GoodIn wsX5_lowestBit (va_wsS RX5 163 yJ6_bitCount_0f7a4 wsJ6_bitCount_0f7a4) := goodIn_app (goodIn_of _ (by decide +kernel)) ggX5_lowestBit_J6_bitCount_0f7a4
theorem dX5_lowestBit_0 : decode cX5_lowestBit 0 = .ok (.iload_n 0, 1) := by decide +kernel
theorem dX5_lowestBit_1 : decode cX5_lowestBit 1 = .ok (.iconst (-1), 1) := by decide +kernel
theorem dX5_lowestBit_2 : decode cX5_lowestBit 2 = .ok (.ixor, 1) := by decide +kernel
theorem dX5_lowestBit_3 : decode cX5_lowestBit 3 = .ok (.iload_n 0, 1) := by decide +kernel
theorem dX5_lowestBit_4 : decode cX5_lowestBit 4 = .ok (.iconst 1, 1) := by decide +kernel
theorem dX5_lowestBit_5 : decode cX5_lowestBit 5 = .ok (.isub, 1) := by decide +kernel
theorem dX5_lowestBit_6 : decode cX5_lowestBit 6 = .ok (.iand, 1) := by decide +kernel
theorem dX5_lowestBit_7 : decode cX5_lowestBit 7 = .ok (.invokestatic 163, 3) := by decide +kernel
theorem dX5_lowestBit_10 : decode cX5_lowestBit 10 = .ok (.ireturn, 1) := by decide +kernel
theorem dX5_carry_0 : decode cX5_carry 0 = .ok (.aload_n 0, 1) := by decide +kernel
theorem dX5_carry_1 : decode cX5_carry 1 = .ok (.iload_n 1, 1) := by decide +kernel
theorem dX5_carry_2 : decode cX5_carry 2 = .ok (.iaload, 1) := by decide +kernel
theorem dX5_carry_3 : decode cX5_carry 3 = .ok (.istore_n 3, 1) := by decide +kernel
theorem dX5_carry_4 : decode cX5_carry 4 = .ok (.iload_n 1, 1) := by decide +kernel
theorem dX5_carry_5 : decode cX5_carry 5 = .ok (.istore 4, 2) := by decide +kernel
theorem dX5_carry_7 : decode cX5_carry 7 = .ok (.iload 4, 2) := by decide +kernel
theorem dX5_carry_9 : decode cX5_carry 9 = .ok (.iload_n 2, 1) := by decide +kernel
theorem dX5_carry_10 : decode cX5_carry 10 = .ok (.if_icmp .ge 19, 3) := by decide +kernel
theorem dX5_carry_13 : decode cX5_carry 13 = .ok (.aload_n 0, 1) := by decide +kernel
theorem dX5_carry_14 : decode cX5_carry 14 = .ok (.iload 4, 2) := by decide +kernel
theorem dX5_carry_16 : decode cX5_carry 16 = .ok (.aload_n 0, 1) := by decide +kernel
theorem dX5_carry_17 : decode cX5_carry 17 = .ok (.iload 4, 2) := by decide +kernel
theorem dX5_carry_19 : decode cX5_carry 19 = .ok (.iconst 1, 1) := by decide +kernel
theorem dX5_carry_20 : decode cX5_carry 20 = .ok (.iadd, 1) := by decide +kernel
theorem dX5_carry_21 : decode cX5_carry 21 = .ok (.iaload, 1) := by decide +kernel
theorem dX5_carry_22 : decode cX5_carry 22 = .ok (.iastore, 1) := by decide +kernel
theorem dX5_carry_23 : decode cX5_carry 23 = .ok (.iinc 4 1, 3) := by decide +kernel
theorem dX5_carry_26 : decode cX5_carry 26 = .ok (.goto (-19), 3) := by decide +kernel
theorem dX5_carry_29 : decode cX5_carry 29 = .ok (.iload_n 1, 1) := by decide +kernel
theorem dX5_carry_30 : decode cX5_carry 30 = .ok (.istore 4, 2) := by decide +kernel
theorem dX5_carry_32 : decode cX5_carry 32 = .ok (.iload 4, 2) := by decide +kernel
theorem dX5_carry_34 : decode cX5_carry 34 = .ok (.iload_n 2, 1) := by decide +kernel
theorem dX5_carry_35 : decode cX5_carry 35 = .ok (.if_icmp .le 19, 3) := by decide +kernel
theorem dX5_carry_38 : decode cX5_carry 38 = .ok (.aload_n 0, 1) := by decide +kernel
theorem dX5_carry_39 : decode cX5_carry 39 = .ok (.iload 4, 2) := by decide +kernel
theorem dX5_carry_41 : decode cX5_carry 41 = .ok (.aload_n 0, 1) := by decide +kernel
theorem dX5_carry_42 : decode cX5_carry 42 = .ok (.iload 4, 2) := by decide +kernel
theorem dX5_carry_44 : decode cX5_carry 44 = .ok (.iconst 1, 1) := by decide +kernel
theorem dX5_carry_45 : decode cX5_carry 45 = .ok (.isub, 1) := by decide +kernel
theorem dX5_carry_46 : decode cX5_carry 46 = .ok (.iaload, 1) := by decide +kernel
theorem dX5_carry_47 : decode cX5_carry 47 = .ok (.iastore, 1) := by decide +kernel
theorem dX5_carry_48 : decode cX5_carry 48 = .ok (.iinc 4 (-1), 3) := by decide +kernel
theorem dX5_carry_51 : decode cX5_carry 51 = .ok (.goto (-19), 3) := by decide +kernel
theorem dX5_carry_54 : decode cX5_carry 54 = .ok (.aload_n 0, 1) := by decide +kernel
theorem dX5_carry_55 : decode cX5_carry 55 = .ok (.iload_n 2, 1) := by decide +kernel
theorem dX5_carry_56 : decode cX5_carry 56 = .ok (.iload_n 3, 1) := by decide +kernel
theorem dX5_carry_57 : decode cX5_carry 57 = .ok (.iastore, 1) := by decide +kernel
theorem dX5_carry_58 : decode cX5_carry 58 = .ok (.return_, 1) := by decide +kernel
theorem dX6_init_0 : decode cX6_init 0 = .ok (.aload_n 0, 1) := by decide +kernel
theorem dX6_init_1 : decode cX6_init 1 = .ok (.invokespecial 1, 3) := by decide +kernel
theorem dX6_init_4 : decode cX6_init 4 = .ok (.aload_n 0, 1) := by decide +kernel
theorem dX6_init_5 : decode cX6_init 5 = .ok (.bipush 42, 2) := by decide +kernel
theorem dX6_init_7 : decode cX6_init 7 = .ok (.newarray .int, 2) := by decide +kernel
theorem dX6_init_9 : decode cX6_init 9 = .ok (.putfield 7, 3) := by decide +kernel
theorem dX6_init_12 : decode cX6_init 12 = .ok (.aload_n 0, 1) := by decide +kernel
theorem dX6_init_13 : decode cX6_init 13 = .ok (.bipush 42, 2) := by decide +kernel
theorem dX6_init_15 : decode cX6_init 15 = .ok (.newarray .int, 2) := by decide +kernel
theorem dX6_init_17 : decode cX6_init 17 = .ok (.putfield 13, 3) := by decide +kernel
theorem dX6_init_20 : decode cX6_init 20 = .ok (.aload_n 0, 1) := by decide +kernel
theorem dX6_init_21 : decode cX6_init 21 = .ok (.sipush 252, 3) := by decide +kernel
theorem dX6_init_24 : decode cX6_init 24 = .ok (.newarray .int, 2) := by decide +kernel
theorem dX6_init_26 : decode cX6_init 26 = .ok (.putfield 16, 3) := by decide +kernel
theorem dX6_init_29 : decode cX6_init 29 = .ok (.aload_n 0, 1) := by decide +kernel
theorem dX6_init_30 : decode cX6_init 30 = .ok (.bipush 84, 2) := by decide +kernel
theorem dX6_init_32 : decode cX6_init 32 = .ok (.newarray .int, 2) := by decide +kernel
theorem dX6_init_34 : decode cX6_init 34 = .ok (.putfield 19, 3) := by decide +kernel
theorem dX6_init_37 : decode cX6_init 37 = .ok (.aload_n 0, 1) := by decide +kernel
theorem dX6_init_38 : decode cX6_init 38 = .ok (.iconst 2, 1) := by decide +kernel
theorem dX6_init_39 : decode cX6_init 39 = .ok (.newarray .int, 2) := by decide +kernel
theorem dX6_init_41 : decode cX6_init 41 = .ok (.putfield 22, 3) := by decide +kernel
theorem dX6_init_44 : decode cX6_init 44 = .ok (.aload_n 0, 1) := by decide +kernel
theorem dX6_init_45 : decode cX6_init 45 = .ok (.bipush 12, 2) := by decide +kernel
theorem dX6_init_47 : decode cX6_init 47 = .ok (.newarray .int, 2) := by decide +kernel
theorem dX6_init_49 : decode cX6_init 49 = .ok (.putfield 25, 3) := by decide +kernel
theorem dX6_init_52 : decode cX6_init 52 = .ok (.aload_n 0, 1) := by decide +kernel
theorem dX6_init_53 : decode cX6_init 53 = .ok (.bipush 12, 2) := by decide +kernel
theorem dX6_init_55 : decode cX6_init 55 = .ok (.newarray .int, 2) := by decide +kernel
theorem dX6_init_57 : decode cX6_init 57 = .ok (.putfield 28, 3) := by decide +kernel
theorem dX6_init_60 : decode cX6_init 60 = .ok (.aload_n 0, 1) := by decide +kernel
theorem dX6_init_61 : decode cX6_init 61 = .ok (.bipush 20, 2) := by decide +kernel
theorem dX6_init_63 : decode cX6_init 63 = .ok (.newarray .int, 2) := by decide +kernel
theorem dX6_init_65 : decode cX6_init 65 = .ok (.putfield 31, 3) := by decide +kernel
theorem dX6_init_68 : decode cX6_init 68 = .ok (.aload_n 0, 1) := by decide +kernel
theorem dX6_init_69 : decode cX6_init 69 = .ok (.bipush 20, 2) := by decide +kernel
theorem dX6_init_71 : decode cX6_init 71 = .ok (.newarray .int, 2) := by decide +kernel
theorem dX6_init_73 : decode cX6_init 73 = .ok (.putfield 34, 3) := by decide +kernel
theorem dX6_init_76 : decode cX6_init 76 = .ok (.aload_n 0, 1) := by decide +kernel
theorem dX6_init_77 : decode cX6_init 77 = .ok (.bipush 20, 2) := by decide +kernel
theorem dX6_init_79 : decode cX6_init 79 = .ok (.newarray .int, 2) := by decide +kernel
theorem dX6_init_81 : decode cX6_init 81 = .ok (.putfield 37, 3) := by decide +kernel
theorem dX6_init_84 : decode cX6_init 84 = .ok (.aload_n 0, 1) := by decide +kernel
theorem dX6_init_85 : decode cX6_init 85 = .ok (.bipush 80, 2) := by decide +kernel
theorem dX6_init_87 : decode cX6_init 87 = .ok (.newarray .int, 2) := by decide +kernel
theorem dX6_init_89 : decode cX6_init 89 = .ok (.putfield 40, 3) := by decide +kernel
theorem dX6_init_92 : decode cX6_init 92 = .ok (.aload_n 0, 1) := by decide +kernel
theorem dX6_init_93 : decode cX6_init 93 = .ok (.bipush 40, 2) := by decide +kernel
theorem dX6_init_95 : decode cX6_init 95 = .ok (.newarray .int, 2) := by decide +kernel
theorem dX6_init_97 : decode cX6_init 97 = .ok (.putfield 43, 3) := by decide +kernel
theorem dX6_init_100 : decode cX6_init 100 = .ok (.aload_n 0, 1) := by decide +kernel
theorem dX6_init_101 : decode cX6_init 101 = .ok (.bipush 40, 2) := by decide +kernel
theorem dX6_init_103 : decode cX6_init 103 = .ok (.newarray .int, 2) := by decide +kernel
theorem dX6_init_105 : decode cX6_init 105 = .ok (.putfield 46, 3) := by decide +kernel
theorem dX6_init_108 : decode cX6_init 108 = .ok (.aload_n 0, 1) := by decide +kernel
theorem dX6_init_109 : decode cX6_init 109 = .ok (.getfield 7, 3) := by decide +kernel
theorem dX6_init_112 : decode cX6_init 112 = .ok (.iconst 0, 1) := by decide +kernel
theorem dX6_init_113 : decode cX6_init 113 = .ok (.bipush 6, 2) := by decide +kernel
theorem dX6_init_115 : decode cX6_init 115 = .ok (.iastore, 1) := by decide +kernel
theorem dX6_init_116 : decode cX6_init 116 = .ok (.return_, 1) := by decide +kernel
theorem dX6_in_0 : decode cX6_in 0 = .ok (.lload_n 0, 1) := by decide +kernel
theorem dX6_in_1 : decode cX6_in 1 = .ok (.lload_n 2, 1) := by decide +kernel
theorem dX6_in_2 : decode cX6_in 2 = .ok (.lcmp, 1) := by decide +kernel
theorem dX6_in_3 : decode cX6_in 3 = .ok (.ifCond .lt 14, 3) := by decide +kernel
theorem dX6_in_6 : decode cX6_in 6 = .ok (.lload_n 0, 1) := by decide +kernel
theorem dX6_in_7 : decode cX6_in 7 = .ok (.lload 4, 2) := by decide +kernel
theorem dX6_in_9 : decode cX6_in 9 = .ok (.lcmp, 1) := by decide +kernel
theorem dX6_in_10 : decode cX6_in 10 = .ok (.ifCond .gt 7, 3) := by decide +kernel
theorem dX6_in_13 : decode cX6_in 13 = .ok (.iconst 1, 1) := by decide +kernel
theorem dX6_in_14 : decode cX6_in 14 = .ok (.goto 4, 3) := by decide +kernel
theorem dX6_in_17 : decode cX6_in 17 = .ok (.iconst 0, 1) := by decide +kernel
theorem dX6_in_18 : decode cX6_in 18 = .ok (.ireturn, 1) := by decide +kernel
theorem dX6_keep_0 : decode cX6_keep 0 = .ok (.iconst 0, 1) := by decide +kernel
theorem dX6_keep_1 : decode cX6_keep 1 = .ok (.istore_n 1, 1) := by decide +kernel
theorem dX6_keep_2 : decode cX6_keep 2 = .ok (.iload_n 1, 1) := by decide +kernel
theorem dX6_keep_3 : decode cX6_keep 3 = .ok (.bipush 42, 2) := by decide +kernel
theorem dX6_keep_5 : decode cX6_keep 5 = .ok (.if_icmp .ge 21, 3) := by decide +kernel
theorem dX6_keep_8 : decode cX6_keep 8 = .ok (.aload_n 0, 1) := by decide +kernel
theorem dX6_keep_9 : decode cX6_keep 9 = .ok (.getfield 13, 3) := by decide +kernel
theorem dX6_keep_12 : decode cX6_keep 12 = .ok (.iload_n 1, 1) := by decide +kernel
theorem dX6_keep_13 : decode cX6_keep 13 = .ok (.aload_n 0, 1) := by decide +kernel
theorem dX6_keep_14 : decode cX6_keep 14 = .ok (.getfield 7, 3) := by decide +kernel
theorem dX6_keep_17 : decode cX6_keep 17 = .ok (.iload_n 1, 1) := by decide +kernel
theorem dX6_keep_18 : decode cX6_keep 18 = .ok (.iaload, 1) := by decide +kernel
theorem dX6_keep_19 : decode cX6_keep 19 = .ok (.iastore, 1) := by decide +kernel
theorem dX6_keep_20 : decode cX6_keep 20 = .ok (.iinc 1 1, 3) := by decide +kernel
theorem dX6_keep_23 : decode cX6_keep 23 = .ok (.goto (-21), 3) := by decide +kernel
theorem dX6_keep_26 : decode cX6_keep 26 = .ok (.return_, 1) := by decide +kernel
theorem dX6_giveBack_0 : decode cX6_giveBack 0 = .ok (.iconst 0, 1) := by decide +kernel
theorem dX6_giveBack_1 : decode cX6_giveBack 1 = .ok (.istore_n 1, 1) := by decide +kernel
theorem dX6_giveBack_2 : decode cX6_giveBack 2 = .ok (.iload_n 1, 1) := by decide +kernel
theorem dX6_giveBack_3 : decode cX6_giveBack 3 = .ok (.bipush 42, 2) := by decide +kernel
theorem dX6_giveBack_5 : decode cX6_giveBack 5 = .ok (.if_icmp .ge 21, 3) := by decide +kernel
theorem dX6_giveBack_8 : decode cX6_giveBack 8 = .ok (.aload_n 0, 1) := by decide +kernel
theorem dX6_giveBack_9 : decode cX6_giveBack 9 = .ok (.getfield 7, 3) := by decide +kernel
theorem dX6_giveBack_12 : decode cX6_giveBack 12 = .ok (.iload_n 1, 1) := by decide +kernel
theorem dX6_giveBack_13 : decode cX6_giveBack 13 = .ok (.aload_n 0, 1) := by decide +kernel
theorem dX6_giveBack_14 : decode cX6_giveBack 14 = .ok (.getfield 13, 3) := by decide +kernel
theorem dX6_giveBack_17 : decode cX6_giveBack 17 = .ok (.iload_n 1, 1) := by decide +kernel
theorem dX6_giveBack_18 : decode cX6_giveBack 18 = .ok (.iaload, 1) := by decide +kernel
theorem dX6_giveBack_19 : decode cX6_giveBack 19 = .ok (.iastore, 1) := by decide +kernel
theorem dX6_giveBack_20 : decode cX6_giveBack 20 = .ok (.iinc 1 1, 3) := by decide +kernel
theorem dX6_giveBack_23 : decode cX6_giveBack 23 = .ok (.goto (-21), 3) := by decide +kernel
theorem dX6_giveBack_26 : decode cX6_giveBack 26 = .ok (.return_, 1) := by decide +kernel
theorem dX6_changed_0 : decode cX6_changed 0 = .ok (.aload_n 0, 1) := by decide +kernel
theorem dX6_changed_1 : decode cX6_changed 1 = .ok (.getfield 49, 3) := by decide +kernel
theorem dX6_changed_4 : decode cX6_changed 4 = .ok (.bipush 6, 2) := by decide +kernel
theorem dX6_changed_6 : decode cX6_changed 6 = .ok (.if_icmp .ne 43, 3) := by decide +kernel
theorem dX6_changed_9 : decode cX6_changed 9 = .ok (.iconst 0, 1) := by decide +kernel
theorem dX6_changed_10 : decode cX6_changed 10 = .ok (.istore_n 2, 1) := by decide +kernel
theorem dX6_changed_11 : decode cX6_changed 11 = .ok (.iload_n 2, 1) := by decide +kernel
theorem dX6_changed_12 : decode cX6_changed 12 = .ok (.sipush 210, 3) := by decide +kernel
theorem dX6_changed_15 : decode cX6_changed 15 = .ok (.if_icmp .ge 24, 3) := by decide +kernel
theorem dX6_changed_18 : decode cX6_changed 18 = .ok (.aload_n 0, 1) := by decide +kernel
theorem dX6_changed_19 : decode cX6_changed 19 = .ok (.getfield 16, 3) := by decide +kernel
theorem dX6_changed_22 : decode cX6_changed 22 = .ok (.iload_n 2, 1) := by decide +kernel
theorem dX6_changed_23 : decode cX6_changed 23 = .ok (.aload_n 0, 1) := by decide +kernel
theorem dX6_changed_24 : decode cX6_changed 24 = .ok (.getfield 16, 3) := by decide +kernel
theorem dX6_changed_27 : decode cX6_changed 27 = .ok (.iload_n 2, 1) := by decide +kernel
theorem dX6_changed_28 : decode cX6_changed 28 = .ok (.bipush 42, 2) := by decide +kernel
theorem dX6_changed_30 : decode cX6_changed 30 = .ok (.iadd, 1) := by decide +kernel
theorem dX6_changed_31 : decode cX6_changed 31 = .ok (.iaload, 1) := by decide +kernel
theorem dX6_changed_32 : decode cX6_changed 32 = .ok (.iastore, 1) := by decide +kernel
theorem dX6_changed_33 : decode cX6_changed 33 = .ok (.iinc 2 1, 3) := by decide +kernel
theorem dX6_changed_36 : decode cX6_changed 36 = .ok (.goto (-25), 3) := by decide +kernel
theorem dX6_changed_39 : decode cX6_changed 39 = .ok (.aload_n 0, 1) := by decide +kernel
theorem dX6_changed_40 : decode cX6_changed 40 = .ok (.dup, 1) := by decide +kernel
theorem dX6_changed_41 : decode cX6_changed 41 = .ok (.getfield 49, 3) := by decide +kernel
theorem dX6_changed_44 : decode cX6_changed 44 = .ok (.iconst 1, 1) := by decide +kernel
theorem dX6_changed_45 : decode cX6_changed 45 = .ok (.isub, 1) := by decide +kernel
theorem dX6_changed_46 : decode cX6_changed 46 = .ok (.putfield 49, 3) := by decide +kernel
theorem dX6_changed_49 : decode cX6_changed 49 = .ok (.iconst 0, 1) := by decide +kernel
theorem dX6_changed_50 : decode cX6_changed 50 = .ok (.istore_n 2, 1) := by decide +kernel
theorem dX6_changed_51 : decode cX6_changed 51 = .ok (.iload_n 2, 1) := by decide +kernel
theorem dX6_changed_52 : decode cX6_changed 52 = .ok (.bipush 42, 2) := by decide +kernel
theorem dX6_changed_54 : decode cX6_changed 54 = .ok (.if_icmp .ge 29, 3) := by decide +kernel
theorem dX6_changed_57 : decode cX6_changed 57 = .ok (.aload_n 0, 1) := by decide +kernel
theorem dX6_changed_58 : decode cX6_changed 58 = .ok (.getfield 16, 3) := by decide +kernel
theorem dX6_changed_61 : decode cX6_changed 61 = .ok (.bipush 42, 2) := by decide +kernel
theorem dX6_changed_63 : decode cX6_changed 63 = .ok (.aload_n 0, 1) := by decide +kernel
theorem dX6_changed_64 : decode cX6_changed 64 = .ok (.getfield 49, 3) := by decide +kernel
theorem dX6_changed_67 : decode cX6_changed 67 = .ok (.imul, 1) := by decide +kernel
theorem dX6_changed_68 : decode cX6_changed 68 = .ok (.iload_n 2, 1) := by decide +kernel
theorem dX6_changed_69 : decode cX6_changed 69 = .ok (.iadd, 1) := by decide +kernel
theorem dX6_changed_70 : decode cX6_changed 70 = .ok (.aload_n 0, 1) := by decide +kernel
theorem dX6_changed_71 : decode cX6_changed 71 = .ok (.getfield 13, 3) := by decide +kernel
theorem dX6_changed_74 : decode cX6_changed 74 = .ok (.iload_n 2, 1) := by decide +kernel
theorem dX6_changed_75 : decode cX6_changed 75 = .ok (.iaload, 1) := by decide +kernel
theorem dX6_changed_76 : decode cX6_changed 76 = .ok (.iastore, 1) := by decide +kernel
theorem dX6_changed_77 : decode cX6_changed 77 = .ok (.iinc 2 1, 3) := by decide +kernel
theorem dX6_changed_80 : decode cX6_changed 80 = .ok (.goto (-29), 3) := by decide +kernel
theorem dX6_changed_83 : decode cX6_changed 83 = .ok (.aload_n 0, 1) := by decide +kernel
theorem dX6_changed_84 : decode cX6_changed 84 = .ok (.dup, 1) := by decide +kernel
theorem dX6_changed_85 : decode cX6_changed 85 = .ok (.getfield 49, 3) := by decide +kernel
theorem dX6_changed_88 : decode cX6_changed 88 = .ok (.iconst 1, 1) := by decide +kernel
theorem dX6_changed_89 : decode cX6_changed 89 = .ok (.iadd, 1) := by decide +kernel
theorem dX6_changed_90 : decode cX6_changed 90 = .ok (.putfield 49, 3) := by decide +kernel
theorem dX6_changed_93 : decode cX6_changed 93 = .ok (.iload_n 1, 1) := by decide +kernel
theorem dX6_changed_94 : decode cX6_changed 94 = .ok (.ireturn, 1) := by decide +kernel
theorem dX6_bits_0 : decode cX6_bits 0 = .ok (.iconst 0, 1) := by decide +kernel
theorem dX6_bits_1 : decode cX6_bits 1 = .ok (.istore_n 1, 1) := by decide +kernel
theorem dX6_bits_2 : decode cX6_bits 2 = .ok (.iload_n 0, 1) := by decide +kernel
theorem dX6_bits_3 : decode cX6_bits 3 = .ok (.istore_n 2, 1) := by decide +kernel
theorem dX6_bits_4 : decode cX6_bits 4 = .ok (.iload_n 2, 1) := by decide +kernel
theorem dX6_bits_5 : decode cX6_bits 5 = .ok (.ifCond .eq 15, 3) := by decide +kernel
theorem dX6_bits_8 : decode cX6_bits 8 = .ok (.iinc 1 1, 3) := by decide +kernel
theorem dX6_bits_11 : decode cX6_bits 11 = .ok (.iload_n 2, 1) := by decide +kernel
theorem dX6_bits_12 : decode cX6_bits 12 = .ok (.iload_n 2, 1) := by decide +kernel
theorem dX6_bits_13 : decode cX6_bits 13 = .ok (.iconst 1, 1) := by decide +kernel
theorem dX6_bits_14 : decode cX6_bits 14 = .ok (.isub, 1) := by decide +kernel
theorem dX6_bits_15 : decode cX6_bits 15 = .ok (.iand, 1) := by decide +kernel
theorem dX6_bits_16 : decode cX6_bits 16 = .ok (.istore_n 2, 1) := by decide +kernel
theorem dX6_bits_17 : decode cX6_bits 17 = .ok (.goto (-13), 3) := by decide +kernel
theorem dX6_bits_20 : decode cX6_bits 20 = .ok (.iload_n 1, 1) := by decide +kernel
theorem dX6_bits_21 : decode cX6_bits 21 = .ok (.ireturn, 1) := by decide +kernel
set_option maxRecDepth 20000 in
theorem ggX6_odd_X6_bits : GoodIn wsX6_odd wsX6_bits := goodIn_r _ [4] (by decide +kernel) (by decide +kernel)
set_option maxRecDepth 20000 in
theorem gX6_odd_X6_bits : GoodIn wsX6_odd (va_wsS RX6 53 yX6_bits wsX6_bits) := goodIn_app (goodIn_of _ (by decide +kernel)) ggX6_odd_X6_bits
theorem dX6_odd_0 : decode cX6_odd 0 = .ok (.iload_n 0, 1) := by decide +kernel
theorem dX6_odd_1 : decode cX6_odd 1 = .ok (.invokestatic 53, 3) := by decide +kernel
theorem dX6_odd_4 : decode cX6_odd 4 = .ok (.iconst 2, 1) := by decide +kernel
theorem dX6_odd_5 : decode cX6_odd 5 = .ok (.irem, 1) := by decide +kernel
theorem dX6_odd_6 : decode cX6_odd 6 = .ok (.ireturn, 1) := by decide +kernel
theorem dX6_masks_0 : decode cX6_masks 0 = .ok (.iconst 1, 1) := by decide +kernel
theorem dX6_masks_1 : decode cX6_masks 1 = .ok (.aload_n 0, 1) := by decide +kernel
theorem dX6_masks_2 : decode cX6_masks 2 = .ok (.getfield 7, 3) := by decide +kernel
theorem dX6_masks_5 : decode cX6_masks 5 = .ok (.iconst 0, 1) := by decide +kernel
theorem dX6_masks_6 : decode cX6_masks 6 = .ok (.iaload, 1) := by decide +kernel
theorem dX6_masks_7 : decode cX6_masks 7 = .ok (.ishl, 1) := by decide +kernel
theorem dX6_masks_8 : decode cX6_masks 8 = .ok (.ireturn, 1) := by decide +kernel
set_option maxRecDepth 20000 in
theorem ggX6_isSet_X6_masks : GoodIn wsX6_isSet wsX6_masks := goodIn_r _ [5, 6, 10, 11, 12, 13, 14, 15, 16, 17, 18, 19, 20, 21, 22, 23, 24, 25, 26, 27, 28, 29] (by decide +kernel) (by decide +kernel)
set_option maxRecDepth 20000 in
theorem gX6_isSet_X6_masks : GoodIn wsX6_isSet (wsV RX6 57 RX6 yX6_masks wsX6_masks) := goodIn_app (goodIn_of _ (by decide +kernel)) ggX6_isSet_X6_masks
set_option maxRecDepth 20000 in
theorem ggX6_isSet_X6_in : GoodIn wsX6_isSet wsX6_in := goodIn_r _ [9] (by decide +kernel) (by decide +kernel)
set_option maxRecDepth 20000 in
theorem gX6_isSet_X6_in : GoodIn wsX6_isSet (va_wsS RX6 61 yX6_in wsX6_in) := goodIn_app (goodIn_of _ (by decide +kernel)) ggX6_isSet_X6_in
theorem dX6_isSet_0 : decode cX6_isSet 0 = .ok (.iload_n 1, 1) := by decide +kernel
theorem dX6_isSet_1 : decode cX6_isSet 1 = .ok (.i2l, 1) := by decide +kernel
theorem dX6_isSet_2 : decode cX6_isSet 2 = .ok (.lconst 1, 1) := by decide +kernel
theorem dX6_isSet_3 : decode cX6_isSet 3 = .ok (.aload_n 0, 1) := by decide +kernel
theorem dX6_isSet_4 : decode cX6_isSet 4 = .ok (.invokevirtual 57, 3) := by decide +kernel
theorem dX6_isSet_7 : decode cX6_isSet 7 = .ok (.i2l, 1) := by decide +kernel
theorem dX6_isSet_8 : decode cX6_isSet 8 = .ok (.lconst 1, 1) := by decide +kernel
theorem dX6_isSet_9 : decode cX6_isSet 9 = .ok (.lsub, 1) := by decide +kernel
theorem dX6_isSet_10 : decode cX6_isSet 10 = .ok (.invokestatic 61, 3) := by decide +kernel
theorem dX6_isSet_13 : decode cX6_isSet 13 = .ok (.ireturn, 1) := by decide +kernel
set_option maxRecDepth 20000 in
theorem ggX6_isRule_X6_in : GoodIn wsX6_isRule wsX6_in := goodIn_r _ [5] (by decide +kernel) (by decide +kernel)
set_option maxRecDepth 20000 in
theorem gX6_isRule_X6_in : GoodIn wsX6_isRule (va_wsS RX6 61 yX6_in wsX6_in) := goodIn_app (goodIn_of _ (by decide +kernel)) ggX6_isRule_X6_in
theorem dX6_isRule_0 : decode cX6_isRule 0 = .ok (.iload_n 1, 1) := by decide +kernel
theorem dX6_isRule_1 : decode cX6_isRule 1 = .ok (.i2l, 1) := by decide +kernel
theorem dX6_isRule_2 : decode cX6_isRule 2 = .ok (.lconst 0, 1) := by decide +kernel
theorem dX6_isRule_3 : decode cX6_isRule 3 = .ok (.aload_n 0, 1) := by decide +kernel
theorem dX6_isRule_4 : decode cX6_isRule 4 = .ok (.getfield 7, 3) := by decide +kernel
theorem dX6_isRule_7 : decode cX6_isRule 7 = .ok (.iconst 1, 1) := by decide +kernel
theorem dX6_isRule_8 : decode cX6_isRule 8 = .ok (.iaload, 1) := by decide +kernel
theorem dX6_isRule_9 : decode cX6_isRule 9 = .ok (.i2l, 1) := by decide +kernel
theorem dX6_isRule_10 : decode cX6_isRule 10 = .ok (.lconst 1, 1) := by decide +kernel
theorem dX6_isRule_11 : decode cX6_isRule 11 = .ok (.lsub, 1) := by decide +kernel
theorem dX6_isRule_12 : decode cX6_isRule 12 = .ok (.invokestatic 61, 3) := by decide +kernel
theorem dX6_isRule_15 : decode cX6_isRule 15 = .ok (.ireturn, 1) := by decide +kernel
set_option maxRecDepth 20000 in
theorem ggX6_fits_X6_odd : GoodIn wsX6_fits wsX6_odd := goodIn_r _ [5, 6, 7, 4, 8] (by decide +kernel) (by decide +kernel)
set_option maxRecDepth 20000 in
theorem gX6_fits_X6_odd : GoodIn wsX6_fits (va_wsS RX6 65 yX6_odd wsX6_odd) := goodIn_app (goodIn_of _ (by decide +kernel)) ggX6_fits_X6_odd
theorem dX6_fits_0 : decode cX6_fits 0 = .ok (.iload_n 1, 1) := by decide +kernel
theorem dX6_fits_1 : decode cX6_fits 1 = .ok (.aload_n 0, 1) := by decide +kernel
theorem dX6_fits_2 : decode cX6_fits 2 = .ok (.getfield 7, 3) := by decide +kernel
theorem dX6_fits_5 : decode cX6_fits 5 = .ok (.iconst 2, 1) := by decide +kernel
theorem dX6_fits_6 : decode cX6_fits 6 = .ok (.iload_n 2, 1) := by decide +kernel
theorem dX6_fits_7 : decode cX6_fits 7 = .ok (.iadd, 1) := by decide +kernel
theorem dX6_fits_8 : decode cX6_fits 8 = .ok (.iaload, 1) := by decide +kernel
theorem dX6_fits_9 : decode cX6_fits 9 = .ok (.iand, 1) := by decide +kernel
theorem dX6_fits_10 : decode cX6_fits 10 = .ok (.invokestatic 65, 3) := by decide +kernel
theorem dX6_fits_13 : decode cX6_fits 13 = .ok (.aload_n 0, 1) := by decide +kernel
theorem dX6_fits_14 : decode cX6_fits 14 = .ok (.getfield 7, 3) := by decide +kernel
theorem dX6_fits_17 : decode cX6_fits 17 = .ok (.bipush 22, 2) := by decide +kernel
theorem dX6_fits_19 : decode cX6_fits 19 = .ok (.iload_n 2, 1) := by decide +kernel
theorem dX6_fits_20 : decode cX6_fits 20 = .ok (.iadd, 1) := by decide +kernel
theorem dX6_fits_21 : decode cX6_fits 21 = .ok (.iaload, 1) := by decide +kernel
theorem dX6_fits_22 : decode cX6_fits 22 = .ok (.if_icmp .ne 7, 3) := by decide +kernel
theorem dX6_fits_25 : decode cX6_fits 25 = .ok (.iconst 1, 1) := by decide +kernel
theorem dX6_fits_26 : decode cX6_fits 26 = .ok (.goto 4, 3) := by decide +kernel
theorem dX6_fits_29 : decode cX6_fits 29 = .ok (.iconst 0, 1) := by decide +kernel
theorem dX6_fits_30 : decode cX6_fits 30 = .ok (.ireturn, 1) := by decide +kernel
theorem dX6_reduces_0 : decode cX6_reduces 0 = .ok (.aload_n 0, 1) := by decide +kernel
theorem dX6_reduces_1 : decode cX6_reduces 1 = .ok (.iload_n 1, 1) := by decide +kernel
theorem dX6_reduces_2 : decode cX6_reduces 2 = .ok (.putfield 68, 3) := by decide +kernel
theorem dX6_reduces_5 : decode cX6_reduces 5 = .ok (.aload_n 0, 1) := by decide +kernel
theorem dX6_reduces_6 : decode cX6_reduces 6 = .ok (.iconst 0, 1) := by decide +kernel
theorem dX6_reduces_7 : decode cX6_reduces 7 = .ok (.putfield 71, 3) := by decide +kernel
theorem dX6_reduces_10 : decode cX6_reduces 10 = .ok (.bipush 11, 2) := by decide +kernel
theorem dX6_reduces_12 : decode cX6_reduces 12 = .ok (.istore_n 2, 1) := by decide +kernel
theorem dX6_reduces_13 : decode cX6_reduces 13 = .ok (.iload_n 2, 1) := by decide +kernel
theorem dX6_reduces_14 : decode cX6_reduces 14 = .ok (.ifCond .lt 60, 3) := by decide +kernel
theorem dX6_reduces_17 : decode cX6_reduces 17 = .ok (.aload_n 0, 1) := by decide +kernel
theorem dX6_reduces_18 : decode cX6_reduces 18 = .ok (.getfield 68, 3) := by decide +kernel
theorem dX6_reduces_21 : decode cX6_reduces 21 = .ok (.iload_n 2, 1) := by decide +kernel
theorem dX6_reduces_22 : decode cX6_reduces 22 = .ok (.ishr, 1) := by decide +kernel
theorem dX6_reduces_23 : decode cX6_reduces 23 = .ok (.iconst 1, 1) := by decide +kernel
theorem dX6_reduces_24 : decode cX6_reduces 24 = .ok (.iand, 1) := by decide +kernel
theorem dX6_reduces_25 : decode cX6_reduces 25 = .ok (.iconst 1, 1) := by decide +kernel
theorem dX6_reduces_26 : decode cX6_reduces 26 = .ok (.if_icmp .ne 42, 3) := by decide +kernel
theorem dX6_reduces_29 : decode cX6_reduces 29 = .ok (.aload_n 0, 1) := by decide +kernel
theorem dX6_reduces_30 : decode cX6_reduces 30 = .ok (.getfield 25, 3) := by decide +kernel
theorem dX6_reduces_33 : decode cX6_reduces 33 = .ok (.iload_n 2, 1) := by decide +kernel
theorem dX6_reduces_34 : decode cX6_reduces 34 = .ok (.iaload, 1) := by decide +kernel
theorem dX6_reduces_35 : decode cX6_reduces 35 = .ok (.ifCond .eq 33, 3) := by decide +kernel
theorem dX6_reduces_38 : decode cX6_reduces 38 = .ok (.aload_n 0, 1) := by decide +kernel
theorem dX6_reduces_39 : decode cX6_reduces 39 = .ok (.dup, 1) := by decide +kernel
theorem dX6_reduces_40 : decode cX6_reduces 40 = .ok (.getfield 68, 3) := by decide +kernel
theorem dX6_reduces_43 : decode cX6_reduces 43 = .ok (.aload_n 0, 1) := by decide +kernel
theorem dX6_reduces_44 : decode cX6_reduces 44 = .ok (.getfield 25, 3) := by decide +kernel
theorem dX6_reduces_47 : decode cX6_reduces 47 = .ok (.iload_n 2, 1) := by decide +kernel
theorem dX6_reduces_48 : decode cX6_reduces 48 = .ok (.iaload, 1) := by decide +kernel
theorem dX6_reduces_49 : decode cX6_reduces 49 = .ok (.ixor, 1) := by decide +kernel
theorem dX6_reduces_50 : decode cX6_reduces 50 = .ok (.putfield 68, 3) := by decide +kernel
theorem dX6_reduces_53 : decode cX6_reduces 53 = .ok (.aload_n 0, 1) := by decide +kernel
theorem dX6_reduces_54 : decode cX6_reduces 54 = .ok (.dup, 1) := by decide +kernel
theorem dX6_reduces_55 : decode cX6_reduces 55 = .ok (.getfield 71, 3) := by decide +kernel
theorem dX6_reduces_58 : decode cX6_reduces 58 = .ok (.aload_n 0, 1) := by decide +kernel
theorem dX6_reduces_59 : decode cX6_reduces 59 = .ok (.getfield 28, 3) := by decide +kernel
theorem dX6_reduces_62 : decode cX6_reduces 62 = .ok (.iload_n 2, 1) := by decide +kernel
theorem dX6_reduces_63 : decode cX6_reduces 63 = .ok (.iaload, 1) := by decide +kernel
theorem dX6_reduces_64 : decode cX6_reduces 64 = .ok (.ixor, 1) := by decide +kernel
theorem dX6_reduces_65 : decode cX6_reduces 65 = .ok (.putfield 71, 3) := by decide +kernel
theorem dX6_reduces_68 : decode cX6_reduces 68 = .ok (.iinc 2 (-1), 3) := by decide +kernel
theorem dX6_reduces_71 : decode cX6_reduces 71 = .ok (.goto (-58), 3) := by decide +kernel
theorem dX6_reduces_74 : decode cX6_reduces 74 = .ok (.return_, 1) := by decide +kernel
theorem dX6_sumOf_0 : decode cX6_sumOf 0 = .ok (.iconst 0, 1) := by decide +kernel
theorem dX6_sumOf_1 : decode cX6_sumOf 1 = .ok (.istore_n 2, 1) := by decide +kernel
theorem dX6_sumOf_2 : decode cX6_sumOf 2 = .ok (.iconst 0, 1) := by decide +kernel
theorem dX6_sumOf_3 : decode cX6_sumOf 3 = .ok (.istore_n 3, 1) := by decide +kernel
theorem dX6_sumOf_4 : decode cX6_sumOf 4 = .ok (.iload_n 3, 1) := by decide +kernel
theorem dX6_sumOf_5 : decode cX6_sumOf 5 = .ok (.aload_n 0, 1) := by decide +kernel
theorem dX6_sumOf_6 : decode cX6_sumOf 6 = .ok (.getfield 7, 3) := by decide +kernel
theorem dX6_sumOf_9 : decode cX6_sumOf 9 = .ok (.iconst 1, 1) := by decide +kernel
theorem dX6_sumOf_10 : decode cX6_sumOf 10 = .ok (.iaload, 1) := by decide +kernel
theorem dX6_sumOf_11 : decode cX6_sumOf 11 = .ok (.if_icmp .ge 34, 3) := by decide +kernel
theorem dX6_sumOf_14 : decode cX6_sumOf 14 = .ok (.iload_n 2, 1) := by decide +kernel
theorem dX6_sumOf_15 : decode cX6_sumOf 15 = .ok (.iload_n 1, 1) := by decide +kernel
theorem dX6_sumOf_16 : decode cX6_sumOf 16 = .ok (.iload_n 3, 1) := by decide +kernel
theorem dX6_sumOf_17 : decode cX6_sumOf 17 = .ok (.ishr, 1) := by decide +kernel
theorem dX6_sumOf_18 : decode cX6_sumOf 18 = .ok (.iconst 1, 1) := by decide +kernel
theorem dX6_sumOf_19 : decode cX6_sumOf 19 = .ok (.iand, 1) := by decide +kernel
theorem dX6_sumOf_20 : decode cX6_sumOf 20 = .ok (.iconst 1, 1) := by decide +kernel
theorem dX6_sumOf_21 : decode cX6_sumOf 21 = .ok (.if_icmp .ne 15, 3) := by decide +kernel
theorem dX6_sumOf_24 : decode cX6_sumOf 24 = .ok (.aload_n 0, 1) := by decide +kernel
theorem dX6_sumOf_25 : decode cX6_sumOf 25 = .ok (.getfield 7, 3) := by decide +kernel
theorem dX6_sumOf_28 : decode cX6_sumOf 28 = .ok (.bipush 22, 2) := by decide +kernel
theorem dX6_sumOf_30 : decode cX6_sumOf 30 = .ok (.iload_n 3, 1) := by decide +kernel
theorem dX6_sumOf_31 : decode cX6_sumOf 31 = .ok (.iadd, 1) := by decide +kernel
theorem dX6_sumOf_32 : decode cX6_sumOf 32 = .ok (.iaload, 1) := by decide +kernel
theorem dX6_sumOf_33 : decode cX6_sumOf 33 = .ok (.goto 4, 3) := by decide +kernel
theorem dX6_sumOf_36 : decode cX6_sumOf 36 = .ok (.iconst 0, 1) := by decide +kernel
theorem dX6_sumOf_37 : decode cX6_sumOf 37 = .ok (.ixor, 1) := by decide +kernel
theorem dX6_sumOf_38 : decode cX6_sumOf 38 = .ok (.istore_n 2, 1) := by decide +kernel
theorem dX6_sumOf_39 : decode cX6_sumOf 39 = .ok (.iinc 3 1, 3) := by decide +kernel
theorem dX6_sumOf_42 : decode cX6_sumOf 42 = .ok (.goto (-38), 3) := by decide +kernel
theorem dX6_sumOf_45 : decode cX6_sumOf 45 = .ok (.iload_n 2, 1) := by decide +kernel
theorem dX6_sumOf_46 : decode cX6_sumOf 46 = .ok (.ireturn, 1) := by decide +kernel
set_option maxRecDepth 20000 in
theorem ggX6_stateOf_X6_reduces : GoodIn wsX6_stateOf wsX6_reduces := goodIn_r _ [7, 1, 2, 8, 9, 15, 16, 17, 18, 19, 20, 21, 22, 23, 24, 25, 26, 27, 28, 29, 30, 31, 32, 33, 34] (by decide +kernel) (by decide +kernel)
set_option maxRecDepth 20000 in
theorem gX6_stateOf_X6_reduces : GoodIn wsX6_stateOf (wsV RX6 74 RX6 yX6_reduces wsX6_reduces) := goodIn_app (goodIn_of _ (by decide +kernel)) ggX6_stateOf_X6_reduces
set_option maxRecDepth 20000 in
theorem ggX6_stateOf_X6_sumOf : GoodIn wsX6_stateOf wsX6_sumOf := goodIn_r _ [13, 14, 15, 16, 17, 18, 19, 20, 21, 22, 23, 24, 25, 26, 27, 28, 29, 30, 31, 32, 33, 34] (by decide +kernel) (by decide +kernel)
set_option maxRecDepth 20000 in
theorem gX6_stateOf_X6_sumOf : GoodIn wsX6_stateOf (wsV RX6 78 RX6 yX6_sumOf wsX6_sumOf) := goodIn_app (goodIn_of _ (by decide +kernel)) ggX6_stateOf_X6_sumOf
theorem dX6_stateOf_0 : decode cX6_stateOf 0 = .ok (.aload_n 0, 1) := by decide +kernel
theorem dX6_stateOf_1 : decode cX6_stateOf 1 = .ok (.iload_n 1, 1) := by decide +kernel
theorem dX6_stateOf_2 : decode cX6_stateOf 2 = .ok (.invokevirtual 74, 3) := by decide +kernel
theorem dX6_stateOf_5 : decode cX6_stateOf 5 = .ok (.aload_n 0, 1) := by decide +kernel
theorem dX6_stateOf_6 : decode cX6_stateOf 6 = .ok (.getfield 68, 3) := by decide +kernel
theorem dX6_stateOf_9 : decode cX6_stateOf 9 = .ok (.ifCond .eq 7, 3) := by decide +kernel
theorem dX6_stateOf_12 : decode cX6_stateOf 12 = .ok (.iconst 0, 1) := by decide +kernel
theorem dX6_stateOf_13 : decode cX6_stateOf 13 = .ok (.goto 20, 3) := by decide +kernel
theorem dX6_stateOf_16 : decode cX6_stateOf 16 = .ok (.aload_n 0, 1) := by decide +kernel
theorem dX6_stateOf_17 : decode cX6_stateOf 17 = .ok (.aload_n 0, 1) := by decide +kernel
theorem dX6_stateOf_18 : decode cX6_stateOf 18 = .ok (.getfield 71, 3) := by decide +kernel
theorem dX6_stateOf_21 : decode cX6_stateOf 21 = .ok (.invokevirtual 78, 3) := by decide +kernel
theorem dX6_stateOf_24 : decode cX6_stateOf 24 = .ok (.iload_n 2, 1) := by decide +kernel
theorem dX6_stateOf_25 : decode cX6_stateOf 25 = .ok (.if_icmp .ne 7, 3) := by decide +kernel
theorem dX6_stateOf_28 : decode cX6_stateOf 28 = .ok (.iconst 1, 1) := by decide +kernel
theorem dX6_stateOf_29 : decode cX6_stateOf 29 = .ok (.goto 4, 3) := by decide +kernel
theorem dX6_stateOf_32 : decode cX6_stateOf 32 = .ok (.iconst 2, 1) := by decide +kernel
theorem dX6_stateOf_33 : decode cX6_stateOf 33 = .ok (.ireturn, 1) := by decide +kernel
set_option maxRecDepth 20000 in
theorem ggX6_judges_X6_stateOf : GoodIn wsX6_judges wsX6_stateOf := goodIn_r _ [12, 7, 6, 13, 14, 15, 11, 16, 1, 2, 17, 18, 19, 20, 3, 21, 22, 23, 24, 25, 26, 27, 28, 29, 30, 31, 32, 33, 34, 35, 36, 37, 38, 39, 40] (by decide +kernel) (by decide +kernel)
set_option maxRecDepth 20000 in
theorem gX6_judges_X6_stateOf : GoodIn wsX6_judges (wsV RX6 81 RX6 yX6_stateOf wsX6_stateOf) := goodIn_app (goodIn_of _ (by decide +kernel)) ggX6_judges_X6_stateOf
theorem dX6_judges_0 : decode cX6_judges 0 = .ok (.iconst 0, 1) := by decide +kernel
theorem dX6_judges_1 : decode cX6_judges 1 = .ok (.istore_n 1, 1) := by decide +kernel
theorem dX6_judges_2 : decode cX6_judges 2 = .ok (.iload_n 1, 1) := by decide +kernel
theorem dX6_judges_3 : decode cX6_judges 3 = .ok (.bipush 12, 2) := by decide +kernel
theorem dX6_judges_5 : decode cX6_judges 5 = .ok (.if_icmp .ge 23, 3) := by decide +kernel
theorem dX6_judges_8 : decode cX6_judges 8 = .ok (.aload_n 0, 1) := by decide +kernel
theorem dX6_judges_9 : decode cX6_judges 9 = .ok (.getfield 25, 3) := by decide +kernel
theorem dX6_judges_12 : decode cX6_judges 12 = .ok (.iload_n 1, 1) := by decide +kernel
theorem dX6_judges_13 : decode cX6_judges 13 = .ok (.iconst 0, 1) := by decide +kernel
theorem dX6_judges_14 : decode cX6_judges 14 = .ok (.iastore, 1) := by decide +kernel
theorem dX6_judges_15 : decode cX6_judges 15 = .ok (.aload_n 0, 1) := by decide +kernel
theorem dX6_judges_16 : decode cX6_judges 16 = .ok (.getfield 28, 3) := by decide +kernel
theorem dX6_judges_19 : decode cX6_judges 19 = .ok (.iload_n 1, 1) := by decide +kernel
theorem dX6_judges_20 : decode cX6_judges 20 = .ok (.iconst 0, 1) := by decide +kernel
theorem dX6_judges_21 : decode cX6_judges 21 = .ok (.iastore, 1) := by decide +kernel
theorem dX6_judges_22 : decode cX6_judges 22 = .ok (.iinc 1 1, 3) := by decide +kernel
theorem dX6_judges_25 : decode cX6_judges 25 = .ok (.goto (-23), 3) := by decide +kernel
theorem dX6_judges_28 : decode cX6_judges 28 = .ok (.iconst 0, 1) := by decide +kernel
theorem dX6_judges_29 : decode cX6_judges 29 = .ok (.istore_n 1, 1) := by decide +kernel
theorem dX6_judges_30 : decode cX6_judges 30 = .ok (.iload_n 1, 1) := by decide +kernel
theorem dX6_judges_31 : decode cX6_judges 31 = .ok (.aload_n 0, 1) := by decide +kernel
theorem dX6_judges_32 : decode cX6_judges 32 = .ok (.getfield 7, 3) := by decide +kernel
theorem dX6_judges_35 : decode cX6_judges 35 = .ok (.iconst 1, 1) := by decide +kernel
theorem dX6_judges_36 : decode cX6_judges 36 = .ok (.iaload, 1) := by decide +kernel
theorem dX6_judges_37 : decode cX6_judges 37 = .ok (.if_icmp .ge 99, 3) := by decide +kernel
theorem dX6_judges_40 : decode cX6_judges 40 = .ok (.aload_n 0, 1) := by decide +kernel
theorem dX6_judges_41 : decode cX6_judges 41 = .ok (.getfield 31, 3) := by decide +kernel
theorem dX6_judges_44 : decode cX6_judges 44 = .ok (.iload_n 1, 1) := by decide +kernel
theorem dX6_judges_45 : decode cX6_judges 45 = .ok (.aload_n 0, 1) := by decide +kernel
theorem dX6_judges_46 : decode cX6_judges 46 = .ok (.aload_n 0, 1) := by decide +kernel
theorem dX6_judges_47 : decode cX6_judges 47 = .ok (.getfield 7, 3) := by decide +kernel
theorem dX6_judges_50 : decode cX6_judges 50 = .ok (.iconst 2, 1) := by decide +kernel
theorem dX6_judges_51 : decode cX6_judges 51 = .ok (.iload_n 1, 1) := by decide +kernel
theorem dX6_judges_52 : decode cX6_judges 52 = .ok (.iadd, 1) := by decide +kernel
theorem dX6_judges_53 : decode cX6_judges 53 = .ok (.iaload, 1) := by decide +kernel
theorem dX6_judges_54 : decode cX6_judges 54 = .ok (.aload_n 0, 1) := by decide +kernel
theorem dX6_judges_55 : decode cX6_judges 55 = .ok (.getfield 7, 3) := by decide +kernel
theorem dX6_judges_58 : decode cX6_judges 58 = .ok (.bipush 22, 2) := by decide +kernel
theorem dX6_judges_60 : decode cX6_judges 60 = .ok (.iload_n 1, 1) := by decide +kernel
theorem dX6_judges_61 : decode cX6_judges 61 = .ok (.iadd, 1) := by decide +kernel
theorem dX6_judges_62 : decode cX6_judges 62 = .ok (.iaload, 1) := by decide +kernel
theorem dX6_judges_63 : decode cX6_judges 63 = .ok (.invokevirtual 81, 3) := by decide +kernel
theorem dX6_judges_66 : decode cX6_judges 66 = .ok (.iastore, 1) := by decide +kernel
theorem dX6_judges_67 : decode cX6_judges 67 = .ok (.aload_n 0, 1) := by decide +kernel
theorem dX6_judges_68 : decode cX6_judges 68 = .ok (.getfield 34, 3) := by decide +kernel
theorem dX6_judges_71 : decode cX6_judges 71 = .ok (.iload_n 1, 1) := by decide +kernel
theorem dX6_judges_72 : decode cX6_judges 72 = .ok (.aload_n 0, 1) := by decide +kernel
theorem dX6_judges_73 : decode cX6_judges 73 = .ok (.getfield 71, 3) := by decide +kernel
theorem dX6_judges_76 : decode cX6_judges 76 = .ok (.iastore, 1) := by decide +kernel
theorem dX6_judges_77 : decode cX6_judges 77 = .ok (.aload_n 0, 1) := by decide +kernel
theorem dX6_judges_78 : decode cX6_judges 78 = .ok (.getfield 31, 3) := by decide +kernel
theorem dX6_judges_81 : decode cX6_judges 81 = .ok (.iload_n 1, 1) := by decide +kernel
theorem dX6_judges_82 : decode cX6_judges 82 = .ok (.iaload, 1) := by decide +kernel
theorem dX6_judges_83 : decode cX6_judges 83 = .ok (.ifCond .ne 47, 3) := by decide +kernel
theorem dX6_judges_86 : decode cX6_judges 86 = .ok (.bipush 11, 2) := by decide +kernel
theorem dX6_judges_88 : decode cX6_judges 88 = .ok (.istore_n 2, 1) := by decide +kernel
theorem dX6_judges_89 : decode cX6_judges 89 = .ok (.aload_n 0, 1) := by decide +kernel
theorem dX6_judges_90 : decode cX6_judges 90 = .ok (.getfield 68, 3) := by decide +kernel
theorem dX6_judges_93 : decode cX6_judges 93 = .ok (.iload_n 2, 1) := by decide +kernel
theorem dX6_judges_94 : decode cX6_judges 94 = .ok (.ishr, 1) := by decide +kernel
theorem dX6_judges_95 : decode cX6_judges 95 = .ok (.iconst 1, 1) := by decide +kernel
theorem dX6_judges_96 : decode cX6_judges 96 = .ok (.iand, 1) := by decide +kernel
theorem dX6_judges_97 : decode cX6_judges 97 = .ok (.ifCond .ne 9, 3) := by decide +kernel
theorem dX6_judges_100 : decode cX6_judges 100 = .ok (.iinc 2 (-1), 3) := by decide +kernel
theorem dX6_judges_103 : decode cX6_judges 103 = .ok (.goto (-14), 3) := by decide +kernel
theorem dX6_judges_106 : decode cX6_judges 106 = .ok (.aload_n 0, 1) := by decide +kernel
theorem dX6_judges_107 : decode cX6_judges 107 = .ok (.getfield 25, 3) := by decide +kernel
theorem dX6_judges_110 : decode cX6_judges 110 = .ok (.iload_n 2, 1) := by decide +kernel
theorem dX6_judges_111 : decode cX6_judges 111 = .ok (.aload_n 0, 1) := by decide +kernel
theorem dX6_judges_112 : decode cX6_judges 112 = .ok (.getfield 68, 3) := by decide +kernel
theorem dX6_judges_115 : decode cX6_judges 115 = .ok (.iastore, 1) := by decide +kernel
theorem dX6_judges_116 : decode cX6_judges 116 = .ok (.aload_n 0, 1) := by decide +kernel
theorem dX6_judges_117 : decode cX6_judges 117 = .ok (.getfield 28, 3) := by decide +kernel
theorem dX6_judges_120 : decode cX6_judges 120 = .ok (.iload_n 2, 1) := by decide +kernel
theorem dX6_judges_121 : decode cX6_judges 121 = .ok (.aload_n 0, 1) := by decide +kernel
theorem dX6_judges_122 : decode cX6_judges 122 = .ok (.getfield 71, 3) := by decide +kernel
theorem dX6_judges_125 : decode cX6_judges 125 = .ok (.iconst 1, 1) := by decide +kernel
theorem dX6_judges_126 : decode cX6_judges 126 = .ok (.iload_n 1, 1) := by decide +kernel
theorem dX6_judges_127 : decode cX6_judges 127 = .ok (.ishl, 1) := by decide +kernel
theorem dX6_judges_128 : decode cX6_judges 128 = .ok (.ixor, 1) := by decide +kernel
theorem dX6_judges_129 : decode cX6_judges 129 = .ok (.iastore, 1) := by decide +kernel
theorem dX6_judges_130 : decode cX6_judges 130 = .ok (.iinc 1 1, 3) := by decide +kernel
theorem dX6_judges_133 : decode cX6_judges 133 = .ok (.goto (-103), 3) := by decide +kernel
theorem dX6_judges_136 : decode cX6_judges 136 = .ok (.return_, 1) := by decide +kernel
set_option maxRecDepth 20000 in
theorem ggX6_rulesIn_X6_judges : GoodIn wsX6_rulesIn wsX6_judges := goodIn_r _ [7, 8, 9, 1, 2, 10, 11, 12, 13, 14, 15, 6, 16, 17, 18, 19, 20, 21, 22, 23, 24, 25, 26, 27, 28, 29, 30, 31, 32, 33, 34, 35, 36, 37, 38, 39, 40, 41, 42, 43, 44] (by decide +kernel) (by decide +kernel)
set_option maxRecDepth 20000 in
theorem gX6_rulesIn_X6_judges : GoodIn wsX6_rulesIn (wsV RX6 85 RX6 yX6_judges wsX6_judges) := goodIn_app (goodIn_of _ (by decide +kernel)) ggX6_rulesIn_X6_judges
theorem dX6_rulesIn_0 : decode cX6_rulesIn 0 = .ok (.aload_n 0, 1) := by decide +kernel
theorem dX6_rulesIn_1 : decode cX6_rulesIn 1 = .ok (.invokevirtual 85, 3) := by decide +kernel
theorem dX6_rulesIn_4 : decode cX6_rulesIn 4 = .ok (.iconst 0, 1) := by decide +kernel
theorem dX6_rulesIn_5 : decode cX6_rulesIn 5 = .ok (.istore_n 2, 1) := by decide +kernel
theorem dX6_rulesIn_6 : decode cX6_rulesIn 6 = .ok (.iconst 0, 1) := by decide +kernel
theorem dX6_rulesIn_7 : decode cX6_rulesIn 7 = .ok (.istore_n 3, 1) := by decide +kernel
theorem dX6_rulesIn_8 : decode cX6_rulesIn 8 = .ok (.iload_n 3, 1) := by decide +kernel
theorem dX6_rulesIn_9 : decode cX6_rulesIn 9 = .ok (.aload_n 0, 1) := by decide +kernel
theorem dX6_rulesIn_10 : decode cX6_rulesIn 10 = .ok (.getfield 7, 3) := by decide +kernel
theorem dX6_rulesIn_13 : decode cX6_rulesIn 13 = .ok (.iconst 1, 1) := by decide +kernel
theorem dX6_rulesIn_14 : decode cX6_rulesIn 14 = .ok (.iaload, 1) := by decide +kernel
theorem dX6_rulesIn_15 : decode cX6_rulesIn 15 = .ok (.if_icmp .ge 27, 3) := by decide +kernel
theorem dX6_rulesIn_18 : decode cX6_rulesIn 18 = .ok (.iload_n 2, 1) := by decide +kernel
theorem dX6_rulesIn_19 : decode cX6_rulesIn 19 = .ok (.aload_n 0, 1) := by decide +kernel
theorem dX6_rulesIn_20 : decode cX6_rulesIn 20 = .ok (.getfield 31, 3) := by decide +kernel
theorem dX6_rulesIn_23 : decode cX6_rulesIn 23 = .ok (.iload_n 3, 1) := by decide +kernel
theorem dX6_rulesIn_24 : decode cX6_rulesIn 24 = .ok (.iaload, 1) := by decide +kernel
theorem dX6_rulesIn_25 : decode cX6_rulesIn 25 = .ok (.iload_n 1, 1) := by decide +kernel
theorem dX6_rulesIn_26 : decode cX6_rulesIn 26 = .ok (.if_icmp .ne 7, 3) := by decide +kernel
theorem dX6_rulesIn_29 : decode cX6_rulesIn 29 = .ok (.iconst 1, 1) := by decide +kernel
theorem dX6_rulesIn_30 : decode cX6_rulesIn 30 = .ok (.goto 4, 3) := by decide +kernel
theorem dX6_rulesIn_33 : decode cX6_rulesIn 33 = .ok (.iconst 0, 1) := by decide +kernel
theorem dX6_rulesIn_34 : decode cX6_rulesIn 34 = .ok (.iadd, 1) := by decide +kernel
theorem dX6_rulesIn_35 : decode cX6_rulesIn 35 = .ok (.istore_n 2, 1) := by decide +kernel
theorem dX6_rulesIn_36 : decode cX6_rulesIn 36 = .ok (.iinc 3 1, 3) := by decide +kernel
theorem dX6_rulesIn_39 : decode cX6_rulesIn 39 = .ok (.goto (-31), 3) := by decide +kernel
theorem dX6_rulesIn_42 : decode cX6_rulesIn 42 = .ok (.iload_n 2, 1) := by decide +kernel
theorem dX6_rulesIn_43 : decode cX6_rulesIn 43 = .ok (.ireturn, 1) := by decide +kernel
set_option maxRecDepth 20000 in
theorem ggX6_answers_X6_rulesIn : GoodIn wsX6_answers wsX6_rulesIn := goodIn_r _ [6, 1, 7, 8, 9, 10, 5, 11, 12, 13, 14, 15, 16, 17, 18, 19, 20, 21, 22, 23, 24, 25, 26, 27, 28, 29, 30, 31, 32, 33, 34, 35, 36, 37, 38, 39, 40, 41, 42, 43, 44, 45, 46, 47, 48] (by decide +kernel) (by decide +kernel)
set_option maxRecDepth 20000 in
theorem gX6_answers_X6_rulesIn : GoodIn wsX6_answers (wsV RX6 88 RX6 yX6_rulesIn wsX6_rulesIn) := goodIn_app (goodIn_of _ (by decide +kernel)) ggX6_answers_X6_rulesIn
theorem dX6_answers_0 : decode cX6_answers 0 = .ok (.iconst 1, 1) := by decide +kernel
theorem dX6_answers_1 : decode cX6_answers 1 = .ok (.aload_n 0, 1) := by decide +kernel
theorem dX6_answers_2 : decode cX6_answers 2 = .ok (.getfield 7, 3) := by decide +kernel
theorem dX6_answers_5 : decode cX6_answers 5 = .ok (.iconst 0, 1) := by decide +kernel
theorem dX6_answers_6 : decode cX6_answers 6 = .ok (.iaload, 1) := by decide +kernel
theorem dX6_answers_7 : decode cX6_answers 7 = .ok (.aload_n 0, 1) := by decide +kernel
theorem dX6_answers_8 : decode cX6_answers 8 = .ok (.iconst 0, 1) := by decide +kernel
theorem dX6_answers_9 : decode cX6_answers 9 = .ok (.invokevirtual 88, 3) := by decide +kernel
theorem dX6_answers_12 : decode cX6_answers 12 = .ok (.isub, 1) := by decide +kernel
theorem dX6_answers_13 : decode cX6_answers 13 = .ok (.ishl, 1) := by decide +kernel
theorem dX6_answers_14 : decode cX6_answers 14 = .ok (.ireturn, 1) := by decide +kernel
set_option maxRecDepth 20000 in
theorem ggX6_isAnswer_X6_fits : GoodIn wsX6_isAnswer wsX6_fits := goodIn_r _ [7, 1, 8, 9, 6, 10, 11, 12, 13, 14, 15, 16, 17, 18, 19, 20, 21, 22, 23, 24, 25, 26, 27, 28, 29, 30, 31, 32, 33] (by decide +kernel) (by decide +kernel)
set_option maxRecDepth 20000 in
theorem gX6_isAnswer_X6_fits : GoodIn wsX6_isAnswer (wsV RX6 91 RX6 yX6_fits wsX6_fits) := goodIn_app (goodIn_of _ (by decide +kernel)) ggX6_isAnswer_X6_fits
theorem dX6_isAnswer_0 : decode cX6_isAnswer 0 = .ok (.iconst 1, 1) := by decide +kernel
theorem dX6_isAnswer_1 : decode cX6_isAnswer 1 = .ok (.istore_n 2, 1) := by decide +kernel
theorem dX6_isAnswer_2 : decode cX6_isAnswer 2 = .ok (.iconst 0, 1) := by decide +kernel
theorem dX6_isAnswer_3 : decode cX6_isAnswer 3 = .ok (.istore_n 3, 1) := by decide +kernel
theorem dX6_isAnswer_4 : decode cX6_isAnswer 4 = .ok (.iload_n 3, 1) := by decide +kernel
theorem dX6_isAnswer_5 : decode cX6_isAnswer 5 = .ok (.aload_n 0, 1) := by decide +kernel
theorem dX6_isAnswer_6 : decode cX6_isAnswer 6 = .ok (.getfield 7, 3) := by decide +kernel
theorem dX6_isAnswer_9 : decode cX6_isAnswer 9 = .ok (.iconst 1, 1) := by decide +kernel
theorem dX6_isAnswer_10 : decode cX6_isAnswer 10 = .ok (.iaload, 1) := by decide +kernel
theorem dX6_isAnswer_11 : decode cX6_isAnswer 11 = .ok (.if_icmp .ge 37, 3) := by decide +kernel
theorem dX6_isAnswer_14 : decode cX6_isAnswer 14 = .ok (.iload_n 2, 1) := by decide +kernel
theorem dX6_isAnswer_15 : decode cX6_isAnswer 15 = .ok (.ifCond .eq 25, 3) := by decide +kernel
theorem dX6_isAnswer_18 : decode cX6_isAnswer 18 = .ok (.aload_n 0, 1) := by decide +kernel
theorem dX6_isAnswer_19 : decode cX6_isAnswer 19 = .ok (.getfield 31, 3) := by decide +kernel
theorem dX6_isAnswer_22 : decode cX6_isAnswer 22 = .ok (.iload_n 3, 1) := by decide +kernel
theorem dX6_isAnswer_23 : decode cX6_isAnswer 23 = .ok (.iaload, 1) := by decide +kernel
theorem dX6_isAnswer_24 : decode cX6_isAnswer 24 = .ok (.ifCond .ne 12, 3) := by decide +kernel
theorem dX6_isAnswer_27 : decode cX6_isAnswer 27 = .ok (.aload_n 0, 1) := by decide +kernel
theorem dX6_isAnswer_28 : decode cX6_isAnswer 28 = .ok (.iload_n 1, 1) := by decide +kernel
theorem dX6_isAnswer_29 : decode cX6_isAnswer 29 = .ok (.iload_n 3, 1) := by decide +kernel
theorem dX6_isAnswer_30 : decode cX6_isAnswer 30 = .ok (.invokevirtual 91, 3) := by decide +kernel
theorem dX6_isAnswer_33 : decode cX6_isAnswer 33 = .ok (.ifCond .eq 7, 3) := by decide +kernel
theorem dX6_isAnswer_36 : decode cX6_isAnswer 36 = .ok (.iconst 1, 1) := by decide +kernel
theorem dX6_isAnswer_37 : decode cX6_isAnswer 37 = .ok (.goto 4, 3) := by decide +kernel
theorem dX6_isAnswer_40 : decode cX6_isAnswer 40 = .ok (.iconst 0, 1) := by decide +kernel
theorem dX6_isAnswer_41 : decode cX6_isAnswer 41 = .ok (.istore_n 2, 1) := by decide +kernel
theorem dX6_isAnswer_42 : decode cX6_isAnswer 42 = .ok (.iinc 3 1, 3) := by decide +kernel
theorem dX6_isAnswer_45 : decode cX6_isAnswer 45 = .ok (.goto (-41), 3) := by decide +kernel
theorem dX6_isAnswer_48 : decode cX6_isAnswer 48 = .ok (.iload_n 2, 1) := by decide +kernel
theorem dX6_isAnswer_49 : decode cX6_isAnswer 49 = .ok (.ireturn, 1) := by decide +kernel
set_option maxRecDepth 20000 in
theorem ggX6_knownOf_X6_reduces : GoodIn wsX6_knownOf wsX6_reduces := goodIn_r _ [7, 1, 2, 8, 9, 15, 16, 17, 18, 19, 20, 21, 22, 23, 24, 25, 26, 27, 28, 29, 30, 31, 32, 33, 34] (by decide +kernel) (by decide +kernel)
set_option maxRecDepth 20000 in
theorem gX6_knownOf_X6_reduces : GoodIn wsX6_knownOf (wsV RX6 74 RX6 yX6_reduces wsX6_reduces) := goodIn_app (goodIn_of _ (by decide +kernel)) ggX6_knownOf_X6_reduces
set_option maxRecDepth 20000 in
theorem ggX6_knownOf_X6_sumOf : GoodIn wsX6_knownOf wsX6_sumOf := goodIn_r _ [13, 14, 15, 16, 17, 18, 19, 20, 21, 22, 23, 24, 25, 26, 27, 28, 29, 30, 31, 32, 33, 34] (by decide +kernel) (by decide +kernel)
set_option maxRecDepth 20000 in
theorem gX6_knownOf_X6_sumOf : GoodIn wsX6_knownOf (wsV RX6 78 RX6 yX6_sumOf wsX6_sumOf) := goodIn_app (goodIn_of _ (by decide +kernel)) ggX6_knownOf_X6_sumOf
theorem dX6_knownOf_0 : decode cX6_knownOf 0 = .ok (.aload_n 0, 1) := by decide +kernel
theorem dX6_knownOf_1 : decode cX6_knownOf 1 = .ok (.iload_n 1, 1) := by decide +kernel
theorem dX6_knownOf_2 : decode cX6_knownOf 2 = .ok (.invokevirtual 74, 3) := by decide +kernel
theorem dX6_knownOf_5 : decode cX6_knownOf 5 = .ok (.aload_n 0, 1) := by decide +kernel
theorem dX6_knownOf_6 : decode cX6_knownOf 6 = .ok (.getfield 68, 3) := by decide +kernel
theorem dX6_knownOf_9 : decode cX6_knownOf 9 = .ok (.ifCond .ne 14, 3) := by decide +kernel
theorem dX6_knownOf_12 : decode cX6_knownOf 12 = .ok (.aload_n 0, 1) := by decide +kernel
theorem dX6_knownOf_13 : decode cX6_knownOf 13 = .ok (.aload_n 0, 1) := by decide +kernel
theorem dX6_knownOf_14 : decode cX6_knownOf 14 = .ok (.getfield 71, 3) := by decide +kernel
theorem dX6_knownOf_17 : decode cX6_knownOf 17 = .ok (.invokevirtual 78, 3) := by decide +kernel
theorem dX6_knownOf_20 : decode cX6_knownOf 20 = .ok (.goto 5, 3) := by decide +kernel
theorem dX6_knownOf_23 : decode cX6_knownOf 23 = .ok (.bipush (-6), 2) := by decide +kernel
theorem dX6_knownOf_25 : decode cX6_knownOf 25 = .ok (.ireturn, 1) := by decide +kernel
set_option maxRecDepth 20000 in
theorem ggX6_choices_X6_in : GoodIn wsX6_choices wsX6_in := goodIn_r _ [6] (by decide +kernel) (by decide +kernel)
set_option maxRecDepth 20000 in
theorem gX6_choices_X6_in : GoodIn wsX6_choices (va_wsS RX6 61 yX6_in wsX6_in) := goodIn_app (goodIn_of _ (by decide +kernel)) ggX6_choices_X6_in
set_option maxRecDepth 20000 in
theorem ggX6_choices_X6_keep : GoodIn wsX6_choices wsX6_keep := goodIn_r _ [10, 11, 2, 18, 19, 20, 21, 22, 23, 24, 25, 26, 27, 28, 29, 30, 31, 32, 33, 34, 35, 36, 37] (by decide +kernel) (by decide +kernel)
set_option maxRecDepth 20000 in
theorem gX6_choices_X6_keep : GoodIn wsX6_choices (wsV RX6 97 RX6 yX6_keep wsX6_keep) := goodIn_app (goodIn_of _ (by decide +kernel)) ggX6_choices_X6_keep
set_option maxRecDepth 20000 in
theorem ggX6_choices_X6_changed : GoodIn wsX6_choices wsX6_changed := goodIn_r _ [15, 16, 17, 11, 18, 19, 20, 21, 22, 23, 24, 25, 26, 27, 28, 29, 30, 31, 32, 33, 34, 35, 36, 37] (by decide +kernel) (by decide +kernel)
set_option maxRecDepth 20000 in
theorem gX6_choices_X6_changed : GoodIn wsX6_choices (wsV RX6 100 RX6 yX6_changed wsX6_changed) := goodIn_app (goodIn_of _ (by decide +kernel)) ggX6_choices_X6_changed
theorem dX6_choices_0 : decode cX6_choices 0 = .ok (.iload_n 1, 1) := by decide +kernel
theorem dX6_choices_1 : decode cX6_choices 1 = .ok (.i2l, 1) := by decide +kernel
theorem dX6_choices_2 : decode cX6_choices 2 = .ok (.lconst 1, 1) := by decide +kernel
theorem dX6_choices_3 : decode cX6_choices 3 = .ok (.ldc2_w 95, 3) := by decide +kernel
theorem dX6_choices_6 : decode cX6_choices 6 = .ok (.invokestatic 61, 3) := by decide +kernel
theorem dX6_choices_9 : decode cX6_choices 9 = .ok (.ifCond .ne 6, 3) := by decide +kernel
theorem dX6_choices_12 : decode cX6_choices 12 = .ok (.bipush (-2), 2) := by decide +kernel
theorem dX6_choices_14 : decode cX6_choices 14 = .ok (.ireturn, 1) := by decide +kernel
theorem dX6_choices_15 : decode cX6_choices 15 = .ok (.iconst 0, 1) := by decide +kernel
theorem dX6_choices_16 : decode cX6_choices 16 = .ok (.istore_n 2, 1) := by decide +kernel
theorem dX6_choices_17 : decode cX6_choices 17 = .ok (.iload_n 2, 1) := by decide +kernel
theorem dX6_choices_18 : decode cX6_choices 18 = .ok (.aload_n 0, 1) := by decide +kernel
theorem dX6_choices_19 : decode cX6_choices 19 = .ok (.getfield 7, 3) := by decide +kernel
theorem dX6_choices_22 : decode cX6_choices 22 = .ok (.iconst 1, 1) := by decide +kernel
theorem dX6_choices_23 : decode cX6_choices 23 = .ok (.iaload, 1) := by decide +kernel
theorem dX6_choices_24 : decode cX6_choices 24 = .ok (.if_icmp .ge 25, 3) := by decide +kernel
theorem dX6_choices_27 : decode cX6_choices 27 = .ok (.aload_n 0, 1) := by decide +kernel
theorem dX6_choices_28 : decode cX6_choices 28 = .ok (.getfield 7, 3) := by decide +kernel
theorem dX6_choices_31 : decode cX6_choices 31 = .ok (.iconst 2, 1) := by decide +kernel
theorem dX6_choices_32 : decode cX6_choices 32 = .ok (.iload_n 2, 1) := by decide +kernel
theorem dX6_choices_33 : decode cX6_choices 33 = .ok (.iadd, 1) := by decide +kernel
theorem dX6_choices_34 : decode cX6_choices 34 = .ok (.iaload, 1) := by decide +kernel
theorem dX6_choices_35 : decode cX6_choices 35 = .ok (.iload_n 1, 1) := by decide +kernel
theorem dX6_choices_36 : decode cX6_choices 36 = .ok (.ishr, 1) := by decide +kernel
theorem dX6_choices_37 : decode cX6_choices 37 = .ok (.ifCond .eq 6, 3) := by decide +kernel
theorem dX6_choices_40 : decode cX6_choices 40 = .ok (.bipush (-5), 2) := by decide +kernel
theorem dX6_choices_42 : decode cX6_choices 42 = .ok (.ireturn, 1) := by decide +kernel
theorem dX6_choices_43 : decode cX6_choices 43 = .ok (.iinc 2 1, 3) := by decide +kernel
theorem dX6_choices_46 : decode cX6_choices 46 = .ok (.goto (-29), 3) := by decide +kernel
theorem dX6_choices_49 : decode cX6_choices 49 = .ok (.aload_n 0, 1) := by decide +kernel
theorem dX6_choices_50 : decode cX6_choices 50 = .ok (.invokevirtual 97, 3) := by decide +kernel
theorem dX6_choices_53 : decode cX6_choices 53 = .ok (.aload_n 0, 1) := by decide +kernel
theorem dX6_choices_54 : decode cX6_choices 54 = .ok (.getfield 7, 3) := by decide +kernel
theorem dX6_choices_57 : decode cX6_choices 57 = .ok (.iconst 0, 1) := by decide +kernel
theorem dX6_choices_58 : decode cX6_choices 58 = .ok (.iaload, 1) := by decide +kernel
theorem dX6_choices_59 : decode cX6_choices 59 = .ok (.istore_n 2, 1) := by decide +kernel
theorem dX6_choices_60 : decode cX6_choices 60 = .ok (.aload_n 0, 1) := by decide +kernel
theorem dX6_choices_61 : decode cX6_choices 61 = .ok (.getfield 7, 3) := by decide +kernel
theorem dX6_choices_64 : decode cX6_choices 64 = .ok (.iconst 0, 1) := by decide +kernel
theorem dX6_choices_65 : decode cX6_choices 65 = .ok (.iload_n 1, 1) := by decide +kernel
theorem dX6_choices_66 : decode cX6_choices 66 = .ok (.iastore, 1) := by decide +kernel
theorem dX6_choices_67 : decode cX6_choices 67 = .ok (.aload_n 0, 1) := by decide +kernel
theorem dX6_choices_68 : decode cX6_choices 68 = .ok (.iload_n 2, 1) := by decide +kernel
theorem dX6_choices_69 : decode cX6_choices 69 = .ok (.invokevirtual 100, 3) := by decide +kernel
theorem dX6_choices_72 : decode cX6_choices 72 = .ok (.ireturn, 1) := by decide +kernel
theorem dX6_adds_0 : decode cX6_adds 0 = .ok (.aload_n 0, 1) := by decide +kernel
theorem dX6_adds_1 : decode cX6_adds 1 = .ok (.getfield 7, 3) := by decide +kernel
theorem dX6_adds_4 : decode cX6_adds 4 = .ok (.iconst 2, 1) := by decide +kernel
theorem dX6_adds_5 : decode cX6_adds 5 = .ok (.aload_n 0, 1) := by decide +kernel
theorem dX6_adds_6 : decode cX6_adds 6 = .ok (.getfield 7, 3) := by decide +kernel
theorem dX6_adds_9 : decode cX6_adds 9 = .ok (.iconst 1, 1) := by decide +kernel
theorem dX6_adds_10 : decode cX6_adds 10 = .ok (.iaload, 1) := by decide +kernel
theorem dX6_adds_11 : decode cX6_adds 11 = .ok (.iadd, 1) := by decide +kernel
theorem dX6_adds_12 : decode cX6_adds 12 = .ok (.iload_n 1, 1) := by decide +kernel
theorem dX6_adds_13 : decode cX6_adds 13 = .ok (.iastore, 1) := by decide +kernel
theorem dX6_adds_14 : decode cX6_adds 14 = .ok (.aload_n 0, 1) := by decide +kernel
theorem dX6_adds_15 : decode cX6_adds 15 = .ok (.getfield 7, 3) := by decide +kernel
theorem dX6_adds_18 : decode cX6_adds 18 = .ok (.bipush 22, 2) := by decide +kernel
theorem dX6_adds_20 : decode cX6_adds 20 = .ok (.aload_n 0, 1) := by decide +kernel
theorem dX6_adds_21 : decode cX6_adds 21 = .ok (.getfield 7, 3) := by decide +kernel
theorem dX6_adds_24 : decode cX6_adds 24 = .ok (.iconst 1, 1) := by decide +kernel
theorem dX6_adds_25 : decode cX6_adds 25 = .ok (.iaload, 1) := by decide +kernel
theorem dX6_adds_26 : decode cX6_adds 26 = .ok (.iadd, 1) := by decide +kernel
theorem dX6_adds_27 : decode cX6_adds 27 = .ok (.iload_n 2, 1) := by decide +kernel
theorem dX6_adds_28 : decode cX6_adds 28 = .ok (.iastore, 1) := by decide +kernel
theorem dX6_adds_29 : decode cX6_adds 29 = .ok (.aload_n 0, 1) := by decide +kernel
theorem dX6_adds_30 : decode cX6_adds 30 = .ok (.getfield 7, 3) := by decide +kernel
theorem dX6_adds_33 : decode cX6_adds 33 = .ok (.iconst 1, 1) := by decide +kernel
theorem dX6_adds_34 : decode cX6_adds 34 = .ok (.dup2, 1) := by decide +kernel
theorem dX6_adds_35 : decode cX6_adds 35 = .ok (.iaload, 1) := by decide +kernel
theorem dX6_adds_36 : decode cX6_adds 36 = .ok (.iconst 1, 1) := by decide +kernel
theorem dX6_adds_37 : decode cX6_adds 37 = .ok (.iadd, 1) := by decide +kernel
theorem dX6_adds_38 : decode cX6_adds 38 = .ok (.iastore, 1) := by decide +kernel
theorem dX6_adds_39 : decode cX6_adds 39 = .ok (.return_, 1) := by decide +kernel
set_option maxRecDepth 20000 in
theorem ggX6_tell_X6_isSet : GoodIn wsX6_tell wsX6_isSet := goodIn_r _ [7, 8, 9, 10, 6, 11, 1, 12, 13, 14, 51, 52, 53, 54, 55, 56, 57, 58, 59, 60, 61, 62, 63, 64, 65, 66, 67, 68, 69, 70] (by decide +kernel) (by decide +kernel)
set_option maxRecDepth 20000 in
theorem gX6_tell_X6_isSet : GoodIn wsX6_tell (wsV RX6 103 RX6 yX6_isSet wsX6_isSet) := goodIn_app (goodIn_of _ (by decide +kernel)) ggX6_tell_X6_isSet
set_option maxRecDepth 20000 in
theorem ggX6_tell_X6_in : GoodIn wsX6_tell wsX6_in := goodIn_r _ [14] (by decide +kernel) (by decide +kernel)
set_option maxRecDepth 20000 in
theorem gX6_tell_X6_in : GoodIn wsX6_tell (va_wsS RX6 61 yX6_in wsX6_in) := goodIn_app (goodIn_of _ (by decide +kernel)) ggX6_tell_X6_in
set_option maxRecDepth 20000 in
theorem ggX6_tell_X6_keep : GoodIn wsX6_tell wsX6_keep := goodIn_r _ [18, 19, 1, 51, 52, 53, 54, 55, 56, 57, 58, 59, 60, 61, 62, 63, 64, 65, 66, 67, 68, 69, 70] (by decide +kernel) (by decide +kernel)
set_option maxRecDepth 20000 in
theorem gX6_tell_X6_keep : GoodIn wsX6_tell (wsV RX6 97 RX6 yX6_keep wsX6_keep) := goodIn_app (goodIn_of _ (by decide +kernel)) ggX6_tell_X6_keep
set_option maxRecDepth 20000 in
theorem ggX6_tell_X6_adds : GoodIn wsX6_tell wsX6_adds := goodIn_r _ [23, 1, 51, 52, 53, 54, 55, 56, 57, 58, 59, 60, 61, 62, 63, 64, 65, 66, 67, 68, 69, 70] (by decide +kernel) (by decide +kernel)
set_option maxRecDepth 20000 in
theorem gX6_tell_X6_adds : GoodIn wsX6_tell (wsV RX6 107 RX6 yX6_adds wsX6_adds) := goodIn_app (goodIn_of _ (by decide +kernel)) ggX6_tell_X6_adds
set_option maxRecDepth 20000 in
theorem ggX6_tell_X6_judges : GoodIn wsX6_tell wsX6_judges := goodIn_r _ [27, 28, 29, 1, 2, 30, 31, 32, 33, 34, 35, 6, 36, 37, 38, 39, 40, 41, 42, 43, 44, 51, 52, 53, 54, 55, 56, 57, 58, 59, 60, 61, 62, 63, 64, 65, 66, 67, 68, 69, 70] (by decide +kernel) (by decide +kernel)
set_option maxRecDepth 20000 in
theorem gX6_tell_X6_judges : GoodIn wsX6_tell (wsV RX6 85 RX6 yX6_judges wsX6_judges) := goodIn_app (goodIn_of _ (by decide +kernel)) ggX6_tell_X6_judges
set_option maxRecDepth 20000 in
theorem ggX6_tell_X6_changed : GoodIn wsX6_tell wsX6_changed := goodIn_r _ [48, 49, 50, 19, 51, 52, 53, 54, 55, 56, 57, 58, 59, 60, 61, 62, 63, 64, 65, 66, 67, 68, 69, 70] (by decide +kernel) (by decide +kernel)
set_option maxRecDepth 20000 in
theorem gX6_tell_X6_changed : GoodIn wsX6_tell (wsV RX6 100 RX6 yX6_changed wsX6_changed) := goodIn_app (goodIn_of _ (by decide +kernel)) ggX6_tell_X6_changed
theorem dX6_tell_0 : decode cX6_tell 0 = .ok (.aload_n 0, 1) := by decide +kernel
theorem dX6_tell_1 : decode cX6_tell 1 = .ok (.iload_n 1, 1) := by decide +kernel
theorem dX6_tell_2 : decode cX6_tell 2 = .ok (.invokevirtual 103, 3) := by decide +kernel
theorem dX6_tell_5 : decode cX6_tell 5 = .ok (.ifCond .eq 13, 3) := by decide +kernel
theorem dX6_tell_8 : decode cX6_tell 8 = .ok (.iload_n 2, 1) := by decide +kernel
theorem dX6_tell_9 : decode cX6_tell 9 = .ok (.i2l, 1) := by decide +kernel
theorem dX6_tell_10 : decode cX6_tell 10 = .ok (.lconst 0, 1) := by decide +kernel
theorem dX6_tell_11 : decode cX6_tell 11 = .ok (.lconst 1, 1) := by decide +kernel
theorem dX6_tell_12 : decode cX6_tell 12 = .ok (.invokestatic 61, 3) := by decide +kernel
theorem dX6_tell_15 : decode cX6_tell 15 = .ok (.ifCond .ne 6, 3) := by decide +kernel
theorem dX6_tell_18 : decode cX6_tell 18 = .ok (.bipush (-2), 2) := by decide +kernel
theorem dX6_tell_20 : decode cX6_tell 20 = .ok (.ireturn, 1) := by decide +kernel
theorem dX6_tell_21 : decode cX6_tell 21 = .ok (.aload_n 0, 1) := by decide +kernel
theorem dX6_tell_22 : decode cX6_tell 22 = .ok (.getfield 7, 3) := by decide +kernel
theorem dX6_tell_25 : decode cX6_tell 25 = .ok (.iconst 1, 1) := by decide +kernel
theorem dX6_tell_26 : decode cX6_tell 26 = .ok (.iaload, 1) := by decide +kernel
theorem dX6_tell_27 : decode cX6_tell 27 = .ok (.bipush 20, 2) := by decide +kernel
theorem dX6_tell_29 : decode cX6_tell 29 = .ok (.if_icmp .ne 6, 3) := by decide +kernel
theorem dX6_tell_32 : decode cX6_tell 32 = .ok (.bipush (-4), 2) := by decide +kernel
theorem dX6_tell_34 : decode cX6_tell 34 = .ok (.ireturn, 1) := by decide +kernel
theorem dX6_tell_35 : decode cX6_tell 35 = .ok (.aload_n 0, 1) := by decide +kernel
theorem dX6_tell_36 : decode cX6_tell 36 = .ok (.invokevirtual 97, 3) := by decide +kernel
theorem dX6_tell_39 : decode cX6_tell 39 = .ok (.aload_n 0, 1) := by decide +kernel
theorem dX6_tell_40 : decode cX6_tell 40 = .ok (.iload_n 1, 1) := by decide +kernel
theorem dX6_tell_41 : decode cX6_tell 41 = .ok (.iload_n 2, 1) := by decide +kernel
theorem dX6_tell_42 : decode cX6_tell 42 = .ok (.invokevirtual 107, 3) := by decide +kernel
theorem dX6_tell_45 : decode cX6_tell 45 = .ok (.aload_n 0, 1) := by decide +kernel
theorem dX6_tell_46 : decode cX6_tell 46 = .ok (.invokevirtual 85, 3) := by decide +kernel
theorem dX6_tell_49 : decode cX6_tell 49 = .ok (.aload_n 0, 1) := by decide +kernel
theorem dX6_tell_50 : decode cX6_tell 50 = .ok (.aload_n 0, 1) := by decide +kernel
theorem dX6_tell_51 : decode cX6_tell 51 = .ok (.getfield 31, 3) := by decide +kernel
theorem dX6_tell_54 : decode cX6_tell 54 = .ok (.aload_n 0, 1) := by decide +kernel
theorem dX6_tell_55 : decode cX6_tell 55 = .ok (.getfield 7, 3) := by decide +kernel
theorem dX6_tell_58 : decode cX6_tell 58 = .ok (.iconst 1, 1) := by decide +kernel
theorem dX6_tell_59 : decode cX6_tell 59 = .ok (.iaload, 1) := by decide +kernel
theorem dX6_tell_60 : decode cX6_tell 60 = .ok (.iconst 1, 1) := by decide +kernel
theorem dX6_tell_61 : decode cX6_tell 61 = .ok (.isub, 1) := by decide +kernel
theorem dX6_tell_62 : decode cX6_tell 62 = .ok (.iaload, 1) := by decide +kernel
theorem dX6_tell_63 : decode cX6_tell 63 = .ok (.invokevirtual 100, 3) := by decide +kernel
theorem dX6_tell_66 : decode cX6_tell 66 = .ok (.ireturn, 1) := by decide +kernel
theorem dX6_takesOut_0 : decode cX6_takesOut 0 = .ok (.aload_n 0, 1) := by decide +kernel
theorem dX6_takesOut_1 : decode cX6_takesOut 1 = .ok (.getfield 7, 3) := by decide +kernel
theorem dX6_takesOut_4 : decode cX6_takesOut 4 = .ok (.iconst 1, 1) := by decide +kernel
theorem dX6_takesOut_5 : decode cX6_takesOut 5 = .ok (.dup2, 1) := by decide +kernel
theorem dX6_takesOut_6 : decode cX6_takesOut 6 = .ok (.iaload, 1) := by decide +kernel
theorem dX6_takesOut_7 : decode cX6_takesOut 7 = .ok (.iconst 1, 1) := by decide +kernel
theorem dX6_takesOut_8 : decode cX6_takesOut 8 = .ok (.isub, 1) := by decide +kernel
theorem dX6_takesOut_9 : decode cX6_takesOut 9 = .ok (.iastore, 1) := by decide +kernel
theorem dX6_takesOut_10 : decode cX6_takesOut 10 = .ok (.iload_n 1, 1) := by decide +kernel
theorem dX6_takesOut_11 : decode cX6_takesOut 11 = .ok (.istore_n 2, 1) := by decide +kernel
theorem dX6_takesOut_12 : decode cX6_takesOut 12 = .ok (.iload_n 2, 1) := by decide +kernel
theorem dX6_takesOut_13 : decode cX6_takesOut 13 = .ok (.aload_n 0, 1) := by decide +kernel
theorem dX6_takesOut_14 : decode cX6_takesOut 14 = .ok (.getfield 7, 3) := by decide +kernel
theorem dX6_takesOut_17 : decode cX6_takesOut 17 = .ok (.iconst 1, 1) := by decide +kernel
theorem dX6_takesOut_18 : decode cX6_takesOut 18 = .ok (.iaload, 1) := by decide +kernel
theorem dX6_takesOut_19 : decode cX6_takesOut 19 = .ok (.if_icmp .ge 47, 3) := by decide +kernel
theorem dX6_takesOut_22 : decode cX6_takesOut 22 = .ok (.aload_n 0, 1) := by decide +kernel
theorem dX6_takesOut_23 : decode cX6_takesOut 23 = .ok (.getfield 7, 3) := by decide +kernel
theorem dX6_takesOut_26 : decode cX6_takesOut 26 = .ok (.iconst 2, 1) := by decide +kernel
theorem dX6_takesOut_27 : decode cX6_takesOut 27 = .ok (.iload_n 2, 1) := by decide +kernel
theorem dX6_takesOut_28 : decode cX6_takesOut 28 = .ok (.iadd, 1) := by decide +kernel
theorem dX6_takesOut_29 : decode cX6_takesOut 29 = .ok (.aload_n 0, 1) := by decide +kernel
theorem dX6_takesOut_30 : decode cX6_takesOut 30 = .ok (.getfield 7, 3) := by decide +kernel
theorem dX6_takesOut_33 : decode cX6_takesOut 33 = .ok (.iconst 2, 1) := by decide +kernel
theorem dX6_takesOut_34 : decode cX6_takesOut 34 = .ok (.iload_n 2, 1) := by decide +kernel
theorem dX6_takesOut_35 : decode cX6_takesOut 35 = .ok (.iadd, 1) := by decide +kernel
theorem dX6_takesOut_36 : decode cX6_takesOut 36 = .ok (.iconst 1, 1) := by decide +kernel
theorem dX6_takesOut_37 : decode cX6_takesOut 37 = .ok (.iadd, 1) := by decide +kernel
theorem dX6_takesOut_38 : decode cX6_takesOut 38 = .ok (.iaload, 1) := by decide +kernel
theorem dX6_takesOut_39 : decode cX6_takesOut 39 = .ok (.iastore, 1) := by decide +kernel
theorem dX6_takesOut_40 : decode cX6_takesOut 40 = .ok (.aload_n 0, 1) := by decide +kernel
theorem dX6_takesOut_41 : decode cX6_takesOut 41 = .ok (.getfield 7, 3) := by decide +kernel
theorem dX6_takesOut_44 : decode cX6_takesOut 44 = .ok (.bipush 22, 2) := by decide +kernel
theorem dX6_takesOut_46 : decode cX6_takesOut 46 = .ok (.iload_n 2, 1) := by decide +kernel
theorem dX6_takesOut_47 : decode cX6_takesOut 47 = .ok (.iadd, 1) := by decide +kernel
theorem dX6_takesOut_48 : decode cX6_takesOut 48 = .ok (.aload_n 0, 1) := by decide +kernel
theorem dX6_takesOut_49 : decode cX6_takesOut 49 = .ok (.getfield 7, 3) := by decide +kernel
theorem dX6_takesOut_52 : decode cX6_takesOut 52 = .ok (.bipush 22, 2) := by decide +kernel
theorem dX6_takesOut_54 : decode cX6_takesOut 54 = .ok (.iload_n 2, 1) := by decide +kernel
theorem dX6_takesOut_55 : decode cX6_takesOut 55 = .ok (.iadd, 1) := by decide +kernel
theorem dX6_takesOut_56 : decode cX6_takesOut 56 = .ok (.iconst 1, 1) := by decide +kernel
theorem dX6_takesOut_57 : decode cX6_takesOut 57 = .ok (.iadd, 1) := by decide +kernel
theorem dX6_takesOut_58 : decode cX6_takesOut 58 = .ok (.iaload, 1) := by decide +kernel
theorem dX6_takesOut_59 : decode cX6_takesOut 59 = .ok (.iastore, 1) := by decide +kernel
theorem dX6_takesOut_60 : decode cX6_takesOut 60 = .ok (.iinc 2 1, 3) := by decide +kernel
theorem dX6_takesOut_63 : decode cX6_takesOut 63 = .ok (.goto (-51), 3) := by decide +kernel
theorem dX6_takesOut_66 : decode cX6_takesOut 66 = .ok (.return_, 1) := by decide +kernel
theorem dX6_putsIn_0 : decode cX6_putsIn 0 = .ok (.aload_n 0, 1) := by decide +kernel
theorem dX6_putsIn_1 : decode cX6_putsIn 1 = .ok (.getfield 7, 3) := by decide +kernel
theorem dX6_putsIn_4 : decode cX6_putsIn 4 = .ok (.iconst 1, 1) := by decide +kernel
theorem dX6_putsIn_5 : decode cX6_putsIn 5 = .ok (.iaload, 1) := by decide +kernel
theorem dX6_putsIn_6 : decode cX6_putsIn 6 = .ok (.istore 4, 2) := by decide +kernel
theorem dX6_putsIn_8 : decode cX6_putsIn 8 = .ok (.iload 4, 2) := by decide +kernel
theorem dX6_putsIn_10 : decode cX6_putsIn 10 = .ok (.iload_n 3, 1) := by decide +kernel
theorem dX6_putsIn_11 : decode cX6_putsIn 11 = .ok (.if_icmp .le 51, 3) := by decide +kernel
theorem dX6_putsIn_14 : decode cX6_putsIn 14 = .ok (.aload_n 0, 1) := by decide +kernel
theorem dX6_putsIn_15 : decode cX6_putsIn 15 = .ok (.getfield 7, 3) := by decide +kernel
theorem dX6_putsIn_18 : decode cX6_putsIn 18 = .ok (.iconst 2, 1) := by decide +kernel
theorem dX6_putsIn_19 : decode cX6_putsIn 19 = .ok (.iload 4, 2) := by decide +kernel
theorem dX6_putsIn_21 : decode cX6_putsIn 21 = .ok (.iadd, 1) := by decide +kernel
theorem dX6_putsIn_22 : decode cX6_putsIn 22 = .ok (.aload_n 0, 1) := by decide +kernel
theorem dX6_putsIn_23 : decode cX6_putsIn 23 = .ok (.getfield 7, 3) := by decide +kernel
theorem dX6_putsIn_26 : decode cX6_putsIn 26 = .ok (.iconst 2, 1) := by decide +kernel
theorem dX6_putsIn_27 : decode cX6_putsIn 27 = .ok (.iload 4, 2) := by decide +kernel
theorem dX6_putsIn_29 : decode cX6_putsIn 29 = .ok (.iadd, 1) := by decide +kernel
theorem dX6_putsIn_30 : decode cX6_putsIn 30 = .ok (.iconst 1, 1) := by decide +kernel
theorem dX6_putsIn_31 : decode cX6_putsIn 31 = .ok (.isub, 1) := by decide +kernel
theorem dX6_putsIn_32 : decode cX6_putsIn 32 = .ok (.iaload, 1) := by decide +kernel
theorem dX6_putsIn_33 : decode cX6_putsIn 33 = .ok (.iastore, 1) := by decide +kernel
theorem dX6_putsIn_34 : decode cX6_putsIn 34 = .ok (.aload_n 0, 1) := by decide +kernel
theorem dX6_putsIn_35 : decode cX6_putsIn 35 = .ok (.getfield 7, 3) := by decide +kernel
theorem dX6_putsIn_38 : decode cX6_putsIn 38 = .ok (.bipush 22, 2) := by decide +kernel
theorem dX6_putsIn_40 : decode cX6_putsIn 40 = .ok (.iload 4, 2) := by decide +kernel
theorem dX6_putsIn_42 : decode cX6_putsIn 42 = .ok (.iadd, 1) := by decide +kernel
theorem dX6_putsIn_43 : decode cX6_putsIn 43 = .ok (.aload_n 0, 1) := by decide +kernel
theorem dX6_putsIn_44 : decode cX6_putsIn 44 = .ok (.getfield 7, 3) := by decide +kernel
theorem dX6_putsIn_47 : decode cX6_putsIn 47 = .ok (.bipush 22, 2) := by decide +kernel
theorem dX6_putsIn_49 : decode cX6_putsIn 49 = .ok (.iload 4, 2) := by decide +kernel
theorem dX6_putsIn_51 : decode cX6_putsIn 51 = .ok (.iadd, 1) := by decide +kernel
theorem dX6_putsIn_52 : decode cX6_putsIn 52 = .ok (.iconst 1, 1) := by decide +kernel
theorem dX6_putsIn_53 : decode cX6_putsIn 53 = .ok (.isub, 1) := by decide +kernel
theorem dX6_putsIn_54 : decode cX6_putsIn 54 = .ok (.iaload, 1) := by decide +kernel
theorem dX6_putsIn_55 : decode cX6_putsIn 55 = .ok (.iastore, 1) := by decide +kernel
theorem dX6_putsIn_56 : decode cX6_putsIn 56 = .ok (.iinc 4 (-1), 3) := by decide +kernel
theorem dX6_putsIn_59 : decode cX6_putsIn 59 = .ok (.goto (-51), 3) := by decide +kernel
theorem dX6_putsIn_62 : decode cX6_putsIn 62 = .ok (.aload_n 0, 1) := by decide +kernel
theorem dX6_putsIn_63 : decode cX6_putsIn 63 = .ok (.getfield 7, 3) := by decide +kernel
theorem dX6_putsIn_66 : decode cX6_putsIn 66 = .ok (.iconst 2, 1) := by decide +kernel
theorem dX6_putsIn_67 : decode cX6_putsIn 67 = .ok (.iload_n 3, 1) := by decide +kernel
theorem dX6_putsIn_68 : decode cX6_putsIn 68 = .ok (.iadd, 1) := by decide +kernel
theorem dX6_putsIn_69 : decode cX6_putsIn 69 = .ok (.iload_n 1, 1) := by decide +kernel
theorem dX6_putsIn_70 : decode cX6_putsIn 70 = .ok (.iastore, 1) := by decide +kernel
theorem dX6_putsIn_71 : decode cX6_putsIn 71 = .ok (.aload_n 0, 1) := by decide +kernel
theorem dX6_putsIn_72 : decode cX6_putsIn 72 = .ok (.getfield 7, 3) := by decide +kernel
theorem dX6_putsIn_75 : decode cX6_putsIn 75 = .ok (.bipush 22, 2) := by decide +kernel
theorem dX6_putsIn_77 : decode cX6_putsIn 77 = .ok (.iload_n 3, 1) := by decide +kernel
theorem dX6_putsIn_78 : decode cX6_putsIn 78 = .ok (.iadd, 1) := by decide +kernel
theorem dX6_putsIn_79 : decode cX6_putsIn 79 = .ok (.iload_n 2, 1) := by decide +kernel
theorem dX6_putsIn_80 : decode cX6_putsIn 80 = .ok (.iastore, 1) := by decide +kernel
theorem dX6_putsIn_81 : decode cX6_putsIn 81 = .ok (.aload_n 0, 1) := by decide +kernel
theorem dX6_putsIn_82 : decode cX6_putsIn 82 = .ok (.getfield 7, 3) := by decide +kernel
theorem dX6_putsIn_85 : decode cX6_putsIn 85 = .ok (.iconst 1, 1) := by decide +kernel
theorem dX6_putsIn_86 : decode cX6_putsIn 86 = .ok (.dup2, 1) := by decide +kernel
theorem dX6_putsIn_87 : decode cX6_putsIn 87 = .ok (.iaload, 1) := by decide +kernel
theorem dX6_putsIn_88 : decode cX6_putsIn 88 = .ok (.iconst 1, 1) := by decide +kernel
theorem dX6_putsIn_89 : decode cX6_putsIn 89 = .ok (.iadd, 1) := by decide +kernel
theorem dX6_putsIn_90 : decode cX6_putsIn 90 = .ok (.iastore, 1) := by decide +kernel
theorem dX6_putsIn_91 : decode cX6_putsIn 91 = .ok (.return_, 1) := by decide +kernel
set_option maxRecDepth 20000 in
theorem ggX6_moves_X6_takesOut : GoodIn wsX6_moves wsX6_takesOut := goodIn_r _ [6, 1, 11, 12, 13, 14, 15, 16, 17, 18, 19, 20, 21, 22, 23, 24, 25, 26, 27, 28, 29, 30] (by decide +kernel) (by decide +kernel)
set_option maxRecDepth 20000 in
theorem gX6_moves_X6_takesOut : GoodIn wsX6_moves (wsV RX6 111 RX6 yX6_takesOut wsX6_takesOut) := goodIn_app (goodIn_of _ (by decide +kernel)) ggX6_moves_X6_takesOut
set_option maxRecDepth 20000 in
theorem ggX6_moves_X6_putsIn : GoodIn wsX6_moves wsX6_putsIn := goodIn_r _ [10, 1, 11, 12, 13, 14, 15, 16, 17, 18, 19, 20, 21, 22, 23, 24, 25, 26, 27, 28, 29, 30] (by decide +kernel) (by decide +kernel)
set_option maxRecDepth 20000 in
theorem gX6_moves_X6_putsIn : GoodIn wsX6_moves (wsV RX6 114 RX6 yX6_putsIn wsX6_putsIn) := goodIn_app (goodIn_of _ (by decide +kernel)) ggX6_moves_X6_putsIn
theorem dX6_moves_0 : decode cX6_moves 0 = .ok (.aload_n 0, 1) := by decide +kernel
theorem dX6_moves_1 : decode cX6_moves 1 = .ok (.getfield 7, 3) := by decide +kernel
theorem dX6_moves_4 : decode cX6_moves 4 = .ok (.iconst 2, 1) := by decide +kernel
theorem dX6_moves_5 : decode cX6_moves 5 = .ok (.iload_n 1, 1) := by decide +kernel
theorem dX6_moves_6 : decode cX6_moves 6 = .ok (.iadd, 1) := by decide +kernel
theorem dX6_moves_7 : decode cX6_moves 7 = .ok (.iaload, 1) := by decide +kernel
theorem dX6_moves_8 : decode cX6_moves 8 = .ok (.istore_n 3, 1) := by decide +kernel
theorem dX6_moves_9 : decode cX6_moves 9 = .ok (.aload_n 0, 1) := by decide +kernel
theorem dX6_moves_10 : decode cX6_moves 10 = .ok (.getfield 7, 3) := by decide +kernel
theorem dX6_moves_13 : decode cX6_moves 13 = .ok (.bipush 22, 2) := by decide +kernel
theorem dX6_moves_15 : decode cX6_moves 15 = .ok (.iload_n 1, 1) := by decide +kernel
theorem dX6_moves_16 : decode cX6_moves 16 = .ok (.iadd, 1) := by decide +kernel
theorem dX6_moves_17 : decode cX6_moves 17 = .ok (.iaload, 1) := by decide +kernel
theorem dX6_moves_18 : decode cX6_moves 18 = .ok (.istore 4, 2) := by decide +kernel
theorem dX6_moves_20 : decode cX6_moves 20 = .ok (.aload_n 0, 1) := by decide +kernel
theorem dX6_moves_21 : decode cX6_moves 21 = .ok (.iload_n 1, 1) := by decide +kernel
theorem dX6_moves_22 : decode cX6_moves 22 = .ok (.invokevirtual 111, 3) := by decide +kernel
theorem dX6_moves_25 : decode cX6_moves 25 = .ok (.aload_n 0, 1) := by decide +kernel
theorem dX6_moves_26 : decode cX6_moves 26 = .ok (.iload_n 3, 1) := by decide +kernel
theorem dX6_moves_27 : decode cX6_moves 27 = .ok (.iload 4, 2) := by decide +kernel
theorem dX6_moves_29 : decode cX6_moves 29 = .ok (.iload_n 2, 1) := by decide +kernel
theorem dX6_moves_30 : decode cX6_moves 30 = .ok (.invokevirtual 114, 3) := by decide +kernel
theorem dX6_moves_33 : decode cX6_moves 33 = .ok (.return_, 1) := by decide +kernel
set_option maxRecDepth 20000 in
theorem ggX6_drop_X6_isRule : GoodIn wsX6_drop wsX6_isRule := goodIn_r _ [6, 1, 7, 8, 5, 9, 25, 26, 27, 28, 29, 30, 31, 32, 33, 34, 35, 36, 37, 38, 39, 40, 41, 42, 43, 44] (by decide +kernel) (by decide +kernel)
set_option maxRecDepth 20000 in
theorem gX6_drop_X6_isRule : GoodIn wsX6_drop (wsV RX6 118 RX6 yX6_isRule wsX6_isRule) := goodIn_app (goodIn_of _ (by decide +kernel)) ggX6_drop_X6_isRule
set_option maxRecDepth 20000 in
theorem ggX6_drop_X6_keep : GoodIn wsX6_drop wsX6_keep := goodIn_r _ [13, 14, 1, 25, 26, 27, 28, 29, 30, 31, 32, 33, 34, 35, 36, 37, 38, 39, 40, 41, 42, 43, 44] (by decide +kernel) (by decide +kernel)
set_option maxRecDepth 20000 in
theorem gX6_drop_X6_keep : GoodIn wsX6_drop (wsV RX6 97 RX6 yX6_keep wsX6_keep) := goodIn_app (goodIn_of _ (by decide +kernel)) ggX6_drop_X6_keep
set_option maxRecDepth 20000 in
theorem ggX6_drop_X6_takesOut : GoodIn wsX6_drop wsX6_takesOut := goodIn_r _ [18, 1, 25, 26, 27, 28, 29, 30, 31, 32, 33, 34, 35, 36, 37, 38, 39, 40, 41, 42, 43, 44] (by decide +kernel) (by decide +kernel)
set_option maxRecDepth 20000 in
theorem gX6_drop_X6_takesOut : GoodIn wsX6_drop (wsV RX6 111 RX6 yX6_takesOut wsX6_takesOut) := goodIn_app (goodIn_of _ (by decide +kernel)) ggX6_drop_X6_takesOut
set_option maxRecDepth 20000 in
theorem ggX6_drop_X6_changed : GoodIn wsX6_drop wsX6_changed := goodIn_r _ [22, 23, 24, 14, 25, 26, 27, 28, 29, 30, 31, 32, 33, 34, 35, 36, 37, 38, 39, 40, 41, 42, 43, 44] (by decide +kernel) (by decide +kernel)
set_option maxRecDepth 20000 in
theorem gX6_drop_X6_changed : GoodIn wsX6_drop (wsV RX6 100 RX6 yX6_changed wsX6_changed) := goodIn_app (goodIn_of _ (by decide +kernel)) ggX6_drop_X6_changed
theorem dX6_drop_0 : decode cX6_drop 0 = .ok (.aload_n 0, 1) := by decide +kernel
theorem dX6_drop_1 : decode cX6_drop 1 = .ok (.iload_n 1, 1) := by decide +kernel
theorem dX6_drop_2 : decode cX6_drop 2 = .ok (.invokevirtual 118, 3) := by decide +kernel
theorem dX6_drop_5 : decode cX6_drop 5 = .ok (.ifCond .ne 5, 3) := by decide +kernel
theorem dX6_drop_8 : decode cX6_drop 8 = .ok (.iconst (-1), 1) := by decide +kernel
theorem dX6_drop_9 : decode cX6_drop 9 = .ok (.ireturn, 1) := by decide +kernel
theorem dX6_drop_10 : decode cX6_drop 10 = .ok (.aload_n 0, 1) := by decide +kernel
theorem dX6_drop_11 : decode cX6_drop 11 = .ok (.invokevirtual 97, 3) := by decide +kernel
theorem dX6_drop_14 : decode cX6_drop 14 = .ok (.aload_n 0, 1) := by decide +kernel
theorem dX6_drop_15 : decode cX6_drop 15 = .ok (.iload_n 1, 1) := by decide +kernel
theorem dX6_drop_16 : decode cX6_drop 16 = .ok (.invokevirtual 111, 3) := by decide +kernel
theorem dX6_drop_19 : decode cX6_drop 19 = .ok (.aload_n 0, 1) := by decide +kernel
theorem dX6_drop_20 : decode cX6_drop 20 = .ok (.aload_n 0, 1) := by decide +kernel
theorem dX6_drop_21 : decode cX6_drop 21 = .ok (.getfield 7, 3) := by decide +kernel
theorem dX6_drop_24 : decode cX6_drop 24 = .ok (.iconst 1, 1) := by decide +kernel
theorem dX6_drop_25 : decode cX6_drop 25 = .ok (.iaload, 1) := by decide +kernel
theorem dX6_drop_26 : decode cX6_drop 26 = .ok (.invokevirtual 100, 3) := by decide +kernel
theorem dX6_drop_29 : decode cX6_drop 29 = .ok (.ireturn, 1) := by decide +kernel
set_option maxRecDepth 20000 in
theorem ggX6_move_X6_isRule : GoodIn wsX6_move wsX6_isRule := goodIn_r _ [8, 1, 9, 10, 7, 11, 56, 57, 58, 59, 60, 61, 62, 63, 64, 65, 66, 67, 68, 69, 70, 71, 72, 73, 74, 75] (by decide +kernel) (by decide +kernel)
set_option maxRecDepth 20000 in
theorem gX6_move_X6_isRule : GoodIn wsX6_move (wsV RX6 118 RX6 yX6_isRule wsX6_isRule) := goodIn_app (goodIn_of _ (by decide +kernel)) ggX6_move_X6_isRule
set_option maxRecDepth 20000 in
theorem ggX6_move_X6_keep : GoodIn wsX6_move wsX6_keep := goodIn_r _ [15, 16, 1, 56, 57, 58, 59, 60, 61, 62, 63, 64, 65, 66, 67, 68, 69, 70, 71, 72, 73, 74, 75] (by decide +kernel) (by decide +kernel)
set_option maxRecDepth 20000 in
theorem gX6_move_X6_keep : GoodIn wsX6_move (wsV RX6 97 RX6 yX6_keep wsX6_keep) := goodIn_app (goodIn_of _ (by decide +kernel)) ggX6_move_X6_keep
set_option maxRecDepth 20000 in
theorem ggX6_move_X6_judges : GoodIn wsX6_move wsX6_judges := goodIn_r _ [20, 21, 22, 1, 3, 23, 24, 25, 26, 27, 28, 7, 29, 30, 31, 32, 33, 34, 35, 36, 37, 56, 57, 58, 59, 60, 61, 62, 63, 64, 65, 66, 67, 68, 69, 70, 71, 72, 73, 74, 75] (by decide +kernel) (by decide +kernel)
set_option maxRecDepth 20000 in
theorem gX6_move_X6_judges : GoodIn wsX6_move (wsV RX6 85 RX6 yX6_judges wsX6_judges) := goodIn_app (goodIn_of _ (by decide +kernel)) ggX6_move_X6_judges
set_option maxRecDepth 20000 in
theorem ggX6_move_X6_moves : GoodIn wsX6_move wsX6_moves := goodIn_r _ [41, 1, 42, 43, 44, 7, 45, 46, 47, 48, 49, 56, 57, 58, 59, 60, 61, 62, 63, 64, 65, 66, 67, 68, 69, 70, 71, 72, 73, 74, 75] (by decide +kernel) (by decide +kernel)
set_option maxRecDepth 20000 in
theorem gX6_move_X6_moves : GoodIn wsX6_move (wsV RX6 121 RX6 yX6_moves wsX6_moves) := goodIn_app (goodIn_of _ (by decide +kernel)) ggX6_move_X6_moves
set_option maxRecDepth 20000 in
theorem ggX6_move_X6_changed : GoodIn wsX6_move wsX6_changed := goodIn_r _ [53, 54, 55, 16, 56, 57, 58, 59, 60, 61, 62, 63, 64, 65, 66, 67, 68, 69, 70, 71, 72, 73, 74, 75] (by decide +kernel) (by decide +kernel)
set_option maxRecDepth 20000 in
theorem gX6_move_X6_changed : GoodIn wsX6_move (wsV RX6 100 RX6 yX6_changed wsX6_changed) := goodIn_app (goodIn_of _ (by decide +kernel)) ggX6_move_X6_changed
theorem dX6_move_0 : decode cX6_move 0 = .ok (.aload_n 0, 1) := by decide +kernel
theorem dX6_move_1 : decode cX6_move 1 = .ok (.iload_n 1, 1) := by decide +kernel
theorem dX6_move_2 : decode cX6_move 2 = .ok (.invokevirtual 118, 3) := by decide +kernel
theorem dX6_move_5 : decode cX6_move 5 = .ok (.ifCond .eq 11, 3) := by decide +kernel
theorem dX6_move_8 : decode cX6_move 8 = .ok (.aload_n 0, 1) := by decide +kernel
theorem dX6_move_9 : decode cX6_move 9 = .ok (.iload_n 2, 1) := by decide +kernel
theorem dX6_move_10 : decode cX6_move 10 = .ok (.invokevirtual 118, 3) := by decide +kernel
theorem dX6_move_13 : decode cX6_move 13 = .ok (.ifCond .ne 5, 3) := by decide +kernel
theorem dX6_move_16 : decode cX6_move 16 = .ok (.iconst (-1), 1) := by decide +kernel
theorem dX6_move_17 : decode cX6_move 17 = .ok (.ireturn, 1) := by decide +kernel
theorem dX6_move_18 : decode cX6_move 18 = .ok (.aload_n 0, 1) := by decide +kernel
theorem dX6_move_19 : decode cX6_move 19 = .ok (.invokevirtual 97, 3) := by decide +kernel
theorem dX6_move_22 : decode cX6_move 22 = .ok (.aload_n 0, 1) := by decide +kernel
theorem dX6_move_23 : decode cX6_move 23 = .ok (.invokevirtual 85, 3) := by decide +kernel
theorem dX6_move_26 : decode cX6_move 26 = .ok (.iconst 0, 1) := by decide +kernel
theorem dX6_move_27 : decode cX6_move 27 = .ok (.istore_n 3, 1) := by decide +kernel
theorem dX6_move_28 : decode cX6_move 28 = .ok (.iload_n 3, 1) := by decide +kernel
theorem dX6_move_29 : decode cX6_move 29 = .ok (.aload_n 0, 1) := by decide +kernel
theorem dX6_move_30 : decode cX6_move 30 = .ok (.getfield 7, 3) := by decide +kernel
theorem dX6_move_33 : decode cX6_move 33 = .ok (.iconst 1, 1) := by decide +kernel
theorem dX6_move_34 : decode cX6_move 34 = .ok (.iaload, 1) := by decide +kernel
theorem dX6_move_35 : decode cX6_move 35 = .ok (.if_icmp .ge 21, 3) := by decide +kernel
theorem dX6_move_38 : decode cX6_move 38 = .ok (.aload_n 0, 1) := by decide +kernel
theorem dX6_move_39 : decode cX6_move 39 = .ok (.getfield 37, 3) := by decide +kernel
theorem dX6_move_42 : decode cX6_move 42 = .ok (.iload_n 3, 1) := by decide +kernel
theorem dX6_move_43 : decode cX6_move 43 = .ok (.aload_n 0, 1) := by decide +kernel
theorem dX6_move_44 : decode cX6_move 44 = .ok (.getfield 31, 3) := by decide +kernel
theorem dX6_move_47 : decode cX6_move 47 = .ok (.iload_n 3, 1) := by decide +kernel
theorem dX6_move_48 : decode cX6_move 48 = .ok (.iaload, 1) := by decide +kernel
theorem dX6_move_49 : decode cX6_move 49 = .ok (.iastore, 1) := by decide +kernel
theorem dX6_move_50 : decode cX6_move 50 = .ok (.iinc 3 1, 3) := by decide +kernel
theorem dX6_move_53 : decode cX6_move 53 = .ok (.goto (-25), 3) := by decide +kernel
theorem dX6_move_56 : decode cX6_move 56 = .ok (.aload_n 0, 1) := by decide +kernel
theorem dX6_move_57 : decode cX6_move 57 = .ok (.iload_n 1, 1) := by decide +kernel
theorem dX6_move_58 : decode cX6_move 58 = .ok (.iload_n 2, 1) := by decide +kernel
theorem dX6_move_59 : decode cX6_move 59 = .ok (.invokevirtual 121, 3) := by decide +kernel
theorem dX6_move_62 : decode cX6_move 62 = .ok (.aload_n 0, 1) := by decide +kernel
theorem dX6_move_63 : decode cX6_move 63 = .ok (.invokevirtual 85, 3) := by decide +kernel
theorem dX6_move_66 : decode cX6_move 66 = .ok (.iconst 0, 1) := by decide +kernel
theorem dX6_move_67 : decode cX6_move 67 = .ok (.istore_n 3, 1) := by decide +kernel
theorem dX6_move_68 : decode cX6_move 68 = .ok (.iconst 0, 1) := by decide +kernel
theorem dX6_move_69 : decode cX6_move 69 = .ok (.istore 4, 2) := by decide +kernel
theorem dX6_move_71 : decode cX6_move 71 = .ok (.iload 4, 2) := by decide +kernel
theorem dX6_move_73 : decode cX6_move 73 = .ok (.aload_n 0, 1) := by decide +kernel
theorem dX6_move_74 : decode cX6_move 74 = .ok (.getfield 7, 3) := by decide +kernel
theorem dX6_move_77 : decode cX6_move 77 = .ok (.iconst 1, 1) := by decide +kernel
theorem dX6_move_78 : decode cX6_move 78 = .ok (.iaload, 1) := by decide +kernel
theorem dX6_move_79 : decode cX6_move 79 = .ok (.if_icmp .ge 86, 3) := by decide +kernel
theorem dX6_move_82 : decode cX6_move 82 = .ok (.iload 4, 2) := by decide +kernel
theorem dX6_move_84 : decode cX6_move 84 = .ok (.iload_n 1, 1) := by decide +kernel
theorem dX6_move_85 : decode cX6_move 85 = .ok (.if_icmp .ne 7, 3) := by decide +kernel
theorem dX6_move_88 : decode cX6_move 88 = .ok (.iload_n 2, 1) := by decide +kernel
theorem dX6_move_89 : decode cX6_move 89 = .ok (.goto 43, 3) := by decide +kernel
theorem dX6_move_92 : decode cX6_move 92 = .ok (.iload_n 1, 1) := by decide +kernel
theorem dX6_move_93 : decode cX6_move 93 = .ok (.iload 4, 2) := by decide +kernel
theorem dX6_move_95 : decode cX6_move 95 = .ok (.if_icmp .ge 16, 3) := by decide +kernel
theorem dX6_move_98 : decode cX6_move 98 = .ok (.iload 4, 2) := by decide +kernel
theorem dX6_move_100 : decode cX6_move 100 = .ok (.iload_n 2, 1) := by decide +kernel
theorem dX6_move_101 : decode cX6_move 101 = .ok (.if_icmp .gt 10, 3) := by decide +kernel
theorem dX6_move_104 : decode cX6_move 104 = .ok (.iload 4, 2) := by decide +kernel
theorem dX6_move_106 : decode cX6_move 106 = .ok (.iconst 1, 1) := by decide +kernel
theorem dX6_move_107 : decode cX6_move 107 = .ok (.isub, 1) := by decide +kernel
theorem dX6_move_108 : decode cX6_move 108 = .ok (.goto 24, 3) := by decide +kernel
theorem dX6_move_111 : decode cX6_move 111 = .ok (.iload_n 2, 1) := by decide +kernel
theorem dX6_move_112 : decode cX6_move 112 = .ok (.iload 4, 2) := by decide +kernel
theorem dX6_move_114 : decode cX6_move 114 = .ok (.if_icmp .gt 16, 3) := by decide +kernel
theorem dX6_move_117 : decode cX6_move 117 = .ok (.iload 4, 2) := by decide +kernel
theorem dX6_move_119 : decode cX6_move 119 = .ok (.iload_n 1, 1) := by decide +kernel
theorem dX6_move_120 : decode cX6_move 120 = .ok (.if_icmp .ge 10, 3) := by decide +kernel
theorem dX6_move_123 : decode cX6_move 123 = .ok (.iload 4, 2) := by decide +kernel
theorem dX6_move_125 : decode cX6_move 125 = .ok (.iconst 1, 1) := by decide +kernel
theorem dX6_move_126 : decode cX6_move 126 = .ok (.iadd, 1) := by decide +kernel
theorem dX6_move_127 : decode cX6_move 127 = .ok (.goto 5, 3) := by decide +kernel
theorem dX6_move_130 : decode cX6_move 130 = .ok (.iload 4, 2) := by decide +kernel
theorem dX6_move_132 : decode cX6_move 132 = .ok (.istore 5, 2) := by decide +kernel
theorem dX6_move_134 : decode cX6_move 134 = .ok (.iload_n 3, 1) := by decide +kernel
theorem dX6_move_135 : decode cX6_move 135 = .ok (.aload_n 0, 1) := by decide +kernel
theorem dX6_move_136 : decode cX6_move 136 = .ok (.getfield 31, 3) := by decide +kernel
theorem dX6_move_139 : decode cX6_move 139 = .ok (.iload 5, 2) := by decide +kernel
theorem dX6_move_141 : decode cX6_move 141 = .ok (.iaload, 1) := by decide +kernel
theorem dX6_move_142 : decode cX6_move 142 = .ok (.aload_n 0, 1) := by decide +kernel
theorem dX6_move_143 : decode cX6_move 143 = .ok (.getfield 37, 3) := by decide +kernel
theorem dX6_move_146 : decode cX6_move 146 = .ok (.iload 4, 2) := by decide +kernel
theorem dX6_move_148 : decode cX6_move 148 = .ok (.iaload, 1) := by decide +kernel
theorem dX6_move_149 : decode cX6_move 149 = .ok (.if_icmp .ne 7, 3) := by decide +kernel
theorem dX6_move_152 : decode cX6_move 152 = .ok (.iconst 0, 1) := by decide +kernel
theorem dX6_move_153 : decode cX6_move 153 = .ok (.goto 4, 3) := by decide +kernel
theorem dX6_move_156 : decode cX6_move 156 = .ok (.iconst 1, 1) := by decide +kernel
theorem dX6_move_157 : decode cX6_move 157 = .ok (.iadd, 1) := by decide +kernel
theorem dX6_move_158 : decode cX6_move 158 = .ok (.istore_n 3, 1) := by decide +kernel
theorem dX6_move_159 : decode cX6_move 159 = .ok (.iinc 4 1, 3) := by decide +kernel
theorem dX6_move_162 : decode cX6_move 162 = .ok (.goto (-91), 3) := by decide +kernel
theorem dX6_move_165 : decode cX6_move 165 = .ok (.aload_n 0, 1) := by decide +kernel
theorem dX6_move_166 : decode cX6_move 166 = .ok (.iload_n 3, 1) := by decide +kernel
theorem dX6_move_167 : decode cX6_move 167 = .ok (.invokevirtual 100, 3) := by decide +kernel
theorem dX6_move_170 : decode cX6_move 170 = .ok (.ireturn, 1) := by decide +kernel
set_option maxRecDepth 20000 in
theorem ggX6_turn_X6_isRule : GoodIn wsX6_turn wsX6_isRule := goodIn_r _ [7, 1, 8, 9, 6, 10, 43, 44, 45, 46, 47, 48, 49, 50, 51, 52, 53, 54, 55, 56, 57, 58, 59, 60, 61, 62] (by decide +kernel) (by decide +kernel)
set_option maxRecDepth 20000 in
theorem gX6_turn_X6_isRule : GoodIn wsX6_turn (wsV RX6 118 RX6 yX6_isRule wsX6_isRule) := goodIn_app (goodIn_of _ (by decide +kernel)) ggX6_turn_X6_isRule
set_option maxRecDepth 20000 in
theorem ggX6_turn_X6_keep : GoodIn wsX6_turn wsX6_keep := goodIn_r _ [14, 15, 1, 43, 44, 45, 46, 47, 48, 49, 50, 51, 52, 53, 54, 55, 56, 57, 58, 59, 60, 61, 62] (by decide +kernel) (by decide +kernel)
set_option maxRecDepth 20000 in
theorem gX6_turn_X6_keep : GoodIn wsX6_turn (wsV RX6 97 RX6 yX6_keep wsX6_keep) := goodIn_app (goodIn_of _ (by decide +kernel)) ggX6_turn_X6_keep
set_option maxRecDepth 20000 in
theorem ggX6_turn_X6_judges : GoodIn wsX6_turn wsX6_judges := goodIn_r _ [19, 20, 21, 1, 2, 22, 23, 24, 25, 26, 27, 6, 28, 29, 30, 31, 32, 33, 34, 35, 36, 43, 44, 45, 46, 47, 48, 49, 50, 51, 52, 53, 54, 55, 56, 57, 58, 59, 60, 61, 62] (by decide +kernel) (by decide +kernel)
set_option maxRecDepth 20000 in
theorem gX6_turn_X6_judges : GoodIn wsX6_turn (wsV RX6 85 RX6 yX6_judges wsX6_judges) := goodIn_app (goodIn_of _ (by decide +kernel)) ggX6_turn_X6_judges
set_option maxRecDepth 20000 in
theorem ggX6_turn_X6_changed : GoodIn wsX6_turn wsX6_changed := goodIn_r _ [40, 41, 42, 15, 43, 44, 45, 46, 47, 48, 49, 50, 51, 52, 53, 54, 55, 56, 57, 58, 59, 60, 61, 62] (by decide +kernel) (by decide +kernel)
set_option maxRecDepth 20000 in
theorem gX6_turn_X6_changed : GoodIn wsX6_turn (wsV RX6 100 RX6 yX6_changed wsX6_changed) := goodIn_app (goodIn_of _ (by decide +kernel)) ggX6_turn_X6_changed
theorem dX6_turn_0 : decode cX6_turn 0 = .ok (.aload_n 0, 1) := by decide +kernel
theorem dX6_turn_1 : decode cX6_turn 1 = .ok (.iload_n 1, 1) := by decide +kernel
theorem dX6_turn_2 : decode cX6_turn 2 = .ok (.invokevirtual 118, 3) := by decide +kernel
theorem dX6_turn_5 : decode cX6_turn 5 = .ok (.ifCond .ne 5, 3) := by decide +kernel
theorem dX6_turn_8 : decode cX6_turn 8 = .ok (.iconst (-1), 1) := by decide +kernel
theorem dX6_turn_9 : decode cX6_turn 9 = .ok (.ireturn, 1) := by decide +kernel
theorem dX6_turn_10 : decode cX6_turn 10 = .ok (.aload_n 0, 1) := by decide +kernel
theorem dX6_turn_11 : decode cX6_turn 11 = .ok (.invokevirtual 97, 3) := by decide +kernel
theorem dX6_turn_14 : decode cX6_turn 14 = .ok (.aload_n 0, 1) := by decide +kernel
theorem dX6_turn_15 : decode cX6_turn 15 = .ok (.getfield 7, 3) := by decide +kernel
theorem dX6_turn_18 : decode cX6_turn 18 = .ok (.bipush 22, 2) := by decide +kernel
theorem dX6_turn_20 : decode cX6_turn 20 = .ok (.iload_n 1, 1) := by decide +kernel
theorem dX6_turn_21 : decode cX6_turn 21 = .ok (.iadd, 1) := by decide +kernel
theorem dX6_turn_22 : decode cX6_turn 22 = .ok (.iconst 1, 1) := by decide +kernel
theorem dX6_turn_23 : decode cX6_turn 23 = .ok (.aload_n 0, 1) := by decide +kernel
theorem dX6_turn_24 : decode cX6_turn 24 = .ok (.getfield 7, 3) := by decide +kernel
theorem dX6_turn_27 : decode cX6_turn 27 = .ok (.bipush 22, 2) := by decide +kernel
theorem dX6_turn_29 : decode cX6_turn 29 = .ok (.iload_n 1, 1) := by decide +kernel
theorem dX6_turn_30 : decode cX6_turn 30 = .ok (.iadd, 1) := by decide +kernel
theorem dX6_turn_31 : decode cX6_turn 31 = .ok (.iaload, 1) := by decide +kernel
theorem dX6_turn_32 : decode cX6_turn 32 = .ok (.isub, 1) := by decide +kernel
theorem dX6_turn_33 : decode cX6_turn 33 = .ok (.iastore, 1) := by decide +kernel
theorem dX6_turn_34 : decode cX6_turn 34 = .ok (.aload_n 0, 1) := by decide +kernel
theorem dX6_turn_35 : decode cX6_turn 35 = .ok (.invokevirtual 85, 3) := by decide +kernel
theorem dX6_turn_38 : decode cX6_turn 38 = .ok (.aload_n 0, 1) := by decide +kernel
theorem dX6_turn_39 : decode cX6_turn 39 = .ok (.aload_n 0, 1) := by decide +kernel
theorem dX6_turn_40 : decode cX6_turn 40 = .ok (.getfield 31, 3) := by decide +kernel
theorem dX6_turn_43 : decode cX6_turn 43 = .ok (.iload_n 1, 1) := by decide +kernel
theorem dX6_turn_44 : decode cX6_turn 44 = .ok (.iaload, 1) := by decide +kernel
theorem dX6_turn_45 : decode cX6_turn 45 = .ok (.invokevirtual 100, 3) := by decide +kernel
theorem dX6_turn_48 : decode cX6_turn 48 = .ok (.ireturn, 1) := by decide +kernel
theorem dX6_reasonsWith_0 : decode cX6_reasonsWith 0 = .ok (.iconst 0, 1) := by decide +kernel
theorem dX6_reasonsWith_1 : decode cX6_reasonsWith 1 = .ok (.istore_n 2, 1) := by decide +kernel
theorem dX6_reasonsWith_2 : decode cX6_reasonsWith 2 = .ok (.iconst 0, 1) := by decide +kernel
theorem dX6_reasonsWith_3 : decode cX6_reasonsWith 3 = .ok (.istore_n 3, 1) := by decide +kernel
theorem dX6_reasonsWith_4 : decode cX6_reasonsWith 4 = .ok (.iload_n 3, 1) := by decide +kernel
theorem dX6_reasonsWith_5 : decode cX6_reasonsWith 5 = .ok (.aload_n 0, 1) := by decide +kernel
theorem dX6_reasonsWith_6 : decode cX6_reasonsWith 6 = .ok (.getfield 7, 3) := by decide +kernel
theorem dX6_reasonsWith_9 : decode cX6_reasonsWith 9 = .ok (.iconst 1, 1) := by decide +kernel
theorem dX6_reasonsWith_10 : decode cX6_reasonsWith 10 = .ok (.iaload, 1) := by decide +kernel
theorem dX6_reasonsWith_11 : decode cX6_reasonsWith 11 = .ok (.if_icmp .ge 40, 3) := by decide +kernel
theorem dX6_reasonsWith_14 : decode cX6_reasonsWith 14 = .ok (.iload_n 2, 1) := by decide +kernel
theorem dX6_reasonsWith_15 : decode cX6_reasonsWith 15 = .ok (.aload_n 0, 1) := by decide +kernel
theorem dX6_reasonsWith_16 : decode cX6_reasonsWith 16 = .ok (.getfield 31, 3) := by decide +kernel
theorem dX6_reasonsWith_19 : decode cX6_reasonsWith 19 = .ok (.iload_n 3, 1) := by decide +kernel
theorem dX6_reasonsWith_20 : decode cX6_reasonsWith 20 = .ok (.iaload, 1) := by decide +kernel
theorem dX6_reasonsWith_21 : decode cX6_reasonsWith 21 = .ok (.ifCond .eq 21, 3) := by decide +kernel
theorem dX6_reasonsWith_24 : decode cX6_reasonsWith 24 = .ok (.aload_n 0, 1) := by decide +kernel
theorem dX6_reasonsWith_25 : decode cX6_reasonsWith 25 = .ok (.getfield 34, 3) := by decide +kernel
theorem dX6_reasonsWith_28 : decode cX6_reasonsWith 28 = .ok (.iload_n 3, 1) := by decide +kernel
theorem dX6_reasonsWith_29 : decode cX6_reasonsWith 29 = .ok (.iaload, 1) := by decide +kernel
theorem dX6_reasonsWith_30 : decode cX6_reasonsWith 30 = .ok (.iload_n 1, 1) := by decide +kernel
theorem dX6_reasonsWith_31 : decode cX6_reasonsWith 31 = .ok (.ishr, 1) := by decide +kernel
theorem dX6_reasonsWith_32 : decode cX6_reasonsWith 32 = .ok (.iconst 1, 1) := by decide +kernel
theorem dX6_reasonsWith_33 : decode cX6_reasonsWith 33 = .ok (.iand, 1) := by decide +kernel
theorem dX6_reasonsWith_34 : decode cX6_reasonsWith 34 = .ok (.iconst 1, 1) := by decide +kernel
theorem dX6_reasonsWith_35 : decode cX6_reasonsWith 35 = .ok (.if_icmp .ne 7, 3) := by decide +kernel
theorem dX6_reasonsWith_38 : decode cX6_reasonsWith 38 = .ok (.iconst 1, 1) := by decide +kernel
theorem dX6_reasonsWith_39 : decode cX6_reasonsWith 39 = .ok (.goto 4, 3) := by decide +kernel
theorem dX6_reasonsWith_42 : decode cX6_reasonsWith 42 = .ok (.iconst 0, 1) := by decide +kernel
theorem dX6_reasonsWith_43 : decode cX6_reasonsWith 43 = .ok (.iadd, 1) := by decide +kernel
theorem dX6_reasonsWith_44 : decode cX6_reasonsWith 44 = .ok (.istore_n 2, 1) := by decide +kernel
theorem dX6_reasonsWith_45 : decode cX6_reasonsWith 45 = .ok (.iinc 3 1, 3) := by decide +kernel
theorem dX6_reasonsWith_48 : decode cX6_reasonsWith 48 = .ok (.goto (-44), 3) := by decide +kernel
theorem dX6_reasonsWith_51 : decode cX6_reasonsWith 51 = .ok (.iload_n 2, 1) := by decide +kernel
theorem dX6_reasonsWith_52 : decode cX6_reasonsWith 52 = .ok (.ireturn, 1) := by decide +kernel
set_option maxRecDepth 20000 in
theorem ggX6_rule_X6_isRule : GoodIn wsX6_rule wsX6_isRule := goodIn_r _ [8, 1, 9, 10, 7, 11, 44, 45, 46, 47, 48, 49, 50, 51, 52, 53, 54, 55, 56, 57, 58, 59, 60, 61, 62, 63] (by decide +kernel) (by decide +kernel)
set_option maxRecDepth 20000 in
theorem gX6_rule_X6_isRule : GoodIn wsX6_rule (wsV RX6 118 RX6 yX6_isRule wsX6_isRule) := goodIn_app (goodIn_of _ (by decide +kernel)) ggX6_rule_X6_isRule
set_option maxRecDepth 20000 in
theorem ggX6_rule_X6_judges : GoodIn wsX6_rule wsX6_judges := goodIn_r _ [15, 16, 17, 1, 2, 3, 18, 19, 20, 21, 22, 7, 23, 24, 25, 26, 27, 28, 29, 30, 31, 44, 45, 46, 47, 48, 49, 50, 51, 52, 53, 54, 55, 56, 57, 58, 59, 60, 61, 62, 63] (by decide +kernel) (by decide +kernel)
set_option maxRecDepth 20000 in
theorem gX6_rule_X6_judges : GoodIn wsX6_rule (wsV RX6 85 RX6 yX6_judges wsX6_judges) := goodIn_app (goodIn_of _ (by decide +kernel)) ggX6_rule_X6_judges
set_option maxRecDepth 20000 in
theorem ggX6_rule_X6_reasonsWith : GoodIn wsX6_rule wsX6_reasonsWith := goodIn_r _ [35, 1, 2, 3, 44, 45, 46, 47, 48, 49, 50, 51, 52, 53, 54, 55, 56, 57, 58, 59, 60, 61, 62, 63] (by decide +kernel) (by decide +kernel)
set_option maxRecDepth 20000 in
theorem gX6_rule_X6_reasonsWith : GoodIn wsX6_rule (wsV RX6 124 RX6 yX6_reasonsWith wsX6_reasonsWith) := goodIn_app (goodIn_of _ (by decide +kernel)) ggX6_rule_X6_reasonsWith
set_option maxRecDepth 20000 in
theorem ggX6_rule_X6_answers : GoodIn wsX6_rule wsX6_answers := goodIn_r _ [39, 1, 40, 41, 42, 7, 43, 2, 12, 13, 14, 15, 16, 17, 3, 18, 19, 20, 21, 22, 23, 24, 25, 26, 27, 28, 29, 30, 31, 44, 45, 46, 47, 48, 49, 50, 51, 52, 53, 54, 55, 56, 57, 58, 59, 60, 61, 62, 63] (by decide +kernel) (by decide +kernel)
set_option maxRecDepth 20000 in
theorem gX6_rule_X6_answers : GoodIn wsX6_rule (wsV RX6 127 RX6 yX6_answers wsX6_answers) := goodIn_app (goodIn_of _ (by decide +kernel)) ggX6_rule_X6_answers
theorem dX6_rule_0 : decode cX6_rule 0 = .ok (.aload_n 0, 1) := by decide +kernel
theorem dX6_rule_1 : decode cX6_rule 1 = .ok (.iload_n 1, 1) := by decide +kernel
theorem dX6_rule_2 : decode cX6_rule 2 = .ok (.invokevirtual 118, 3) := by decide +kernel
theorem dX6_rule_5 : decode cX6_rule 5 = .ok (.ifCond .ne 5, 3) := by decide +kernel
theorem dX6_rule_8 : decode cX6_rule 8 = .ok (.iconst (-1), 1) := by decide +kernel
theorem dX6_rule_9 : decode cX6_rule 9 = .ok (.ireturn, 1) := by decide +kernel
theorem dX6_rule_10 : decode cX6_rule 10 = .ok (.aload_n 0, 1) := by decide +kernel
theorem dX6_rule_11 : decode cX6_rule 11 = .ok (.invokevirtual 85, 3) := by decide +kernel
theorem dX6_rule_14 : decode cX6_rule 14 = .ok (.iload_n 2, 1) := by decide +kernel
theorem dX6_rule_15 : decode cX6_rule 15 = .ok (.tableswitch 109 0 5 #[37, 46, 56, 63, 84, 90], 37) := by decide +kernel
theorem dX6_rule_52 : decode cX6_rule 52 = .ok (.aload_n 0, 1) := by decide +kernel
theorem dX6_rule_53 : decode cX6_rule 53 = .ok (.getfield 7, 3) := by decide +kernel
theorem dX6_rule_56 : decode cX6_rule 56 = .ok (.iconst 2, 1) := by decide +kernel
theorem dX6_rule_57 : decode cX6_rule 57 = .ok (.iload_n 1, 1) := by decide +kernel
theorem dX6_rule_58 : decode cX6_rule 58 = .ok (.iadd, 1) := by decide +kernel
theorem dX6_rule_59 : decode cX6_rule 59 = .ok (.iaload, 1) := by decide +kernel
theorem dX6_rule_60 : decode cX6_rule 60 = .ok (.ireturn, 1) := by decide +kernel
theorem dX6_rule_61 : decode cX6_rule 61 = .ok (.aload_n 0, 1) := by decide +kernel
theorem dX6_rule_62 : decode cX6_rule 62 = .ok (.getfield 7, 3) := by decide +kernel
theorem dX6_rule_65 : decode cX6_rule 65 = .ok (.bipush 22, 2) := by decide +kernel
theorem dX6_rule_67 : decode cX6_rule 67 = .ok (.iload_n 1, 1) := by decide +kernel
theorem dX6_rule_68 : decode cX6_rule 68 = .ok (.iadd, 1) := by decide +kernel
theorem dX6_rule_69 : decode cX6_rule 69 = .ok (.iaload, 1) := by decide +kernel
theorem dX6_rule_70 : decode cX6_rule 70 = .ok (.ireturn, 1) := by decide +kernel
theorem dX6_rule_71 : decode cX6_rule 71 = .ok (.aload_n 0, 1) := by decide +kernel
theorem dX6_rule_72 : decode cX6_rule 72 = .ok (.getfield 31, 3) := by decide +kernel
theorem dX6_rule_75 : decode cX6_rule 75 = .ok (.iload_n 1, 1) := by decide +kernel
theorem dX6_rule_76 : decode cX6_rule 76 = .ok (.iaload, 1) := by decide +kernel
theorem dX6_rule_77 : decode cX6_rule 77 = .ok (.ireturn, 1) := by decide +kernel
theorem dX6_rule_78 : decode cX6_rule 78 = .ok (.aload_n 0, 1) := by decide +kernel
theorem dX6_rule_79 : decode cX6_rule 79 = .ok (.getfield 31, 3) := by decide +kernel
theorem dX6_rule_82 : decode cX6_rule 82 = .ok (.iload_n 1, 1) := by decide +kernel
theorem dX6_rule_83 : decode cX6_rule 83 = .ok (.iaload, 1) := by decide +kernel
theorem dX6_rule_84 : decode cX6_rule 84 = .ok (.ifCond .ne 8, 3) := by decide +kernel
theorem dX6_rule_87 : decode cX6_rule 87 = .ok (.bipush (-6), 2) := by decide +kernel
theorem dX6_rule_89 : decode cX6_rule 89 = .ok (.goto 9, 3) := by decide +kernel
theorem dX6_rule_92 : decode cX6_rule 92 = .ok (.aload_n 0, 1) := by decide +kernel
theorem dX6_rule_93 : decode cX6_rule 93 = .ok (.getfield 34, 3) := by decide +kernel
theorem dX6_rule_96 : decode cX6_rule 96 = .ok (.iload_n 1, 1) := by decide +kernel
theorem dX6_rule_97 : decode cX6_rule 97 = .ok (.iaload, 1) := by decide +kernel
theorem dX6_rule_98 : decode cX6_rule 98 = .ok (.ireturn, 1) := by decide +kernel
theorem dX6_rule_99 : decode cX6_rule 99 = .ok (.aload_n 0, 1) := by decide +kernel
theorem dX6_rule_100 : decode cX6_rule 100 = .ok (.iload_n 1, 1) := by decide +kernel
theorem dX6_rule_101 : decode cX6_rule 101 = .ok (.invokevirtual 124, 3) := by decide +kernel
theorem dX6_rule_104 : decode cX6_rule 104 = .ok (.ireturn, 1) := by decide +kernel
theorem dX6_rule_105 : decode cX6_rule 105 = .ok (.aload_n 0, 1) := by decide +kernel
theorem dX6_rule_106 : decode cX6_rule 106 = .ok (.getfield 31, 3) := by decide +kernel
theorem dX6_rule_109 : decode cX6_rule 109 = .ok (.iload_n 1, 1) := by decide +kernel
theorem dX6_rule_110 : decode cX6_rule 110 = .ok (.iaload, 1) := by decide +kernel
theorem dX6_rule_111 : decode cX6_rule 111 = .ok (.iconst 2, 1) := by decide +kernel
theorem dX6_rule_112 : decode cX6_rule 112 = .ok (.if_icmp .ne 7, 3) := by decide +kernel
theorem dX6_rule_115 : decode cX6_rule 115 = .ok (.iconst 0, 1) := by decide +kernel
theorem dX6_rule_116 : decode cX6_rule 116 = .ok (.goto 7, 3) := by decide +kernel
theorem dX6_rule_119 : decode cX6_rule 119 = .ok (.aload_n 0, 1) := by decide +kernel
theorem dX6_rule_120 : decode cX6_rule 120 = .ok (.invokevirtual 127, 3) := by decide +kernel
theorem dX6_rule_123 : decode cX6_rule 123 = .ok (.ireturn, 1) := by decide +kernel
theorem dX6_rule_124 : decode cX6_rule 124 = .ok (.bipush (-2), 2) := by decide +kernel
theorem dX6_rule_126 : decode cX6_rule 126 = .ok (.ireturn, 1) := by decide +kernel
theorem dX6_rulesWith_0 : decode cX6_rulesWith 0 = .ok (.iconst 0, 1) := by decide +kernel
theorem dX6_rulesWith_1 : decode cX6_rulesWith 1 = .ok (.istore_n 2, 1) := by decide +kernel
theorem dX6_rulesWith_2 : decode cX6_rulesWith 2 = .ok (.iconst 0, 1) := by decide +kernel
theorem dX6_rulesWith_3 : decode cX6_rulesWith 3 = .ok (.istore_n 3, 1) := by decide +kernel
theorem dX6_rulesWith_4 : decode cX6_rulesWith 4 = .ok (.iload_n 3, 1) := by decide +kernel
theorem dX6_rulesWith_5 : decode cX6_rulesWith 5 = .ok (.aload_n 0, 1) := by decide +kernel
theorem dX6_rulesWith_6 : decode cX6_rulesWith 6 = .ok (.getfield 7, 3) := by decide +kernel
theorem dX6_rulesWith_9 : decode cX6_rulesWith 9 = .ok (.iconst 1, 1) := by decide +kernel
theorem dX6_rulesWith_10 : decode cX6_rulesWith 10 = .ok (.iaload, 1) := by decide +kernel
theorem dX6_rulesWith_11 : decode cX6_rulesWith 11 = .ok (.if_icmp .ge 24, 3) := by decide +kernel
theorem dX6_rulesWith_14 : decode cX6_rulesWith 14 = .ok (.iload_n 2, 1) := by decide +kernel
theorem dX6_rulesWith_15 : decode cX6_rulesWith 15 = .ok (.aload_n 0, 1) := by decide +kernel
theorem dX6_rulesWith_16 : decode cX6_rulesWith 16 = .ok (.getfield 7, 3) := by decide +kernel
theorem dX6_rulesWith_19 : decode cX6_rulesWith 19 = .ok (.iconst 2, 1) := by decide +kernel
theorem dX6_rulesWith_20 : decode cX6_rulesWith 20 = .ok (.iload_n 3, 1) := by decide +kernel
theorem dX6_rulesWith_21 : decode cX6_rulesWith 21 = .ok (.iadd, 1) := by decide +kernel
theorem dX6_rulesWith_22 : decode cX6_rulesWith 22 = .ok (.iaload, 1) := by decide +kernel
theorem dX6_rulesWith_23 : decode cX6_rulesWith 23 = .ok (.iload_n 1, 1) := by decide +kernel
theorem dX6_rulesWith_24 : decode cX6_rulesWith 24 = .ok (.ishr, 1) := by decide +kernel
theorem dX6_rulesWith_25 : decode cX6_rulesWith 25 = .ok (.iconst 1, 1) := by decide +kernel
theorem dX6_rulesWith_26 : decode cX6_rulesWith 26 = .ok (.iand, 1) := by decide +kernel
theorem dX6_rulesWith_27 : decode cX6_rulesWith 27 = .ok (.iadd, 1) := by decide +kernel
theorem dX6_rulesWith_28 : decode cX6_rulesWith 28 = .ok (.istore_n 2, 1) := by decide +kernel
theorem dX6_rulesWith_29 : decode cX6_rulesWith 29 = .ok (.iinc 3 1, 3) := by decide +kernel
theorem dX6_rulesWith_32 : decode cX6_rulesWith 32 = .ok (.goto (-28), 3) := by decide +kernel
theorem dX6_rulesWith_35 : decode cX6_rulesWith 35 = .ok (.iload_n 2, 1) := by decide +kernel
theorem dX6_rulesWith_36 : decode cX6_rulesWith 36 = .ok (.ireturn, 1) := by decide +kernel
set_option maxRecDepth 20000 in
theorem ggX6_tiedTo_X6_knownOf : GoodIn wsX6_tiedTo wsX6_knownOf := goodIn_r _ [6, 7, 8, 9, 10, 11, 5, 12, 13, 14, 15, 16, 17, 18, 1, 19, 20, 21, 22, 23, 24, 25, 26, 27, 28, 29, 30, 31, 32, 33, 34, 35, 36, 37, 38] (by decide +kernel) (by decide +kernel)
set_option maxRecDepth 20000 in
theorem gX6_tiedTo_X6_knownOf : GoodIn wsX6_tiedTo (wsV RX6 130 RX6 yX6_knownOf wsX6_knownOf) := goodIn_app (goodIn_of _ (by decide +kernel)) ggX6_tiedTo_X6_knownOf
theorem dX6_tiedTo_0 : decode cX6_tiedTo 0 = .ok (.iconst 0, 1) := by decide +kernel
theorem dX6_tiedTo_1 : decode cX6_tiedTo 1 = .ok (.istore_n 2, 1) := by decide +kernel
theorem dX6_tiedTo_2 : decode cX6_tiedTo 2 = .ok (.iconst 0, 1) := by decide +kernel
theorem dX6_tiedTo_3 : decode cX6_tiedTo 3 = .ok (.istore_n 3, 1) := by decide +kernel
theorem dX6_tiedTo_4 : decode cX6_tiedTo 4 = .ok (.iload_n 3, 1) := by decide +kernel
theorem dX6_tiedTo_5 : decode cX6_tiedTo 5 = .ok (.aload_n 0, 1) := by decide +kernel
theorem dX6_tiedTo_6 : decode cX6_tiedTo 6 = .ok (.getfield 7, 3) := by decide +kernel
theorem dX6_tiedTo_9 : decode cX6_tiedTo 9 = .ok (.iconst 0, 1) := by decide +kernel
theorem dX6_tiedTo_10 : decode cX6_tiedTo 10 = .ok (.iaload, 1) := by decide +kernel
theorem dX6_tiedTo_11 : decode cX6_tiedTo 11 = .ok (.if_icmp .ge 76, 3) := by decide +kernel
theorem dX6_tiedTo_14 : decode cX6_tiedTo 14 = .ok (.iload_n 3, 1) := by decide +kernel
theorem dX6_tiedTo_15 : decode cX6_tiedTo 15 = .ok (.iload_n 1, 1) := by decide +kernel
theorem dX6_tiedTo_16 : decode cX6_tiedTo 16 = .ok (.if_icmp .eq 47, 3) := by decide +kernel
theorem dX6_tiedTo_19 : decode cX6_tiedTo 19 = .ok (.aload_n 0, 1) := by decide +kernel
theorem dX6_tiedTo_20 : decode cX6_tiedTo 20 = .ok (.iconst 1, 1) := by decide +kernel
theorem dX6_tiedTo_21 : decode cX6_tiedTo 21 = .ok (.iload_n 3, 1) := by decide +kernel
theorem dX6_tiedTo_22 : decode cX6_tiedTo 22 = .ok (.ishl, 1) := by decide +kernel
theorem dX6_tiedTo_23 : decode cX6_tiedTo 23 = .ok (.iconst 1, 1) := by decide +kernel
theorem dX6_tiedTo_24 : decode cX6_tiedTo 24 = .ok (.iload_n 1, 1) := by decide +kernel
theorem dX6_tiedTo_25 : decode cX6_tiedTo 25 = .ok (.ishl, 1) := by decide +kernel
theorem dX6_tiedTo_26 : decode cX6_tiedTo 26 = .ok (.ior, 1) := by decide +kernel
theorem dX6_tiedTo_27 : decode cX6_tiedTo 27 = .ok (.invokevirtual 130, 3) := by decide +kernel
theorem dX6_tiedTo_30 : decode cX6_tiedTo 30 = .ok (.bipush (-6), 2) := by decide +kernel
theorem dX6_tiedTo_32 : decode cX6_tiedTo 32 = .ok (.if_icmp .eq 31, 3) := by decide +kernel
theorem dX6_tiedTo_35 : decode cX6_tiedTo 35 = .ok (.aload_n 0, 1) := by decide +kernel
theorem dX6_tiedTo_36 : decode cX6_tiedTo 36 = .ok (.iconst 1, 1) := by decide +kernel
theorem dX6_tiedTo_37 : decode cX6_tiedTo 37 = .ok (.iload_n 3, 1) := by decide +kernel
theorem dX6_tiedTo_38 : decode cX6_tiedTo 38 = .ok (.ishl, 1) := by decide +kernel
theorem dX6_tiedTo_39 : decode cX6_tiedTo 39 = .ok (.invokevirtual 130, 3) := by decide +kernel
theorem dX6_tiedTo_42 : decode cX6_tiedTo 42 = .ok (.bipush (-6), 2) := by decide +kernel
theorem dX6_tiedTo_44 : decode cX6_tiedTo 44 = .ok (.if_icmp .ne 19, 3) := by decide +kernel
theorem dX6_tiedTo_47 : decode cX6_tiedTo 47 = .ok (.aload_n 0, 1) := by decide +kernel
theorem dX6_tiedTo_48 : decode cX6_tiedTo 48 = .ok (.iconst 1, 1) := by decide +kernel
theorem dX6_tiedTo_49 : decode cX6_tiedTo 49 = .ok (.iload_n 1, 1) := by decide +kernel
theorem dX6_tiedTo_50 : decode cX6_tiedTo 50 = .ok (.ishl, 1) := by decide +kernel
theorem dX6_tiedTo_51 : decode cX6_tiedTo 51 = .ok (.invokevirtual 130, 3) := by decide +kernel
theorem dX6_tiedTo_54 : decode cX6_tiedTo 54 = .ok (.bipush (-6), 2) := by decide +kernel
theorem dX6_tiedTo_56 : decode cX6_tiedTo 56 = .ok (.if_icmp .ne 7, 3) := by decide +kernel
theorem dX6_tiedTo_59 : decode cX6_tiedTo 59 = .ok (.iconst 1, 1) := by decide +kernel
theorem dX6_tiedTo_60 : decode cX6_tiedTo 60 = .ok (.goto 4, 3) := by decide +kernel
theorem dX6_tiedTo_63 : decode cX6_tiedTo 63 = .ok (.iconst 0, 1) := by decide +kernel
theorem dX6_tiedTo_64 : decode cX6_tiedTo 64 = .ok (.istore 4, 2) := by decide +kernel
theorem dX6_tiedTo_66 : decode cX6_tiedTo 66 = .ok (.iload_n 2, 1) := by decide +kernel
theorem dX6_tiedTo_67 : decode cX6_tiedTo 67 = .ok (.iload 4, 2) := by decide +kernel
theorem dX6_tiedTo_69 : decode cX6_tiedTo 69 = .ok (.ifCond .eq 9, 3) := by decide +kernel
theorem dX6_tiedTo_72 : decode cX6_tiedTo 72 = .ok (.iconst 1, 1) := by decide +kernel
theorem dX6_tiedTo_73 : decode cX6_tiedTo 73 = .ok (.iload_n 3, 1) := by decide +kernel
theorem dX6_tiedTo_74 : decode cX6_tiedTo 74 = .ok (.ishl, 1) := by decide +kernel
theorem dX6_tiedTo_75 : decode cX6_tiedTo 75 = .ok (.goto 4, 3) := by decide +kernel
theorem dX6_tiedTo_78 : decode cX6_tiedTo 78 = .ok (.iconst 0, 1) := by decide +kernel
theorem dX6_tiedTo_79 : decode cX6_tiedTo 79 = .ok (.ior, 1) := by decide +kernel
theorem dX6_tiedTo_80 : decode cX6_tiedTo 80 = .ok (.istore_n 2, 1) := by decide +kernel
theorem dX6_tiedTo_81 : decode cX6_tiedTo 81 = .ok (.iinc 3 1, 3) := by decide +kernel
theorem dX6_tiedTo_84 : decode cX6_tiedTo 84 = .ok (.goto (-80), 3) := by decide +kernel
theorem dX6_tiedTo_87 : decode cX6_tiedTo 87 = .ok (.iload_n 2, 1) := by decide +kernel
theorem dX6_tiedTo_88 : decode cX6_tiedTo 88 = .ok (.ireturn, 1) := by decide +kernel
set_option maxRecDepth 20000 in
theorem ggX6_choice_X6_in : GoodIn wsX6_choice wsX6_in := goodIn_r _ [5] (by decide +kernel) (by decide +kernel)
set_option maxRecDepth 20000 in
theorem gX6_choice_X6_in : GoodIn wsX6_choice (va_wsS RX6 61 yX6_in wsX6_in) := goodIn_app (goodIn_of _ (by decide +kernel)) ggX6_choice_X6_in
set_option maxRecDepth 20000 in
theorem ggX6_choice_X6_judges : GoodIn wsX6_choice wsX6_judges := goodIn_r _ [9, 10, 11, 1, 12, 13, 14, 15, 16, 17, 18, 4, 19, 20, 21, 22, 23, 24, 25, 26, 27, 40, 41, 42, 43, 44, 45, 46, 47, 48, 49, 50, 51, 52, 53, 54, 55, 56, 57, 58, 59] (by decide +kernel) (by decide +kernel)
set_option maxRecDepth 20000 in
theorem gX6_choice_X6_judges : GoodIn wsX6_choice (wsV RX6 85 RX6 yX6_judges wsX6_judges) := goodIn_app (goodIn_of _ (by decide +kernel)) ggX6_choice_X6_judges
set_option maxRecDepth 20000 in
theorem ggX6_choice_X6_knownOf : GoodIn wsX6_choice wsX6_knownOf := goodIn_r _ [31, 15, 14, 20, 21, 22, 4, 23, 10, 11, 24, 25, 26, 27, 1, 40, 41, 42, 43, 44, 45, 46, 47, 48, 49, 50, 51, 52, 53, 54, 55, 56, 57, 58, 59] (by decide +kernel) (by decide +kernel)
set_option maxRecDepth 20000 in
theorem gX6_choice_X6_knownOf : GoodIn wsX6_choice (wsV RX6 130 RX6 yX6_knownOf wsX6_knownOf) := goodIn_app (goodIn_of _ (by decide +kernel)) ggX6_choice_X6_knownOf
set_option maxRecDepth 20000 in
theorem ggX6_choice_X6_rulesWith : GoodIn wsX6_choice wsX6_rulesWith := goodIn_r _ [35, 1, 40, 41, 42, 43, 44, 45, 46, 47, 48, 49, 50, 51, 52, 53, 54, 55, 56, 57, 58, 59] (by decide +kernel) (by decide +kernel)
set_option maxRecDepth 20000 in
theorem gX6_choice_X6_rulesWith : GoodIn wsX6_choice (wsV RX6 133 RX6 yX6_rulesWith wsX6_rulesWith) := goodIn_app (goodIn_of _ (by decide +kernel)) ggX6_choice_X6_rulesWith
set_option maxRecDepth 20000 in
theorem ggX6_choice_X6_tiedTo : GoodIn wsX6_choice wsX6_tiedTo := goodIn_r _ [39, 1, 28, 29, 30, 4, 31, 15, 14, 20, 21, 22, 23, 10, 11, 24, 25, 26, 27, 40, 41, 42, 43, 44, 45, 46, 47, 48, 49, 50, 51, 52, 53, 54, 55, 56, 57, 58, 59] (by decide +kernel) (by decide +kernel)
set_option maxRecDepth 20000 in
theorem gX6_choice_X6_tiedTo : GoodIn wsX6_choice (wsV RX6 136 RX6 yX6_tiedTo wsX6_tiedTo) := goodIn_app (goodIn_of _ (by decide +kernel)) ggX6_choice_X6_tiedTo
theorem dX6_choice_0 : decode cX6_choice 0 = .ok (.iload_n 1, 1) := by decide +kernel
theorem dX6_choice_1 : decode cX6_choice 1 = .ok (.i2l, 1) := by decide +kernel
theorem dX6_choice_2 : decode cX6_choice 2 = .ok (.lconst 0, 1) := by decide +kernel
theorem dX6_choice_3 : decode cX6_choice 3 = .ok (.aload_n 0, 1) := by decide +kernel
theorem dX6_choice_4 : decode cX6_choice 4 = .ok (.getfield 7, 3) := by decide +kernel
theorem dX6_choice_7 : decode cX6_choice 7 = .ok (.iconst 0, 1) := by decide +kernel
theorem dX6_choice_8 : decode cX6_choice 8 = .ok (.iaload, 1) := by decide +kernel
theorem dX6_choice_9 : decode cX6_choice 9 = .ok (.i2l, 1) := by decide +kernel
theorem dX6_choice_10 : decode cX6_choice 10 = .ok (.lconst 1, 1) := by decide +kernel
theorem dX6_choice_11 : decode cX6_choice 11 = .ok (.lsub, 1) := by decide +kernel
theorem dX6_choice_12 : decode cX6_choice 12 = .ok (.invokestatic 61, 3) := by decide +kernel
theorem dX6_choice_15 : decode cX6_choice 15 = .ok (.ifCond .ne 5, 3) := by decide +kernel
theorem dX6_choice_18 : decode cX6_choice 18 = .ok (.iconst (-1), 1) := by decide +kernel
theorem dX6_choice_19 : decode cX6_choice 19 = .ok (.ireturn, 1) := by decide +kernel
theorem dX6_choice_20 : decode cX6_choice 20 = .ok (.aload_n 0, 1) := by decide +kernel
theorem dX6_choice_21 : decode cX6_choice 21 = .ok (.invokevirtual 85, 3) := by decide +kernel
theorem dX6_choice_24 : decode cX6_choice 24 = .ok (.iload_n 2, 1) := by decide +kernel
theorem dX6_choice_25 : decode cX6_choice 25 = .ok (.ifCond .ne 13, 3) := by decide +kernel
theorem dX6_choice_28 : decode cX6_choice 28 = .ok (.aload_n 0, 1) := by decide +kernel
theorem dX6_choice_29 : decode cX6_choice 29 = .ok (.iconst 1, 1) := by decide +kernel
theorem dX6_choice_30 : decode cX6_choice 30 = .ok (.iload_n 1, 1) := by decide +kernel
theorem dX6_choice_31 : decode cX6_choice 31 = .ok (.ishl, 1) := by decide +kernel
theorem dX6_choice_32 : decode cX6_choice 32 = .ok (.invokevirtual 130, 3) := by decide +kernel
theorem dX6_choice_35 : decode cX6_choice 35 = .ok (.goto 31, 3) := by decide +kernel
theorem dX6_choice_38 : decode cX6_choice 38 = .ok (.iload_n 2, 1) := by decide +kernel
theorem dX6_choice_39 : decode cX6_choice 39 = .ok (.iconst 1, 1) := by decide +kernel
theorem dX6_choice_40 : decode cX6_choice 40 = .ok (.if_icmp .ne 11, 3) := by decide +kernel
theorem dX6_choice_43 : decode cX6_choice 43 = .ok (.aload_n 0, 1) := by decide +kernel
theorem dX6_choice_44 : decode cX6_choice 44 = .ok (.iload_n 1, 1) := by decide +kernel
theorem dX6_choice_45 : decode cX6_choice 45 = .ok (.invokevirtual 133, 3) := by decide +kernel
theorem dX6_choice_48 : decode cX6_choice 48 = .ok (.goto 18, 3) := by decide +kernel
theorem dX6_choice_51 : decode cX6_choice 51 = .ok (.iload_n 2, 1) := by decide +kernel
theorem dX6_choice_52 : decode cX6_choice 52 = .ok (.iconst 2, 1) := by decide +kernel
theorem dX6_choice_53 : decode cX6_choice 53 = .ok (.if_icmp .ne 11, 3) := by decide +kernel
theorem dX6_choice_56 : decode cX6_choice 56 = .ok (.aload_n 0, 1) := by decide +kernel
theorem dX6_choice_57 : decode cX6_choice 57 = .ok (.iload_n 1, 1) := by decide +kernel
theorem dX6_choice_58 : decode cX6_choice 58 = .ok (.invokevirtual 136, 3) := by decide +kernel
theorem dX6_choice_61 : decode cX6_choice 61 = .ok (.goto 5, 3) := by decide +kernel
theorem dX6_choice_64 : decode cX6_choice 64 = .ok (.bipush (-2), 2) := by decide +kernel
theorem dX6_choice_66 : decode cX6_choice 66 = .ok (.ireturn, 1) := by decide +kernel
set_option maxRecDepth 20000 in
theorem ggX6_settled_X6_judges : GoodIn wsX6_settled wsX6_judges := goodIn_r _ [6, 7, 8, 1, 9, 10, 11, 12, 13, 14, 15, 5, 16, 17, 18, 19, 20, 21, 22, 23, 24, 29, 30, 31, 32, 33, 34, 35, 36, 37, 38, 39, 40, 41, 42, 43, 44, 45, 46, 47, 48] (by decide +kernel) (by decide +kernel)
set_option maxRecDepth 20000 in
theorem gX6_settled_X6_judges : GoodIn wsX6_settled (wsV RX6 85 RX6 yX6_judges wsX6_judges) := goodIn_app (goodIn_of _ (by decide +kernel)) ggX6_settled_X6_judges
set_option maxRecDepth 20000 in
theorem ggX6_settled_X6_knownOf : GoodIn wsX6_settled wsX6_knownOf := goodIn_r _ [28, 12, 11, 17, 18, 19, 5, 20, 7, 8, 21, 22, 23, 24, 1, 29, 30, 31, 32, 33, 34, 35, 36, 37, 38, 39, 40, 41, 42, 43, 44, 45, 46, 47, 48] (by decide +kernel) (by decide +kernel)
set_option maxRecDepth 20000 in
theorem gX6_settled_X6_knownOf : GoodIn wsX6_settled (wsV RX6 130 RX6 yX6_knownOf wsX6_knownOf) := goodIn_app (goodIn_of _ (by decide +kernel)) ggX6_settled_X6_knownOf
theorem dX6_settled_0 : decode cX6_settled 0 = .ok (.aload_n 0, 1) := by decide +kernel
theorem dX6_settled_1 : decode cX6_settled 1 = .ok (.invokevirtual 85, 3) := by decide +kernel
theorem dX6_settled_4 : decode cX6_settled 4 = .ok (.iconst 0, 1) := by decide +kernel
theorem dX6_settled_5 : decode cX6_settled 5 = .ok (.istore_n 1, 1) := by decide +kernel
theorem dX6_settled_6 : decode cX6_settled 6 = .ok (.iconst 0, 1) := by decide +kernel
theorem dX6_settled_7 : decode cX6_settled 7 = .ok (.istore_n 2, 1) := by decide +kernel
theorem dX6_settled_8 : decode cX6_settled 8 = .ok (.iload_n 2, 1) := by decide +kernel
theorem dX6_settled_9 : decode cX6_settled 9 = .ok (.aload_n 0, 1) := by decide +kernel
theorem dX6_settled_10 : decode cX6_settled 10 = .ok (.getfield 7, 3) := by decide +kernel
theorem dX6_settled_13 : decode cX6_settled 13 = .ok (.iconst 0, 1) := by decide +kernel
theorem dX6_settled_14 : decode cX6_settled 14 = .ok (.iaload, 1) := by decide +kernel
theorem dX6_settled_15 : decode cX6_settled 15 = .ok (.if_icmp .ge 31, 3) := by decide +kernel
theorem dX6_settled_18 : decode cX6_settled 18 = .ok (.iload_n 1, 1) := by decide +kernel
theorem dX6_settled_19 : decode cX6_settled 19 = .ok (.aload_n 0, 1) := by decide +kernel
theorem dX6_settled_20 : decode cX6_settled 20 = .ok (.iconst 1, 1) := by decide +kernel
theorem dX6_settled_21 : decode cX6_settled 21 = .ok (.iload_n 2, 1) := by decide +kernel
theorem dX6_settled_22 : decode cX6_settled 22 = .ok (.ishl, 1) := by decide +kernel
theorem dX6_settled_23 : decode cX6_settled 23 = .ok (.invokevirtual 130, 3) := by decide +kernel
theorem dX6_settled_26 : decode cX6_settled 26 = .ok (.bipush (-6), 2) := by decide +kernel
theorem dX6_settled_28 : decode cX6_settled 28 = .ok (.if_icmp .ne 7, 3) := by decide +kernel
theorem dX6_settled_31 : decode cX6_settled 31 = .ok (.iconst 0, 1) := by decide +kernel
theorem dX6_settled_32 : decode cX6_settled 32 = .ok (.goto 6, 3) := by decide +kernel
theorem dX6_settled_35 : decode cX6_settled 35 = .ok (.iconst 1, 1) := by decide +kernel
theorem dX6_settled_36 : decode cX6_settled 36 = .ok (.iload_n 2, 1) := by decide +kernel
theorem dX6_settled_37 : decode cX6_settled 37 = .ok (.ishl, 1) := by decide +kernel
theorem dX6_settled_38 : decode cX6_settled 38 = .ok (.ior, 1) := by decide +kernel
theorem dX6_settled_39 : decode cX6_settled 39 = .ok (.istore_n 1, 1) := by decide +kernel
theorem dX6_settled_40 : decode cX6_settled 40 = .ok (.iinc 2 1, 3) := by decide +kernel
theorem dX6_settled_43 : decode cX6_settled 43 = .ok (.goto (-35), 3) := by decide +kernel
theorem dX6_settled_46 : decode cX6_settled 46 = .ok (.iload_n 1, 1) := by decide +kernel
theorem dX6_settled_47 : decode cX6_settled 47 = .ok (.ireturn, 1) := by decide +kernel
set_option maxRecDepth 20000 in
theorem ggX6_count_X6_rulesIn : GoodIn wsX6_count wsX6_rulesIn := goodIn_r _ [8, 1, 9, 10, 11, 12, 7, 13, 14, 15, 16, 17, 18, 19, 20, 21, 22, 23, 24, 25, 26, 27, 28, 29, 30, 43, 44, 45, 46, 47, 48, 49, 50, 51, 52, 53, 54, 55, 56, 57, 58, 59, 60, 61, 62] (by decide +kernel) (by decide +kernel)
set_option maxRecDepth 20000 in
theorem gX6_count_X6_rulesIn : GoodIn wsX6_count (wsV RX6 88 RX6 yX6_rulesIn wsX6_rulesIn) := goodIn_app (goodIn_of _ (by decide +kernel)) ggX6_count_X6_rulesIn
set_option maxRecDepth 20000 in
theorem ggX6_count_X6_answers : GoodIn wsX6_count wsX6_answers := goodIn_r _ [34, 1, 4, 5, 6, 7, 8, 9, 10, 11, 12, 13, 14, 15, 16, 17, 18, 19, 20, 21, 22, 23, 24, 25, 26, 27, 28, 29, 30, 43, 44, 45, 46, 47, 48, 49, 50, 51, 52, 53, 54, 55, 56, 57, 58, 59, 60, 61, 62] (by decide +kernel) (by decide +kernel)
set_option maxRecDepth 20000 in
theorem gX6_count_X6_answers : GoodIn wsX6_count (wsV RX6 127 RX6 yX6_answers wsX6_answers) := goodIn_app (goodIn_of _ (by decide +kernel)) ggX6_count_X6_answers
set_option maxRecDepth 20000 in
theorem ggX6_count_X6_settled : GoodIn wsX6_count wsX6_settled := goodIn_r _ [38, 1, 10, 11, 12, 7, 13, 14, 15, 9, 16, 17, 18, 19, 20, 21, 22, 23, 24, 25, 26, 27, 28, 29, 30, 39, 40, 41, 42, 43, 44, 45, 46, 47, 48, 49, 50, 51, 52, 53, 54, 55, 56, 57, 58, 59, 60, 61, 62] (by decide +kernel) (by decide +kernel)
set_option maxRecDepth 20000 in
theorem gX6_count_X6_settled : GoodIn wsX6_count (wsV RX6 139 RX6 yX6_settled wsX6_settled) := goodIn_app (goodIn_of _ (by decide +kernel)) ggX6_count_X6_settled
theorem dX6_count_0 : decode cX6_count 0 = .ok (.iload_n 1, 1) := by decide +kernel
theorem dX6_count_1 : decode cX6_count 1 = .ok (.tableswitch 93 0 8 #[51, 58, 58, 58, 66, 71, 76, 83, 88], 51) := by decide +kernel
theorem dX6_count_52 : decode cX6_count 52 = .ok (.aload_n 0, 1) := by decide +kernel
theorem dX6_count_53 : decode cX6_count 53 = .ok (.getfield 7, 3) := by decide +kernel
theorem dX6_count_56 : decode cX6_count 56 = .ok (.iconst 1, 1) := by decide +kernel
theorem dX6_count_57 : decode cX6_count 57 = .ok (.iaload, 1) := by decide +kernel
theorem dX6_count_58 : decode cX6_count 58 = .ok (.ireturn, 1) := by decide +kernel
theorem dX6_count_59 : decode cX6_count 59 = .ok (.aload_n 0, 1) := by decide +kernel
theorem dX6_count_60 : decode cX6_count 60 = .ok (.iload_n 1, 1) := by decide +kernel
theorem dX6_count_61 : decode cX6_count 61 = .ok (.iconst 1, 1) := by decide +kernel
theorem dX6_count_62 : decode cX6_count 62 = .ok (.isub, 1) := by decide +kernel
theorem dX6_count_63 : decode cX6_count 63 = .ok (.invokevirtual 88, 3) := by decide +kernel
theorem dX6_count_66 : decode cX6_count 66 = .ok (.ireturn, 1) := by decide +kernel
theorem dX6_count_67 : decode cX6_count 67 = .ok (.aload_n 0, 1) := by decide +kernel
theorem dX6_count_68 : decode cX6_count 68 = .ok (.invokevirtual 127, 3) := by decide +kernel
theorem dX6_count_71 : decode cX6_count 71 = .ok (.ireturn, 1) := by decide +kernel
theorem dX6_count_72 : decode cX6_count 72 = .ok (.aload_n 0, 1) := by decide +kernel
theorem dX6_count_73 : decode cX6_count 73 = .ok (.invokevirtual 139, 3) := by decide +kernel
theorem dX6_count_76 : decode cX6_count 76 = .ok (.ireturn, 1) := by decide +kernel
theorem dX6_count_77 : decode cX6_count 77 = .ok (.aload_n 0, 1) := by decide +kernel
theorem dX6_count_78 : decode cX6_count 78 = .ok (.getfield 7, 3) := by decide +kernel
theorem dX6_count_81 : decode cX6_count 81 = .ok (.iconst 0, 1) := by decide +kernel
theorem dX6_count_82 : decode cX6_count 82 = .ok (.iaload, 1) := by decide +kernel
theorem dX6_count_83 : decode cX6_count 83 = .ok (.ireturn, 1) := by decide +kernel
theorem dX6_count_84 : decode cX6_count 84 = .ok (.aload_n 0, 1) := by decide +kernel
theorem dX6_count_85 : decode cX6_count 85 = .ok (.getfield 142, 3) := by decide +kernel
theorem dX6_count_88 : decode cX6_count 88 = .ok (.ireturn, 1) := by decide +kernel
theorem dX6_count_89 : decode cX6_count 89 = .ok (.aload_n 0, 1) := by decide +kernel
theorem dX6_count_90 : decode cX6_count 90 = .ok (.getfield 49, 3) := by decide +kernel
theorem dX6_count_93 : decode cX6_count 93 = .ok (.ireturn, 1) := by decide +kernel
theorem dX6_count_94 : decode cX6_count 94 = .ok (.bipush (-2), 2) := by decide +kernel
theorem dX6_count_96 : decode cX6_count 96 = .ok (.ireturn, 1) := by decide +kernel
set_option maxRecDepth 20000 in
theorem ggX6_answer_X6_answers : GoodIn wsX6_answer wsX6_answers := goodIn_r _ [5, 6, 7, 8, 9, 4, 10, 11, 12, 13, 14, 15, 16, 17, 18, 19, 20, 21, 22, 23, 24, 25, 26, 27, 28, 29, 30, 31, 32, 50, 51, 52, 53, 54, 55, 56, 57, 58, 59, 60, 61, 62, 63, 64, 65, 66, 67, 68, 69] (by decide +kernel) (by decide +kernel)
set_option maxRecDepth 20000 in
theorem gX6_answer_X6_answers : GoodIn wsX6_answer (wsV RX6 127 RX6 yX6_answers wsX6_answers) := goodIn_app (goodIn_of _ (by decide +kernel)) ggX6_answer_X6_answers
set_option maxRecDepth 20000 in
theorem ggX6_answer_X6_in : GoodIn wsX6_answer wsX6_in := goodIn_r _ [35] (by decide +kernel) (by decide +kernel)
set_option maxRecDepth 20000 in
theorem gX6_answer_X6_in : GoodIn wsX6_answer (va_wsS RX6 61 yX6_in wsX6_in) := goodIn_app (goodIn_of _ (by decide +kernel)) ggX6_answer_X6_in
set_option maxRecDepth 20000 in
theorem ggX6_answer_X6_isAnswer : GoodIn wsX6_answer wsX6_isAnswer := goodIn_r _ [39, 6, 11, 40, 41, 42, 4, 43, 44, 45, 46, 47, 48, 49, 50, 51, 52, 53, 54, 55, 56, 57, 58, 59, 60, 61, 62, 63, 64, 65, 66, 67, 68, 69] (by decide +kernel) (by decide +kernel)
set_option maxRecDepth 20000 in
theorem gX6_answer_X6_isAnswer : GoodIn wsX6_answer (wsV RX6 145 RX6 yX6_isAnswer wsX6_isAnswer) := goodIn_app (goodIn_of _ (by decide +kernel)) ggX6_answer_X6_isAnswer
theorem dX6_answer_0 : decode cX6_answer 0 = .ok (.iload_n 1, 1) := by decide +kernel
theorem dX6_answer_1 : decode cX6_answer 1 = .ok (.i2l, 1) := by decide +kernel
theorem dX6_answer_2 : decode cX6_answer 2 = .ok (.lconst 0, 1) := by decide +kernel
theorem dX6_answer_3 : decode cX6_answer 3 = .ok (.aload_n 0, 1) := by decide +kernel
theorem dX6_answer_4 : decode cX6_answer 4 = .ok (.invokevirtual 127, 3) := by decide +kernel
theorem dX6_answer_7 : decode cX6_answer 7 = .ok (.i2l, 1) := by decide +kernel
theorem dX6_answer_8 : decode cX6_answer 8 = .ok (.lconst 1, 1) := by decide +kernel
theorem dX6_answer_9 : decode cX6_answer 9 = .ok (.lsub, 1) := by decide +kernel
theorem dX6_answer_10 : decode cX6_answer 10 = .ok (.invokestatic 61, 3) := by decide +kernel
theorem dX6_answer_13 : decode cX6_answer 13 = .ok (.ifCond .ne 5, 3) := by decide +kernel
theorem dX6_answer_16 : decode cX6_answer 16 = .ok (.iconst (-1), 1) := by decide +kernel
theorem dX6_answer_17 : decode cX6_answer 17 = .ok (.ireturn, 1) := by decide +kernel
theorem dX6_answer_18 : decode cX6_answer 18 = .ok (.iload_n 1, 1) := by decide +kernel
theorem dX6_answer_19 : decode cX6_answer 19 = .ok (.istore_n 2, 1) := by decide +kernel
theorem dX6_answer_20 : decode cX6_answer 20 = .ok (.iconst 0, 1) := by decide +kernel
theorem dX6_answer_21 : decode cX6_answer 21 = .ok (.istore_n 3, 1) := by decide +kernel
theorem dX6_answer_22 : decode cX6_answer 22 = .ok (.iload_n 2, 1) := by decide +kernel
theorem dX6_answer_23 : decode cX6_answer 23 = .ok (.ifCond .gt 11, 3) := by decide +kernel
theorem dX6_answer_26 : decode cX6_answer 26 = .ok (.aload_n 0, 1) := by decide +kernel
theorem dX6_answer_27 : decode cX6_answer 27 = .ok (.iload_n 3, 1) := by decide +kernel
theorem dX6_answer_28 : decode cX6_answer 28 = .ok (.invokevirtual 145, 3) := by decide +kernel
theorem dX6_answer_31 : decode cX6_answer 31 = .ok (.ifCond .ne 25, 3) := by decide +kernel
theorem dX6_answer_34 : decode cX6_answer 34 = .ok (.iload_n 2, 1) := by decide +kernel
theorem dX6_answer_35 : decode cX6_answer 35 = .ok (.aload_n 0, 1) := by decide +kernel
theorem dX6_answer_36 : decode cX6_answer 36 = .ok (.iload_n 3, 1) := by decide +kernel
theorem dX6_answer_37 : decode cX6_answer 37 = .ok (.invokevirtual 145, 3) := by decide +kernel
theorem dX6_answer_40 : decode cX6_answer 40 = .ok (.ifCond .eq 7, 3) := by decide +kernel
theorem dX6_answer_43 : decode cX6_answer 43 = .ok (.iconst 1, 1) := by decide +kernel
theorem dX6_answer_44 : decode cX6_answer 44 = .ok (.goto 4, 3) := by decide +kernel
theorem dX6_answer_47 : decode cX6_answer 47 = .ok (.iconst 0, 1) := by decide +kernel
theorem dX6_answer_48 : decode cX6_answer 48 = .ok (.isub, 1) := by decide +kernel
theorem dX6_answer_49 : decode cX6_answer 49 = .ok (.istore_n 2, 1) := by decide +kernel
theorem dX6_answer_50 : decode cX6_answer 50 = .ok (.iinc 3 1, 3) := by decide +kernel
theorem dX6_answer_53 : decode cX6_answer 53 = .ok (.goto (-31), 3) := by decide +kernel
theorem dX6_answer_56 : decode cX6_answer 56 = .ok (.iload_n 3, 1) := by decide +kernel
theorem dX6_answer_57 : decode cX6_answer 57 = .ok (.ireturn, 1) := by decide +kernel
set_option maxRecDepth 20000 in
theorem ggX6_known_X6_judges : GoodIn wsX6_known wsX6_judges := goodIn_r _ [5, 6, 7, 8, 9, 10, 11, 12, 13, 14, 15, 4, 16, 17, 18, 19, 20, 21, 22, 23, 24, 36, 37, 38, 39, 40, 41, 42, 43, 44, 45, 46, 47, 48, 49, 50, 51, 52, 53, 54, 55] (by decide +kernel) (by decide +kernel)
set_option maxRecDepth 20000 in
theorem gX6_known_X6_judges : GoodIn wsX6_known (wsV RX6 85 RX6 yX6_judges wsX6_judges) := goodIn_app (goodIn_of _ (by decide +kernel)) ggX6_known_X6_judges
set_option maxRecDepth 20000 in
theorem ggX6_known_X6_masks : GoodIn wsX6_known wsX6_masks := goodIn_r _ [28, 8, 36, 37, 38, 39, 40, 41, 42, 43, 44, 45, 46, 47, 48, 49, 50, 51, 52, 53, 54, 55] (by decide +kernel) (by decide +kernel)
set_option maxRecDepth 20000 in
theorem gX6_known_X6_masks : GoodIn wsX6_known (wsV RX6 57 RX6 yX6_masks wsX6_masks) := goodIn_app (goodIn_of _ (by decide +kernel)) ggX6_known_X6_masks
set_option maxRecDepth 20000 in
theorem ggX6_known_X6_in : GoodIn wsX6_known wsX6_in := goodIn_r _ [31] (by decide +kernel) (by decide +kernel)
set_option maxRecDepth 20000 in
theorem gX6_known_X6_in : GoodIn wsX6_known (va_wsS RX6 61 yX6_in wsX6_in) := goodIn_app (goodIn_of _ (by decide +kernel)) ggX6_known_X6_in
set_option maxRecDepth 20000 in
theorem ggX6_known_X6_knownOf : GoodIn wsX6_known wsX6_knownOf := goodIn_r _ [35, 12, 11, 17, 18, 19, 4, 20, 6, 7, 21, 22, 23, 24, 8, 36, 37, 38, 39, 40, 41, 42, 43, 44, 45, 46, 47, 48, 49, 50, 51, 52, 53, 54, 55] (by decide +kernel) (by decide +kernel)
set_option maxRecDepth 20000 in
theorem gX6_known_X6_knownOf : GoodIn wsX6_known (wsV RX6 130 RX6 yX6_knownOf wsX6_knownOf) := goodIn_app (goodIn_of _ (by decide +kernel)) ggX6_known_X6_knownOf
theorem dX6_known_0 : decode cX6_known 0 = .ok (.aload_n 0, 1) := by decide +kernel
theorem dX6_known_1 : decode cX6_known 1 = .ok (.invokevirtual 85, 3) := by decide +kernel
theorem dX6_known_4 : decode cX6_known 4 = .ok (.iload_n 1, 1) := by decide +kernel
theorem dX6_known_5 : decode cX6_known 5 = .ok (.i2l, 1) := by decide +kernel
theorem dX6_known_6 : decode cX6_known 6 = .ok (.lconst 0, 1) := by decide +kernel
theorem dX6_known_7 : decode cX6_known 7 = .ok (.aload_n 0, 1) := by decide +kernel
theorem dX6_known_8 : decode cX6_known 8 = .ok (.invokevirtual 57, 3) := by decide +kernel
theorem dX6_known_11 : decode cX6_known 11 = .ok (.i2l, 1) := by decide +kernel
theorem dX6_known_12 : decode cX6_known 12 = .ok (.lconst 1, 1) := by decide +kernel
theorem dX6_known_13 : decode cX6_known 13 = .ok (.lsub, 1) := by decide +kernel
theorem dX6_known_14 : decode cX6_known 14 = .ok (.invokestatic 61, 3) := by decide +kernel
theorem dX6_known_17 : decode cX6_known 17 = .ok (.ifCond .eq 11, 3) := by decide +kernel
theorem dX6_known_20 : decode cX6_known 20 = .ok (.aload_n 0, 1) := by decide +kernel
theorem dX6_known_21 : decode cX6_known 21 = .ok (.iload_n 1, 1) := by decide +kernel
theorem dX6_known_22 : decode cX6_known 22 = .ok (.invokevirtual 130, 3) := by decide +kernel
theorem dX6_known_25 : decode cX6_known 25 = .ok (.goto 5, 3) := by decide +kernel
theorem dX6_known_28 : decode cX6_known 28 = .ok (.bipush (-2), 2) := by decide +kernel
theorem dX6_known_30 : decode cX6_known 30 = .ok (.ireturn, 1) := by decide +kernel
set_option maxRecDepth 20000 in
theorem ggX6_nearest_X6_masks : GoodIn wsX6_nearest wsX6_masks := goodIn_r _ [5, 6, 46, 47, 48, 49, 50, 51, 52, 53, 54, 55, 56, 57, 58, 59, 60, 61, 62, 63, 64, 65] (by decide +kernel) (by decide +kernel)
set_option maxRecDepth 20000 in
theorem gX6_nearest_X6_masks : GoodIn wsX6_nearest (wsV RX6 57 RX6 yX6_masks wsX6_masks) := goodIn_app (goodIn_of _ (by decide +kernel)) ggX6_nearest_X6_masks
set_option maxRecDepth 20000 in
theorem ggX6_nearest_X6_in : GoodIn wsX6_nearest wsX6_in := goodIn_r _ [9] (by decide +kernel) (by decide +kernel)
set_option maxRecDepth 20000 in
theorem gX6_nearest_X6_in : GoodIn wsX6_nearest (va_wsS RX6 61 yX6_in wsX6_in) := goodIn_app (goodIn_of _ (by decide +kernel)) ggX6_nearest_X6_in
set_option maxRecDepth 20000 in
theorem ggX6_nearest_X6_judges : GoodIn wsX6_nearest wsX6_judges := goodIn_r _ [13, 14, 15, 6, 16, 17, 18, 19, 20, 21, 22, 4, 23, 24, 25, 26, 27, 28, 29, 30, 31, 46, 47, 48, 49, 50, 51, 52, 53, 54, 55, 56, 57, 58, 59, 60, 61, 62, 63, 64, 65] (by decide +kernel) (by decide +kernel)
set_option maxRecDepth 20000 in
theorem gX6_nearest_X6_judges : GoodIn wsX6_nearest (wsV RX6 85 RX6 yX6_judges wsX6_judges) := goodIn_app (goodIn_of _ (by decide +kernel)) ggX6_nearest_X6_judges
set_option maxRecDepth 20000 in
theorem ggX6_nearest_X6_bits : GoodIn wsX6_nearest wsX6_bits := goodIn_r _ [34] (by decide +kernel) (by decide +kernel)
set_option maxRecDepth 20000 in
theorem gX6_nearest_X6_bits : GoodIn wsX6_nearest (va_wsS RX6 53 yX6_bits wsX6_bits) := goodIn_app (goodIn_of _ (by decide +kernel)) ggX6_nearest_X6_bits
set_option maxRecDepth 20000 in
theorem ggX6_nearest_X6_isAnswer : GoodIn wsX6_nearest wsX6_isAnswer := goodIn_r _ [38, 6, 16, 39, 40, 41, 4, 42, 43, 44, 45, 32, 33, 34, 46, 47, 48, 49, 50, 51, 52, 53, 54, 55, 56, 57, 58, 59, 60, 61, 62, 63, 64, 65] (by decide +kernel) (by decide +kernel)
set_option maxRecDepth 20000 in
theorem gX6_nearest_X6_isAnswer : GoodIn wsX6_nearest (wsV RX6 145 RX6 yX6_isAnswer wsX6_isAnswer) := goodIn_app (goodIn_of _ (by decide +kernel)) ggX6_nearest_X6_isAnswer
theorem dX6_nearest_0 : decode cX6_nearest 0 = .ok (.iload_n 1, 1) := by decide +kernel
theorem dX6_nearest_1 : decode cX6_nearest 1 = .ok (.i2l, 1) := by decide +kernel
theorem dX6_nearest_2 : decode cX6_nearest 2 = .ok (.lconst 0, 1) := by decide +kernel
theorem dX6_nearest_3 : decode cX6_nearest 3 = .ok (.aload_n 0, 1) := by decide +kernel
theorem dX6_nearest_4 : decode cX6_nearest 4 = .ok (.invokevirtual 57, 3) := by decide +kernel
theorem dX6_nearest_7 : decode cX6_nearest 7 = .ok (.i2l, 1) := by decide +kernel
theorem dX6_nearest_8 : decode cX6_nearest 8 = .ok (.lconst 1, 1) := by decide +kernel
theorem dX6_nearest_9 : decode cX6_nearest 9 = .ok (.lsub, 1) := by decide +kernel
theorem dX6_nearest_10 : decode cX6_nearest 10 = .ok (.invokestatic 61, 3) := by decide +kernel
theorem dX6_nearest_13 : decode cX6_nearest 13 = .ok (.ifCond .eq 13, 3) := by decide +kernel
theorem dX6_nearest_16 : decode cX6_nearest 16 = .ok (.iload_n 2, 1) := by decide +kernel
theorem dX6_nearest_17 : decode cX6_nearest 17 = .ok (.i2l, 1) := by decide +kernel
theorem dX6_nearest_18 : decode cX6_nearest 18 = .ok (.lconst 0, 1) := by decide +kernel
theorem dX6_nearest_19 : decode cX6_nearest 19 = .ok (.lconst 1, 1) := by decide +kernel
theorem dX6_nearest_20 : decode cX6_nearest 20 = .ok (.invokestatic 61, 3) := by decide +kernel
theorem dX6_nearest_23 : decode cX6_nearest 23 = .ok (.ifCond .ne 6, 3) := by decide +kernel
theorem dX6_nearest_26 : decode cX6_nearest 26 = .ok (.bipush (-2), 2) := by decide +kernel
theorem dX6_nearest_28 : decode cX6_nearest 28 = .ok (.ireturn, 1) := by decide +kernel
theorem dX6_nearest_29 : decode cX6_nearest 29 = .ok (.aload_n 0, 1) := by decide +kernel
theorem dX6_nearest_30 : decode cX6_nearest 30 = .ok (.invokevirtual 85, 3) := by decide +kernel
theorem dX6_nearest_33 : decode cX6_nearest 33 = .ok (.bipush (-6), 2) := by decide +kernel
theorem dX6_nearest_35 : decode cX6_nearest 35 = .ok (.istore_n 3, 1) := by decide +kernel
theorem dX6_nearest_36 : decode cX6_nearest 36 = .ok (.bipush 13, 2) := by decide +kernel
theorem dX6_nearest_38 : decode cX6_nearest 38 = .ok (.istore 4, 2) := by decide +kernel
theorem dX6_nearest_40 : decode cX6_nearest 40 = .ok (.iconst 0, 1) := by decide +kernel
theorem dX6_nearest_41 : decode cX6_nearest 41 = .ok (.istore 5, 2) := by decide +kernel
theorem dX6_nearest_43 : decode cX6_nearest 43 = .ok (.iload 5, 2) := by decide +kernel
theorem dX6_nearest_45 : decode cX6_nearest 45 = .ok (.aload_n 0, 1) := by decide +kernel
theorem dX6_nearest_46 : decode cX6_nearest 46 = .ok (.invokevirtual 57, 3) := by decide +kernel
theorem dX6_nearest_49 : decode cX6_nearest 49 = .ok (.if_icmp .ge 67, 3) := by decide +kernel
theorem dX6_nearest_52 : decode cX6_nearest 52 = .ok (.iload 5, 2) := by decide +kernel
theorem dX6_nearest_54 : decode cX6_nearest 54 = .ok (.iload_n 1, 1) := by decide +kernel
theorem dX6_nearest_55 : decode cX6_nearest 55 = .ok (.ixor, 1) := by decide +kernel
theorem dX6_nearest_56 : decode cX6_nearest 56 = .ok (.invokestatic 53, 3) := by decide +kernel
theorem dX6_nearest_59 : decode cX6_nearest 59 = .ok (.istore 6, 2) := by decide +kernel
theorem dX6_nearest_61 : decode cX6_nearest 61 = .ok (.iload 6, 2) := by decide +kernel
theorem dX6_nearest_63 : decode cX6_nearest 63 = .ok (.iload 4, 2) := by decide +kernel
theorem dX6_nearest_65 : decode cX6_nearest 65 = .ok (.if_icmp .ge 16, 3) := by decide +kernel
theorem dX6_nearest_68 : decode cX6_nearest 68 = .ok (.aload_n 0, 1) := by decide +kernel
theorem dX6_nearest_69 : decode cX6_nearest 69 = .ok (.iload 5, 2) := by decide +kernel
theorem dX6_nearest_71 : decode cX6_nearest 71 = .ok (.invokevirtual 145, 3) := by decide +kernel
theorem dX6_nearest_74 : decode cX6_nearest 74 = .ok (.ifCond .eq 7, 3) := by decide +kernel
theorem dX6_nearest_77 : decode cX6_nearest 77 = .ok (.iconst 1, 1) := by decide +kernel
theorem dX6_nearest_78 : decode cX6_nearest 78 = .ok (.goto 4, 3) := by decide +kernel
theorem dX6_nearest_81 : decode cX6_nearest 81 = .ok (.iconst 0, 1) := by decide +kernel
theorem dX6_nearest_82 : decode cX6_nearest 82 = .ok (.istore 7, 2) := by decide +kernel
theorem dX6_nearest_84 : decode cX6_nearest 84 = .ok (.iload 7, 2) := by decide +kernel
theorem dX6_nearest_86 : decode cX6_nearest 86 = .ok (.ifCond .eq 8, 3) := by decide +kernel
theorem dX6_nearest_89 : decode cX6_nearest 89 = .ok (.iload 5, 2) := by decide +kernel
theorem dX6_nearest_91 : decode cX6_nearest 91 = .ok (.goto 4, 3) := by decide +kernel
theorem dX6_nearest_94 : decode cX6_nearest 94 = .ok (.iload_n 3, 1) := by decide +kernel
theorem dX6_nearest_95 : decode cX6_nearest 95 = .ok (.istore_n 3, 1) := by decide +kernel
theorem dX6_nearest_96 : decode cX6_nearest 96 = .ok (.iload 7, 2) := by decide +kernel
theorem dX6_nearest_98 : decode cX6_nearest 98 = .ok (.ifCond .eq 8, 3) := by decide +kernel
theorem dX6_nearest_101 : decode cX6_nearest 101 = .ok (.iload 6, 2) := by decide +kernel
theorem dX6_nearest_103 : decode cX6_nearest 103 = .ok (.goto 5, 3) := by decide +kernel
theorem dX6_nearest_106 : decode cX6_nearest 106 = .ok (.iload 4, 2) := by decide +kernel
theorem dX6_nearest_108 : decode cX6_nearest 108 = .ok (.istore 4, 2) := by decide +kernel
theorem dX6_nearest_110 : decode cX6_nearest 110 = .ok (.iinc 5 1, 3) := by decide +kernel
theorem dX6_nearest_113 : decode cX6_nearest 113 = .ok (.goto (-70), 3) := by decide +kernel
theorem dX6_nearest_116 : decode cX6_nearest 116 = .ok (.iload_n 2, 1) := by decide +kernel
theorem dX6_nearest_117 : decode cX6_nearest 117 = .ok (.ifCond .ne 7, 3) := by decide +kernel
theorem dX6_nearest_120 : decode cX6_nearest 120 = .ok (.iload_n 3, 1) := by decide +kernel
theorem dX6_nearest_121 : decode cX6_nearest 121 = .ok (.goto 5, 3) := by decide +kernel
theorem dX6_nearest_124 : decode cX6_nearest 124 = .ok (.iload 4, 2) := by decide +kernel
theorem dX6_nearest_126 : decode cX6_nearest 126 = .ok (.ireturn, 1) := by decide +kernel
set_option maxRecDepth 20000 in
theorem ggX6_broken_X6_fits : GoodIn wsX6_broken wsX6_fits := goodIn_r _ [6, 1, 7, 8, 5, 9, 10, 11, 12, 13, 14, 15, 16, 17, 18, 19, 20, 21, 22, 23, 24, 25, 26, 27, 28, 29, 30, 31, 32] (by decide +kernel) (by decide +kernel)
set_option maxRecDepth 20000 in
theorem gX6_broken_X6_fits : GoodIn wsX6_broken (wsV RX6 91 RX6 yX6_fits wsX6_fits) := goodIn_app (goodIn_of _ (by decide +kernel)) ggX6_broken_X6_fits
theorem dX6_broken_0 : decode cX6_broken 0 = .ok (.iconst 0, 1) := by decide +kernel
theorem dX6_broken_1 : decode cX6_broken 1 = .ok (.istore_n 2, 1) := by decide +kernel
theorem dX6_broken_2 : decode cX6_broken 2 = .ok (.iconst 0, 1) := by decide +kernel
theorem dX6_broken_3 : decode cX6_broken 3 = .ok (.istore_n 3, 1) := by decide +kernel
theorem dX6_broken_4 : decode cX6_broken 4 = .ok (.iload_n 3, 1) := by decide +kernel
theorem dX6_broken_5 : decode cX6_broken 5 = .ok (.aload_n 0, 1) := by decide +kernel
theorem dX6_broken_6 : decode cX6_broken 6 = .ok (.getfield 7, 3) := by decide +kernel
theorem dX6_broken_9 : decode cX6_broken 9 = .ok (.iconst 1, 1) := by decide +kernel
theorem dX6_broken_10 : decode cX6_broken 10 = .ok (.iaload, 1) := by decide +kernel
theorem dX6_broken_11 : decode cX6_broken 11 = .ok (.if_icmp .ge 26, 3) := by decide +kernel
theorem dX6_broken_14 : decode cX6_broken 14 = .ok (.iload_n 2, 1) := by decide +kernel
theorem dX6_broken_15 : decode cX6_broken 15 = .ok (.aload_n 0, 1) := by decide +kernel
theorem dX6_broken_16 : decode cX6_broken 16 = .ok (.iload_n 1, 1) := by decide +kernel
theorem dX6_broken_17 : decode cX6_broken 17 = .ok (.iload_n 3, 1) := by decide +kernel
theorem dX6_broken_18 : decode cX6_broken 18 = .ok (.invokevirtual 91, 3) := by decide +kernel
theorem dX6_broken_21 : decode cX6_broken 21 = .ok (.ifCond .eq 7, 3) := by decide +kernel
theorem dX6_broken_24 : decode cX6_broken 24 = .ok (.iconst 0, 1) := by decide +kernel
theorem dX6_broken_25 : decode cX6_broken 25 = .ok (.goto 4, 3) := by decide +kernel
theorem dX6_broken_28 : decode cX6_broken 28 = .ok (.iconst 1, 1) := by decide +kernel
theorem dX6_broken_29 : decode cX6_broken 29 = .ok (.iadd, 1) := by decide +kernel
theorem dX6_broken_30 : decode cX6_broken 30 = .ok (.istore_n 2, 1) := by decide +kernel
theorem dX6_broken_31 : decode cX6_broken 31 = .ok (.iinc 3 1, 3) := by decide +kernel
theorem dX6_broken_34 : decode cX6_broken 34 = .ok (.goto (-30), 3) := by decide +kernel
theorem dX6_broken_37 : decode cX6_broken 37 = .ok (.iload_n 2, 1) := by decide +kernel
theorem dX6_broken_38 : decode cX6_broken 38 = .ok (.ireturn, 1) := by decide +kernel
set_option maxRecDepth 20000 in
theorem ggX6_best_X6_in : GoodIn wsX6_best wsX6_in := goodIn_r _ [5] (by decide +kernel) (by decide +kernel)
set_option maxRecDepth 20000 in
theorem gX6_best_X6_in : GoodIn wsX6_best (va_wsS RX6 61 yX6_in wsX6_in) := goodIn_app (goodIn_of _ (by decide +kernel)) ggX6_best_X6_in
set_option maxRecDepth 20000 in
theorem ggX6_best_X6_masks : GoodIn wsX6_best wsX6_masks := goodIn_r _ [9, 10, 25, 26, 27, 28, 29, 30, 31, 32, 33, 34, 35, 36, 37, 38, 39, 40, 41, 42, 43, 44] (by decide +kernel) (by decide +kernel)
set_option maxRecDepth 20000 in
theorem gX6_best_X6_masks : GoodIn wsX6_best (wsV RX6 57 RX6 yX6_masks wsX6_masks) := goodIn_app (goodIn_of _ (by decide +kernel)) ggX6_best_X6_masks
set_option maxRecDepth 20000 in
theorem ggX6_best_X6_broken : GoodIn wsX6_best wsX6_broken := goodIn_r _ [14, 10, 15, 16, 17, 4, 18, 19, 20, 21, 22, 23, 24, 25, 26, 27, 28, 29, 30, 31, 32, 33, 34, 35, 36, 37, 38, 39, 40, 41, 42, 43, 44] (by decide +kernel) (by decide +kernel)
set_option maxRecDepth 20000 in
theorem gX6_best_X6_broken : GoodIn wsX6_best (wsV RX6 150 RX6 yX6_broken wsX6_broken) := goodIn_app (goodIn_of _ (by decide +kernel)) ggX6_best_X6_broken
theorem dX6_best_0 : decode cX6_best 0 = .ok (.iload_n 1, 1) := by decide +kernel
theorem dX6_best_1 : decode cX6_best 1 = .ok (.i2l, 1) := by decide +kernel
theorem dX6_best_2 : decode cX6_best 2 = .ok (.lconst 0, 1) := by decide +kernel
theorem dX6_best_3 : decode cX6_best 3 = .ok (.ldc2_w 148, 3) := by decide +kernel
theorem dX6_best_6 : decode cX6_best 6 = .ok (.invokestatic 61, 3) := by decide +kernel
theorem dX6_best_9 : decode cX6_best 9 = .ok (.ifCond .ne 6, 3) := by decide +kernel
theorem dX6_best_12 : decode cX6_best 12 = .ok (.bipush (-2), 2) := by decide +kernel
theorem dX6_best_14 : decode cX6_best 14 = .ok (.ireturn, 1) := by decide +kernel
theorem dX6_best_15 : decode cX6_best 15 = .ok (.iconst 0, 1) := by decide +kernel
theorem dX6_best_16 : decode cX6_best 16 = .ok (.istore_n 2, 1) := by decide +kernel
theorem dX6_best_17 : decode cX6_best 17 = .ok (.bipush 21, 2) := by decide +kernel
theorem dX6_best_19 : decode cX6_best 19 = .ok (.istore_n 3, 1) := by decide +kernel
theorem dX6_best_20 : decode cX6_best 20 = .ok (.iconst 0, 1) := by decide +kernel
theorem dX6_best_21 : decode cX6_best 21 = .ok (.istore 4, 2) := by decide +kernel
theorem dX6_best_23 : decode cX6_best 23 = .ok (.iconst 0, 1) := by decide +kernel
theorem dX6_best_24 : decode cX6_best 24 = .ok (.istore 5, 2) := by decide +kernel
theorem dX6_best_26 : decode cX6_best 26 = .ok (.iload 5, 2) := by decide +kernel
theorem dX6_best_28 : decode cX6_best 28 = .ok (.aload_n 0, 1) := by decide +kernel
theorem dX6_best_29 : decode cX6_best 29 = .ok (.invokevirtual 57, 3) := by decide +kernel
theorem dX6_best_32 : decode cX6_best 32 = .ok (.if_icmp .ge 70, 3) := by decide +kernel
theorem dX6_best_35 : decode cX6_best 35 = .ok (.aload_n 0, 1) := by decide +kernel
theorem dX6_best_36 : decode cX6_best 36 = .ok (.iload 5, 2) := by decide +kernel
theorem dX6_best_38 : decode cX6_best 38 = .ok (.invokevirtual 150, 3) := by decide +kernel
theorem dX6_best_41 : decode cX6_best 41 = .ok (.istore 6, 2) := by decide +kernel
theorem dX6_best_43 : decode cX6_best 43 = .ok (.iload 6, 2) := by decide +kernel
theorem dX6_best_45 : decode cX6_best 45 = .ok (.iload_n 3, 1) := by decide +kernel
theorem dX6_best_46 : decode cX6_best 46 = .ok (.if_icmp .ge 7, 3) := by decide +kernel
theorem dX6_best_49 : decode cX6_best 49 = .ok (.iconst 1, 1) := by decide +kernel
theorem dX6_best_50 : decode cX6_best 50 = .ok (.goto 18, 3) := by decide +kernel
theorem dX6_best_53 : decode cX6_best 53 = .ok (.iload 6, 2) := by decide +kernel
theorem dX6_best_55 : decode cX6_best 55 = .ok (.iload_n 3, 1) := by decide +kernel
theorem dX6_best_56 : decode cX6_best 56 = .ok (.if_icmp .ne 10, 3) := by decide +kernel
theorem dX6_best_59 : decode cX6_best 59 = .ok (.iload 4, 2) := by decide +kernel
theorem dX6_best_61 : decode cX6_best 61 = .ok (.iconst 1, 1) := by decide +kernel
theorem dX6_best_62 : decode cX6_best 62 = .ok (.iadd, 1) := by decide +kernel
theorem dX6_best_63 : decode cX6_best 63 = .ok (.goto 5, 3) := by decide +kernel
theorem dX6_best_66 : decode cX6_best 66 = .ok (.iload 4, 2) := by decide +kernel
theorem dX6_best_68 : decode cX6_best 68 = .ok (.istore 4, 2) := by decide +kernel
theorem dX6_best_70 : decode cX6_best 70 = .ok (.iload 6, 2) := by decide +kernel
theorem dX6_best_72 : decode cX6_best 72 = .ok (.iload_n 3, 1) := by decide +kernel
theorem dX6_best_73 : decode cX6_best 73 = .ok (.if_icmp .ge 8, 3) := by decide +kernel
theorem dX6_best_76 : decode cX6_best 76 = .ok (.iload 5, 2) := by decide +kernel
theorem dX6_best_78 : decode cX6_best 78 = .ok (.goto 4, 3) := by decide +kernel
theorem dX6_best_81 : decode cX6_best 81 = .ok (.iload_n 2, 1) := by decide +kernel
theorem dX6_best_82 : decode cX6_best 82 = .ok (.istore_n 2, 1) := by decide +kernel
theorem dX6_best_83 : decode cX6_best 83 = .ok (.iload 6, 2) := by decide +kernel
theorem dX6_best_85 : decode cX6_best 85 = .ok (.iload_n 3, 1) := by decide +kernel
theorem dX6_best_86 : decode cX6_best 86 = .ok (.if_icmp .ge 8, 3) := by decide +kernel
theorem dX6_best_89 : decode cX6_best 89 = .ok (.iload 6, 2) := by decide +kernel
theorem dX6_best_91 : decode cX6_best 91 = .ok (.goto 4, 3) := by decide +kernel
theorem dX6_best_94 : decode cX6_best 94 = .ok (.iload_n 3, 1) := by decide +kernel
theorem dX6_best_95 : decode cX6_best 95 = .ok (.istore_n 3, 1) := by decide +kernel
theorem dX6_best_96 : decode cX6_best 96 = .ok (.iinc 5 1, 3) := by decide +kernel
theorem dX6_best_99 : decode cX6_best 99 = .ok (.goto (-73), 3) := by decide +kernel
theorem dX6_best_102 : decode cX6_best 102 = .ok (.iload_n 1, 1) := by decide +kernel
theorem dX6_best_103 : decode cX6_best 103 = .ok (.ifCond .ne 7, 3) := by decide +kernel
theorem dX6_best_106 : decode cX6_best 106 = .ok (.iload_n 2, 1) := by decide +kernel
theorem dX6_best_107 : decode cX6_best 107 = .ok (.goto 14, 3) := by decide +kernel
theorem dX6_best_110 : decode cX6_best 110 = .ok (.iload_n 1, 1) := by decide +kernel
theorem dX6_best_111 : decode cX6_best 111 = .ok (.iconst 1, 1) := by decide +kernel
theorem dX6_best_112 : decode cX6_best 112 = .ok (.if_icmp .ne 7, 3) := by decide +kernel
theorem dX6_best_115 : decode cX6_best 115 = .ok (.iload_n 3, 1) := by decide +kernel
theorem dX6_best_116 : decode cX6_best 116 = .ok (.goto 5, 3) := by decide +kernel
theorem dX6_best_119 : decode cX6_best 119 = .ok (.iload 4, 2) := by decide +kernel
theorem dX6_best_121 : decode cX6_best 121 = .ok (.ireturn, 1) := by decide +kernel
set_option maxRecDepth 20000 in
theorem ggX6_ifTold_X6_isSet : GoodIn wsX6_ifTold wsX6_isSet := goodIn_r _ [5, 6, 7, 8, 4, 9, 10, 11, 12, 13, 36, 37, 38, 39, 40, 41, 42, 43, 44, 45, 46, 47, 48, 49, 50, 51, 52, 53, 54, 55] (by decide +kernel) (by decide +kernel)
set_option maxRecDepth 20000 in
theorem gX6_ifTold_X6_isSet : GoodIn wsX6_ifTold (wsV RX6 103 RX6 yX6_isSet wsX6_isSet) := goodIn_app (goodIn_of _ (by decide +kernel)) ggX6_ifTold_X6_isSet
set_option maxRecDepth 20000 in
theorem ggX6_ifTold_X6_in : GoodIn wsX6_ifTold wsX6_in := goodIn_r _ [13] (by decide +kernel) (by decide +kernel)
set_option maxRecDepth 20000 in
theorem gX6_ifTold_X6_in : GoodIn wsX6_ifTold (va_wsS RX6 61 yX6_in wsX6_in) := goodIn_app (goodIn_of _ (by decide +kernel)) ggX6_ifTold_X6_in
set_option maxRecDepth 20000 in
theorem ggX6_ifTold_X6_judges : GoodIn wsX6_ifTold wsX6_judges := goodIn_r _ [17, 18, 19, 10, 20, 21, 22, 23, 24, 25, 26, 4, 27, 28, 29, 30, 31, 32, 33, 34, 35, 36, 37, 38, 39, 40, 41, 42, 43, 44, 45, 46, 47, 48, 49, 50, 51, 52, 53, 54, 55] (by decide +kernel) (by decide +kernel)
set_option maxRecDepth 20000 in
theorem gX6_ifTold_X6_judges : GoodIn wsX6_ifTold (wsV RX6 85 RX6 yX6_judges wsX6_judges) := goodIn_app (goodIn_of _ (by decide +kernel)) ggX6_ifTold_X6_judges
set_option maxRecDepth 20000 in
theorem ggX6_ifTold_X6_stateOf : GoodIn wsX6_ifTold wsX6_stateOf := goodIn_r _ [27, 23, 22, 28, 29, 30, 4, 31, 18, 19, 32, 33, 34, 35, 10, 36, 37, 38, 39, 40, 41, 42, 43, 44, 45, 46, 47, 48, 49, 50, 51, 52, 53, 54, 55] (by decide +kernel) (by decide +kernel)
set_option maxRecDepth 20000 in
theorem gX6_ifTold_X6_stateOf : GoodIn wsX6_ifTold (wsV RX6 81 RX6 yX6_stateOf wsX6_stateOf) := goodIn_app (goodIn_of _ (by decide +kernel)) ggX6_ifTold_X6_stateOf
theorem dX6_ifTold_0 : decode cX6_ifTold 0 = .ok (.aload_n 0, 1) := by decide +kernel
theorem dX6_ifTold_1 : decode cX6_ifTold 1 = .ok (.iload_n 1, 1) := by decide +kernel
theorem dX6_ifTold_2 : decode cX6_ifTold 2 = .ok (.invokevirtual 103, 3) := by decide +kernel
theorem dX6_ifTold_5 : decode cX6_ifTold 5 = .ok (.ifCond .eq 13, 3) := by decide +kernel
theorem dX6_ifTold_8 : decode cX6_ifTold 8 = .ok (.iload_n 2, 1) := by decide +kernel
theorem dX6_ifTold_9 : decode cX6_ifTold 9 = .ok (.i2l, 1) := by decide +kernel
theorem dX6_ifTold_10 : decode cX6_ifTold 10 = .ok (.lconst 0, 1) := by decide +kernel
theorem dX6_ifTold_11 : decode cX6_ifTold 11 = .ok (.lconst 1, 1) := by decide +kernel
theorem dX6_ifTold_12 : decode cX6_ifTold 12 = .ok (.invokestatic 61, 3) := by decide +kernel
theorem dX6_ifTold_15 : decode cX6_ifTold 15 = .ok (.ifCond .ne 6, 3) := by decide +kernel
theorem dX6_ifTold_18 : decode cX6_ifTold 18 = .ok (.bipush (-2), 2) := by decide +kernel
theorem dX6_ifTold_20 : decode cX6_ifTold 20 = .ok (.ireturn, 1) := by decide +kernel
theorem dX6_ifTold_21 : decode cX6_ifTold 21 = .ok (.aload_n 0, 1) := by decide +kernel
theorem dX6_ifTold_22 : decode cX6_ifTold 22 = .ok (.invokevirtual 85, 3) := by decide +kernel
theorem dX6_ifTold_25 : decode cX6_ifTold 25 = .ok (.aload_n 0, 1) := by decide +kernel
theorem dX6_ifTold_26 : decode cX6_ifTold 26 = .ok (.iload_n 1, 1) := by decide +kernel
theorem dX6_ifTold_27 : decode cX6_ifTold 27 = .ok (.iload_n 2, 1) := by decide +kernel
theorem dX6_ifTold_28 : decode cX6_ifTold 28 = .ok (.invokevirtual 81, 3) := by decide +kernel
theorem dX6_ifTold_31 : decode cX6_ifTold 31 = .ok (.ireturn, 1) := by decide +kernel
set_option maxRecDepth 20000 in
theorem ggX6_ifDropped_X6_isRule : GoodIn wsX6_ifDropped wsX6_isRule := goodIn_r _ [5, 6, 7, 8, 4, 9, 53, 54, 55, 56, 57, 58, 59, 60, 61, 62, 63, 64, 65, 66, 67, 68, 69, 70, 71, 72] (by decide +kernel) (by decide +kernel)
set_option maxRecDepth 20000 in
theorem gX6_ifDropped_X6_isRule : GoodIn wsX6_ifDropped (wsV RX6 118 RX6 yX6_isRule wsX6_isRule) := goodIn_app (goodIn_of _ (by decide +kernel)) ggX6_ifDropped_X6_isRule
set_option maxRecDepth 20000 in
theorem ggX6_ifDropped_X6_keep : GoodIn wsX6_ifDropped wsX6_keep := goodIn_r _ [13, 14, 6, 53, 54, 55, 56, 57, 58, 59, 60, 61, 62, 63, 64, 65, 66, 67, 68, 69, 70, 71, 72] (by decide +kernel) (by decide +kernel)
set_option maxRecDepth 20000 in
theorem gX6_ifDropped_X6_keep : GoodIn wsX6_ifDropped (wsV RX6 97 RX6 yX6_keep wsX6_keep) := goodIn_app (goodIn_of _ (by decide +kernel)) ggX6_ifDropped_X6_keep
set_option maxRecDepth 20000 in
theorem ggX6_ifDropped_X6_takesOut : GoodIn wsX6_ifDropped wsX6_takesOut := goodIn_r _ [18, 6, 53, 54, 55, 56, 57, 58, 59, 60, 61, 62, 63, 64, 65, 66, 67, 68, 69, 70, 71, 72] (by decide +kernel) (by decide +kernel)
set_option maxRecDepth 20000 in
theorem gX6_ifDropped_X6_takesOut : GoodIn wsX6_ifDropped (wsV RX6 111 RX6 yX6_takesOut wsX6_takesOut) := goodIn_app (goodIn_of _ (by decide +kernel)) ggX6_ifDropped_X6_takesOut
set_option maxRecDepth 20000 in
theorem ggX6_ifDropped_X6_answers : GoodIn wsX6_ifDropped wsX6_answers := goodIn_r _ [22, 6, 23, 24, 25, 4, 26, 27, 28, 29, 30, 31, 32, 33, 34, 35, 36, 37, 38, 39, 40, 41, 42, 43, 44, 45, 46, 47, 48, 53, 54, 55, 56, 57, 58, 59, 60, 61, 62, 63, 64, 65, 66, 67, 68, 69, 70, 71, 72] (by decide +kernel) (by decide +kernel)
set_option maxRecDepth 20000 in
theorem gX6_ifDropped_X6_answers : GoodIn wsX6_ifDropped (wsV RX6 127 RX6 yX6_answers wsX6_answers) := goodIn_app (goodIn_of _ (by decide +kernel)) ggX6_ifDropped_X6_answers
set_option maxRecDepth 20000 in
theorem ggX6_ifDropped_X6_giveBack : GoodIn wsX6_ifDropped wsX6_giveBack := goodIn_r _ [52, 6, 14, 53, 54, 55, 56, 57, 58, 59, 60, 61, 62, 63, 64, 65, 66, 67, 68, 69, 70, 71, 72] (by decide +kernel) (by decide +kernel)
set_option maxRecDepth 20000 in
theorem gX6_ifDropped_X6_giveBack : GoodIn wsX6_ifDropped (wsV RX6 153 RX6 yX6_giveBack wsX6_giveBack) := goodIn_app (goodIn_of _ (by decide +kernel)) ggX6_ifDropped_X6_giveBack
theorem dX6_ifDropped_0 : decode cX6_ifDropped 0 = .ok (.aload_n 0, 1) := by decide +kernel
theorem dX6_ifDropped_1 : decode cX6_ifDropped 1 = .ok (.iload_n 1, 1) := by decide +kernel
theorem dX6_ifDropped_2 : decode cX6_ifDropped 2 = .ok (.invokevirtual 118, 3) := by decide +kernel
theorem dX6_ifDropped_5 : decode cX6_ifDropped 5 = .ok (.ifCond .ne 5, 3) := by decide +kernel
theorem dX6_ifDropped_8 : decode cX6_ifDropped 8 = .ok (.iconst (-1), 1) := by decide +kernel
theorem dX6_ifDropped_9 : decode cX6_ifDropped 9 = .ok (.ireturn, 1) := by decide +kernel
theorem dX6_ifDropped_10 : decode cX6_ifDropped 10 = .ok (.aload_n 0, 1) := by decide +kernel
theorem dX6_ifDropped_11 : decode cX6_ifDropped 11 = .ok (.invokevirtual 97, 3) := by decide +kernel
theorem dX6_ifDropped_14 : decode cX6_ifDropped 14 = .ok (.aload_n 0, 1) := by decide +kernel
theorem dX6_ifDropped_15 : decode cX6_ifDropped 15 = .ok (.iload_n 1, 1) := by decide +kernel
theorem dX6_ifDropped_16 : decode cX6_ifDropped 16 = .ok (.invokevirtual 111, 3) := by decide +kernel
theorem dX6_ifDropped_19 : decode cX6_ifDropped 19 = .ok (.aload_n 0, 1) := by decide +kernel
theorem dX6_ifDropped_20 : decode cX6_ifDropped 20 = .ok (.invokevirtual 127, 3) := by decide +kernel
theorem dX6_ifDropped_23 : decode cX6_ifDropped 23 = .ok (.istore_n 2, 1) := by decide +kernel
theorem dX6_ifDropped_24 : decode cX6_ifDropped 24 = .ok (.aload_n 0, 1) := by decide +kernel
theorem dX6_ifDropped_25 : decode cX6_ifDropped 25 = .ok (.invokevirtual 153, 3) := by decide +kernel
theorem dX6_ifDropped_28 : decode cX6_ifDropped 28 = .ok (.iload_n 2, 1) := by decide +kernel
theorem dX6_ifDropped_29 : decode cX6_ifDropped 29 = .ok (.ireturn, 1) := by decide +kernel
set_option maxRecDepth 20000 in
theorem ggX6_ifMoved_X6_isRule : GoodIn wsX6_ifMoved wsX6_isRule := goodIn_r _ [5, 6, 7, 8, 4, 9, 57, 58, 59, 60, 61, 62, 63, 64, 65, 66, 67, 68, 69, 70, 71, 72, 73, 74, 75, 76] (by decide +kernel) (by decide +kernel)
set_option maxRecDepth 20000 in
theorem gX6_ifMoved_X6_isRule : GoodIn wsX6_ifMoved (wsV RX6 118 RX6 yX6_isRule wsX6_isRule) := goodIn_app (goodIn_of _ (by decide +kernel)) ggX6_ifMoved_X6_isRule
set_option maxRecDepth 20000 in
theorem ggX6_ifMoved_X6_keep : GoodIn wsX6_ifMoved wsX6_keep := goodIn_r _ [13, 14, 6, 57, 58, 59, 60, 61, 62, 63, 64, 65, 66, 67, 68, 69, 70, 71, 72, 73, 74, 75, 76] (by decide +kernel) (by decide +kernel)
set_option maxRecDepth 20000 in
theorem gX6_ifMoved_X6_keep : GoodIn wsX6_ifMoved (wsV RX6 97 RX6 yX6_keep wsX6_keep) := goodIn_app (goodIn_of _ (by decide +kernel)) ggX6_ifMoved_X6_keep
set_option maxRecDepth 20000 in
theorem ggX6_ifMoved_X6_moves : GoodIn wsX6_ifMoved wsX6_moves := goodIn_r _ [18, 6, 19, 20, 21, 4, 22, 23, 24, 25, 26, 57, 58, 59, 60, 61, 62, 63, 64, 65, 66, 67, 68, 69, 70, 71, 72, 73, 74, 75, 76] (by decide +kernel) (by decide +kernel)
set_option maxRecDepth 20000 in
theorem gX6_ifMoved_X6_moves : GoodIn wsX6_ifMoved (wsV RX6 121 RX6 yX6_moves wsX6_moves) := goodIn_app (goodIn_of _ (by decide +kernel)) ggX6_ifMoved_X6_moves
set_option maxRecDepth 20000 in
theorem ggX6_ifMoved_X6_rulesIn : GoodIn wsX6_ifMoved wsX6_rulesIn := goodIn_r _ [30, 6, 31, 32, 33, 34, 4, 35, 36, 37, 38, 39, 40, 41, 42, 43, 44, 45, 46, 47, 48, 49, 50, 51, 52, 57, 58, 59, 60, 61, 62, 63, 64, 65, 66, 67, 68, 69, 70, 71, 72, 73, 74, 75, 76] (by decide +kernel) (by decide +kernel)
set_option maxRecDepth 20000 in
theorem gX6_ifMoved_X6_rulesIn : GoodIn wsX6_ifMoved (wsV RX6 88 RX6 yX6_rulesIn wsX6_rulesIn) := goodIn_app (goodIn_of _ (by decide +kernel)) ggX6_ifMoved_X6_rulesIn
set_option maxRecDepth 20000 in
theorem ggX6_ifMoved_X6_giveBack : GoodIn wsX6_ifMoved wsX6_giveBack := goodIn_r _ [56, 6, 14, 57, 58, 59, 60, 61, 62, 63, 64, 65, 66, 67, 68, 69, 70, 71, 72, 73, 74, 75, 76] (by decide +kernel) (by decide +kernel)
set_option maxRecDepth 20000 in
theorem gX6_ifMoved_X6_giveBack : GoodIn wsX6_ifMoved (wsV RX6 153 RX6 yX6_giveBack wsX6_giveBack) := goodIn_app (goodIn_of _ (by decide +kernel)) ggX6_ifMoved_X6_giveBack
theorem dX6_ifMoved_0 : decode cX6_ifMoved 0 = .ok (.aload_n 0, 1) := by decide +kernel
theorem dX6_ifMoved_1 : decode cX6_ifMoved 1 = .ok (.iload_n 1, 1) := by decide +kernel
theorem dX6_ifMoved_2 : decode cX6_ifMoved 2 = .ok (.invokevirtual 118, 3) := by decide +kernel
theorem dX6_ifMoved_5 : decode cX6_ifMoved 5 = .ok (.ifCond .eq 11, 3) := by decide +kernel
theorem dX6_ifMoved_8 : decode cX6_ifMoved 8 = .ok (.aload_n 0, 1) := by decide +kernel
theorem dX6_ifMoved_9 : decode cX6_ifMoved 9 = .ok (.iload_n 2, 1) := by decide +kernel
theorem dX6_ifMoved_10 : decode cX6_ifMoved 10 = .ok (.invokevirtual 118, 3) := by decide +kernel
theorem dX6_ifMoved_13 : decode cX6_ifMoved 13 = .ok (.ifCond .ne 5, 3) := by decide +kernel
theorem dX6_ifMoved_16 : decode cX6_ifMoved 16 = .ok (.iconst (-1), 1) := by decide +kernel
theorem dX6_ifMoved_17 : decode cX6_ifMoved 17 = .ok (.ireturn, 1) := by decide +kernel
theorem dX6_ifMoved_18 : decode cX6_ifMoved 18 = .ok (.aload_n 0, 1) := by decide +kernel
theorem dX6_ifMoved_19 : decode cX6_ifMoved 19 = .ok (.invokevirtual 97, 3) := by decide +kernel
theorem dX6_ifMoved_22 : decode cX6_ifMoved 22 = .ok (.aload_n 0, 1) := by decide +kernel
theorem dX6_ifMoved_23 : decode cX6_ifMoved 23 = .ok (.iload_n 1, 1) := by decide +kernel
theorem dX6_ifMoved_24 : decode cX6_ifMoved 24 = .ok (.iload_n 2, 1) := by decide +kernel
theorem dX6_ifMoved_25 : decode cX6_ifMoved 25 = .ok (.invokevirtual 121, 3) := by decide +kernel
theorem dX6_ifMoved_28 : decode cX6_ifMoved 28 = .ok (.aload_n 0, 1) := by decide +kernel
theorem dX6_ifMoved_29 : decode cX6_ifMoved 29 = .ok (.iconst 2, 1) := by decide +kernel
theorem dX6_ifMoved_30 : decode cX6_ifMoved 30 = .ok (.invokevirtual 88, 3) := by decide +kernel
theorem dX6_ifMoved_33 : decode cX6_ifMoved 33 = .ok (.istore_n 3, 1) := by decide +kernel
theorem dX6_ifMoved_34 : decode cX6_ifMoved 34 = .ok (.aload_n 0, 1) := by decide +kernel
theorem dX6_ifMoved_35 : decode cX6_ifMoved 35 = .ok (.invokevirtual 153, 3) := by decide +kernel
theorem dX6_ifMoved_38 : decode cX6_ifMoved 38 = .ok (.iload_n 3, 1) := by decide +kernel
theorem dX6_ifMoved_39 : decode cX6_ifMoved 39 = .ok (.ireturn, 1) := by decide +kernel
set_option maxRecDepth 20000 in
theorem ggX6_put_X6_in : GoodIn wsX6_put wsX6_in := goodIn_r _ [9] (by decide +kernel) (by decide +kernel)
set_option maxRecDepth 20000 in
theorem gX6_put_X6_in : GoodIn wsX6_put (va_wsS RX6 61 yX6_in wsX6_in) := goodIn_app (goodIn_of _ (by decide +kernel)) ggX6_put_X6_in
theorem dX6_put_0 : decode cX6_put 0 = .ok (.iconst 0, 1) := by decide +kernel
theorem dX6_put_1 : decode cX6_put 1 = .ok (.istore_n 3, 1) := by decide +kernel
theorem dX6_put_2 : decode cX6_put 2 = .ok (.iconst 1, 1) := by decide +kernel
theorem dX6_put_3 : decode cX6_put 3 = .ok (.istore 4, 2) := by decide +kernel
theorem dX6_put_5 : decode cX6_put 5 = .ok (.lload_n 1, 1) := by decide +kernel
theorem dX6_put_6 : decode cX6_put 6 = .ok (.lstore 5, 2) := by decide +kernel
theorem dX6_put_8 : decode cX6_put 8 = .ok (.iload_n 3, 1) := by decide +kernel
theorem dX6_put_9 : decode cX6_put 9 = .ok (.bipush 8, 2) := by decide +kernel
theorem dX6_put_11 : decode cX6_put 11 = .ok (.if_icmp .ge 57, 3) := by decide +kernel
theorem dX6_put_14 : decode cX6_put 14 = .ok (.lload 5, 2) := by decide +kernel
theorem dX6_put_16 : decode cX6_put 16 = .ok (.ldc2_w 156, 3) := by decide +kernel
theorem dX6_put_19 : decode cX6_put 19 = .ok (.land, 1) := by decide +kernel
theorem dX6_put_20 : decode cX6_put 20 = .ok (.lconst 0, 1) := by decide +kernel
theorem dX6_put_21 : decode cX6_put 21 = .ok (.lcmp, 1) := by decide +kernel
theorem dX6_put_22 : decode cX6_put 22 = .ok (.ifCond .eq 46, 3) := by decide +kernel
theorem dX6_put_25 : decode cX6_put 25 = .ok (.iload 4, 2) := by decide +kernel
theorem dX6_put_27 : decode cX6_put 27 = .ok (.ifCond .eq 25, 3) := by decide +kernel
theorem dX6_put_30 : decode cX6_put 30 = .ok (.lload 5, 2) := by decide +kernel
theorem dX6_put_32 : decode cX6_put 32 = .ok (.ldc2_w 156, 3) := by decide +kernel
theorem dX6_put_35 : decode cX6_put 35 = .ok (.land, 1) := by decide +kernel
theorem dX6_put_36 : decode cX6_put 36 = .ok (.ldc2_w 158, 3) := by decide +kernel
theorem dX6_put_39 : decode cX6_put 39 = .ok (.ldc2_w 160, 3) := by decide +kernel
theorem dX6_put_42 : decode cX6_put 42 = .ok (.invokestatic 61, 3) := by decide +kernel
theorem dX6_put_45 : decode cX6_put 45 = .ok (.ifCond .eq 7, 3) := by decide +kernel
theorem dX6_put_48 : decode cX6_put 48 = .ok (.iconst 1, 1) := by decide +kernel
theorem dX6_put_49 : decode cX6_put 49 = .ok (.goto 4, 3) := by decide +kernel
theorem dX6_put_52 : decode cX6_put 52 = .ok (.iconst 0, 1) := by decide +kernel
theorem dX6_put_53 : decode cX6_put 53 = .ok (.istore 4, 2) := by decide +kernel
theorem dX6_put_55 : decode cX6_put 55 = .ok (.lload 5, 2) := by decide +kernel
theorem dX6_put_57 : decode cX6_put 57 = .ok (.bipush 8, 2) := by decide +kernel
theorem dX6_put_59 : decode cX6_put 59 = .ok (.lushr, 1) := by decide +kernel
theorem dX6_put_60 : decode cX6_put 60 = .ok (.lstore 5, 2) := by decide +kernel
theorem dX6_put_62 : decode cX6_put 62 = .ok (.iinc 3 1, 3) := by decide +kernel
theorem dX6_put_65 : decode cX6_put 65 = .ok (.goto (-57), 3) := by decide +kernel
theorem dX6_put_68 : decode cX6_put 68 = .ok (.iload_n 3, 1) := by decide +kernel
theorem dX6_put_69 : decode cX6_put 69 = .ok (.ifCond .eq 15, 3) := by decide +kernel
theorem dX6_put_72 : decode cX6_put 72 = .ok (.lload 5, 2) := by decide +kernel
theorem dX6_put_74 : decode cX6_put 74 = .ok (.lconst 0, 1) := by decide +kernel
theorem dX6_put_75 : decode cX6_put 75 = .ok (.lcmp, 1) := by decide +kernel
theorem dX6_put_76 : decode cX6_put 76 = .ok (.ifCond .ne 8, 3) := by decide +kernel
theorem dX6_put_79 : decode cX6_put 79 = .ok (.iload 4, 2) := by decide +kernel
theorem dX6_put_81 : decode cX6_put 81 = .ok (.ifCond .ne 6, 3) := by decide +kernel
theorem dX6_put_84 : decode cX6_put 84 = .ok (.bipush (-2), 2) := by decide +kernel
theorem dX6_put_86 : decode cX6_put 86 = .ok (.ireturn, 1) := by decide +kernel
theorem dX6_put_87 : decode cX6_put 87 = .ok (.aload_n 0, 1) := by decide +kernel
theorem dX6_put_88 : decode cX6_put 88 = .ok (.getfield 142, 3) := by decide +kernel
theorem dX6_put_91 : decode cX6_put 91 = .ok (.iload_n 3, 1) := by decide +kernel
theorem dX6_put_92 : decode cX6_put 92 = .ok (.iadd, 1) := by decide +kernel
theorem dX6_put_93 : decode cX6_put 93 = .ok (.bipush 80, 2) := by decide +kernel
theorem dX6_put_95 : decode cX6_put 95 = .ok (.if_icmp .le 6, 3) := by decide +kernel
theorem dX6_put_98 : decode cX6_put 98 = .ok (.bipush (-4), 2) := by decide +kernel
theorem dX6_put_100 : decode cX6_put 100 = .ok (.ireturn, 1) := by decide +kernel
theorem dX6_put_101 : decode cX6_put 101 = .ok (.iload_n 3, 1) := by decide +kernel
theorem dX6_put_102 : decode cX6_put 102 = .ok (.iconst 1, 1) := by decide +kernel
theorem dX6_put_103 : decode cX6_put 103 = .ok (.isub, 1) := by decide +kernel
theorem dX6_put_104 : decode cX6_put 104 = .ok (.istore 7, 2) := by decide +kernel
theorem dX6_put_106 : decode cX6_put 106 = .ok (.iload 7, 2) := by decide +kernel
theorem dX6_put_108 : decode cX6_put 108 = .ok (.ifCond .lt 40, 3) := by decide +kernel
theorem dX6_put_111 : decode cX6_put 111 = .ok (.aload_n 0, 1) := by decide +kernel
theorem dX6_put_112 : decode cX6_put 112 = .ok (.getfield 40, 3) := by decide +kernel
theorem dX6_put_115 : decode cX6_put 115 = .ok (.aload_n 0, 1) := by decide +kernel
theorem dX6_put_116 : decode cX6_put 116 = .ok (.getfield 142, 3) := by decide +kernel
theorem dX6_put_119 : decode cX6_put 119 = .ok (.lload_n 1, 1) := by decide +kernel
theorem dX6_put_120 : decode cX6_put 120 = .ok (.bipush 8, 2) := by decide +kernel
theorem dX6_put_122 : decode cX6_put 122 = .ok (.iload 7, 2) := by decide +kernel
theorem dX6_put_124 : decode cX6_put 124 = .ok (.imul, 1) := by decide +kernel
theorem dX6_put_125 : decode cX6_put 125 = .ok (.lushr, 1) := by decide +kernel
theorem dX6_put_126 : decode cX6_put 126 = .ok (.ldc2_w 156, 3) := by decide +kernel
theorem dX6_put_129 : decode cX6_put 129 = .ok (.land, 1) := by decide +kernel
theorem dX6_put_130 : decode cX6_put 130 = .ok (.l2i, 1) := by decide +kernel
theorem dX6_put_131 : decode cX6_put 131 = .ok (.iastore, 1) := by decide +kernel
theorem dX6_put_132 : decode cX6_put 132 = .ok (.aload_n 0, 1) := by decide +kernel
theorem dX6_put_133 : decode cX6_put 133 = .ok (.dup, 1) := by decide +kernel
theorem dX6_put_134 : decode cX6_put 134 = .ok (.getfield 142, 3) := by decide +kernel
theorem dX6_put_137 : decode cX6_put 137 = .ok (.iconst 1, 1) := by decide +kernel
theorem dX6_put_138 : decode cX6_put 138 = .ok (.iadd, 1) := by decide +kernel
theorem dX6_put_139 : decode cX6_put 139 = .ok (.putfield 142, 3) := by decide +kernel
theorem dX6_put_142 : decode cX6_put 142 = .ok (.iinc 7 (-1), 3) := by decide +kernel
theorem dX6_put_145 : decode cX6_put 145 = .ok (.goto (-39), 3) := by decide +kernel
theorem dX6_put_148 : decode cX6_put 148 = .ok (.aload_n 0, 1) := by decide +kernel
theorem dX6_put_149 : decode cX6_put 149 = .ok (.getfield 142, 3) := by decide +kernel
theorem dX6_put_152 : decode cX6_put 152 = .ok (.ireturn, 1) := by decide +kernel
theorem dX6_wipe_0 : decode cX6_wipe 0 = .ok (.aload_n 0, 1) := by decide +kernel
theorem dX6_wipe_1 : decode cX6_wipe 1 = .ok (.getfield 142, 3) := by decide +kernel
theorem dX6_wipe_4 : decode cX6_wipe 4 = .ok (.istore_n 1, 1) := by decide +kernel
theorem dX6_wipe_5 : decode cX6_wipe 5 = .ok (.aload_n 0, 1) := by decide +kernel
theorem dX6_wipe_6 : decode cX6_wipe 6 = .ok (.iconst 0, 1) := by decide +kernel
theorem dX6_wipe_7 : decode cX6_wipe 7 = .ok (.putfield 142, 3) := by decide +kernel
theorem dX6_wipe_10 : decode cX6_wipe 10 = .ok (.iload_n 1, 1) := by decide +kernel
theorem dX6_wipe_11 : decode cX6_wipe 11 = .ok (.ireturn, 1) := by decide +kernel
set_option maxRecDepth 20000 in
theorem ggX6_isHere_X6_in : GoodIn wsX6_isHere wsX6_in := goodIn_r _ [7] (by decide +kernel) (by decide +kernel)
set_option maxRecDepth 20000 in
theorem gX6_isHere_X6_in : GoodIn wsX6_isHere (va_wsS RX6 61 yX6_in wsX6_in) := goodIn_app (goodIn_of _ (by decide +kernel)) ggX6_isHere_X6_in
theorem dX6_isHere_0 : decode cX6_isHere 0 = .ok (.aload_n 0, 1) := by decide +kernel
theorem dX6_isHere_1 : decode cX6_isHere 1 = .ok (.getfield 162, 3) := by decide +kernel
theorem dX6_isHere_4 : decode cX6_isHere 4 = .ok (.aload_n 0, 1) := by decide +kernel
theorem dX6_isHere_5 : decode cX6_isHere 5 = .ok (.getfield 142, 3) := by decide +kernel
theorem dX6_isHere_8 : decode cX6_isHere 8 = .ok (.if_icmp .ge 27, 3) := by decide +kernel
theorem dX6_isHere_11 : decode cX6_isHere 11 = .ok (.aload_n 0, 1) := by decide +kernel
theorem dX6_isHere_12 : decode cX6_isHere 12 = .ok (.getfield 40, 3) := by decide +kernel
theorem dX6_isHere_15 : decode cX6_isHere 15 = .ok (.aload_n 0, 1) := by decide +kernel
theorem dX6_isHere_16 : decode cX6_isHere 16 = .ok (.getfield 162, 3) := by decide +kernel
theorem dX6_isHere_19 : decode cX6_isHere 19 = .ok (.iaload, 1) := by decide +kernel
theorem dX6_isHere_20 : decode cX6_isHere 20 = .ok (.i2l, 1) := by decide +kernel
theorem dX6_isHere_21 : decode cX6_isHere 21 = .ok (.iload_n 1, 1) := by decide +kernel
theorem dX6_isHere_22 : decode cX6_isHere 22 = .ok (.i2l, 1) := by decide +kernel
theorem dX6_isHere_23 : decode cX6_isHere 23 = .ok (.iload_n 2, 1) := by decide +kernel
theorem dX6_isHere_24 : decode cX6_isHere 24 = .ok (.i2l, 1) := by decide +kernel
theorem dX6_isHere_25 : decode cX6_isHere 25 = .ok (.invokestatic 61, 3) := by decide +kernel
theorem dX6_isHere_28 : decode cX6_isHere 28 = .ok (.ifCond .eq 7, 3) := by decide +kernel
theorem dX6_isHere_31 : decode cX6_isHere 31 = .ok (.iconst 1, 1) := by decide +kernel
theorem dX6_isHere_32 : decode cX6_isHere 32 = .ok (.goto 4, 3) := by decide +kernel
theorem dX6_isHere_35 : decode cX6_isHere 35 = .ok (.iconst 0, 1) := by decide +kernel
theorem dX6_isHere_36 : decode cX6_isHere 36 = .ok (.ireturn, 1) := by decide +kernel
set_option maxRecDepth 20000 in
theorem ggX6_takes_X6_isHere : GoodIn wsX6_takes wsX6_isHere := goodIn_r _ [6, 1, 7, 8, 9, 10, 5, 11, 12, 13, 14, 15, 16, 17, 18, 19, 20, 21, 22, 23, 24, 25, 26, 27, 28, 29, 30, 31] (by decide +kernel) (by decide +kernel)
set_option maxRecDepth 20000 in
theorem gX6_takes_X6_isHere : GoodIn wsX6_takes (wsV RX6 165 RX6 yX6_isHere wsX6_isHere) := goodIn_app (goodIn_of _ (by decide +kernel)) ggX6_takes_X6_isHere
theorem dX6_takes_0 : decode cX6_takes 0 = .ok (.aload_n 0, 1) := by decide +kernel
theorem dX6_takes_1 : decode cX6_takes 1 = .ok (.iload_n 1, 1) := by decide +kernel
theorem dX6_takes_2 : decode cX6_takes 2 = .ok (.iload_n 1, 1) := by decide +kernel
theorem dX6_takes_3 : decode cX6_takes 3 = .ok (.invokevirtual 165, 3) := by decide +kernel
theorem dX6_takes_6 : decode cX6_takes 6 = .ok (.istore_n 2, 1) := by decide +kernel
theorem dX6_takes_7 : decode cX6_takes 7 = .ok (.aload_n 0, 1) := by decide +kernel
theorem dX6_takes_8 : decode cX6_takes 8 = .ok (.dup, 1) := by decide +kernel
theorem dX6_takes_9 : decode cX6_takes 9 = .ok (.getfield 162, 3) := by decide +kernel
theorem dX6_takes_12 : decode cX6_takes 12 = .ok (.iload_n 2, 1) := by decide +kernel
theorem dX6_takes_13 : decode cX6_takes 13 = .ok (.ifCond .eq 7, 3) := by decide +kernel
theorem dX6_takes_16 : decode cX6_takes 16 = .ok (.iconst 1, 1) := by decide +kernel
theorem dX6_takes_17 : decode cX6_takes 17 = .ok (.goto 4, 3) := by decide +kernel
theorem dX6_takes_20 : decode cX6_takes 20 = .ok (.iconst 0, 1) := by decide +kernel
theorem dX6_takes_21 : decode cX6_takes 21 = .ok (.iadd, 1) := by decide +kernel
theorem dX6_takes_22 : decode cX6_takes 22 = .ok (.putfield 162, 3) := by decide +kernel
theorem dX6_takes_25 : decode cX6_takes 25 = .ok (.iload_n 2, 1) := by decide +kernel
theorem dX6_takes_26 : decode cX6_takes 26 = .ok (.ireturn, 1) := by decide +kernel
set_option maxRecDepth 20000 in
theorem ggX6_readsChoice_X6_isHere : GoodIn wsX6_readsChoice wsX6_isHere := goodIn_r _ [8, 2, 9, 1, 10, 11, 7, 12, 13, 14, 15, 16, 17, 18, 19, 20, 21, 22, 23, 24, 25, 26, 27, 28, 29, 30, 31, 32] (by decide +kernel) (by decide +kernel)
set_option maxRecDepth 20000 in
theorem gX6_readsChoice_X6_isHere : GoodIn wsX6_readsChoice (wsV RX6 165 RX6 yX6_isHere wsX6_isHere) := goodIn_app (goodIn_of _ (by decide +kernel)) ggX6_readsChoice_X6_isHere
theorem dX6_readsChoice_0 : decode cX6_readsChoice 0 = .ok (.aload_n 0, 1) := by decide +kernel
theorem dX6_readsChoice_1 : decode cX6_readsChoice 1 = .ok (.bipush 48, 2) := by decide +kernel
theorem dX6_readsChoice_3 : decode cX6_readsChoice 3 = .ok (.bipush 57, 2) := by decide +kernel
theorem dX6_readsChoice_5 : decode cX6_readsChoice 5 = .ok (.invokevirtual 165, 3) := by decide +kernel
theorem dX6_readsChoice_8 : decode cX6_readsChoice 8 = .ok (.ifCond .ne 5, 3) := by decide +kernel
theorem dX6_readsChoice_11 : decode cX6_readsChoice 11 = .ok (.iconst 0, 1) := by decide +kernel
theorem dX6_readsChoice_12 : decode cX6_readsChoice 12 = .ok (.ireturn, 1) := by decide +kernel
theorem dX6_readsChoice_13 : decode cX6_readsChoice 13 = .ok (.aload_n 0, 1) := by decide +kernel
theorem dX6_readsChoice_14 : decode cX6_readsChoice 14 = .ok (.getfield 40, 3) := by decide +kernel
theorem dX6_readsChoice_17 : decode cX6_readsChoice 17 = .ok (.aload_n 0, 1) := by decide +kernel
theorem dX6_readsChoice_18 : decode cX6_readsChoice 18 = .ok (.getfield 162, 3) := by decide +kernel
theorem dX6_readsChoice_21 : decode cX6_readsChoice 21 = .ok (.iaload, 1) := by decide +kernel
theorem dX6_readsChoice_22 : decode cX6_readsChoice 22 = .ok (.bipush 48, 2) := by decide +kernel
theorem dX6_readsChoice_24 : decode cX6_readsChoice 24 = .ok (.isub, 1) := by decide +kernel
theorem dX6_readsChoice_25 : decode cX6_readsChoice 25 = .ok (.istore_n 1, 1) := by decide +kernel
theorem dX6_readsChoice_26 : decode cX6_readsChoice 26 = .ok (.iload_n 1, 1) := by decide +kernel
theorem dX6_readsChoice_27 : decode cX6_readsChoice 27 = .ok (.iconst 1, 1) := by decide +kernel
theorem dX6_readsChoice_28 : decode cX6_readsChoice 28 = .ok (.if_icmp .ne 16, 3) := by decide +kernel
theorem dX6_readsChoice_31 : decode cX6_readsChoice 31 = .ok (.aload_n 0, 1) := by decide +kernel
theorem dX6_readsChoice_32 : decode cX6_readsChoice 32 = .ok (.getfield 168, 3) := by decide +kernel
theorem dX6_readsChoice_35 : decode cX6_readsChoice 35 = .ok (.bipush 11, 2) := by decide +kernel
theorem dX6_readsChoice_37 : decode cX6_readsChoice 37 = .ok (.if_icmp .ge 7, 3) := by decide +kernel
theorem dX6_readsChoice_40 : decode cX6_readsChoice 40 = .ok (.iconst 1, 1) := by decide +kernel
theorem dX6_readsChoice_41 : decode cX6_readsChoice 41 = .ok (.goto 4, 3) := by decide +kernel
theorem dX6_readsChoice_44 : decode cX6_readsChoice 44 = .ok (.iconst 0, 1) := by decide +kernel
theorem dX6_readsChoice_45 : decode cX6_readsChoice 45 = .ok (.istore_n 2, 1) := by decide +kernel
theorem dX6_readsChoice_46 : decode cX6_readsChoice 46 = .ok (.iload_n 1, 1) := by decide +kernel
theorem dX6_readsChoice_47 : decode cX6_readsChoice 47 = .ok (.aload_n 0, 1) := by decide +kernel
theorem dX6_readsChoice_48 : decode cX6_readsChoice 48 = .ok (.getfield 168, 3) := by decide +kernel
theorem dX6_readsChoice_51 : decode cX6_readsChoice 51 = .ok (.if_icmp .gt 9, 3) := by decide +kernel
theorem dX6_readsChoice_54 : decode cX6_readsChoice 54 = .ok (.iload_n 2, 1) := by decide +kernel
theorem dX6_readsChoice_55 : decode cX6_readsChoice 55 = .ok (.ifCond .ne 5, 3) := by decide +kernel
theorem dX6_readsChoice_58 : decode cX6_readsChoice 58 = .ok (.iconst 0, 1) := by decide +kernel
theorem dX6_readsChoice_59 : decode cX6_readsChoice 59 = .ok (.ireturn, 1) := by decide +kernel
theorem dX6_readsChoice_60 : decode cX6_readsChoice 60 = .ok (.aload_n 0, 1) := by decide +kernel
theorem dX6_readsChoice_61 : decode cX6_readsChoice 61 = .ok (.dup, 1) := by decide +kernel
theorem dX6_readsChoice_62 : decode cX6_readsChoice 62 = .ok (.getfield 162, 3) := by decide +kernel
theorem dX6_readsChoice_65 : decode cX6_readsChoice 65 = .ok (.iconst 1, 1) := by decide +kernel
theorem dX6_readsChoice_66 : decode cX6_readsChoice 66 = .ok (.iadd, 1) := by decide +kernel
theorem dX6_readsChoice_67 : decode cX6_readsChoice 67 = .ok (.putfield 162, 3) := by decide +kernel
theorem dX6_readsChoice_70 : decode cX6_readsChoice 70 = .ok (.iload_n 2, 1) := by decide +kernel
theorem dX6_readsChoice_71 : decode cX6_readsChoice 71 = .ok (.ifCond .eq 67, 3) := by decide +kernel
theorem dX6_readsChoice_74 : decode cX6_readsChoice 74 = .ok (.aload_n 0, 1) := by decide +kernel
theorem dX6_readsChoice_75 : decode cX6_readsChoice 75 = .ok (.bipush 48, 2) := by decide +kernel
theorem dX6_readsChoice_77 : decode cX6_readsChoice 77 = .ok (.bipush 49, 2) := by decide +kernel
theorem dX6_readsChoice_79 : decode cX6_readsChoice 79 = .ok (.invokevirtual 165, 3) := by decide +kernel
theorem dX6_readsChoice_82 : decode cX6_readsChoice 82 = .ok (.ifCond .eq 56, 3) := by decide +kernel
theorem dX6_readsChoice_85 : decode cX6_readsChoice 85 = .ok (.bipush 10, 2) := by decide +kernel
theorem dX6_readsChoice_87 : decode cX6_readsChoice 87 = .ok (.aload_n 0, 1) := by decide +kernel
theorem dX6_readsChoice_88 : decode cX6_readsChoice 88 = .ok (.getfield 40, 3) := by decide +kernel
theorem dX6_readsChoice_91 : decode cX6_readsChoice 91 = .ok (.aload_n 0, 1) := by decide +kernel
theorem dX6_readsChoice_92 : decode cX6_readsChoice 92 = .ok (.getfield 162, 3) := by decide +kernel
theorem dX6_readsChoice_95 : decode cX6_readsChoice 95 = .ok (.iaload, 1) := by decide +kernel
theorem dX6_readsChoice_96 : decode cX6_readsChoice 96 = .ok (.iadd, 1) := by decide +kernel
theorem dX6_readsChoice_97 : decode cX6_readsChoice 97 = .ok (.bipush 48, 2) := by decide +kernel
theorem dX6_readsChoice_99 : decode cX6_readsChoice 99 = .ok (.isub, 1) := by decide +kernel
theorem dX6_readsChoice_100 : decode cX6_readsChoice 100 = .ok (.aload_n 0, 1) := by decide +kernel
theorem dX6_readsChoice_101 : decode cX6_readsChoice 101 = .ok (.getfield 168, 3) := by decide +kernel
theorem dX6_readsChoice_104 : decode cX6_readsChoice 104 = .ok (.if_icmp .le 34, 3) := by decide +kernel
theorem dX6_readsChoice_107 : decode cX6_readsChoice 107 = .ok (.aload_n 0, 1) := by decide +kernel
theorem dX6_readsChoice_108 : decode cX6_readsChoice 108 = .ok (.bipush 10, 2) := by decide +kernel
theorem dX6_readsChoice_110 : decode cX6_readsChoice 110 = .ok (.aload_n 0, 1) := by decide +kernel
theorem dX6_readsChoice_111 : decode cX6_readsChoice 111 = .ok (.getfield 40, 3) := by decide +kernel
theorem dX6_readsChoice_114 : decode cX6_readsChoice 114 = .ok (.aload_n 0, 1) := by decide +kernel
theorem dX6_readsChoice_115 : decode cX6_readsChoice 115 = .ok (.getfield 162, 3) := by decide +kernel
theorem dX6_readsChoice_118 : decode cX6_readsChoice 118 = .ok (.iaload, 1) := by decide +kernel
theorem dX6_readsChoice_119 : decode cX6_readsChoice 119 = .ok (.iadd, 1) := by decide +kernel
theorem dX6_readsChoice_120 : decode cX6_readsChoice 120 = .ok (.bipush 48, 2) := by decide +kernel
theorem dX6_readsChoice_122 : decode cX6_readsChoice 122 = .ok (.isub, 1) := by decide +kernel
theorem dX6_readsChoice_123 : decode cX6_readsChoice 123 = .ok (.putfield 168, 3) := by decide +kernel
theorem dX6_readsChoice_126 : decode cX6_readsChoice 126 = .ok (.aload_n 0, 1) := by decide +kernel
theorem dX6_readsChoice_127 : decode cX6_readsChoice 127 = .ok (.dup, 1) := by decide +kernel
theorem dX6_readsChoice_128 : decode cX6_readsChoice 128 = .ok (.getfield 162, 3) := by decide +kernel
theorem dX6_readsChoice_131 : decode cX6_readsChoice 131 = .ok (.iconst 1, 1) := by decide +kernel
theorem dX6_readsChoice_132 : decode cX6_readsChoice 132 = .ok (.iadd, 1) := by decide +kernel
theorem dX6_readsChoice_133 : decode cX6_readsChoice 133 = .ok (.putfield 162, 3) := by decide +kernel
theorem dX6_readsChoice_136 : decode cX6_readsChoice 136 = .ok (.iconst 1, 1) := by decide +kernel
theorem dX6_readsChoice_137 : decode cX6_readsChoice 137 = .ok (.ireturn, 1) := by decide +kernel
theorem dX6_readsChoice_138 : decode cX6_readsChoice 138 = .ok (.iload_n 1, 1) := by decide +kernel
theorem dX6_readsChoice_139 : decode cX6_readsChoice 139 = .ok (.aload_n 0, 1) := by decide +kernel
theorem dX6_readsChoice_140 : decode cX6_readsChoice 140 = .ok (.getfield 168, 3) := by decide +kernel
theorem dX6_readsChoice_143 : decode cX6_readsChoice 143 = .ok (.if_icmp .le 7, 3) := by decide +kernel
theorem dX6_readsChoice_146 : decode cX6_readsChoice 146 = .ok (.iconst 1, 1) := by decide +kernel
theorem dX6_readsChoice_147 : decode cX6_readsChoice 147 = .ok (.goto 4, 3) := by decide +kernel
theorem dX6_readsChoice_150 : decode cX6_readsChoice 150 = .ok (.iconst 0, 1) := by decide +kernel
theorem dX6_readsChoice_151 : decode cX6_readsChoice 151 = .ok (.istore_n 3, 1) := by decide +kernel
theorem dX6_readsChoice_152 : decode cX6_readsChoice 152 = .ok (.aload_n 0, 1) := by decide +kernel
theorem dX6_readsChoice_153 : decode cX6_readsChoice 153 = .ok (.iload_n 1, 1) := by decide +kernel
theorem dX6_readsChoice_154 : decode cX6_readsChoice 154 = .ok (.putfield 168, 3) := by decide +kernel
theorem dX6_readsChoice_157 : decode cX6_readsChoice 157 = .ok (.iload_n 3, 1) := by decide +kernel
theorem dX6_readsChoice_158 : decode cX6_readsChoice 158 = .ok (.ireturn, 1) := by decide +kernel
set_option maxRecDepth 20000 in
theorem ggX6_readsRule_X6_readsChoice : GoodIn wsX6_readsRule wsX6_readsChoice := goodIn_r _ [11, 5, 6, 1, 12, 13, 14, 10, 15, 16, 17, 18, 19, 24, 25, 26, 27, 28, 29, 30, 31, 32, 33, 34, 35, 36, 37, 38, 39, 40, 41, 42, 43] (by decide +kernel) (by decide +kernel)
set_option maxRecDepth 20000 in
theorem gX6_readsRule_X6_readsChoice : GoodIn wsX6_readsRule (wsV RX6 171 RX6 yX6_readsChoice wsX6_readsChoice) := goodIn_app (goodIn_of _ (by decide +kernel)) ggX6_readsRule_X6_readsChoice
set_option maxRecDepth 20000 in
theorem ggX6_readsRule_X6_takes : GoodIn wsX6_readsRule wsX6_takes := goodIn_r _ [23, 6, 12, 13, 14, 10, 15, 16, 5, 17, 18, 19, 24, 25, 26, 27, 28, 29, 30, 31, 32, 33, 34, 35, 36, 37, 38, 39, 40, 41, 42, 43] (by decide +kernel) (by decide +kernel)
set_option maxRecDepth 20000 in
theorem gX6_readsRule_X6_takes : GoodIn wsX6_readsRule (wsV RX6 175 RX6 yX6_takes wsX6_takes) := goodIn_app (goodIn_of _ (by decide +kernel)) ggX6_readsRule_X6_takes
set_option maxRecDepth 20000 in
theorem ggX6_readsRule_X6_isHere : GoodIn wsX6_readsRule wsX6_isHere := goodIn_r _ [15, 6, 16, 5, 17, 18, 10, 19, 24, 25, 26, 27, 28, 29, 30, 31, 32, 33, 34, 35, 36, 37, 38, 39, 40, 41, 42, 43] (by decide +kernel) (by decide +kernel)
set_option maxRecDepth 20000 in
theorem gX6_readsRule_X6_isHere : GoodIn wsX6_readsRule (wsV RX6 165 RX6 yX6_isHere wsX6_isHere) := goodIn_app (goodIn_of _ (by decide +kernel)) ggX6_readsRule_X6_isHere
theorem dX6_readsRule_0 : decode cX6_readsRule 0 = .ok (.aload_n 0, 1) := by decide +kernel
theorem dX6_readsRule_1 : decode cX6_readsRule 1 = .ok (.iconst (-1), 1) := by decide +kernel
theorem dX6_readsRule_2 : decode cX6_readsRule 2 = .ok (.putfield 168, 3) := by decide +kernel
theorem dX6_readsRule_5 : decode cX6_readsRule 5 = .ok (.iconst 0, 1) := by decide +kernel
theorem dX6_readsRule_6 : decode cX6_readsRule 6 = .ok (.istore_n 1, 1) := by decide +kernel
theorem dX6_readsRule_7 : decode cX6_readsRule 7 = .ok (.iconst 1, 1) := by decide +kernel
theorem dX6_readsRule_8 : decode cX6_readsRule 8 = .ok (.istore_n 2, 1) := by decide +kernel
theorem dX6_readsRule_9 : decode cX6_readsRule 9 = .ok (.iload_n 2, 1) := by decide +kernel
theorem dX6_readsRule_10 : decode cX6_readsRule 10 = .ok (.ifCond .eq 48, 3) := by decide +kernel
theorem dX6_readsRule_13 : decode cX6_readsRule 13 = .ok (.aload_n 0, 1) := by decide +kernel
theorem dX6_readsRule_14 : decode cX6_readsRule 14 = .ok (.invokevirtual 171, 3) := by decide +kernel
theorem dX6_readsRule_17 : decode cX6_readsRule 17 = .ok (.ifCond .ne 5, 3) := by decide +kernel
theorem dX6_readsRule_20 : decode cX6_readsRule 20 = .ok (.iconst 0, 1) := by decide +kernel
theorem dX6_readsRule_21 : decode cX6_readsRule 21 = .ok (.ireturn, 1) := by decide +kernel
theorem dX6_readsRule_22 : decode cX6_readsRule 22 = .ok (.iload_n 1, 1) := by decide +kernel
theorem dX6_readsRule_23 : decode cX6_readsRule 23 = .ok (.iconst 1, 1) := by decide +kernel
theorem dX6_readsRule_24 : decode cX6_readsRule 24 = .ok (.aload_n 0, 1) := by decide +kernel
theorem dX6_readsRule_25 : decode cX6_readsRule 25 = .ok (.getfield 168, 3) := by decide +kernel
theorem dX6_readsRule_28 : decode cX6_readsRule 28 = .ok (.ishl, 1) := by decide +kernel
theorem dX6_readsRule_29 : decode cX6_readsRule 29 = .ok (.ior, 1) := by decide +kernel
theorem dX6_readsRule_30 : decode cX6_readsRule 30 = .ok (.istore_n 1, 1) := by decide +kernel
theorem dX6_readsRule_31 : decode cX6_readsRule 31 = .ok (.aload_n 0, 1) := by decide +kernel
theorem dX6_readsRule_32 : decode cX6_readsRule 32 = .ok (.getfield 168, 3) := by decide +kernel
theorem dX6_readsRule_35 : decode cX6_readsRule 35 = .ok (.bipush 11, 2) := by decide +kernel
theorem dX6_readsRule_37 : decode cX6_readsRule 37 = .ok (.if_icmp .ge 16, 3) := by decide +kernel
theorem dX6_readsRule_40 : decode cX6_readsRule 40 = .ok (.aload_n 0, 1) := by decide +kernel
theorem dX6_readsRule_41 : decode cX6_readsRule 41 = .ok (.bipush 43, 2) := by decide +kernel
theorem dX6_readsRule_43 : decode cX6_readsRule 43 = .ok (.invokevirtual 175, 3) := by decide +kernel
theorem dX6_readsRule_46 : decode cX6_readsRule 46 = .ok (.ifCond .eq 7, 3) := by decide +kernel
theorem dX6_readsRule_49 : decode cX6_readsRule 49 = .ok (.iconst 1, 1) := by decide +kernel
theorem dX6_readsRule_50 : decode cX6_readsRule 50 = .ok (.goto 4, 3) := by decide +kernel
theorem dX6_readsRule_53 : decode cX6_readsRule 53 = .ok (.iconst 0, 1) := by decide +kernel
theorem dX6_readsRule_54 : decode cX6_readsRule 54 = .ok (.istore_n 2, 1) := by decide +kernel
theorem dX6_readsRule_55 : decode cX6_readsRule 55 = .ok (.goto (-46), 3) := by decide +kernel
theorem dX6_readsRule_58 : decode cX6_readsRule 58 = .ok (.aload_n 0, 1) := by decide +kernel
theorem dX6_readsRule_59 : decode cX6_readsRule 59 = .ok (.bipush 61, 2) := by decide +kernel
theorem dX6_readsRule_61 : decode cX6_readsRule 61 = .ok (.invokevirtual 175, 3) := by decide +kernel
theorem dX6_readsRule_64 : decode cX6_readsRule 64 = .ok (.ifCond .eq 14, 3) := by decide +kernel
theorem dX6_readsRule_67 : decode cX6_readsRule 67 = .ok (.aload_n 0, 1) := by decide +kernel
theorem dX6_readsRule_68 : decode cX6_readsRule 68 = .ok (.bipush 48, 2) := by decide +kernel
theorem dX6_readsRule_70 : decode cX6_readsRule 70 = .ok (.bipush 49, 2) := by decide +kernel
theorem dX6_readsRule_72 : decode cX6_readsRule 72 = .ok (.invokevirtual 165, 3) := by decide +kernel
theorem dX6_readsRule_75 : decode cX6_readsRule 75 = .ok (.ifCond .ne 5, 3) := by decide +kernel
theorem dX6_readsRule_78 : decode cX6_readsRule 78 = .ok (.iconst 0, 1) := by decide +kernel
theorem dX6_readsRule_79 : decode cX6_readsRule 79 = .ok (.ireturn, 1) := by decide +kernel
theorem dX6_readsRule_80 : decode cX6_readsRule 80 = .ok (.aload_n 0, 1) := by decide +kernel
theorem dX6_readsRule_81 : decode cX6_readsRule 81 = .ok (.getfield 43, 3) := by decide +kernel
theorem dX6_readsRule_84 : decode cX6_readsRule 84 = .ok (.aload_n 0, 1) := by decide +kernel
theorem dX6_readsRule_85 : decode cX6_readsRule 85 = .ok (.getfield 178, 3) := by decide +kernel
theorem dX6_readsRule_88 : decode cX6_readsRule 88 = .ok (.iload_n 1, 1) := by decide +kernel
theorem dX6_readsRule_89 : decode cX6_readsRule 89 = .ok (.iastore, 1) := by decide +kernel
theorem dX6_readsRule_90 : decode cX6_readsRule 90 = .ok (.aload_n 0, 1) := by decide +kernel
theorem dX6_readsRule_91 : decode cX6_readsRule 91 = .ok (.getfield 46, 3) := by decide +kernel
theorem dX6_readsRule_94 : decode cX6_readsRule 94 = .ok (.aload_n 0, 1) := by decide +kernel
theorem dX6_readsRule_95 : decode cX6_readsRule 95 = .ok (.getfield 178, 3) := by decide +kernel
theorem dX6_readsRule_98 : decode cX6_readsRule 98 = .ok (.aload_n 0, 1) := by decide +kernel
theorem dX6_readsRule_99 : decode cX6_readsRule 99 = .ok (.getfield 40, 3) := by decide +kernel
theorem dX6_readsRule_102 : decode cX6_readsRule 102 = .ok (.aload_n 0, 1) := by decide +kernel
theorem dX6_readsRule_103 : decode cX6_readsRule 103 = .ok (.getfield 162, 3) := by decide +kernel
theorem dX6_readsRule_106 : decode cX6_readsRule 106 = .ok (.iaload, 1) := by decide +kernel
theorem dX6_readsRule_107 : decode cX6_readsRule 107 = .ok (.bipush 48, 2) := by decide +kernel
theorem dX6_readsRule_109 : decode cX6_readsRule 109 = .ok (.isub, 1) := by decide +kernel
theorem dX6_readsRule_110 : decode cX6_readsRule 110 = .ok (.iastore, 1) := by decide +kernel
theorem dX6_readsRule_111 : decode cX6_readsRule 111 = .ok (.aload_n 0, 1) := by decide +kernel
theorem dX6_readsRule_112 : decode cX6_readsRule 112 = .ok (.dup, 1) := by decide +kernel
theorem dX6_readsRule_113 : decode cX6_readsRule 113 = .ok (.getfield 178, 3) := by decide +kernel
theorem dX6_readsRule_116 : decode cX6_readsRule 116 = .ok (.iconst 1, 1) := by decide +kernel
theorem dX6_readsRule_117 : decode cX6_readsRule 117 = .ok (.iadd, 1) := by decide +kernel
theorem dX6_readsRule_118 : decode cX6_readsRule 118 = .ok (.putfield 178, 3) := by decide +kernel
theorem dX6_readsRule_121 : decode cX6_readsRule 121 = .ok (.aload_n 0, 1) := by decide +kernel
theorem dX6_readsRule_122 : decode cX6_readsRule 122 = .ok (.dup, 1) := by decide +kernel
theorem dX6_readsRule_123 : decode cX6_readsRule 123 = .ok (.getfield 162, 3) := by decide +kernel
theorem dX6_readsRule_126 : decode cX6_readsRule 126 = .ok (.iconst 1, 1) := by decide +kernel
theorem dX6_readsRule_127 : decode cX6_readsRule 127 = .ok (.iadd, 1) := by decide +kernel
theorem dX6_readsRule_128 : decode cX6_readsRule 128 = .ok (.putfield 162, 3) := by decide +kernel
theorem dX6_readsRule_131 : decode cX6_readsRule 131 = .ok (.iconst 1, 1) := by decide +kernel
theorem dX6_readsRule_132 : decode cX6_readsRule 132 = .ok (.ireturn, 1) := by decide +kernel
set_option maxRecDepth 20000 in
theorem ggX6_fault_X6_readsRule : GoodIn wsX6_fault wsX6_readsRule := goodIn_r _ [8, 9, 10, 2, 11, 12, 1, 13, 14, 15, 7, 16, 17, 18, 19, 20, 3, 21, 22, 23, 24, 25, 26, 27, 28, 29, 30, 31, 32, 33, 34, 35, 36, 37, 38, 39, 40, 41, 42, 43, 44, 45, 46, 47] (by decide +kernel) (by decide +kernel)
set_option maxRecDepth 20000 in
theorem gX6_fault_X6_readsRule : GoodIn wsX6_fault (wsV RX6 181 RX6 yX6_readsRule wsX6_readsRule) := goodIn_app (goodIn_of _ (by decide +kernel)) ggX6_fault_X6_readsRule
set_option maxRecDepth 20000 in
theorem ggX6_fault_X6_takes : GoodIn wsX6_fault wsX6_takes := goodIn_r _ [27, 1, 17, 18, 19, 7, 20, 3, 12, 21, 22, 23, 28, 29, 30, 31, 32, 33, 34, 35, 36, 37, 38, 39, 40, 41, 42, 43, 44, 45, 46, 47] (by decide +kernel) (by decide +kernel)
set_option maxRecDepth 20000 in
theorem gX6_fault_X6_takes : GoodIn wsX6_fault (wsV RX6 175 RX6 yX6_takes wsX6_takes) := goodIn_app (goodIn_of _ (by decide +kernel)) ggX6_fault_X6_takes
theorem dX6_fault_0 : decode cX6_fault 0 = .ok (.aload_n 0, 1) := by decide +kernel
theorem dX6_fault_1 : decode cX6_fault 1 = .ok (.iconst 0, 1) := by decide +kernel
theorem dX6_fault_2 : decode cX6_fault 2 = .ok (.putfield 162, 3) := by decide +kernel
theorem dX6_fault_5 : decode cX6_fault 5 = .ok (.aload_n 0, 1) := by decide +kernel
theorem dX6_fault_6 : decode cX6_fault 6 = .ok (.iconst 0, 1) := by decide +kernel
theorem dX6_fault_7 : decode cX6_fault 7 = .ok (.putfield 178, 3) := by decide +kernel
theorem dX6_fault_10 : decode cX6_fault 10 = .ok (.iconst 1, 1) := by decide +kernel
theorem dX6_fault_11 : decode cX6_fault 11 = .ok (.istore_n 1, 1) := by decide +kernel
theorem dX6_fault_12 : decode cX6_fault 12 = .ok (.iload_n 1, 1) := by decide +kernel
theorem dX6_fault_13 : decode cX6_fault 13 = .ok (.ifCond .eq 25, 3) := by decide +kernel
theorem dX6_fault_16 : decode cX6_fault 16 = .ok (.aload_n 0, 1) := by decide +kernel
theorem dX6_fault_17 : decode cX6_fault 17 = .ok (.invokevirtual 181, 3) := by decide +kernel
theorem dX6_fault_20 : decode cX6_fault 20 = .ok (.ifCond .ne 8, 3) := by decide +kernel
theorem dX6_fault_23 : decode cX6_fault 23 = .ok (.aload_n 0, 1) := by decide +kernel
theorem dX6_fault_24 : decode cX6_fault 24 = .ok (.getfield 162, 3) := by decide +kernel
theorem dX6_fault_27 : decode cX6_fault 27 = .ok (.ireturn, 1) := by decide +kernel
theorem dX6_fault_28 : decode cX6_fault 28 = .ok (.aload_n 0, 1) := by decide +kernel
theorem dX6_fault_29 : decode cX6_fault 29 = .ok (.bipush 59, 2) := by decide +kernel
theorem dX6_fault_31 : decode cX6_fault 31 = .ok (.invokevirtual 175, 3) := by decide +kernel
theorem dX6_fault_34 : decode cX6_fault 34 = .ok (.istore_n 1, 1) := by decide +kernel
theorem dX6_fault_35 : decode cX6_fault 35 = .ok (.goto (-23), 3) := by decide +kernel
theorem dX6_fault_38 : decode cX6_fault 38 = .ok (.aload_n 0, 1) := by decide +kernel
theorem dX6_fault_39 : decode cX6_fault 39 = .ok (.getfield 162, 3) := by decide +kernel
theorem dX6_fault_42 : decode cX6_fault 42 = .ok (.aload_n 0, 1) := by decide +kernel
theorem dX6_fault_43 : decode cX6_fault 43 = .ok (.getfield 142, 3) := by decide +kernel
theorem dX6_fault_46 : decode cX6_fault 46 = .ok (.if_icmp .ne 8, 3) := by decide +kernel
theorem dX6_fault_49 : decode cX6_fault 49 = .ok (.bipush (-6), 2) := by decide +kernel
theorem dX6_fault_51 : decode cX6_fault 51 = .ok (.goto 7, 3) := by decide +kernel
theorem dX6_fault_54 : decode cX6_fault 54 = .ok (.aload_n 0, 1) := by decide +kernel
theorem dX6_fault_55 : decode cX6_fault 55 = .ok (.getfield 162, 3) := by decide +kernel
theorem dX6_fault_58 : decode cX6_fault 58 = .ok (.ireturn, 1) := by decide +kernel
set_option maxRecDepth 20000 in
theorem ggX6_read_X6_fault : GoodIn wsX6_read wsX6_fault := goodIn_r _ [10, 11, 1, 5, 12, 13, 14, 9, 15, 16, 2, 4, 17, 18, 19, 20, 21, 22, 23, 24, 25, 26, 27, 28, 29, 30, 31, 32, 56, 57, 58, 59, 60, 61, 62, 63, 64, 65, 66, 67, 68, 69, 70, 71, 72, 73, 74, 75] (by decide +kernel) (by decide +kernel)
set_option maxRecDepth 20000 in
theorem gX6_read_X6_fault : GoodIn wsX6_read (wsV RX6 184 RX6 yX6_fault wsX6_fault) := goodIn_app (goodIn_of _ (by decide +kernel)) ggX6_read_X6_fault
set_option maxRecDepth 20000 in
theorem ggX6_read_X6_isSet : GoodIn wsX6_read wsX6_isSet := goodIn_r _ [36, 37, 38, 39, 9, 40, 3, 26, 27, 28, 56, 57, 58, 59, 60, 61, 62, 63, 64, 65, 66, 67, 68, 69, 70, 71, 72, 73, 74, 75] (by decide +kernel) (by decide +kernel)
set_option maxRecDepth 20000 in
theorem gX6_read_X6_isSet : GoodIn wsX6_read (wsV RX6 103 RX6 yX6_isSet wsX6_isSet) := goodIn_app (goodIn_of _ (by decide +kernel)) ggX6_read_X6_isSet
set_option maxRecDepth 20000 in
theorem ggX6_read_X6_keep : GoodIn wsX6_read wsX6_keep := goodIn_r _ [44, 45, 3, 56, 57, 58, 59, 60, 61, 62, 63, 64, 65, 66, 67, 68, 69, 70, 71, 72, 73, 74, 75] (by decide +kernel) (by decide +kernel)
set_option maxRecDepth 20000 in
theorem gX6_read_X6_keep : GoodIn wsX6_read (wsV RX6 97 RX6 yX6_keep wsX6_keep) := goodIn_app (goodIn_of _ (by decide +kernel)) ggX6_read_X6_keep
set_option maxRecDepth 20000 in
theorem ggX6_read_X6_adds : GoodIn wsX6_read wsX6_adds := goodIn_r _ [49, 3, 56, 57, 58, 59, 60, 61, 62, 63, 64, 65, 66, 67, 68, 69, 70, 71, 72, 73, 74, 75] (by decide +kernel) (by decide +kernel)
set_option maxRecDepth 20000 in
theorem gX6_read_X6_adds : GoodIn wsX6_read (wsV RX6 107 RX6 yX6_adds wsX6_adds) := goodIn_app (goodIn_of _ (by decide +kernel)) ggX6_read_X6_adds
set_option maxRecDepth 20000 in
theorem ggX6_read_X6_changed : GoodIn wsX6_read wsX6_changed := goodIn_r _ [53, 54, 55, 45, 56, 57, 58, 59, 60, 61, 62, 63, 64, 65, 66, 67, 68, 69, 70, 71, 72, 73, 74, 75] (by decide +kernel) (by decide +kernel)
set_option maxRecDepth 20000 in
theorem gX6_read_X6_changed : GoodIn wsX6_read (wsV RX6 100 RX6 yX6_changed wsX6_changed) := goodIn_app (goodIn_of _ (by decide +kernel)) ggX6_read_X6_changed
theorem dX6_read_0 : decode cX6_read 0 = .ok (.aload_n 0, 1) := by decide +kernel
theorem dX6_read_1 : decode cX6_read 1 = .ok (.invokevirtual 184, 3) := by decide +kernel
theorem dX6_read_4 : decode cX6_read 4 = .ok (.bipush (-6), 2) := by decide +kernel
theorem dX6_read_6 : decode cX6_read 6 = .ok (.if_icmp .eq 6, 3) := by decide +kernel
theorem dX6_read_9 : decode cX6_read 9 = .ok (.bipush (-3), 2) := by decide +kernel
theorem dX6_read_11 : decode cX6_read 11 = .ok (.ireturn, 1) := by decide +kernel
theorem dX6_read_12 : decode cX6_read 12 = .ok (.iconst 0, 1) := by decide +kernel
theorem dX6_read_13 : decode cX6_read 13 = .ok (.istore_n 1, 1) := by decide +kernel
theorem dX6_read_14 : decode cX6_read 14 = .ok (.iload_n 1, 1) := by decide +kernel
theorem dX6_read_15 : decode cX6_read 15 = .ok (.aload_n 0, 1) := by decide +kernel
theorem dX6_read_16 : decode cX6_read 16 = .ok (.getfield 178, 3) := by decide +kernel
theorem dX6_read_19 : decode cX6_read 19 = .ok (.if_icmp .ge 25, 3) := by decide +kernel
theorem dX6_read_22 : decode cX6_read 22 = .ok (.aload_n 0, 1) := by decide +kernel
theorem dX6_read_23 : decode cX6_read 23 = .ok (.aload_n 0, 1) := by decide +kernel
theorem dX6_read_24 : decode cX6_read 24 = .ok (.getfield 43, 3) := by decide +kernel
theorem dX6_read_27 : decode cX6_read 27 = .ok (.iload_n 1, 1) := by decide +kernel
theorem dX6_read_28 : decode cX6_read 28 = .ok (.iaload, 1) := by decide +kernel
theorem dX6_read_29 : decode cX6_read 29 = .ok (.invokevirtual 103, 3) := by decide +kernel
theorem dX6_read_32 : decode cX6_read 32 = .ok (.ifCond .ne 6, 3) := by decide +kernel
theorem dX6_read_35 : decode cX6_read 35 = .ok (.bipush (-2), 2) := by decide +kernel
theorem dX6_read_37 : decode cX6_read 37 = .ok (.ireturn, 1) := by decide +kernel
theorem dX6_read_38 : decode cX6_read 38 = .ok (.iinc 1 1, 3) := by decide +kernel
theorem dX6_read_41 : decode cX6_read 41 = .ok (.goto (-27), 3) := by decide +kernel
theorem dX6_read_44 : decode cX6_read 44 = .ok (.aload_n 0, 1) := by decide +kernel
theorem dX6_read_45 : decode cX6_read 45 = .ok (.getfield 7, 3) := by decide +kernel
theorem dX6_read_48 : decode cX6_read 48 = .ok (.iconst 1, 1) := by decide +kernel
theorem dX6_read_49 : decode cX6_read 49 = .ok (.iaload, 1) := by decide +kernel
theorem dX6_read_50 : decode cX6_read 50 = .ok (.aload_n 0, 1) := by decide +kernel
theorem dX6_read_51 : decode cX6_read 51 = .ok (.getfield 178, 3) := by decide +kernel
theorem dX6_read_54 : decode cX6_read 54 = .ok (.iadd, 1) := by decide +kernel
theorem dX6_read_55 : decode cX6_read 55 = .ok (.bipush 20, 2) := by decide +kernel
theorem dX6_read_57 : decode cX6_read 57 = .ok (.if_icmp .le 6, 3) := by decide +kernel
theorem dX6_read_60 : decode cX6_read 60 = .ok (.bipush (-4), 2) := by decide +kernel
theorem dX6_read_62 : decode cX6_read 62 = .ok (.ireturn, 1) := by decide +kernel
theorem dX6_read_63 : decode cX6_read 63 = .ok (.aload_n 0, 1) := by decide +kernel
theorem dX6_read_64 : decode cX6_read 64 = .ok (.invokevirtual 97, 3) := by decide +kernel
theorem dX6_read_67 : decode cX6_read 67 = .ok (.iconst 0, 1) := by decide +kernel
theorem dX6_read_68 : decode cX6_read 68 = .ok (.istore_n 1, 1) := by decide +kernel
theorem dX6_read_69 : decode cX6_read 69 = .ok (.iload_n 1, 1) := by decide +kernel
theorem dX6_read_70 : decode cX6_read 70 = .ok (.aload_n 0, 1) := by decide +kernel
theorem dX6_read_71 : decode cX6_read 71 = .ok (.getfield 178, 3) := by decide +kernel
theorem dX6_read_74 : decode cX6_read 74 = .ok (.if_icmp .ge 25, 3) := by decide +kernel
theorem dX6_read_77 : decode cX6_read 77 = .ok (.aload_n 0, 1) := by decide +kernel
theorem dX6_read_78 : decode cX6_read 78 = .ok (.aload_n 0, 1) := by decide +kernel
theorem dX6_read_79 : decode cX6_read 79 = .ok (.getfield 43, 3) := by decide +kernel
theorem dX6_read_82 : decode cX6_read 82 = .ok (.iload_n 1, 1) := by decide +kernel
theorem dX6_read_83 : decode cX6_read 83 = .ok (.iaload, 1) := by decide +kernel
theorem dX6_read_84 : decode cX6_read 84 = .ok (.aload_n 0, 1) := by decide +kernel
theorem dX6_read_85 : decode cX6_read 85 = .ok (.getfield 46, 3) := by decide +kernel
theorem dX6_read_88 : decode cX6_read 88 = .ok (.iload_n 1, 1) := by decide +kernel
theorem dX6_read_89 : decode cX6_read 89 = .ok (.iaload, 1) := by decide +kernel
theorem dX6_read_90 : decode cX6_read 90 = .ok (.invokevirtual 107, 3) := by decide +kernel
theorem dX6_read_93 : decode cX6_read 93 = .ok (.iinc 1 1, 3) := by decide +kernel
theorem dX6_read_96 : decode cX6_read 96 = .ok (.goto (-27), 3) := by decide +kernel
theorem dX6_read_99 : decode cX6_read 99 = .ok (.aload_n 0, 1) := by decide +kernel
theorem dX6_read_100 : decode cX6_read 100 = .ok (.iconst 0, 1) := by decide +kernel
theorem dX6_read_101 : decode cX6_read 101 = .ok (.putfield 142, 3) := by decide +kernel
theorem dX6_read_104 : decode cX6_read 104 = .ok (.aload_n 0, 1) := by decide +kernel
theorem dX6_read_105 : decode cX6_read 105 = .ok (.aload_n 0, 1) := by decide +kernel
theorem dX6_read_106 : decode cX6_read 106 = .ok (.getfield 7, 3) := by decide +kernel
theorem dX6_read_109 : decode cX6_read 109 = .ok (.iconst 1, 1) := by decide +kernel
theorem dX6_read_110 : decode cX6_read 110 = .ok (.iaload, 1) := by decide +kernel
theorem dX6_read_111 : decode cX6_read 111 = .ok (.invokevirtual 100, 3) := by decide +kernel
theorem dX6_read_114 : decode cX6_read 114 = .ok (.ireturn, 1) := by decide +kernel
theorem dX6_undo_0 : decode cX6_undo 0 = .ok (.aload_n 0, 1) := by decide +kernel
theorem dX6_undo_1 : decode cX6_undo 1 = .ok (.getfield 49, 3) := by decide +kernel
theorem dX6_undo_4 : decode cX6_undo 4 = .ok (.ifCond .ne 6, 3) := by decide +kernel
theorem dX6_undo_7 : decode cX6_undo 7 = .ok (.bipush (-5), 2) := by decide +kernel
theorem dX6_undo_9 : decode cX6_undo 9 = .ok (.ireturn, 1) := by decide +kernel
theorem dX6_undo_10 : decode cX6_undo 10 = .ok (.aload_n 0, 1) := by decide +kernel
theorem dX6_undo_11 : decode cX6_undo 11 = .ok (.dup, 1) := by decide +kernel
theorem dX6_undo_12 : decode cX6_undo 12 = .ok (.getfield 49, 3) := by decide +kernel
theorem dX6_undo_15 : decode cX6_undo 15 = .ok (.iconst 1, 1) := by decide +kernel
theorem dX6_undo_16 : decode cX6_undo 16 = .ok (.isub, 1) := by decide +kernel
theorem dX6_undo_17 : decode cX6_undo 17 = .ok (.putfield 49, 3) := by decide +kernel
theorem dX6_undo_20 : decode cX6_undo 20 = .ok (.iconst 0, 1) := by decide +kernel
theorem dX6_undo_21 : decode cX6_undo 21 = .ok (.istore_n 1, 1) := by decide +kernel
theorem dX6_undo_22 : decode cX6_undo 22 = .ok (.iload_n 1, 1) := by decide +kernel
theorem dX6_undo_23 : decode cX6_undo 23 = .ok (.bipush 42, 2) := by decide +kernel
theorem dX6_undo_25 : decode cX6_undo 25 = .ok (.if_icmp .ge 29, 3) := by decide +kernel
theorem dX6_undo_28 : decode cX6_undo 28 = .ok (.aload_n 0, 1) := by decide +kernel
theorem dX6_undo_29 : decode cX6_undo 29 = .ok (.getfield 7, 3) := by decide +kernel
theorem dX6_undo_32 : decode cX6_undo 32 = .ok (.iload_n 1, 1) := by decide +kernel
theorem dX6_undo_33 : decode cX6_undo 33 = .ok (.aload_n 0, 1) := by decide +kernel
theorem dX6_undo_34 : decode cX6_undo 34 = .ok (.getfield 16, 3) := by decide +kernel
theorem dX6_undo_37 : decode cX6_undo 37 = .ok (.bipush 42, 2) := by decide +kernel
theorem dX6_undo_39 : decode cX6_undo 39 = .ok (.aload_n 0, 1) := by decide +kernel
theorem dX6_undo_40 : decode cX6_undo 40 = .ok (.getfield 49, 3) := by decide +kernel
theorem dX6_undo_43 : decode cX6_undo 43 = .ok (.imul, 1) := by decide +kernel
theorem dX6_undo_44 : decode cX6_undo 44 = .ok (.iload_n 1, 1) := by decide +kernel
theorem dX6_undo_45 : decode cX6_undo 45 = .ok (.iadd, 1) := by decide +kernel
theorem dX6_undo_46 : decode cX6_undo 46 = .ok (.iaload, 1) := by decide +kernel
theorem dX6_undo_47 : decode cX6_undo 47 = .ok (.iastore, 1) := by decide +kernel
theorem dX6_undo_48 : decode cX6_undo 48 = .ok (.iinc 1 1, 3) := by decide +kernel
theorem dX6_undo_51 : decode cX6_undo 51 = .ok (.goto (-29), 3) := by decide +kernel
theorem dX6_undo_54 : decode cX6_undo 54 = .ok (.aload_n 0, 1) := by decide +kernel
theorem dX6_undo_55 : decode cX6_undo 55 = .ok (.getfield 49, 3) := by decide +kernel
theorem dX6_undo_58 : decode cX6_undo 58 = .ok (.ireturn, 1) := by decide +kernel
set_option maxRecDepth 20000 in
theorem ggX6_save_X6_in : GoodIn wsX6_save wsX6_in := goodIn_r _ [7] (by decide +kernel) (by decide +kernel)
set_option maxRecDepth 20000 in
theorem gX6_save_X6_in : GoodIn wsX6_save (va_wsS RX6 61 yX6_in wsX6_in) := goodIn_app (goodIn_of _ (by decide +kernel)) ggX6_save_X6_in
theorem dX6_save_0 : decode cX6_save 0 = .ok (.iload_n 1, 1) := by decide +kernel
theorem dX6_save_1 : decode cX6_save 1 = .ok (.i2l, 1) := by decide +kernel
theorem dX6_save_2 : decode cX6_save 2 = .ok (.lconst 0, 1) := by decide +kernel
theorem dX6_save_3 : decode cX6_save 3 = .ok (.lconst 1, 1) := by decide +kernel
theorem dX6_save_4 : decode cX6_save 4 = .ok (.invokestatic 61, 3) := by decide +kernel
theorem dX6_save_7 : decode cX6_save 7 = .ok (.ifCond .ne 6, 3) := by decide +kernel
theorem dX6_save_10 : decode cX6_save 10 = .ok (.bipush (-2), 2) := by decide +kernel
theorem dX6_save_12 : decode cX6_save 12 = .ok (.ireturn, 1) := by decide +kernel
theorem dX6_save_13 : decode cX6_save 13 = .ok (.iconst 0, 1) := by decide +kernel
theorem dX6_save_14 : decode cX6_save 14 = .ok (.istore_n 2, 1) := by decide +kernel
theorem dX6_save_15 : decode cX6_save 15 = .ok (.iload_n 2, 1) := by decide +kernel
theorem dX6_save_16 : decode cX6_save 16 = .ok (.bipush 42, 2) := by decide +kernel
theorem dX6_save_18 : decode cX6_save 18 = .ok (.if_icmp .ge 26, 3) := by decide +kernel
theorem dX6_save_21 : decode cX6_save 21 = .ok (.aload_n 0, 1) := by decide +kernel
theorem dX6_save_22 : decode cX6_save 22 = .ok (.getfield 19, 3) := by decide +kernel
theorem dX6_save_25 : decode cX6_save 25 = .ok (.bipush 42, 2) := by decide +kernel
theorem dX6_save_27 : decode cX6_save 27 = .ok (.iload_n 1, 1) := by decide +kernel
theorem dX6_save_28 : decode cX6_save 28 = .ok (.imul, 1) := by decide +kernel
theorem dX6_save_29 : decode cX6_save 29 = .ok (.iload_n 2, 1) := by decide +kernel
theorem dX6_save_30 : decode cX6_save 30 = .ok (.iadd, 1) := by decide +kernel
theorem dX6_save_31 : decode cX6_save 31 = .ok (.aload_n 0, 1) := by decide +kernel
theorem dX6_save_32 : decode cX6_save 32 = .ok (.getfield 7, 3) := by decide +kernel
theorem dX6_save_35 : decode cX6_save 35 = .ok (.iload_n 2, 1) := by decide +kernel
theorem dX6_save_36 : decode cX6_save 36 = .ok (.iaload, 1) := by decide +kernel
theorem dX6_save_37 : decode cX6_save 37 = .ok (.iastore, 1) := by decide +kernel
theorem dX6_save_38 : decode cX6_save 38 = .ok (.iinc 2 1, 3) := by decide +kernel
theorem dX6_save_41 : decode cX6_save 41 = .ok (.goto (-26), 3) := by decide +kernel
theorem dX6_save_44 : decode cX6_save 44 = .ok (.aload_n 0, 1) := by decide +kernel
theorem dX6_save_45 : decode cX6_save 45 = .ok (.getfield 22, 3) := by decide +kernel
theorem dX6_save_48 : decode cX6_save 48 = .ok (.iload_n 1, 1) := by decide +kernel
theorem dX6_save_49 : decode cX6_save 49 = .ok (.iconst 1, 1) := by decide +kernel
theorem dX6_save_50 : decode cX6_save 50 = .ok (.iastore, 1) := by decide +kernel
theorem dX6_save_51 : decode cX6_save 51 = .ok (.aload_n 0, 1) := by decide +kernel
theorem dX6_save_52 : decode cX6_save 52 = .ok (.getfield 7, 3) := by decide +kernel
theorem dX6_save_55 : decode cX6_save 55 = .ok (.iconst 1, 1) := by decide +kernel
theorem dX6_save_56 : decode cX6_save 56 = .ok (.iaload, 1) := by decide +kernel
theorem dX6_save_57 : decode cX6_save 57 = .ok (.ireturn, 1) := by decide +kernel
set_option maxRecDepth 20000 in
theorem ggX6_restore_X6_in : GoodIn wsX6_restore wsX6_in := goodIn_r _ [7] (by decide +kernel) (by decide +kernel)
set_option maxRecDepth 20000 in
theorem gX6_restore_X6_in : GoodIn wsX6_restore (va_wsS RX6 61 yX6_in wsX6_in) := goodIn_app (goodIn_of _ (by decide +kernel)) ggX6_restore_X6_in
set_option maxRecDepth 20000 in
theorem ggX6_restore_X6_keep : GoodIn wsX6_restore wsX6_keep := goodIn_r _ [11, 12, 2, 19, 20, 21, 22, 23, 24, 25, 26, 27, 28, 29, 30, 31, 32, 33, 34, 35, 36, 37, 38] (by decide +kernel) (by decide +kernel)
set_option maxRecDepth 20000 in
theorem gX6_restore_X6_keep : GoodIn wsX6_restore (wsV RX6 97 RX6 yX6_keep wsX6_keep) := goodIn_app (goodIn_of _ (by decide +kernel)) ggX6_restore_X6_keep
set_option maxRecDepth 20000 in
theorem ggX6_restore_X6_changed : GoodIn wsX6_restore wsX6_changed := goodIn_r _ [16, 17, 18, 12, 19, 20, 21, 22, 23, 24, 25, 26, 27, 28, 29, 30, 31, 32, 33, 34, 35, 36, 37, 38] (by decide +kernel) (by decide +kernel)
set_option maxRecDepth 20000 in
theorem gX6_restore_X6_changed : GoodIn wsX6_restore (wsV RX6 100 RX6 yX6_changed wsX6_changed) := goodIn_app (goodIn_of _ (by decide +kernel)) ggX6_restore_X6_changed
theorem dX6_restore_0 : decode cX6_restore 0 = .ok (.iload_n 1, 1) := by decide +kernel
theorem dX6_restore_1 : decode cX6_restore 1 = .ok (.i2l, 1) := by decide +kernel
theorem dX6_restore_2 : decode cX6_restore 2 = .ok (.lconst 0, 1) := by decide +kernel
theorem dX6_restore_3 : decode cX6_restore 3 = .ok (.lconst 1, 1) := by decide +kernel
theorem dX6_restore_4 : decode cX6_restore 4 = .ok (.invokestatic 61, 3) := by decide +kernel
theorem dX6_restore_7 : decode cX6_restore 7 = .ok (.ifCond .ne 6, 3) := by decide +kernel
theorem dX6_restore_10 : decode cX6_restore 10 = .ok (.bipush (-2), 2) := by decide +kernel
theorem dX6_restore_12 : decode cX6_restore 12 = .ok (.ireturn, 1) := by decide +kernel
theorem dX6_restore_13 : decode cX6_restore 13 = .ok (.aload_n 0, 1) := by decide +kernel
theorem dX6_restore_14 : decode cX6_restore 14 = .ok (.getfield 22, 3) := by decide +kernel
theorem dX6_restore_17 : decode cX6_restore 17 = .ok (.iload_n 1, 1) := by decide +kernel
theorem dX6_restore_18 : decode cX6_restore 18 = .ok (.iaload, 1) := by decide +kernel
theorem dX6_restore_19 : decode cX6_restore 19 = .ok (.ifCond .ne 6, 3) := by decide +kernel
theorem dX6_restore_22 : decode cX6_restore 22 = .ok (.bipush (-5), 2) := by decide +kernel
theorem dX6_restore_24 : decode cX6_restore 24 = .ok (.ireturn, 1) := by decide +kernel
theorem dX6_restore_25 : decode cX6_restore 25 = .ok (.aload_n 0, 1) := by decide +kernel
theorem dX6_restore_26 : decode cX6_restore 26 = .ok (.invokevirtual 97, 3) := by decide +kernel
theorem dX6_restore_29 : decode cX6_restore 29 = .ok (.iconst 0, 1) := by decide +kernel
theorem dX6_restore_30 : decode cX6_restore 30 = .ok (.istore_n 2, 1) := by decide +kernel
theorem dX6_restore_31 : decode cX6_restore 31 = .ok (.iload_n 2, 1) := by decide +kernel
theorem dX6_restore_32 : decode cX6_restore 32 = .ok (.bipush 42, 2) := by decide +kernel
theorem dX6_restore_34 : decode cX6_restore 34 = .ok (.if_icmp .ge 26, 3) := by decide +kernel
theorem dX6_restore_37 : decode cX6_restore 37 = .ok (.aload_n 0, 1) := by decide +kernel
theorem dX6_restore_38 : decode cX6_restore 38 = .ok (.getfield 7, 3) := by decide +kernel
theorem dX6_restore_41 : decode cX6_restore 41 = .ok (.iload_n 2, 1) := by decide +kernel
theorem dX6_restore_42 : decode cX6_restore 42 = .ok (.aload_n 0, 1) := by decide +kernel
theorem dX6_restore_43 : decode cX6_restore 43 = .ok (.getfield 19, 3) := by decide +kernel
theorem dX6_restore_46 : decode cX6_restore 46 = .ok (.bipush 42, 2) := by decide +kernel
theorem dX6_restore_48 : decode cX6_restore 48 = .ok (.iload_n 1, 1) := by decide +kernel
theorem dX6_restore_49 : decode cX6_restore 49 = .ok (.imul, 1) := by decide +kernel
theorem dX6_restore_50 : decode cX6_restore 50 = .ok (.iload_n 2, 1) := by decide +kernel
theorem dX6_restore_51 : decode cX6_restore 51 = .ok (.iadd, 1) := by decide +kernel
theorem dX6_restore_52 : decode cX6_restore 52 = .ok (.iaload, 1) := by decide +kernel
theorem dX6_restore_53 : decode cX6_restore 53 = .ok (.iastore, 1) := by decide +kernel
theorem dX6_restore_54 : decode cX6_restore 54 = .ok (.iinc 2 1, 3) := by decide +kernel
theorem dX6_restore_57 : decode cX6_restore 57 = .ok (.goto (-26), 3) := by decide +kernel
theorem dX6_restore_60 : decode cX6_restore 60 = .ok (.aload_n 0, 1) := by decide +kernel
theorem dX6_restore_61 : decode cX6_restore 61 = .ok (.aload_n 0, 1) := by decide +kernel
theorem dX6_restore_62 : decode cX6_restore 62 = .ok (.getfield 7, 3) := by decide +kernel
theorem dX6_restore_65 : decode cX6_restore 65 = .ok (.iconst 1, 1) := by decide +kernel
theorem dX6_restore_66 : decode cX6_restore 66 = .ok (.iaload, 1) := by decide +kernel
theorem dX6_restore_67 : decode cX6_restore 67 = .ok (.invokevirtual 100, 3) := by decide +kernel
theorem dX6_restore_70 : decode cX6_restore 70 = .ok (.ireturn, 1) := by decide +kernel
theorem dJ6_bitCount_0f7a4_0 : decode cJ6_bitCount_0f7a4 0 = .ok (.iload_n 0, 1) := by decide +kernel
theorem dJ6_bitCount_0f7a4_1 : decode cJ6_bitCount_0f7a4 1 = .ok (.iload_n 0, 1) := by decide +kernel
theorem dJ6_bitCount_0f7a4_2 : decode cJ6_bitCount_0f7a4 2 = .ok (.iconst 1, 1) := by decide +kernel
theorem dJ6_bitCount_0f7a4_3 : decode cJ6_bitCount_0f7a4 3 = .ok (.iushr, 1) := by decide +kernel
theorem dJ6_bitCount_0f7a4_4 : decode cJ6_bitCount_0f7a4 4 = .ok (.ldc_w 265, 3) := by decide +kernel
theorem dJ6_bitCount_0f7a4_7 : decode cJ6_bitCount_0f7a4 7 = .ok (.iand, 1) := by decide +kernel
theorem dJ6_bitCount_0f7a4_8 : decode cJ6_bitCount_0f7a4 8 = .ok (.isub, 1) := by decide +kernel
theorem dJ6_bitCount_0f7a4_9 : decode cJ6_bitCount_0f7a4 9 = .ok (.istore_n 0, 1) := by decide +kernel
theorem dJ6_bitCount_0f7a4_10 : decode cJ6_bitCount_0f7a4 10 = .ok (.iload_n 0, 1) := by decide +kernel
theorem dJ6_bitCount_0f7a4_11 : decode cJ6_bitCount_0f7a4 11 = .ok (.ldc_w 266, 3) := by decide +kernel
theorem dJ6_bitCount_0f7a4_14 : decode cJ6_bitCount_0f7a4 14 = .ok (.iand, 1) := by decide +kernel
theorem dJ6_bitCount_0f7a4_15 : decode cJ6_bitCount_0f7a4 15 = .ok (.iload_n 0, 1) := by decide +kernel
theorem dJ6_bitCount_0f7a4_16 : decode cJ6_bitCount_0f7a4 16 = .ok (.iconst 2, 1) := by decide +kernel
theorem dJ6_bitCount_0f7a4_17 : decode cJ6_bitCount_0f7a4 17 = .ok (.iushr, 1) := by decide +kernel
theorem dJ6_bitCount_0f7a4_18 : decode cJ6_bitCount_0f7a4 18 = .ok (.ldc_w 266, 3) := by decide +kernel
theorem dJ6_bitCount_0f7a4_21 : decode cJ6_bitCount_0f7a4 21 = .ok (.iand, 1) := by decide +kernel
theorem dJ6_bitCount_0f7a4_22 : decode cJ6_bitCount_0f7a4 22 = .ok (.iadd, 1) := by decide +kernel
theorem dJ6_bitCount_0f7a4_23 : decode cJ6_bitCount_0f7a4 23 = .ok (.istore_n 0, 1) := by decide +kernel
theorem dJ6_bitCount_0f7a4_24 : decode cJ6_bitCount_0f7a4 24 = .ok (.iload_n 0, 1) := by decide +kernel
theorem dJ6_bitCount_0f7a4_25 : decode cJ6_bitCount_0f7a4 25 = .ok (.iload_n 0, 1) := by decide +kernel
theorem dJ6_bitCount_0f7a4_26 : decode cJ6_bitCount_0f7a4 26 = .ok (.iconst 4, 1) := by decide +kernel
theorem dJ6_bitCount_0f7a4_27 : decode cJ6_bitCount_0f7a4 27 = .ok (.iushr, 1) := by decide +kernel
theorem dJ6_bitCount_0f7a4_28 : decode cJ6_bitCount_0f7a4 28 = .ok (.iadd, 1) := by decide +kernel
theorem dJ6_bitCount_0f7a4_29 : decode cJ6_bitCount_0f7a4 29 = .ok (.ldc_w 267, 3) := by decide +kernel
theorem dJ6_bitCount_0f7a4_32 : decode cJ6_bitCount_0f7a4 32 = .ok (.iand, 1) := by decide +kernel
theorem dJ6_bitCount_0f7a4_33 : decode cJ6_bitCount_0f7a4 33 = .ok (.istore_n 0, 1) := by decide +kernel
theorem dJ6_bitCount_0f7a4_34 : decode cJ6_bitCount_0f7a4 34 = .ok (.iload_n 0, 1) := by decide +kernel
theorem dJ6_bitCount_0f7a4_35 : decode cJ6_bitCount_0f7a4 35 = .ok (.iload_n 0, 1) := by decide +kernel
theorem dJ6_bitCount_0f7a4_36 : decode cJ6_bitCount_0f7a4 36 = .ok (.bipush 8, 2) := by decide +kernel
theorem dJ6_bitCount_0f7a4_38 : decode cJ6_bitCount_0f7a4 38 = .ok (.iushr, 1) := by decide +kernel
theorem dJ6_bitCount_0f7a4_39 : decode cJ6_bitCount_0f7a4 39 = .ok (.iadd, 1) := by decide +kernel
theorem dJ6_bitCount_0f7a4_40 : decode cJ6_bitCount_0f7a4 40 = .ok (.istore_n 0, 1) := by decide +kernel
theorem dJ6_bitCount_0f7a4_41 : decode cJ6_bitCount_0f7a4 41 = .ok (.iload_n 0, 1) := by decide +kernel
theorem dJ6_bitCount_0f7a4_42 : decode cJ6_bitCount_0f7a4 42 = .ok (.iload_n 0, 1) := by decide +kernel
theorem dJ6_bitCount_0f7a4_43 : decode cJ6_bitCount_0f7a4 43 = .ok (.bipush 16, 2) := by decide +kernel
theorem dJ6_bitCount_0f7a4_45 : decode cJ6_bitCount_0f7a4 45 = .ok (.iushr, 1) := by decide +kernel
theorem dJ6_bitCount_0f7a4_46 : decode cJ6_bitCount_0f7a4 46 = .ok (.iadd, 1) := by decide +kernel
theorem dJ6_bitCount_0f7a4_47 : decode cJ6_bitCount_0f7a4 47 = .ok (.istore_n 0, 1) := by decide +kernel
theorem dJ6_bitCount_0f7a4_48 : decode cJ6_bitCount_0f7a4 48 = .ok (.iload_n 0, 1) := by decide +kernel
theorem dJ6_bitCount_0f7a4_49 : decode cJ6_bitCount_0f7a4 49 = .ok (.bipush 63, 2) := by decide +kernel
theorem dJ6_bitCount_0f7a4_51 : decode cJ6_bitCount_0f7a4 51 = .ok (.iand, 1) := by decide +kernel
theorem dJ6_bitCount_0f7a4_52 : decode cJ6_bitCount_0f7a4 52 = .ok (.ireturn, 1) := by decide +kernel
end
section
set_option maxRecDepth 20000 in
theorem ggL_law_X5_init : GoodIn wsL_law wsX5_init := goodIn_r _ [9, 10, 11, 12, 13, 14, 15, 16, 17, 18, 19, 20, 21, 22, 23, 24, 25, 26, 27, 28, 29, 30, 31, 32, 33, 34, 35, 36, 37, 38, 39, 40, 41, 42, 43, 44, 45, 46, 47, 48, 49, 50, 51, 52, 53, 54, 55, 56, 57, 58, 59, 60, 61, 62, 63, 64, 65, 66, 67, 68, 69, 70, 71, 72, 73, 74, 75, 76, 77, 78, 79, 80, 81, 82, 83, 84, 85, 86, 87, 88, 89, 90, 91, 92, 93, 94, 95, 96, 97, 2, 98, 99, 100, 101, 102, 103, 104, 105, 635, 636, 637, 638, 604, 605, 606, 607, 608, 609, 610, 611, 612, 613, 614, 639, 640, 641, 642, 643, 644, 645, 646, 647, 648, 649, 650, 651, 652, 653, 654, 655, 656, 657, 658, 659, 660, 661, 662] (by decide +kernel) (by decide +kernel)
set_option maxRecDepth 20000 in
theorem gL_law_X5_init : GoodIn wsL_law (wsX5_init) := ggL_law_X5_init
set_option maxRecDepth 20000 in
theorem ggL_law_X6_init : GoodIn wsL_law wsX6_init := goodIn_r _ [108, 109, 11, 12, 23, 110, 111, 112, 113, 114, 115, 116, 117, 118, 119, 120, 121, 122, 615, 616, 617, 618, 619, 620, 621, 622, 623, 624, 625, 626, 627, 628, 629, 630, 631, 632, 633, 634] (by decide +kernel) (by decide +kernel)
set_option maxRecDepth 20000 in
theorem gL_law_X6_init : GoodIn wsL_law (wsX6_init) := ggL_law_X6_init
set_option maxRecDepth 20000 in
theorem ggL_law_X5_choices : GoodIn wsL_law wsX5_choices := goodIn_r _ [126, 16, 127, 37, 20, 128, 129, 130, 15, 131, 132, 45, 133, 134, 135, 36, 136, 137, 71, 138, 139, 140, 141, 142, 143, 144, 145, 44, 146, 147, 148, 149, 46, 72, 73, 74, 19, 75, 76, 77, 78, 52, 53, 79, 80, 81, 82, 83, 84, 85, 86, 54, 87, 55, 88, 50, 51, 89, 90, 91, 92, 93, 94, 95, 96, 97, 2, 98, 99, 100, 101, 102, 103, 104, 105, 604, 605, 606, 607, 608, 609, 610, 611, 612, 613, 614, 635, 636, 637, 638, 661, 662, 639, 640, 641, 642, 643, 644, 645, 646, 647, 648, 649, 650] (by decide +kernel) (by decide +kernel)
set_option maxRecDepth 20000 in
theorem gL_law_X5_choices : GoodIn wsL_law (wsV RL 13 RX5 yX5_choices wsX5_choices) := goodIn_app (goodIn_of _ (by decide +kernel)) ggL_law_X5_choices
set_option maxRecDepth 20000 in
theorem ggL_law_X6_choices : GoodIn wsL_law wsX6_choices := goodIn_r _ [153, 154, 110, 155, 156, 5, 157, 158, 159, 160, 161, 111, 162, 163, 164, 165, 166, 112, 615, 616, 617, 618, 619, 620, 621, 622, 623, 624, 625, 626, 627, 628, 629, 630, 631, 632, 633, 634] (by decide +kernel) (by decide +kernel)
set_option maxRecDepth 20000 in
theorem gL_law_X6_choices : GoodIn wsL_law (wsV RL 17 RX6 yX6_choices wsX6_choices) := goodIn_app (goodIn_of _ (by decide +kernel)) ggL_law_X6_choices
set_option maxRecDepth 20000 in
theorem ggL_law_X5_tell : GoodIn wsL_law wsX5_tell := goodIn_r _ [170, 16, 171, 37, 20, 172, 173, 174, 175, 2, 176, 177, 178, 179, 15, 180, 44, 133, 134, 135, 36, 136, 137, 71, 138, 139, 140, 141, 142, 143, 144, 145, 132, 45, 146, 147, 148, 149, 46, 181, 182, 183, 184, 72, 73, 74, 19, 75, 76, 77, 78, 52, 53, 79, 80, 81, 82, 83, 84, 85, 86, 54, 87, 55, 88, 50, 51, 89, 90, 91, 92, 93, 94, 95, 96, 97, 98, 99, 100, 101, 102, 103, 104, 105, 604, 605, 606, 607, 608, 609, 610, 611, 612, 613, 614, 635, 636, 637, 638, 639, 640, 641, 642, 643, 644, 645, 646, 647, 648, 649, 650, 661, 662] (by decide +kernel) (by decide +kernel)
set_option maxRecDepth 20000 in
theorem gL_law_X5_tell : GoodIn wsL_law (wsV RL 18 RX5 yX5_tell wsX5_tell) := goodIn_app (goodIn_of _ (by decide +kernel)) ggL_law_X5_tell
set_option maxRecDepth 20000 in
theorem ggL_law_X6_tell : GoodIn wsL_law wsX6_tell := goodIn_r _ [188, 110, 117, 189, 190, 191, 5, 192, 193, 194, 195, 196, 155, 156, 157, 158, 159, 160, 161, 111, 197, 198, 199, 200, 201, 202, 203, 204, 115, 116, 118, 205, 206, 207, 208, 209, 210, 211, 212, 213, 214, 215, 216, 217, 218, 162, 163, 164, 165, 166, 112, 615, 616, 617, 618, 619, 620, 621, 622, 623, 624, 625, 626, 627, 628, 629, 630, 631, 632, 633, 634] (by decide +kernel) (by decide +kernel)
set_option maxRecDepth 20000 in
theorem gL_law_X6_tell : GoodIn wsL_law (wsV RL 22 RX6 yX6_tell wsX6_tell) := goodIn_app (goodIn_of _ (by decide +kernel)) ggL_law_X6_tell
set_option maxRecDepth 20000 in
theorem ggL_law_X5_drop : GoodIn wsL_law wsX5_drop := goodIn_r _ [222, 16, 37, 20, 171, 223, 224, 225, 15, 226, 132, 133, 134, 135, 36, 136, 137, 71, 138, 139, 140, 141, 142, 143, 144, 145, 44, 45, 146, 147, 148, 149, 46, 227, 228, 229, 230, 231, 232, 233, 234, 235, 2, 236, 72, 73, 74, 19, 75, 76, 77, 78, 52, 53, 79, 80, 81, 82, 83, 84, 85, 86, 54, 87, 55, 88, 50, 51, 89, 90, 91, 92, 93, 94, 95, 96, 97, 98, 99, 100, 101, 102, 103, 104, 105, 604, 605, 606, 607, 608, 609, 610, 611, 612, 613, 614, 635, 636, 637, 638, 661, 662, 639, 640, 641, 642, 643, 644, 645, 646, 647, 648, 649, 650] (by decide +kernel) (by decide +kernel)
set_option maxRecDepth 20000 in
theorem gL_law_X5_drop : GoodIn wsL_law (wsV RL 23 RX5 yX5_drop wsX5_drop) := goodIn_app (goodIn_of _ (by decide +kernel)) ggL_law_X5_drop
set_option maxRecDepth 20000 in
theorem ggL_law_X6_drop : GoodIn wsL_law wsX6_drop := goodIn_r _ [240, 110, 241, 242, 243, 5, 244, 155, 156, 157, 158, 159, 160, 161, 111, 245, 246, 247, 248, 162, 163, 164, 165, 166, 112, 615, 616, 617, 618, 619, 620, 621, 622, 623, 624, 625, 626, 627, 628, 629, 630, 631, 632, 633, 634] (by decide +kernel) (by decide +kernel)
set_option maxRecDepth 20000 in
theorem gL_law_X6_drop : GoodIn wsL_law (wsV RL 26 RX6 yX6_drop wsX6_drop) := goodIn_app (goodIn_of _ (by decide +kernel)) ggL_law_X6_drop
set_option maxRecDepth 20000 in
theorem ggL_law_X5_move : GoodIn wsL_law wsX5_move := goodIn_r _ [252, 16, 37, 20, 172, 24, 253, 147, 148, 149, 171, 223, 224, 225, 15, 226, 132, 133, 134, 135, 36, 136, 137, 71, 138, 139, 140, 141, 142, 143, 144, 145, 44, 45, 146, 46, 254, 235, 2, 236, 255, 232, 233, 234, 72, 73, 74, 19, 75, 76, 77, 78, 52, 53, 79, 80, 81, 82, 83, 84, 85, 86, 54, 87, 55, 88, 50, 51, 89, 90, 91, 92, 93, 94, 95, 96, 97, 98, 99, 100, 101, 102, 103, 104, 105, 604, 605, 606, 607, 608, 609, 610, 611, 612, 613, 614, 639, 640, 641, 642, 643, 644, 645, 646, 647, 648, 649, 650, 635, 636, 637, 638, 661, 662] (by decide +kernel) (by decide +kernel)
set_option maxRecDepth 20000 in
theorem gL_law_X5_move : GoodIn wsL_law (wsV RL 27 RX5 yX5_move wsX5_move) := goodIn_app (goodIn_of _ (by decide +kernel)) ggL_law_X5_move
set_option maxRecDepth 20000 in
theorem ggL_law_X6_move : GoodIn wsL_law wsX6_move := goodIn_r _ [259, 110, 119, 117, 241, 242, 243, 5, 244, 155, 156, 157, 158, 159, 160, 161, 111, 201, 202, 203, 204, 115, 116, 118, 205, 206, 207, 208, 209, 210, 211, 212, 213, 214, 215, 216, 217, 218, 260, 261, 262, 263, 245, 246, 247, 248, 264, 265, 266, 267, 162, 163, 164, 165, 166, 112, 615, 616, 617, 618, 619, 620, 621, 622, 623, 624, 625, 626, 627, 628, 629, 630, 631, 632, 633, 634] (by decide +kernel) (by decide +kernel)
set_option maxRecDepth 20000 in
theorem gL_law_X6_move : GoodIn wsL_law (wsV RL 30 RX6 yX6_move wsX6_move) := goodIn_app (goodIn_of _ (by decide +kernel)) ggL_law_X6_move
set_option maxRecDepth 20000 in
theorem ggL_law_X5_turn : GoodIn wsL_law wsX5_turn := goodIn_r _ [271, 16, 37, 272, 20, 172, 223, 224, 225, 15, 226, 132, 133, 134, 135, 36, 136, 137, 71, 138, 139, 140, 141, 142, 143, 144, 145, 44, 45, 146, 147, 148, 149, 46, 72, 73, 74, 19, 75, 76, 77, 78, 52, 53, 79, 80, 81, 82, 83, 84, 85, 86, 54, 87, 55, 88, 50, 51, 89, 90, 91, 92, 93, 94, 95, 96, 97, 2, 98, 99, 100, 101, 102, 103, 104, 105, 604, 605, 606, 607, 608, 609, 610, 611, 612, 613, 614, 635, 636, 637, 638, 639, 640, 641, 642, 643, 644, 645, 646, 647, 648, 649, 650, 661, 662] (by decide +kernel) (by decide +kernel)
set_option maxRecDepth 20000 in
theorem gL_law_X5_turn : GoodIn wsL_law (wsV RL 31 RX5 yX5_turn wsX5_turn) := goodIn_app (goodIn_of _ (by decide +kernel)) ggL_law_X5_turn
set_option maxRecDepth 20000 in
theorem ggL_law_X6_turn : GoodIn wsL_law wsX6_turn := goodIn_r _ [276, 110, 117, 241, 242, 243, 5, 244, 155, 156, 157, 158, 159, 160, 161, 111, 201, 202, 203, 204, 115, 116, 118, 205, 206, 207, 208, 209, 210, 211, 212, 213, 214, 215, 216, 217, 218, 162, 163, 164, 165, 166, 112, 615, 616, 617, 618, 619, 620, 621, 622, 623, 624, 625, 626, 627, 628, 629, 630, 631, 632, 633, 634] (by decide +kernel) (by decide +kernel)
set_option maxRecDepth 20000 in
theorem gL_law_X6_turn : GoodIn wsL_law (wsV RL 34 RX6 yX6_turn wsX6_turn) := goodIn_app (goodIn_of _ (by decide +kernel)) ggL_law_X6_turn
set_option maxRecDepth 20000 in
theorem ggL_law_X5_read : GoodIn wsL_law wsX5_read := goodIn_r _ [280, 32, 33, 16, 127, 171, 37, 281, 272, 282, 20, 283, 284, 285, 31, 286, 287, 288, 65, 289, 290, 291, 292, 293, 294, 295, 296, 297, 298, 299, 300, 301, 302, 303, 304, 305, 306, 307, 308, 309, 310, 311, 312, 313, 182, 183, 15, 184, 132, 45, 46, 128, 129, 130, 131, 133, 134, 135, 36, 136, 137, 71, 138, 139, 140, 141, 142, 143, 144, 145, 44, 146, 147, 148, 149, 181, 72, 73, 74, 19, 75, 76, 77, 78, 52, 53, 79, 80, 81, 82, 83, 84, 85, 86, 54, 87, 55, 88, 50, 51, 89, 90, 91, 92, 93, 94, 95, 96, 97, 2, 98, 99, 100, 101, 102, 103, 104, 105, 604, 605, 606, 607, 608, 609, 610, 611, 612, 613, 614, 635, 636, 637, 638, 655, 656, 657, 658, 659, 660, 661, 662, 639, 640, 641, 642, 643, 644, 645, 646, 647, 648, 649, 650] (by decide +kernel) (by decide +kernel)
set_option maxRecDepth 20000 in
theorem gL_law_X5_read : GoodIn wsL_law (wsV RL 35 RX5 yX5_read wsX5_read) := goodIn_app (goodIn_of _ (by decide +kernel)) ggL_law_X5_read
set_option maxRecDepth 20000 in
theorem ggL_law_X6_read : GoodIn wsL_law wsX6_read := goodIn_r _ [317, 318, 121, 110, 122, 319, 320, 321, 322, 5, 323, 324, 325, 326, 327, 328, 329, 120, 330, 331, 332, 333, 334, 335, 336, 337, 155, 156, 157, 338, 339, 340, 341, 189, 190, 191, 192, 193, 194, 195, 196, 158, 159, 160, 161, 111, 197, 198, 199, 200, 162, 163, 164, 165, 166, 112, 615, 616, 617, 618, 619, 620, 621, 622, 623, 624, 625, 626, 627, 628, 629, 630, 631, 632, 633, 634] (by decide +kernel) (by decide +kernel)
set_option maxRecDepth 20000 in
theorem gL_law_X6_read : GoodIn wsL_law (wsV RL 39 RX6 yX6_read wsX6_read) := goodIn_app (goodIn_of _ (by decide +kernel)) ggL_law_X6_read
set_option maxRecDepth 20000 in
theorem ggL_law_X5_rule : GoodIn wsL_law wsX5_rule := goodIn_r _ [345, 16, 20, 172, 281, 272, 346, 223, 224, 225, 15, 226, 132, 347, 348, 349, 19, 350, 78, 51, 351, 352, 353, 354, 77, 52, 604, 605, 606, 607, 608, 609, 610, 611, 612, 613, 614, 639, 640, 641, 642, 643, 644, 645, 646, 647, 648, 649, 650, 635, 636, 637, 638] (by decide +kernel) (by decide +kernel)
set_option maxRecDepth 20000 in
theorem gL_law_X5_rule : GoodIn wsL_law (wsV RL 40 RX5 yX5_rule wsX5_rule) := goodIn_app (goodIn_of _ (by decide +kernel)) ggL_law_X5_rule
set_option maxRecDepth 20000 in
theorem ggL_law_X6_rule : GoodIn wsL_law wsX6_rule := goodIn_r _ [358, 110, 117, 118, 241, 242, 243, 5, 244, 155, 156, 157, 201, 202, 203, 204, 115, 116, 205, 206, 207, 208, 209, 210, 211, 212, 213, 214, 215, 216, 217, 218, 359, 360, 361, 362, 363, 364, 365, 366, 367, 368, 369, 370, 615, 616, 617, 618, 619, 620, 621, 622, 623, 624, 625, 626, 627, 628, 629, 630, 631, 632, 633, 634] (by decide +kernel) (by decide +kernel)
set_option maxRecDepth 20000 in
theorem gL_law_X6_rule : GoodIn wsL_law (wsV RL 43 RX6 yX6_rule wsX6_rule) := goodIn_app (goodIn_of _ (by decide +kernel)) ggL_law_X6_rule
set_option maxRecDepth 20000 in
theorem ggL_law_X5_choice : GoodIn wsL_law wsX5_choice := goodIn_r _ [374, 16, 127, 20, 375, 376, 377, 19, 378, 86, 87, 93, 94, 95, 96, 88, 53, 54, 55, 379, 380, 381, 15, 382, 132, 45, 383, 384, 385, 386, 77, 387, 604, 605, 606, 607, 608, 609, 610, 611, 612, 613, 614, 635, 636, 637, 638, 639, 640, 641, 642, 643, 644, 645, 646, 647, 648, 649, 650] (by decide +kernel) (by decide +kernel)
set_option maxRecDepth 20000 in
theorem gL_law_X5_choice : GoodIn wsL_law (wsV RL 44 RX5 yX5_choice wsX5_choice) := goodIn_app (goodIn_of _ (by decide +kernel)) ggL_law_X5_choice
set_option maxRecDepth 20000 in
theorem ggL_law_X6_choice : GoodIn wsL_law wsX6_choice := goodIn_r _ [391, 110, 155, 156, 5, 157, 201, 202, 203, 204, 115, 116, 117, 118, 205, 206, 207, 208, 209, 210, 211, 212, 213, 214, 215, 216, 217, 218, 392, 393, 394, 395, 396, 397, 398, 399, 400, 401, 402, 403, 615, 616, 617, 618, 619, 620, 621, 622, 623, 624, 625, 626, 627, 628, 629, 630, 631, 632, 633, 634] (by decide +kernel) (by decide +kernel)
set_option maxRecDepth 20000 in
theorem gL_law_X6_choice : GoodIn wsL_law (wsV RL 47 RX6 yX6_choice wsX6_choice) := goodIn_app (goodIn_of _ (by decide +kernel)) ggL_law_X6_choice
set_option maxRecDepth 20000 in
theorem ggL_law_X5_count : GoodIn wsL_law wsX5_count := goodIn_r _ [407, 16, 171, 20, 408, 127, 32, 282, 37, 409, 351, 352, 353, 19, 354, 77, 52, 410, 411, 412, 413, 387, 376, 377, 378, 86, 87, 93, 94, 95, 96, 88, 53, 54, 55, 604, 605, 606, 607, 608, 609, 610, 611, 612, 613, 614, 635, 636, 637, 638, 639, 640, 641, 642, 643, 644, 645, 646, 647, 648, 649, 650, 655, 656, 657, 658, 659, 660, 661, 662] (by decide +kernel) (by decide +kernel)
set_option maxRecDepth 20000 in
theorem gL_law_X5_count : GoodIn wsL_law (wsV RL 48 RX5 yX5_count wsX5_count) := goodIn_app (goodIn_of _ (by decide +kernel)) ggL_law_X5_count
set_option maxRecDepth 20000 in
theorem ggL_law_X6_count : GoodIn wsL_law wsX6_count := goodIn_r _ [417, 110, 319, 166, 367, 368, 369, 5, 370, 117, 201, 202, 203, 204, 115, 116, 118, 205, 206, 207, 208, 209, 210, 211, 212, 213, 214, 215, 216, 217, 218, 363, 364, 365, 366, 418, 419, 420, 421, 392, 393, 394, 395, 615, 616, 617, 618, 619, 620, 621, 622, 623, 624, 625, 626, 627, 628, 629, 630, 631, 632, 633, 634] (by decide +kernel) (by decide +kernel)
set_option maxRecDepth 20000 in
theorem gL_law_X6_count : GoodIn wsL_law (wsV RL 51 RX6 yX6_count wsX6_count) := goodIn_app (goodIn_of _ (by decide +kernel)) ggL_law_X6_count
set_option maxRecDepth 20000 in
theorem ggL_law_X5_answer : GoodIn wsL_law wsX5_answer := goodIn_r _ [425, 20, 351, 352, 353, 19, 354, 77, 52, 426, 427, 428, 429, 53, 54, 430, 2, 431, 99, 100, 101, 102, 103, 104, 105, 604, 605, 606, 607, 608, 609, 610, 611, 612, 613, 614, 639, 640, 641, 642, 643, 644, 645, 646, 647, 648, 649, 650] (by decide +kernel) (by decide +kernel)
set_option maxRecDepth 20000 in
theorem gL_law_X5_answer : GoodIn wsL_law (wsV RL 52 RX5 yX5_answer wsX5_answer) := goodIn_app (goodIn_of _ (by decide +kernel)) ggL_law_X5_answer
set_option maxRecDepth 20000 in
theorem ggL_law_X6_answer : GoodIn wsL_law wsX6_answer := goodIn_r _ [435, 363, 364, 365, 5, 366, 110, 367, 368, 369, 370, 117, 201, 202, 203, 204, 115, 116, 118, 205, 206, 207, 208, 209, 210, 211, 212, 213, 214, 215, 216, 217, 218, 155, 156, 157, 436, 437, 438, 439, 440, 441, 442, 443, 444, 445, 446, 447, 448, 449, 615, 616, 617, 618, 619, 620, 621, 622, 623, 624, 625, 626, 627, 628, 629, 630, 631, 632, 633, 634] (by decide +kernel) (by decide +kernel)
set_option maxRecDepth 20000 in
theorem gL_law_X6_answer : GoodIn wsL_law (wsV RL 55 RX6 yX6_answer wsX6_answer) := goodIn_app (goodIn_of _ (by decide +kernel)) ggL_law_X6_answer
set_option maxRecDepth 20000 in
theorem ggL_law_X5_known : GoodIn wsL_law wsX5_known := goodIn_r _ [453, 16, 20, 177, 178, 179, 15, 180, 44, 375, 376, 377, 19, 378, 86, 87, 93, 94, 95, 96, 88, 53, 54, 55, 604, 605, 606, 607, 608, 609, 610, 611, 612, 613, 614, 635, 636, 637, 638, 639, 640, 641, 642, 643, 644, 645, 646, 647, 648, 649, 650] (by decide +kernel) (by decide +kernel)
set_option maxRecDepth 20000 in
theorem gL_law_X5_known : GoodIn wsL_law (wsV RL 56 RX5 yX5_known wsX5_known) := goodIn_app (goodIn_of _ (by decide +kernel)) ggL_law_X5_known
set_option maxRecDepth 20000 in
theorem ggL_law_X6_known : GoodIn wsL_law wsX6_known := goodIn_r _ [457, 201, 202, 203, 5, 204, 115, 116, 110, 117, 118, 205, 206, 207, 208, 209, 210, 211, 212, 213, 214, 215, 216, 217, 218, 193, 194, 195, 196, 155, 156, 157, 392, 393, 394, 395, 615, 616, 617, 618, 619, 620, 621, 622, 623, 624, 625, 626, 627, 628, 629, 630, 631, 632, 633, 634] (by decide +kernel) (by decide +kernel)
set_option maxRecDepth 20000 in
theorem gL_law_X6_known : GoodIn wsL_law (wsV RL 59 RX6 yX6_known wsX6_known) := goodIn_app (goodIn_of _ (by decide +kernel)) ggL_law_X6_known
set_option maxRecDepth 20000 in
theorem ggL_law_X5_nearest : GoodIn wsL_law wsX5_nearest := goodIn_r _ [461, 16, 20, 177, 178, 179, 15, 180, 44, 462, 463, 464, 19, 465, 56, 466, 467, 468, 469, 77, 52, 470, 427, 428, 429, 53, 54, 430, 2, 431, 99, 100, 101, 102, 103, 104, 105, 471, 472, 352, 353, 354, 97, 98, 604, 605, 606, 607, 608, 609, 610, 611, 612, 613, 614, 635, 636, 637, 638, 639, 640, 641, 642, 643, 644, 645, 646, 647, 648, 649, 650] (by decide +kernel) (by decide +kernel)
set_option maxRecDepth 20000 in
theorem gL_law_X5_nearest : GoodIn wsL_law (wsV RL 60 RX5 yX5_nearest wsX5_nearest) := goodIn_app (goodIn_of _ (by decide +kernel)) ggL_law_X5_nearest
set_option maxRecDepth 20000 in
theorem ggL_law_X6_nearest : GoodIn wsL_law wsX6_nearest := goodIn_r _ [476, 193, 194, 195, 5, 196, 110, 155, 156, 157, 201, 202, 203, 204, 115, 116, 117, 118, 205, 206, 207, 208, 209, 210, 211, 212, 213, 214, 215, 216, 217, 218, 447, 448, 449, 436, 437, 438, 439, 440, 441, 442, 443, 444, 445, 446, 615, 616, 617, 618, 619, 620, 621, 622, 623, 624, 625, 626, 627, 628, 629, 630, 631, 632, 633, 634] (by decide +kernel) (by decide +kernel)
set_option maxRecDepth 20000 in
theorem gL_law_X6_nearest : GoodIn wsL_law (wsV RL 63 RX6 yX6_nearest wsX6_nearest) := goodIn_app (goodIn_of _ (by decide +kernel)) ggL_law_X6_nearest
set_option maxRecDepth 20000 in
theorem ggL_law_X5_best : GoodIn wsL_law wsX5_best := goodIn_r _ [480, 28, 16, 481, 482, 483, 484, 485, 486, 27, 487, 488, 489, 490, 491, 60, 492, 493, 494, 495, 496, 497, 430, 2, 431, 99, 100, 101, 102, 103, 104, 105, 498, 499, 500, 501, 502, 97, 98, 604, 605, 606, 607, 608, 609, 610, 611, 612, 613, 614, 651, 652, 653, 654, 635, 636, 637, 638] (by decide +kernel) (by decide +kernel)
set_option maxRecDepth 20000 in
theorem gL_law_X5_best : GoodIn wsL_law (wsV RL 64 RX5 yX5_best wsX5_best) := goodIn_app (goodIn_of _ (by decide +kernel)) ggL_law_X5_best
set_option maxRecDepth 20000 in
theorem ggL_law_X6_best : GoodIn wsL_law wsX6_best := goodIn_r _ [506, 507, 155, 156, 5, 157, 193, 194, 195, 196, 110, 508, 509, 510, 511, 440, 441, 442, 443, 444, 445, 446, 447, 448, 449, 615, 616, 617, 618, 619, 620, 621, 622, 623, 624, 625, 626, 627, 628, 629, 630, 631, 632, 633, 634] (by decide +kernel) (by decide +kernel)
set_option maxRecDepth 20000 in
theorem gL_law_X6_best : GoodIn wsL_law (wsV RL 67 RX6 yX6_best wsX6_best) := goodIn_app (goodIn_of _ (by decide +kernel)) ggL_law_X6_best
set_option maxRecDepth 20000 in
theorem ggL_law_X5_ifTold : GoodIn wsL_law wsX5_ifTold := goodIn_r _ [515, 20, 173, 174, 175, 2, 176, 16, 177, 178, 179, 15, 180, 44, 516, 90, 91, 19, 92, 86, 87, 93, 94, 95, 96, 88, 53, 54, 55, 604, 605, 606, 607, 608, 609, 610, 611, 612, 613, 614, 635, 636, 637, 638, 639, 640, 641, 642, 643, 644, 645, 646, 647, 648, 649, 650] (by decide +kernel) (by decide +kernel)
set_option maxRecDepth 20000 in
theorem gL_law_X5_ifTold : GoodIn wsL_law (wsV RL 68 RX5 yX5_ifTold wsX5_ifTold) := goodIn_app (goodIn_of _ (by decide +kernel)) ggL_law_X5_ifTold
set_option maxRecDepth 20000 in
theorem ggL_law_X6_ifTold : GoodIn wsL_law wsX6_ifTold := goodIn_r _ [520, 189, 190, 191, 5, 192, 193, 194, 195, 196, 110, 155, 156, 157, 201, 202, 203, 204, 115, 116, 117, 118, 205, 206, 207, 208, 209, 210, 211, 212, 213, 214, 215, 216, 217, 218, 615, 616, 617, 618, 619, 620, 621, 622, 623, 624, 625, 626, 627, 628, 629, 630, 631, 632, 633, 634] (by decide +kernel) (by decide +kernel)
set_option maxRecDepth 20000 in
theorem gL_law_X6_ifTold : GoodIn wsL_law (wsV RL 71 RX6 yX6_ifTold wsX6_ifTold) := goodIn_app (goodIn_of _ (by decide +kernel)) ggL_law_X6_ifTold
set_option maxRecDepth 20000 in
theorem ggL_law_X5_ifDropped : GoodIn wsL_law wsX5_ifDropped := goodIn_r _ [524, 16, 21, 22, 223, 224, 225, 15, 226, 132, 525, 143, 144, 145, 44, 45, 146, 147, 148, 149, 46, 227, 228, 229, 230, 231, 232, 233, 234, 235, 2, 236, 72, 73, 74, 19, 75, 76, 77, 78, 52, 53, 79, 80, 81, 82, 83, 84, 85, 86, 54, 87, 55, 88, 50, 51, 89, 90, 91, 92, 93, 94, 95, 96, 97, 98, 99, 100, 101, 102, 103, 104, 105, 351, 352, 353, 354, 604, 605, 606, 607, 608, 609, 610, 611, 612, 613, 614, 635, 636, 637, 638, 639, 640, 641, 642, 643, 644, 645, 646, 647, 648, 649, 650] (by decide +kernel) (by decide +kernel)
set_option maxRecDepth 20000 in
theorem gL_law_X5_ifDropped : GoodIn wsL_law (wsV RL 72 RX5 yX5_ifDropped wsX5_ifDropped) := goodIn_app (goodIn_of _ (by decide +kernel)) ggL_law_X5_ifDropped
set_option maxRecDepth 20000 in
theorem ggL_law_X6_ifDropped : GoodIn wsL_law wsX6_ifDropped := goodIn_r _ [529, 241, 242, 243, 5, 244, 110, 155, 156, 157, 158, 159, 160, 161, 111, 245, 246, 247, 248, 363, 364, 365, 366, 367, 368, 369, 370, 117, 201, 202, 203, 204, 115, 116, 118, 205, 206, 207, 208, 209, 210, 211, 212, 213, 214, 215, 216, 217, 218, 530, 531, 532, 533, 615, 616, 617, 618, 619, 620, 621, 622, 623, 624, 625, 626, 627, 628, 629, 630, 631, 632, 633, 634] (by decide +kernel) (by decide +kernel)
set_option maxRecDepth 20000 in
theorem gL_law_X6_ifDropped : GoodIn wsL_law (wsV RL 75 RX6 yX6_ifDropped wsX6_ifDropped) := goodIn_app (goodIn_of _ (by decide +kernel)) ggL_law_X6_ifDropped
set_option maxRecDepth 20000 in
theorem ggL_law_X5_ifMoved : GoodIn wsL_law wsX5_ifMoved := goodIn_r _ [537, 16, 21, 22, 408, 223, 224, 225, 15, 226, 132, 525, 143, 144, 145, 44, 45, 146, 147, 148, 149, 46, 255, 232, 233, 234, 235, 2, 236, 72, 73, 74, 19, 75, 76, 77, 78, 52, 53, 79, 80, 81, 82, 83, 84, 85, 86, 54, 87, 55, 88, 50, 51, 89, 90, 91, 92, 93, 94, 95, 96, 97, 98, 99, 100, 101, 102, 103, 104, 105, 604, 605, 606, 607, 608, 609, 610, 611, 612, 613, 614, 639, 640, 641, 642, 643, 644, 645, 646, 647, 648, 649, 650, 635, 636, 637, 638] (by decide +kernel) (by decide +kernel)
set_option maxRecDepth 20000 in
theorem gL_law_X5_ifMoved : GoodIn wsL_law (wsV RL 76 RX5 yX5_ifMoved wsX5_ifMoved) := goodIn_app (goodIn_of _ (by decide +kernel)) ggL_law_X5_ifMoved
set_option maxRecDepth 20000 in
theorem ggL_law_X6_ifMoved : GoodIn wsL_law wsX6_ifMoved := goodIn_r _ [541, 241, 242, 243, 5, 244, 110, 155, 156, 157, 158, 159, 160, 161, 111, 260, 261, 262, 263, 245, 246, 247, 248, 264, 265, 266, 267, 367, 368, 369, 370, 117, 201, 202, 203, 204, 115, 116, 118, 205, 206, 207, 208, 209, 210, 211, 212, 213, 214, 215, 216, 217, 218, 530, 531, 532, 533, 615, 616, 617, 618, 619, 620, 621, 622, 623, 624, 625, 626, 627, 628, 629, 630, 631, 632, 633, 634] (by decide +kernel) (by decide +kernel)
set_option maxRecDepth 20000 in
theorem gL_law_X6_ifMoved : GoodIn wsL_law (wsV RL 79 RX6 yX6_ifMoved wsX6_ifMoved) := goodIn_app (goodIn_of _ (by decide +kernel)) ggL_law_X6_ifMoved
set_option maxRecDepth 20000 in
theorem ggL_law_X5_put : GoodIn wsL_law wsX5_put := goodIn_r _ [545, 32, 282, 546, 547, 548, 2, 549, 550, 551, 552, 553, 554, 31, 555, 288, 65, 604, 605, 606, 607, 608, 609, 610, 611, 612, 613, 614, 655, 656, 657, 658, 659, 660] (by decide +kernel) (by decide +kernel)
set_option maxRecDepth 20000 in
theorem gL_law_X5_put : GoodIn wsL_law (wsV RL 82 RX5 yX5_put wsX5_put) := goodIn_app (goodIn_of _ (by decide +kernel)) ggL_law_X5_put
set_option maxRecDepth 20000 in
theorem ggL_law_X6_put : GoodIn wsL_law wsX6_put := goodIn_r _ [559, 560, 561, 562, 319, 120, 155, 156, 5, 157, 615, 616, 617, 618, 619, 620, 621, 622, 623, 624, 625, 626, 627, 628, 629, 630, 631, 632, 633, 634] (by decide +kernel) (by decide +kernel)
set_option maxRecDepth 20000 in
theorem gL_law_X6_put : GoodIn wsL_law (wsV RL 86 RX6 yX6_put wsX6_put) := goodIn_app (goodIn_of _ (by decide +kernel)) ggL_law_X6_put
set_option maxRecDepth 20000 in
theorem ggL_law_X5_wipe : GoodIn wsL_law wsX5_wipe := goodIn_r _ [566, 32, 282, 604, 605, 606, 607, 608, 609, 610, 611, 612, 613, 614, 655, 656, 657, 658, 659, 660] (by decide +kernel) (by decide +kernel)
set_option maxRecDepth 20000 in
theorem gL_law_X5_wipe : GoodIn wsL_law (wsV RL 87 RX5 yX5_wipe wsX5_wipe) := goodIn_app (goodIn_of _ (by decide +kernel)) ggL_law_X5_wipe
set_option maxRecDepth 20000 in
theorem ggL_law_X6_wipe : GoodIn wsL_law wsX6_wipe := goodIn_r _ [570, 319, 615, 616, 617, 618, 619, 620, 621, 622, 623, 624, 625, 626, 627, 628, 629, 630, 631, 632, 633, 634] (by decide +kernel) (by decide +kernel)
set_option maxRecDepth 20000 in
theorem gL_law_X6_wipe : GoodIn wsL_law (wsV RL 90 RX6 yX6_wipe wsX6_wipe) := goodIn_app (goodIn_of _ (by decide +kernel)) ggL_law_X6_wipe
set_option maxRecDepth 20000 in
theorem ggL_law_X5_fault : GoodIn wsL_law wsX5_fault := goodIn_r _ [574, 32, 33, 283, 284, 285, 31, 286, 287, 288, 65, 289, 290, 291, 292, 293, 294, 295, 296, 297, 298, 299, 300, 301, 302, 303, 304, 305, 306, 307, 308, 309, 310, 311, 312, 313, 182, 183, 15, 184, 132, 45, 46, 604, 605, 606, 607, 608, 609, 610, 611, 612, 613, 614, 635, 636, 637, 638, 655, 656, 657, 658, 659, 660] (by decide +kernel) (by decide +kernel)
set_option maxRecDepth 20000 in
theorem gL_law_X5_fault : GoodIn wsL_law (wsV RL 91 RX5 yX5_fault wsX5_fault) := goodIn_app (goodIn_of _ (by decide +kernel)) ggL_law_X5_fault
set_option maxRecDepth 20000 in
theorem ggL_law_X6_fault : GoodIn wsL_law wsX6_fault := goodIn_r _ [323, 324, 318, 319, 325, 326, 327, 5, 328, 329, 121, 122, 120, 330, 331, 332, 333, 334, 335, 336, 337, 155, 156, 157, 338, 339, 340, 341, 615, 616, 617, 618, 619, 620, 621, 622, 623, 624, 625, 626, 627, 628, 629, 630, 631, 632, 633, 634] (by decide +kernel) (by decide +kernel)
set_option maxRecDepth 20000 in
theorem gL_law_X6_fault : GoodIn wsL_law (wsV RL 94 RX6 yX6_fault wsX6_fault) := goodIn_app (goodIn_of _ (by decide +kernel)) ggL_law_X6_fault
set_option maxRecDepth 20000 in
theorem ggL_law_X5_undo : GoodIn wsL_law wsX5_undo := goodIn_r _ [579, 37, 409, 16, 20, 580, 581, 582, 36, 583, 137, 71, 142, 143, 144, 15, 145, 44, 132, 45, 146, 147, 148, 149, 46, 72, 73, 74, 19, 75, 76, 77, 78, 52, 53, 79, 80, 81, 82, 83, 84, 85, 86, 54, 87, 55, 88, 50, 51, 89, 90, 91, 92, 93, 94, 95, 96, 97, 2, 98, 99, 100, 101, 102, 103, 104, 105, 604, 605, 606, 607, 608, 609, 610, 611, 612, 613, 614, 661, 662, 635, 636, 637, 638, 639, 640, 641, 642, 643, 644, 645, 646, 647, 648, 649, 650] (by decide +kernel) (by decide +kernel)
set_option maxRecDepth 20000 in
theorem gL_law_X5_undo : GoodIn wsL_law (wsV RL 95 RX5 yX5_undo wsX5_undo) := goodIn_app (goodIn_of _ (by decide +kernel)) ggL_law_X5_undo
set_option maxRecDepth 20000 in
theorem ggL_law_X6_undo : GoodIn wsL_law wsX6_undo := goodIn_r _ [587, 166, 110, 112, 615, 616, 617, 618, 619, 620, 621, 622, 623, 624, 625, 626, 627, 628, 629, 630, 631, 632, 633, 634] (by decide +kernel) (by decide +kernel)
set_option maxRecDepth 20000 in
theorem gL_law_X6_undo : GoodIn wsL_law (wsV RL 98 RX6 yX6_undo wsX6_undo) := goodIn_app (goodIn_of _ (by decide +kernel)) ggL_law_X6_undo
set_option maxRecDepth 20000 in
theorem ggL_law_X5_save : GoodIn wsL_law wsX5_save := goodIn_r _ [591, 38, 16, 40, 171, 525, 143, 144, 15, 145, 44, 132, 45, 146, 147, 148, 149, 46, 604, 605, 606, 607, 608, 609, 610, 611, 612, 613, 614, 635, 636, 637, 638] (by decide +kernel) (by decide +kernel)
set_option maxRecDepth 20000 in
theorem gL_law_X5_save : GoodIn wsL_law (wsV RL 99 RX5 yX5_save wsX5_save) := goodIn_app (goodIn_of _ (by decide +kernel)) ggL_law_X5_save
set_option maxRecDepth 20000 in
theorem ggL_law_X6_save : GoodIn wsL_law wsX6_save := goodIn_r _ [595, 113, 110, 114, 155, 156, 5, 157, 615, 616, 617, 618, 619, 620, 621, 622, 623, 624, 625, 626, 627, 628, 629, 630, 631, 632, 633, 634] (by decide +kernel) (by decide +kernel)
set_option maxRecDepth 20000 in
theorem gL_law_X6_save : GoodIn wsL_law (wsV RL 102 RX6 yX6_save wsX6_save) := goodIn_app (goodIn_of _ (by decide +kernel)) ggL_law_X6_save
set_option maxRecDepth 20000 in
theorem ggL_law_X5_restore : GoodIn wsL_law wsX5_restore := goodIn_r _ [599, 40, 37, 16, 38, 20, 171, 133, 134, 135, 36, 136, 137, 71, 138, 139, 140, 141, 142, 143, 144, 15, 145, 44, 132, 45, 146, 147, 148, 149, 46, 525, 72, 73, 74, 19, 75, 76, 77, 78, 52, 53, 79, 80, 81, 82, 83, 84, 85, 86, 54, 87, 55, 88, 50, 51, 89, 90, 91, 92, 93, 94, 95, 96, 97, 2, 98, 99, 100, 101, 102, 103, 104, 105, 604, 605, 606, 607, 608, 609, 610, 611, 612, 613, 614, 635, 636, 637, 638, 661, 662, 639, 640, 641, 642, 643, 644, 645, 646, 647, 648, 649, 650] (by decide +kernel) (by decide +kernel)
set_option maxRecDepth 20000 in
theorem gL_law_X5_restore : GoodIn wsL_law (wsV RL 103 RX5 yX5_restore wsX5_restore) := goodIn_app (goodIn_of _ (by decide +kernel)) ggL_law_X5_restore
set_option maxRecDepth 20000 in
theorem ggL_law_X6_restore : GoodIn wsL_law wsX6_restore := goodIn_r _ [603, 114, 110, 113, 155, 156, 5, 157, 158, 159, 160, 161, 111, 162, 163, 164, 165, 166, 112, 615, 616, 617, 618, 619, 620, 621, 622, 623, 624, 625, 626, 627, 628, 629, 630, 631, 632, 633, 634] (by decide +kernel) (by decide +kernel)
set_option maxRecDepth 20000 in
theorem gL_law_X6_restore : GoodIn wsL_law (wsV RL 106 RX6 yX6_restore wsX6_restore) := goodIn_app (goodIn_of _ (by decide +kernel)) ggL_law_X6_restore
theorem dL_law_0 : decode cL_law 0 = .ok (.new 7, 3) := by decide +kernel
theorem dL_law_3 : decode cL_law 3 = .ok (.dup, 1) := by decide +kernel
theorem dL_law_4 : decode cL_law 4 = .ok (.invokespecial 9, 3) := by decide +kernel
theorem dL_law_7 : decode cL_law 7 = .ok (.astore_n 1, 1) := by decide +kernel
theorem dL_law_8 : decode cL_law 8 = .ok (.new 10, 3) := by decide +kernel
theorem dL_law_11 : decode cL_law 11 = .ok (.dup, 1) := by decide +kernel
theorem dL_law_12 : decode cL_law 12 = .ok (.invokespecial 12, 3) := by decide +kernel
theorem dL_law_15 : decode cL_law 15 = .ok (.astore_n 2, 1) := by decide +kernel
theorem dL_law_16 : decode cL_law 16 = .ok (.iconst 0, 1) := by decide +kernel
theorem dL_law_17 : decode cL_law 17 = .ok (.istore_n 3, 1) := by decide +kernel
theorem dL_law_18 : decode cL_law 18 = .ok (.iload_n 3, 1) := by decide +kernel
theorem dL_law_19 : decode cL_law 19 = .ok (.aload_n 0, 1) := by decide +kernel
theorem dL_law_20 : decode cL_law 20 = .ok (.arraylength, 1) := by decide +kernel
theorem dL_law_21 : decode cL_law 21 = .ok (.iconst 3, 1) := by decide +kernel
theorem dL_law_22 : decode cL_law 22 = .ok (.isub, 1) := by decide +kernel
theorem dL_law_23 : decode cL_law 23 = .ok (.if_icmp .gt 685, 3) := by decide +kernel
theorem dL_law_26 : decode cL_law 26 = .ok (.aload_n 0, 1) := by decide +kernel
theorem dL_law_27 : decode cL_law 27 = .ok (.iload_n 3, 1) := by decide +kernel
theorem dL_law_28 : decode cL_law 28 = .ok (.iaload, 1) := by decide +kernel
theorem dL_law_29 : decode cL_law 29 = .ok (.bipush 31, 2) := by decide +kernel
theorem dL_law_31 : decode cL_law 31 = .ok (.iand, 1) := by decide +kernel
theorem dL_law_32 : decode cL_law 32 = .ok (.tableswitch 670 0 21 #[104, 127, 160, 183, 216, 239, 252, 285, 318, 341, 364, 387, 420, 443, 476, 499, 532, 585, 598, 611, 624, 647], 104) := by decide +kernel
theorem dL_law_136 : decode cL_law 136 = .ok (.aload_n 1, 1) := by decide +kernel
theorem dL_law_137 : decode cL_law 137 = .ok (.aload_n 0, 1) := by decide +kernel
theorem dL_law_138 : decode cL_law 138 = .ok (.iload_n 3, 1) := by decide +kernel
theorem dL_law_139 : decode cL_law 139 = .ok (.iconst 1, 1) := by decide +kernel
theorem dL_law_140 : decode cL_law 140 = .ok (.iadd, 1) := by decide +kernel
theorem dL_law_141 : decode cL_law 141 = .ok (.iaload, 1) := by decide +kernel
theorem dL_law_142 : decode cL_law 142 = .ok (.invokevirtual 13, 3) := by decide +kernel
theorem dL_law_145 : decode cL_law 145 = .ok (.aload_n 2, 1) := by decide +kernel
theorem dL_law_146 : decode cL_law 146 = .ok (.aload_n 0, 1) := by decide +kernel
theorem dL_law_147 : decode cL_law 147 = .ok (.iload_n 3, 1) := by decide +kernel
theorem dL_law_148 : decode cL_law 148 = .ok (.iconst 1, 1) := by decide +kernel
theorem dL_law_149 : decode cL_law 149 = .ok (.iadd, 1) := by decide +kernel
theorem dL_law_150 : decode cL_law 150 = .ok (.iaload, 1) := by decide +kernel
theorem dL_law_151 : decode cL_law 151 = .ok (.invokevirtual 17, 3) := by decide +kernel
theorem dL_law_154 : decode cL_law 154 = .ok (.if_icmp .eq 548, 3) := by decide +kernel
theorem dL_law_157 : decode cL_law 157 = .ok (.iconst 0, 1) := by decide +kernel
theorem dL_law_158 : decode cL_law 158 = .ok (.ireturn, 1) := by decide +kernel
theorem dL_law_159 : decode cL_law 159 = .ok (.aload_n 1, 1) := by decide +kernel
theorem dL_law_160 : decode cL_law 160 = .ok (.aload_n 0, 1) := by decide +kernel
theorem dL_law_161 : decode cL_law 161 = .ok (.iload_n 3, 1) := by decide +kernel
theorem dL_law_162 : decode cL_law 162 = .ok (.iconst 1, 1) := by decide +kernel
theorem dL_law_163 : decode cL_law 163 = .ok (.iadd, 1) := by decide +kernel
theorem dL_law_164 : decode cL_law 164 = .ok (.iaload, 1) := by decide +kernel
theorem dL_law_165 : decode cL_law 165 = .ok (.aload_n 0, 1) := by decide +kernel
theorem dL_law_166 : decode cL_law 166 = .ok (.iload_n 3, 1) := by decide +kernel
theorem dL_law_167 : decode cL_law 167 = .ok (.iconst 2, 1) := by decide +kernel
theorem dL_law_168 : decode cL_law 168 = .ok (.iadd, 1) := by decide +kernel
theorem dL_law_169 : decode cL_law 169 = .ok (.iaload, 1) := by decide +kernel
theorem dL_law_170 : decode cL_law 170 = .ok (.invokevirtual 18, 3) := by decide +kernel
theorem dL_law_173 : decode cL_law 173 = .ok (.aload_n 2, 1) := by decide +kernel
theorem dL_law_174 : decode cL_law 174 = .ok (.aload_n 0, 1) := by decide +kernel
theorem dL_law_175 : decode cL_law 175 = .ok (.iload_n 3, 1) := by decide +kernel
theorem dL_law_176 : decode cL_law 176 = .ok (.iconst 1, 1) := by decide +kernel
theorem dL_law_177 : decode cL_law 177 = .ok (.iadd, 1) := by decide +kernel
theorem dL_law_178 : decode cL_law 178 = .ok (.iaload, 1) := by decide +kernel
theorem dL_law_179 : decode cL_law 179 = .ok (.aload_n 0, 1) := by decide +kernel
theorem dL_law_180 : decode cL_law 180 = .ok (.iload_n 3, 1) := by decide +kernel
theorem dL_law_181 : decode cL_law 181 = .ok (.iconst 2, 1) := by decide +kernel
theorem dL_law_182 : decode cL_law 182 = .ok (.iadd, 1) := by decide +kernel
theorem dL_law_183 : decode cL_law 183 = .ok (.iaload, 1) := by decide +kernel
theorem dL_law_184 : decode cL_law 184 = .ok (.invokevirtual 22, 3) := by decide +kernel
theorem dL_law_187 : decode cL_law 187 = .ok (.if_icmp .eq 515, 3) := by decide +kernel
theorem dL_law_190 : decode cL_law 190 = .ok (.iconst 0, 1) := by decide +kernel
theorem dL_law_191 : decode cL_law 191 = .ok (.ireturn, 1) := by decide +kernel
theorem dL_law_192 : decode cL_law 192 = .ok (.aload_n 1, 1) := by decide +kernel
theorem dL_law_193 : decode cL_law 193 = .ok (.aload_n 0, 1) := by decide +kernel
theorem dL_law_194 : decode cL_law 194 = .ok (.iload_n 3, 1) := by decide +kernel
theorem dL_law_195 : decode cL_law 195 = .ok (.iconst 1, 1) := by decide +kernel
theorem dL_law_196 : decode cL_law 196 = .ok (.iadd, 1) := by decide +kernel
theorem dL_law_197 : decode cL_law 197 = .ok (.iaload, 1) := by decide +kernel
theorem dL_law_198 : decode cL_law 198 = .ok (.invokevirtual 23, 3) := by decide +kernel
theorem dL_law_201 : decode cL_law 201 = .ok (.aload_n 2, 1) := by decide +kernel
theorem dL_law_202 : decode cL_law 202 = .ok (.aload_n 0, 1) := by decide +kernel
theorem dL_law_203 : decode cL_law 203 = .ok (.iload_n 3, 1) := by decide +kernel
theorem dL_law_204 : decode cL_law 204 = .ok (.iconst 1, 1) := by decide +kernel
theorem dL_law_205 : decode cL_law 205 = .ok (.iadd, 1) := by decide +kernel
theorem dL_law_206 : decode cL_law 206 = .ok (.iaload, 1) := by decide +kernel
theorem dL_law_207 : decode cL_law 207 = .ok (.invokevirtual 26, 3) := by decide +kernel
theorem dL_law_210 : decode cL_law 210 = .ok (.if_icmp .eq 492, 3) := by decide +kernel
theorem dL_law_213 : decode cL_law 213 = .ok (.iconst 0, 1) := by decide +kernel
theorem dL_law_214 : decode cL_law 214 = .ok (.ireturn, 1) := by decide +kernel
theorem dL_law_215 : decode cL_law 215 = .ok (.aload_n 1, 1) := by decide +kernel
theorem dL_law_216 : decode cL_law 216 = .ok (.aload_n 0, 1) := by decide +kernel
theorem dL_law_217 : decode cL_law 217 = .ok (.iload_n 3, 1) := by decide +kernel
theorem dL_law_218 : decode cL_law 218 = .ok (.iconst 1, 1) := by decide +kernel
theorem dL_law_219 : decode cL_law 219 = .ok (.iadd, 1) := by decide +kernel
theorem dL_law_220 : decode cL_law 220 = .ok (.iaload, 1) := by decide +kernel
theorem dL_law_221 : decode cL_law 221 = .ok (.aload_n 0, 1) := by decide +kernel
theorem dL_law_222 : decode cL_law 222 = .ok (.iload_n 3, 1) := by decide +kernel
theorem dL_law_223 : decode cL_law 223 = .ok (.iconst 2, 1) := by decide +kernel
theorem dL_law_224 : decode cL_law 224 = .ok (.iadd, 1) := by decide +kernel
theorem dL_law_225 : decode cL_law 225 = .ok (.iaload, 1) := by decide +kernel
theorem dL_law_226 : decode cL_law 226 = .ok (.invokevirtual 27, 3) := by decide +kernel
theorem dL_law_229 : decode cL_law 229 = .ok (.aload_n 2, 1) := by decide +kernel
theorem dL_law_230 : decode cL_law 230 = .ok (.aload_n 0, 1) := by decide +kernel
theorem dL_law_231 : decode cL_law 231 = .ok (.iload_n 3, 1) := by decide +kernel
theorem dL_law_232 : decode cL_law 232 = .ok (.iconst 1, 1) := by decide +kernel
theorem dL_law_233 : decode cL_law 233 = .ok (.iadd, 1) := by decide +kernel
theorem dL_law_234 : decode cL_law 234 = .ok (.iaload, 1) := by decide +kernel
theorem dL_law_235 : decode cL_law 235 = .ok (.aload_n 0, 1) := by decide +kernel
theorem dL_law_236 : decode cL_law 236 = .ok (.iload_n 3, 1) := by decide +kernel
theorem dL_law_237 : decode cL_law 237 = .ok (.iconst 2, 1) := by decide +kernel
theorem dL_law_238 : decode cL_law 238 = .ok (.iadd, 1) := by decide +kernel
theorem dL_law_239 : decode cL_law 239 = .ok (.iaload, 1) := by decide +kernel
theorem dL_law_240 : decode cL_law 240 = .ok (.invokevirtual 30, 3) := by decide +kernel
theorem dL_law_243 : decode cL_law 243 = .ok (.if_icmp .eq 459, 3) := by decide +kernel
theorem dL_law_246 : decode cL_law 246 = .ok (.iconst 0, 1) := by decide +kernel
theorem dL_law_247 : decode cL_law 247 = .ok (.ireturn, 1) := by decide +kernel
theorem dL_law_248 : decode cL_law 248 = .ok (.aload_n 1, 1) := by decide +kernel
theorem dL_law_249 : decode cL_law 249 = .ok (.aload_n 0, 1) := by decide +kernel
theorem dL_law_250 : decode cL_law 250 = .ok (.iload_n 3, 1) := by decide +kernel
theorem dL_law_251 : decode cL_law 251 = .ok (.iconst 1, 1) := by decide +kernel
theorem dL_law_252 : decode cL_law 252 = .ok (.iadd, 1) := by decide +kernel
theorem dL_law_253 : decode cL_law 253 = .ok (.iaload, 1) := by decide +kernel
theorem dL_law_254 : decode cL_law 254 = .ok (.invokevirtual 31, 3) := by decide +kernel
theorem dL_law_257 : decode cL_law 257 = .ok (.aload_n 2, 1) := by decide +kernel
theorem dL_law_258 : decode cL_law 258 = .ok (.aload_n 0, 1) := by decide +kernel
theorem dL_law_259 : decode cL_law 259 = .ok (.iload_n 3, 1) := by decide +kernel
theorem dL_law_260 : decode cL_law 260 = .ok (.iconst 1, 1) := by decide +kernel
theorem dL_law_261 : decode cL_law 261 = .ok (.iadd, 1) := by decide +kernel
theorem dL_law_262 : decode cL_law 262 = .ok (.iaload, 1) := by decide +kernel
theorem dL_law_263 : decode cL_law 263 = .ok (.invokevirtual 34, 3) := by decide +kernel
theorem dL_law_266 : decode cL_law 266 = .ok (.if_icmp .eq 436, 3) := by decide +kernel
theorem dL_law_269 : decode cL_law 269 = .ok (.iconst 0, 1) := by decide +kernel
theorem dL_law_270 : decode cL_law 270 = .ok (.ireturn, 1) := by decide +kernel
theorem dL_law_271 : decode cL_law 271 = .ok (.aload_n 1, 1) := by decide +kernel
theorem dL_law_272 : decode cL_law 272 = .ok (.invokevirtual 35, 3) := by decide +kernel
theorem dL_law_275 : decode cL_law 275 = .ok (.aload_n 2, 1) := by decide +kernel
theorem dL_law_276 : decode cL_law 276 = .ok (.invokevirtual 39, 3) := by decide +kernel
theorem dL_law_279 : decode cL_law 279 = .ok (.if_icmp .eq 423, 3) := by decide +kernel
theorem dL_law_282 : decode cL_law 282 = .ok (.iconst 0, 1) := by decide +kernel
theorem dL_law_283 : decode cL_law 283 = .ok (.ireturn, 1) := by decide +kernel
theorem dL_law_284 : decode cL_law 284 = .ok (.aload_n 1, 1) := by decide +kernel
theorem dL_law_285 : decode cL_law 285 = .ok (.aload_n 0, 1) := by decide +kernel
theorem dL_law_286 : decode cL_law 286 = .ok (.iload_n 3, 1) := by decide +kernel
theorem dL_law_287 : decode cL_law 287 = .ok (.iconst 1, 1) := by decide +kernel
theorem dL_law_288 : decode cL_law 288 = .ok (.iadd, 1) := by decide +kernel
theorem dL_law_289 : decode cL_law 289 = .ok (.iaload, 1) := by decide +kernel
theorem dL_law_290 : decode cL_law 290 = .ok (.aload_n 0, 1) := by decide +kernel
theorem dL_law_291 : decode cL_law 291 = .ok (.iload_n 3, 1) := by decide +kernel
theorem dL_law_292 : decode cL_law 292 = .ok (.iconst 2, 1) := by decide +kernel
theorem dL_law_293 : decode cL_law 293 = .ok (.iadd, 1) := by decide +kernel
theorem dL_law_294 : decode cL_law 294 = .ok (.iaload, 1) := by decide +kernel
theorem dL_law_295 : decode cL_law 295 = .ok (.invokevirtual 40, 3) := by decide +kernel
theorem dL_law_298 : decode cL_law 298 = .ok (.aload_n 2, 1) := by decide +kernel
theorem dL_law_299 : decode cL_law 299 = .ok (.aload_n 0, 1) := by decide +kernel
theorem dL_law_300 : decode cL_law 300 = .ok (.iload_n 3, 1) := by decide +kernel
theorem dL_law_301 : decode cL_law 301 = .ok (.iconst 1, 1) := by decide +kernel
theorem dL_law_302 : decode cL_law 302 = .ok (.iadd, 1) := by decide +kernel
theorem dL_law_303 : decode cL_law 303 = .ok (.iaload, 1) := by decide +kernel
theorem dL_law_304 : decode cL_law 304 = .ok (.aload_n 0, 1) := by decide +kernel
theorem dL_law_305 : decode cL_law 305 = .ok (.iload_n 3, 1) := by decide +kernel
theorem dL_law_306 : decode cL_law 306 = .ok (.iconst 2, 1) := by decide +kernel
theorem dL_law_307 : decode cL_law 307 = .ok (.iadd, 1) := by decide +kernel
theorem dL_law_308 : decode cL_law 308 = .ok (.iaload, 1) := by decide +kernel
theorem dL_law_309 : decode cL_law 309 = .ok (.invokevirtual 43, 3) := by decide +kernel
theorem dL_law_312 : decode cL_law 312 = .ok (.if_icmp .eq 390, 3) := by decide +kernel
theorem dL_law_315 : decode cL_law 315 = .ok (.iconst 0, 1) := by decide +kernel
theorem dL_law_316 : decode cL_law 316 = .ok (.ireturn, 1) := by decide +kernel
theorem dL_law_317 : decode cL_law 317 = .ok (.aload_n 1, 1) := by decide +kernel
theorem dL_law_318 : decode cL_law 318 = .ok (.aload_n 0, 1) := by decide +kernel
theorem dL_law_319 : decode cL_law 319 = .ok (.iload_n 3, 1) := by decide +kernel
theorem dL_law_320 : decode cL_law 320 = .ok (.iconst 1, 1) := by decide +kernel
theorem dL_law_321 : decode cL_law 321 = .ok (.iadd, 1) := by decide +kernel
theorem dL_law_322 : decode cL_law 322 = .ok (.iaload, 1) := by decide +kernel
theorem dL_law_323 : decode cL_law 323 = .ok (.aload_n 0, 1) := by decide +kernel
theorem dL_law_324 : decode cL_law 324 = .ok (.iload_n 3, 1) := by decide +kernel
theorem dL_law_325 : decode cL_law 325 = .ok (.iconst 2, 1) := by decide +kernel
theorem dL_law_326 : decode cL_law 326 = .ok (.iadd, 1) := by decide +kernel
theorem dL_law_327 : decode cL_law 327 = .ok (.iaload, 1) := by decide +kernel
theorem dL_law_328 : decode cL_law 328 = .ok (.invokevirtual 44, 3) := by decide +kernel
theorem dL_law_331 : decode cL_law 331 = .ok (.aload_n 2, 1) := by decide +kernel
theorem dL_law_332 : decode cL_law 332 = .ok (.aload_n 0, 1) := by decide +kernel
theorem dL_law_333 : decode cL_law 333 = .ok (.iload_n 3, 1) := by decide +kernel
theorem dL_law_334 : decode cL_law 334 = .ok (.iconst 1, 1) := by decide +kernel
theorem dL_law_335 : decode cL_law 335 = .ok (.iadd, 1) := by decide +kernel
theorem dL_law_336 : decode cL_law 336 = .ok (.iaload, 1) := by decide +kernel
theorem dL_law_337 : decode cL_law 337 = .ok (.aload_n 0, 1) := by decide +kernel
theorem dL_law_338 : decode cL_law 338 = .ok (.iload_n 3, 1) := by decide +kernel
theorem dL_law_339 : decode cL_law 339 = .ok (.iconst 2, 1) := by decide +kernel
theorem dL_law_340 : decode cL_law 340 = .ok (.iadd, 1) := by decide +kernel
theorem dL_law_341 : decode cL_law 341 = .ok (.iaload, 1) := by decide +kernel
theorem dL_law_342 : decode cL_law 342 = .ok (.invokevirtual 47, 3) := by decide +kernel
theorem dL_law_345 : decode cL_law 345 = .ok (.if_icmp .eq 357, 3) := by decide +kernel
theorem dL_law_348 : decode cL_law 348 = .ok (.iconst 0, 1) := by decide +kernel
theorem dL_law_349 : decode cL_law 349 = .ok (.ireturn, 1) := by decide +kernel
theorem dL_law_350 : decode cL_law 350 = .ok (.aload_n 1, 1) := by decide +kernel
theorem dL_law_351 : decode cL_law 351 = .ok (.aload_n 0, 1) := by decide +kernel
theorem dL_law_352 : decode cL_law 352 = .ok (.iload_n 3, 1) := by decide +kernel
theorem dL_law_353 : decode cL_law 353 = .ok (.iconst 1, 1) := by decide +kernel
theorem dL_law_354 : decode cL_law 354 = .ok (.iadd, 1) := by decide +kernel
theorem dL_law_355 : decode cL_law 355 = .ok (.iaload, 1) := by decide +kernel
theorem dL_law_356 : decode cL_law 356 = .ok (.invokevirtual 48, 3) := by decide +kernel
theorem dL_law_359 : decode cL_law 359 = .ok (.aload_n 2, 1) := by decide +kernel
theorem dL_law_360 : decode cL_law 360 = .ok (.aload_n 0, 1) := by decide +kernel
theorem dL_law_361 : decode cL_law 361 = .ok (.iload_n 3, 1) := by decide +kernel
theorem dL_law_362 : decode cL_law 362 = .ok (.iconst 1, 1) := by decide +kernel
theorem dL_law_363 : decode cL_law 363 = .ok (.iadd, 1) := by decide +kernel
theorem dL_law_364 : decode cL_law 364 = .ok (.iaload, 1) := by decide +kernel
theorem dL_law_365 : decode cL_law 365 = .ok (.invokevirtual 51, 3) := by decide +kernel
theorem dL_law_368 : decode cL_law 368 = .ok (.if_icmp .eq 334, 3) := by decide +kernel
theorem dL_law_371 : decode cL_law 371 = .ok (.iconst 0, 1) := by decide +kernel
theorem dL_law_372 : decode cL_law 372 = .ok (.ireturn, 1) := by decide +kernel
theorem dL_law_373 : decode cL_law 373 = .ok (.aload_n 1, 1) := by decide +kernel
theorem dL_law_374 : decode cL_law 374 = .ok (.aload_n 0, 1) := by decide +kernel
theorem dL_law_375 : decode cL_law 375 = .ok (.iload_n 3, 1) := by decide +kernel
theorem dL_law_376 : decode cL_law 376 = .ok (.iconst 1, 1) := by decide +kernel
theorem dL_law_377 : decode cL_law 377 = .ok (.iadd, 1) := by decide +kernel
theorem dL_law_378 : decode cL_law 378 = .ok (.iaload, 1) := by decide +kernel
theorem dL_law_379 : decode cL_law 379 = .ok (.invokevirtual 52, 3) := by decide +kernel
theorem dL_law_382 : decode cL_law 382 = .ok (.aload_n 2, 1) := by decide +kernel
theorem dL_law_383 : decode cL_law 383 = .ok (.aload_n 0, 1) := by decide +kernel
theorem dL_law_384 : decode cL_law 384 = .ok (.iload_n 3, 1) := by decide +kernel
theorem dL_law_385 : decode cL_law 385 = .ok (.iconst 1, 1) := by decide +kernel
theorem dL_law_386 : decode cL_law 386 = .ok (.iadd, 1) := by decide +kernel
theorem dL_law_387 : decode cL_law 387 = .ok (.iaload, 1) := by decide +kernel
theorem dL_law_388 : decode cL_law 388 = .ok (.invokevirtual 55, 3) := by decide +kernel
theorem dL_law_391 : decode cL_law 391 = .ok (.if_icmp .eq 311, 3) := by decide +kernel
theorem dL_law_394 : decode cL_law 394 = .ok (.iconst 0, 1) := by decide +kernel
theorem dL_law_395 : decode cL_law 395 = .ok (.ireturn, 1) := by decide +kernel
theorem dL_law_396 : decode cL_law 396 = .ok (.aload_n 1, 1) := by decide +kernel
theorem dL_law_397 : decode cL_law 397 = .ok (.aload_n 0, 1) := by decide +kernel
theorem dL_law_398 : decode cL_law 398 = .ok (.iload_n 3, 1) := by decide +kernel
theorem dL_law_399 : decode cL_law 399 = .ok (.iconst 1, 1) := by decide +kernel
theorem dL_law_400 : decode cL_law 400 = .ok (.iadd, 1) := by decide +kernel
theorem dL_law_401 : decode cL_law 401 = .ok (.iaload, 1) := by decide +kernel
theorem dL_law_402 : decode cL_law 402 = .ok (.invokevirtual 56, 3) := by decide +kernel
theorem dL_law_405 : decode cL_law 405 = .ok (.aload_n 2, 1) := by decide +kernel
theorem dL_law_406 : decode cL_law 406 = .ok (.aload_n 0, 1) := by decide +kernel
theorem dL_law_407 : decode cL_law 407 = .ok (.iload_n 3, 1) := by decide +kernel
theorem dL_law_408 : decode cL_law 408 = .ok (.iconst 1, 1) := by decide +kernel
theorem dL_law_409 : decode cL_law 409 = .ok (.iadd, 1) := by decide +kernel
theorem dL_law_410 : decode cL_law 410 = .ok (.iaload, 1) := by decide +kernel
theorem dL_law_411 : decode cL_law 411 = .ok (.invokevirtual 59, 3) := by decide +kernel
theorem dL_law_414 : decode cL_law 414 = .ok (.if_icmp .eq 288, 3) := by decide +kernel
theorem dL_law_417 : decode cL_law 417 = .ok (.iconst 0, 1) := by decide +kernel
theorem dL_law_418 : decode cL_law 418 = .ok (.ireturn, 1) := by decide +kernel
theorem dL_law_419 : decode cL_law 419 = .ok (.aload_n 1, 1) := by decide +kernel
theorem dL_law_420 : decode cL_law 420 = .ok (.aload_n 0, 1) := by decide +kernel
theorem dL_law_421 : decode cL_law 421 = .ok (.iload_n 3, 1) := by decide +kernel
theorem dL_law_422 : decode cL_law 422 = .ok (.iconst 1, 1) := by decide +kernel
theorem dL_law_423 : decode cL_law 423 = .ok (.iadd, 1) := by decide +kernel
theorem dL_law_424 : decode cL_law 424 = .ok (.iaload, 1) := by decide +kernel
theorem dL_law_425 : decode cL_law 425 = .ok (.aload_n 0, 1) := by decide +kernel
theorem dL_law_426 : decode cL_law 426 = .ok (.iload_n 3, 1) := by decide +kernel
theorem dL_law_427 : decode cL_law 427 = .ok (.iconst 2, 1) := by decide +kernel
theorem dL_law_428 : decode cL_law 428 = .ok (.iadd, 1) := by decide +kernel
theorem dL_law_429 : decode cL_law 429 = .ok (.iaload, 1) := by decide +kernel
theorem dL_law_430 : decode cL_law 430 = .ok (.invokevirtual 60, 3) := by decide +kernel
theorem dL_law_433 : decode cL_law 433 = .ok (.aload_n 2, 1) := by decide +kernel
theorem dL_law_434 : decode cL_law 434 = .ok (.aload_n 0, 1) := by decide +kernel
theorem dL_law_435 : decode cL_law 435 = .ok (.iload_n 3, 1) := by decide +kernel
theorem dL_law_436 : decode cL_law 436 = .ok (.iconst 1, 1) := by decide +kernel
theorem dL_law_437 : decode cL_law 437 = .ok (.iadd, 1) := by decide +kernel
theorem dL_law_438 : decode cL_law 438 = .ok (.iaload, 1) := by decide +kernel
theorem dL_law_439 : decode cL_law 439 = .ok (.aload_n 0, 1) := by decide +kernel
theorem dL_law_440 : decode cL_law 440 = .ok (.iload_n 3, 1) := by decide +kernel
theorem dL_law_441 : decode cL_law 441 = .ok (.iconst 2, 1) := by decide +kernel
theorem dL_law_442 : decode cL_law 442 = .ok (.iadd, 1) := by decide +kernel
theorem dL_law_443 : decode cL_law 443 = .ok (.iaload, 1) := by decide +kernel
theorem dL_law_444 : decode cL_law 444 = .ok (.invokevirtual 63, 3) := by decide +kernel
theorem dL_law_447 : decode cL_law 447 = .ok (.if_icmp .eq 255, 3) := by decide +kernel
theorem dL_law_450 : decode cL_law 450 = .ok (.iconst 0, 1) := by decide +kernel
theorem dL_law_451 : decode cL_law 451 = .ok (.ireturn, 1) := by decide +kernel
theorem dL_law_452 : decode cL_law 452 = .ok (.aload_n 1, 1) := by decide +kernel
theorem dL_law_453 : decode cL_law 453 = .ok (.aload_n 0, 1) := by decide +kernel
theorem dL_law_454 : decode cL_law 454 = .ok (.iload_n 3, 1) := by decide +kernel
theorem dL_law_455 : decode cL_law 455 = .ok (.iconst 1, 1) := by decide +kernel
theorem dL_law_456 : decode cL_law 456 = .ok (.iadd, 1) := by decide +kernel
theorem dL_law_457 : decode cL_law 457 = .ok (.iaload, 1) := by decide +kernel
theorem dL_law_458 : decode cL_law 458 = .ok (.invokevirtual 64, 3) := by decide +kernel
theorem dL_law_461 : decode cL_law 461 = .ok (.aload_n 2, 1) := by decide +kernel
theorem dL_law_462 : decode cL_law 462 = .ok (.aload_n 0, 1) := by decide +kernel
theorem dL_law_463 : decode cL_law 463 = .ok (.iload_n 3, 1) := by decide +kernel
theorem dL_law_464 : decode cL_law 464 = .ok (.iconst 1, 1) := by decide +kernel
theorem dL_law_465 : decode cL_law 465 = .ok (.iadd, 1) := by decide +kernel
theorem dL_law_466 : decode cL_law 466 = .ok (.iaload, 1) := by decide +kernel
theorem dL_law_467 : decode cL_law 467 = .ok (.invokevirtual 67, 3) := by decide +kernel
theorem dL_law_470 : decode cL_law 470 = .ok (.if_icmp .eq 232, 3) := by decide +kernel
theorem dL_law_473 : decode cL_law 473 = .ok (.iconst 0, 1) := by decide +kernel
theorem dL_law_474 : decode cL_law 474 = .ok (.ireturn, 1) := by decide +kernel
theorem dL_law_475 : decode cL_law 475 = .ok (.aload_n 1, 1) := by decide +kernel
theorem dL_law_476 : decode cL_law 476 = .ok (.aload_n 0, 1) := by decide +kernel
theorem dL_law_477 : decode cL_law 477 = .ok (.iload_n 3, 1) := by decide +kernel
theorem dL_law_478 : decode cL_law 478 = .ok (.iconst 1, 1) := by decide +kernel
theorem dL_law_479 : decode cL_law 479 = .ok (.iadd, 1) := by decide +kernel
theorem dL_law_480 : decode cL_law 480 = .ok (.iaload, 1) := by decide +kernel
theorem dL_law_481 : decode cL_law 481 = .ok (.aload_n 0, 1) := by decide +kernel
theorem dL_law_482 : decode cL_law 482 = .ok (.iload_n 3, 1) := by decide +kernel
theorem dL_law_483 : decode cL_law 483 = .ok (.iconst 2, 1) := by decide +kernel
theorem dL_law_484 : decode cL_law 484 = .ok (.iadd, 1) := by decide +kernel
theorem dL_law_485 : decode cL_law 485 = .ok (.iaload, 1) := by decide +kernel
theorem dL_law_486 : decode cL_law 486 = .ok (.invokevirtual 68, 3) := by decide +kernel
theorem dL_law_489 : decode cL_law 489 = .ok (.aload_n 2, 1) := by decide +kernel
theorem dL_law_490 : decode cL_law 490 = .ok (.aload_n 0, 1) := by decide +kernel
theorem dL_law_491 : decode cL_law 491 = .ok (.iload_n 3, 1) := by decide +kernel
theorem dL_law_492 : decode cL_law 492 = .ok (.iconst 1, 1) := by decide +kernel
theorem dL_law_493 : decode cL_law 493 = .ok (.iadd, 1) := by decide +kernel
theorem dL_law_494 : decode cL_law 494 = .ok (.iaload, 1) := by decide +kernel
theorem dL_law_495 : decode cL_law 495 = .ok (.aload_n 0, 1) := by decide +kernel
theorem dL_law_496 : decode cL_law 496 = .ok (.iload_n 3, 1) := by decide +kernel
theorem dL_law_497 : decode cL_law 497 = .ok (.iconst 2, 1) := by decide +kernel
theorem dL_law_498 : decode cL_law 498 = .ok (.iadd, 1) := by decide +kernel
theorem dL_law_499 : decode cL_law 499 = .ok (.iaload, 1) := by decide +kernel
theorem dL_law_500 : decode cL_law 500 = .ok (.invokevirtual 71, 3) := by decide +kernel
theorem dL_law_503 : decode cL_law 503 = .ok (.if_icmp .eq 199, 3) := by decide +kernel
theorem dL_law_506 : decode cL_law 506 = .ok (.iconst 0, 1) := by decide +kernel
theorem dL_law_507 : decode cL_law 507 = .ok (.ireturn, 1) := by decide +kernel
theorem dL_law_508 : decode cL_law 508 = .ok (.aload_n 1, 1) := by decide +kernel
theorem dL_law_509 : decode cL_law 509 = .ok (.aload_n 0, 1) := by decide +kernel
theorem dL_law_510 : decode cL_law 510 = .ok (.iload_n 3, 1) := by decide +kernel
theorem dL_law_511 : decode cL_law 511 = .ok (.iconst 1, 1) := by decide +kernel
theorem dL_law_512 : decode cL_law 512 = .ok (.iadd, 1) := by decide +kernel
theorem dL_law_513 : decode cL_law 513 = .ok (.iaload, 1) := by decide +kernel
theorem dL_law_514 : decode cL_law 514 = .ok (.invokevirtual 72, 3) := by decide +kernel
theorem dL_law_517 : decode cL_law 517 = .ok (.aload_n 2, 1) := by decide +kernel
theorem dL_law_518 : decode cL_law 518 = .ok (.aload_n 0, 1) := by decide +kernel
theorem dL_law_519 : decode cL_law 519 = .ok (.iload_n 3, 1) := by decide +kernel
theorem dL_law_520 : decode cL_law 520 = .ok (.iconst 1, 1) := by decide +kernel
theorem dL_law_521 : decode cL_law 521 = .ok (.iadd, 1) := by decide +kernel
theorem dL_law_522 : decode cL_law 522 = .ok (.iaload, 1) := by decide +kernel
theorem dL_law_523 : decode cL_law 523 = .ok (.invokevirtual 75, 3) := by decide +kernel
theorem dL_law_526 : decode cL_law 526 = .ok (.if_icmp .eq 176, 3) := by decide +kernel
theorem dL_law_529 : decode cL_law 529 = .ok (.iconst 0, 1) := by decide +kernel
theorem dL_law_530 : decode cL_law 530 = .ok (.ireturn, 1) := by decide +kernel
theorem dL_law_531 : decode cL_law 531 = .ok (.aload_n 1, 1) := by decide +kernel
theorem dL_law_532 : decode cL_law 532 = .ok (.aload_n 0, 1) := by decide +kernel
theorem dL_law_533 : decode cL_law 533 = .ok (.iload_n 3, 1) := by decide +kernel
theorem dL_law_534 : decode cL_law 534 = .ok (.iconst 1, 1) := by decide +kernel
theorem dL_law_535 : decode cL_law 535 = .ok (.iadd, 1) := by decide +kernel
theorem dL_law_536 : decode cL_law 536 = .ok (.iaload, 1) := by decide +kernel
theorem dL_law_537 : decode cL_law 537 = .ok (.aload_n 0, 1) := by decide +kernel
theorem dL_law_538 : decode cL_law 538 = .ok (.iload_n 3, 1) := by decide +kernel
theorem dL_law_539 : decode cL_law 539 = .ok (.iconst 2, 1) := by decide +kernel
theorem dL_law_540 : decode cL_law 540 = .ok (.iadd, 1) := by decide +kernel
theorem dL_law_541 : decode cL_law 541 = .ok (.iaload, 1) := by decide +kernel
theorem dL_law_542 : decode cL_law 542 = .ok (.invokevirtual 76, 3) := by decide +kernel
theorem dL_law_545 : decode cL_law 545 = .ok (.aload_n 2, 1) := by decide +kernel
theorem dL_law_546 : decode cL_law 546 = .ok (.aload_n 0, 1) := by decide +kernel
theorem dL_law_547 : decode cL_law 547 = .ok (.iload_n 3, 1) := by decide +kernel
theorem dL_law_548 : decode cL_law 548 = .ok (.iconst 1, 1) := by decide +kernel
theorem dL_law_549 : decode cL_law 549 = .ok (.iadd, 1) := by decide +kernel
theorem dL_law_550 : decode cL_law 550 = .ok (.iaload, 1) := by decide +kernel
theorem dL_law_551 : decode cL_law 551 = .ok (.aload_n 0, 1) := by decide +kernel
theorem dL_law_552 : decode cL_law 552 = .ok (.iload_n 3, 1) := by decide +kernel
theorem dL_law_553 : decode cL_law 553 = .ok (.iconst 2, 1) := by decide +kernel
theorem dL_law_554 : decode cL_law 554 = .ok (.iadd, 1) := by decide +kernel
theorem dL_law_555 : decode cL_law 555 = .ok (.iaload, 1) := by decide +kernel
theorem dL_law_556 : decode cL_law 556 = .ok (.invokevirtual 79, 3) := by decide +kernel
theorem dL_law_559 : decode cL_law 559 = .ok (.if_icmp .eq 143, 3) := by decide +kernel
theorem dL_law_562 : decode cL_law 562 = .ok (.iconst 0, 1) := by decide +kernel
theorem dL_law_563 : decode cL_law 563 = .ok (.ireturn, 1) := by decide +kernel
theorem dL_law_564 : decode cL_law 564 = .ok (.aload_n 1, 1) := by decide +kernel
theorem dL_law_565 : decode cL_law 565 = .ok (.aload_n 0, 1) := by decide +kernel
theorem dL_law_566 : decode cL_law 566 = .ok (.iload_n 3, 1) := by decide +kernel
theorem dL_law_567 : decode cL_law 567 = .ok (.iconst 1, 1) := by decide +kernel
theorem dL_law_568 : decode cL_law 568 = .ok (.iadd, 1) := by decide +kernel
theorem dL_law_569 : decode cL_law 569 = .ok (.iaload, 1) := by decide +kernel
theorem dL_law_570 : decode cL_law 570 = .ok (.i2l, 1) := by decide +kernel
theorem dL_law_571 : decode cL_law 571 = .ok (.bipush 32, 2) := by decide +kernel
theorem dL_law_573 : decode cL_law 573 = .ok (.lshl, 1) := by decide +kernel
theorem dL_law_574 : decode cL_law 574 = .ok (.aload_n 0, 1) := by decide +kernel
theorem dL_law_575 : decode cL_law 575 = .ok (.iload_n 3, 1) := by decide +kernel
theorem dL_law_576 : decode cL_law 576 = .ok (.iconst 2, 1) := by decide +kernel
theorem dL_law_577 : decode cL_law 577 = .ok (.iadd, 1) := by decide +kernel
theorem dL_law_578 : decode cL_law 578 = .ok (.iaload, 1) := by decide +kernel
theorem dL_law_579 : decode cL_law 579 = .ok (.i2l, 1) := by decide +kernel
theorem dL_law_580 : decode cL_law 580 = .ok (.ldc2_w 80, 3) := by decide +kernel
theorem dL_law_583 : decode cL_law 583 = .ok (.land, 1) := by decide +kernel
theorem dL_law_584 : decode cL_law 584 = .ok (.lor, 1) := by decide +kernel
theorem dL_law_585 : decode cL_law 585 = .ok (.invokevirtual 82, 3) := by decide +kernel
theorem dL_law_588 : decode cL_law 588 = .ok (.aload_n 2, 1) := by decide +kernel
theorem dL_law_589 : decode cL_law 589 = .ok (.aload_n 0, 1) := by decide +kernel
theorem dL_law_590 : decode cL_law 590 = .ok (.iload_n 3, 1) := by decide +kernel
theorem dL_law_591 : decode cL_law 591 = .ok (.iconst 1, 1) := by decide +kernel
theorem dL_law_592 : decode cL_law 592 = .ok (.iadd, 1) := by decide +kernel
theorem dL_law_593 : decode cL_law 593 = .ok (.iaload, 1) := by decide +kernel
theorem dL_law_594 : decode cL_law 594 = .ok (.i2l, 1) := by decide +kernel
theorem dL_law_595 : decode cL_law 595 = .ok (.bipush 32, 2) := by decide +kernel
theorem dL_law_597 : decode cL_law 597 = .ok (.lshl, 1) := by decide +kernel
theorem dL_law_598 : decode cL_law 598 = .ok (.aload_n 0, 1) := by decide +kernel
theorem dL_law_599 : decode cL_law 599 = .ok (.iload_n 3, 1) := by decide +kernel
theorem dL_law_600 : decode cL_law 600 = .ok (.iconst 2, 1) := by decide +kernel
theorem dL_law_601 : decode cL_law 601 = .ok (.iadd, 1) := by decide +kernel
theorem dL_law_602 : decode cL_law 602 = .ok (.iaload, 1) := by decide +kernel
theorem dL_law_603 : decode cL_law 603 = .ok (.i2l, 1) := by decide +kernel
theorem dL_law_604 : decode cL_law 604 = .ok (.ldc2_w 80, 3) := by decide +kernel
theorem dL_law_607 : decode cL_law 607 = .ok (.land, 1) := by decide +kernel
theorem dL_law_608 : decode cL_law 608 = .ok (.lor, 1) := by decide +kernel
theorem dL_law_609 : decode cL_law 609 = .ok (.invokevirtual 86, 3) := by decide +kernel
theorem dL_law_612 : decode cL_law 612 = .ok (.if_icmp .eq 90, 3) := by decide +kernel
theorem dL_law_615 : decode cL_law 615 = .ok (.iconst 0, 1) := by decide +kernel
theorem dL_law_616 : decode cL_law 616 = .ok (.ireturn, 1) := by decide +kernel
theorem dL_law_617 : decode cL_law 617 = .ok (.aload_n 1, 1) := by decide +kernel
theorem dL_law_618 : decode cL_law 618 = .ok (.invokevirtual 87, 3) := by decide +kernel
theorem dL_law_621 : decode cL_law 621 = .ok (.aload_n 2, 1) := by decide +kernel
theorem dL_law_622 : decode cL_law 622 = .ok (.invokevirtual 90, 3) := by decide +kernel
theorem dL_law_625 : decode cL_law 625 = .ok (.if_icmp .eq 77, 3) := by decide +kernel
theorem dL_law_628 : decode cL_law 628 = .ok (.iconst 0, 1) := by decide +kernel
theorem dL_law_629 : decode cL_law 629 = .ok (.ireturn, 1) := by decide +kernel
theorem dL_law_630 : decode cL_law 630 = .ok (.aload_n 1, 1) := by decide +kernel
theorem dL_law_631 : decode cL_law 631 = .ok (.invokevirtual 91, 3) := by decide +kernel
theorem dL_law_634 : decode cL_law 634 = .ok (.aload_n 2, 1) := by decide +kernel
theorem dL_law_635 : decode cL_law 635 = .ok (.invokevirtual 94, 3) := by decide +kernel
theorem dL_law_638 : decode cL_law 638 = .ok (.if_icmp .eq 64, 3) := by decide +kernel
theorem dL_law_641 : decode cL_law 641 = .ok (.iconst 0, 1) := by decide +kernel
theorem dL_law_642 : decode cL_law 642 = .ok (.ireturn, 1) := by decide +kernel
theorem dL_law_643 : decode cL_law 643 = .ok (.aload_n 1, 1) := by decide +kernel
theorem dL_law_644 : decode cL_law 644 = .ok (.invokevirtual 95, 3) := by decide +kernel
theorem dL_law_647 : decode cL_law 647 = .ok (.aload_n 2, 1) := by decide +kernel
theorem dL_law_648 : decode cL_law 648 = .ok (.invokevirtual 98, 3) := by decide +kernel
theorem dL_law_651 : decode cL_law 651 = .ok (.if_icmp .eq 51, 3) := by decide +kernel
theorem dL_law_654 : decode cL_law 654 = .ok (.iconst 0, 1) := by decide +kernel
theorem dL_law_655 : decode cL_law 655 = .ok (.ireturn, 1) := by decide +kernel
theorem dL_law_656 : decode cL_law 656 = .ok (.aload_n 1, 1) := by decide +kernel
theorem dL_law_657 : decode cL_law 657 = .ok (.aload_n 0, 1) := by decide +kernel
theorem dL_law_658 : decode cL_law 658 = .ok (.iload_n 3, 1) := by decide +kernel
theorem dL_law_659 : decode cL_law 659 = .ok (.iconst 1, 1) := by decide +kernel
theorem dL_law_660 : decode cL_law 660 = .ok (.iadd, 1) := by decide +kernel
theorem dL_law_661 : decode cL_law 661 = .ok (.iaload, 1) := by decide +kernel
theorem dL_law_662 : decode cL_law 662 = .ok (.invokevirtual 99, 3) := by decide +kernel
theorem dL_law_665 : decode cL_law 665 = .ok (.aload_n 2, 1) := by decide +kernel
theorem dL_law_666 : decode cL_law 666 = .ok (.aload_n 0, 1) := by decide +kernel
theorem dL_law_667 : decode cL_law 667 = .ok (.iload_n 3, 1) := by decide +kernel
theorem dL_law_668 : decode cL_law 668 = .ok (.iconst 1, 1) := by decide +kernel
theorem dL_law_669 : decode cL_law 669 = .ok (.iadd, 1) := by decide +kernel
theorem dL_law_670 : decode cL_law 670 = .ok (.iaload, 1) := by decide +kernel
theorem dL_law_671 : decode cL_law 671 = .ok (.invokevirtual 102, 3) := by decide +kernel
theorem dL_law_674 : decode cL_law 674 = .ok (.if_icmp .eq 28, 3) := by decide +kernel
theorem dL_law_677 : decode cL_law 677 = .ok (.iconst 0, 1) := by decide +kernel
theorem dL_law_678 : decode cL_law 678 = .ok (.ireturn, 1) := by decide +kernel
theorem dL_law_679 : decode cL_law 679 = .ok (.aload_n 1, 1) := by decide +kernel
theorem dL_law_680 : decode cL_law 680 = .ok (.aload_n 0, 1) := by decide +kernel
theorem dL_law_681 : decode cL_law 681 = .ok (.iload_n 3, 1) := by decide +kernel
theorem dL_law_682 : decode cL_law 682 = .ok (.iconst 1, 1) := by decide +kernel
theorem dL_law_683 : decode cL_law 683 = .ok (.iadd, 1) := by decide +kernel
theorem dL_law_684 : decode cL_law 684 = .ok (.iaload, 1) := by decide +kernel
theorem dL_law_685 : decode cL_law 685 = .ok (.invokevirtual 103, 3) := by decide +kernel
theorem dL_law_688 : decode cL_law 688 = .ok (.aload_n 2, 1) := by decide +kernel
theorem dL_law_689 : decode cL_law 689 = .ok (.aload_n 0, 1) := by decide +kernel
theorem dL_law_690 : decode cL_law 690 = .ok (.iload_n 3, 1) := by decide +kernel
theorem dL_law_691 : decode cL_law 691 = .ok (.iconst 1, 1) := by decide +kernel
theorem dL_law_692 : decode cL_law 692 = .ok (.iadd, 1) := by decide +kernel
theorem dL_law_693 : decode cL_law 693 = .ok (.iaload, 1) := by decide +kernel
theorem dL_law_694 : decode cL_law 694 = .ok (.invokevirtual 106, 3) := by decide +kernel
theorem dL_law_697 : decode cL_law 697 = .ok (.if_icmp .eq 5, 3) := by decide +kernel
theorem dL_law_700 : decode cL_law 700 = .ok (.iconst 0, 1) := by decide +kernel
theorem dL_law_701 : decode cL_law 701 = .ok (.ireturn, 1) := by decide +kernel
theorem dL_law_702 : decode cL_law 702 = .ok (.iinc 3 3, 3) := by decide +kernel
theorem dL_law_705 : decode cL_law 705 = .ok (.goto (-687), 3) := by decide +kernel
theorem dL_law_708 : decode cL_law 708 = .ok (.iconst 1, 1) := by decide +kernel
theorem dL_law_709 : decode cL_law 709 = .ok (.ireturn, 1) := by decide +kernel
end
section
/-! numbers -/
def nA (f : Nat → Nat) : Nat → Int32 := fun j => nI (f j)
def bN (b : Bool) : Nat := if b then 1 else 0
def dn : Nat → Int32
  | 0 => -1
  | k + 1 => nI k
def pu (f : Nat → Nat) (k x : Nat) : Nat → Nat := fun j => if j = k then x else f j
theorem pu_s {f : Nat → Nat} {k x : Nat} : pu f k x k = x := if_pos rfl
theorem pu_n {f : Nat → Nat} {k x j : Nat} (h : j ≠ k) : pu f k x j = f j := if_neg h
theorem nA_upd (f : Nat → Nat) (k x : Nat) : upd (nA f) k (nI x) = nA (pu f k x) := by
  funext j
  simp only [upd, nA, pu]
  split <;> rfl
theorem bN_le (b : Bool) : bN b ≤ 1 := by cases b <;> decide
theorem bN_t {p : Prop} [Decidable p] (h : p) : bN (decide p) = 1 := by simp [bN, h]
theorem bN_f {p : Prop} [Decidable p] (h : ¬ p) : bN (decide p) = 0 := by simp [bN, h]
theorem bN_31 (b : Bool) : bN b < 2147483648 := by cases b <;> decide
theorem bN_eq0 {b : Bool} (h : bN b = 0) : b = false := by cases b <;> simp_all [bN]
theorem bN_ne0 {b : Bool} (h : ¬ bN b = 0) : b = true := by cases b <;> simp_all [bN]
theorem bz_t {b : Bool} (h : b = true) : nI 1 = nI (bN b) := by rw [h]; rfl
theorem bz_f {b : Bool} (h : b = false) : nI 0 = nI (bN b) := by rw [h]; rfl
theorem dn_1 (k : Nat) : dn k + nI 1 = nI k := by
  cases k with
  | zero => decide +kernel
  | succ k => exact nI_1 k
theorem z_and (a b : Nat) : nI a &&& nI b = nI (a &&& b) := by
  apply Int32.toBitVec_inj.1
  show BitVec.ofNat 32 a &&& BitVec.ofNat 32 b = BitVec.ofNat 32 (a &&& b)
  apply BitVec.eq_of_getLsbD_eq
  intro i hi
  simp [hi]
theorem z_xor (a b : Nat) : nI a ^^^ nI b = nI (a ^^^ b) := by
  apply Int32.toBitVec_inj.1
  show BitVec.ofNat 32 a ^^^ BitVec.ofNat 32 b = BitVec.ofNat 32 (a ^^^ b)
  apply BitVec.eq_of_getLsbD_eq
  intro i hi
  simp [hi]
theorem z_or (a b : Nat) : nI a ||| nI b = nI (a ||| b) := by
  apply Int32.toBitVec_inj.1
  show BitVec.ofNat 32 a ||| BitVec.ofNat 32 b = BitVec.ofNat 32 (a ||| b)
  apply BitVec.eq_of_getLsbD_eq
  intro i hi
  simp [hi]
theorem z_cnt : ∀ n, n < 32 → ((nI n &&& 31).toBitVec.smod 32).toNat = n := by decide +kernel
theorem z_shr {a n : Nat} (ha : a < 2147483648) (hn : n < 32) : nI a >>> (nI n &&& 31) = nI (a >>> n) := by
  rw [pk_shrN ha _ n (z_cnt n hn), Nat.shiftRight_eq_div_pow]
theorem z_shl {a n : Nat} (hn : n < 32) : nI a <<< (nI n &&& 31) = nI (a <<< n) := by
  apply Int32.toBitVec_inj.mp
  apply BitVec.eq_of_toNat_eq
  rw [pk_shl _ _ n (z_cnt n hn)]
  show (BitVec.ofNat 32 a).toNat * 2 ^ n % 2 ^ 32 = (BitVec.ofNat 32 (a <<< n)).toNat
  rw [BitVec.toNat_ofNat, BitVec.toNat_ofNat, Nat.shiftLeft_eq, Nat.mod_mul_mod]
theorem z_i1 (k : Nat) : nI k + Int32.ofInt 1 = nI (k + 1) := nI_add k 1
theorem z_i3 (k : Nat) : nI k + Int32.ofInt 3 = nI (k + 3) := nI_add k 3
theorem z_im (k : Nat) : nI (k + 1) + Int32.ofInt (-1) = nI k := pk_m1 k
theorem z_im1 {k : Nat} (h : 0 < k) : nI k + Int32.ofInt (-1) = nI (k - 1) := by
  obtain ⟨j, rfl⟩ : ∃ j, k = j + 1 := ⟨k - 1, by omega⟩
  exact pk_m1 j
theorem z_imd (k : Nat) : nI k + Int32.ofInt (-1) = dn k := by
  cases k with
  | zero => decide +kernel
  | succ k => exact pk_m1 k
theorem z_subd (k : Nat) : nI k - nI 1 = dn k := by
  cases k with
  | zero => decide +kernel
  | succ k => exact nI_pred k
theorem dn_toInt {k : Nat} (h : k ≤ 2147483648) : (dn k).toInt = (k : Int) - 1 := by
  cases k with
  | zero => decide +kernel
  | succ k =>
    show (nI k).toInt = _
    rw [nI_toInt (by omega)]
    omega
theorem z_toInt {n : Nat} (h : n < 2147483648) : (nI n).toInt = (n : Int) := nI_toInt h
theorem z_eq {a b : Nat} (ha : a < 2147483648) (hb : b < 2147483648) : nI a = nI b ↔ a = b := nI_eq ha hb
theorem z_eq0 {a : Nat} (ha : a < 2147483648) : nI a = 0 ↔ a = 0 := by
  rw [← nI_0]
  exact nI_eq ha (by omega)
theorem z_in {i n : Nat} (h : i < n) (hn : n < 2147483648) : vp_in (nI i) n := vp_in_nI h hn
theorem z_cl {i : Nat} (h : i < 2147483648) : (nI i).toNatClampNeg = i := nI_clamp h
theorem z_of {x : Int32} (h : 0 ≤ x.toInt) : ∃ k : Nat, k < 2147483648 ∧ x = nI k ∧ x.toInt = (k : Int) := by
  obtain ⟨j, h1, h2⟩ := nI_of (x := x) (fun q => by
    rw [Int32.lt_iff_toInt_lt] at q
    have e : (0 : Int32).toInt = 0 := by decide
    omega)
  exact ⟨j, h1, h2, by rw [h2]; exact nI_toInt h1⟩
/-! the launch's words for private members of nest mates, the classes, the array classes: what every contract carries -/
abbrev gT : Type := (Nat → ClassId) × (Nat → Nat → Nat) × ClassId × ClassId × ClassId × ClassId
abbrev gD (G : gT) : va_G := (G.1, G.2.1)
abbrev gI (G : gT) : ClassId := G.2.2.1
abbrev gC (G : gT) : ClassId := G.2.2.2.1
abbrev gZ (G : gT) : ClassId := G.2.2.2.2.1
abbrev gO (G : gT) : ClassId := G.2.2.2.2.2
abbrev gY (G : gT) : List (ClassId × FieldType) := [(gI G, .int), (gC G, .char), (gZ G, .boolean), (gO G, .object RX3)]
def nwL : List Cond := [.methodLinkNest RX5 9 yX3_init RX5, .methodLinkNest RX5 18 yX4_init RX5, .methodLinkNest RX5 35 yX0_init RX5, .methodLinkNest RX5 42 yX2_init RX5, .methodLinkNest RX0 44 yX5_lowestBit RX5, .methodLinkNest RX0 56 yX5_parity RX5, .methodLinkNest RX1 17 yX3_init RX5, .methodLinkNest RX3 31 yX5_carry RX5, .methodLinkNest RX4 61 yX5_lowestBit RX5, .methodLinkNest RX4 77 yX5_parity RX5]
def gK (G : gT) (U : State) : Prop := va_K (gD G) vwCl (gY G) U ∧ ∀ w ∈ nwL, va_Nw w U
theorem nw_form : ∀ w ∈ nwL, ∃ a i x h, w = Cond.methodLinkNest a i x h := by
  intro w hw
  simp only [nwL, List.mem_cons, List.not_mem_nil, or_false] at hw
  rcases hw with h | h | h | h | h | h | h | h | h | h <;> exact ⟨_, _, _, _, h⟩
theorem gK.warm {G : gT} {s U : State} (hW : s.WarmedH U.vm) (h : gK G s) : gK G U := by
  refine ⟨va_K.moved hW.alike h.1, fun w hw => ?_⟩
  obtain ⟨a, i, x, z, rfl⟩ := nw_form w hw
  exact va_Nw.warmM hW (h.2 _ hw)
theorem gK.same {G : gT} {u U : State} (hv : u.vm = U.vm) (h : gK G u) : gK G U := by
  refine ⟨va_K.moved (u := u) (U := U) (by rw [hv]; exact Vm.Alike.refl _) h.1, fun w hw => ?_⟩
  obtain ⟨a, i, x, z, rfl⟩ := nw_form w hw
  exact va_Nw.same rfl hv (h.2 _ hw)
/-! contracts -/
def cP (G : gT) (ws : va_W) (sz : Nat) : State → Prop := fun U => U.heap.size = sz ∧ va_P (gD G) vwCl ws U.heap ∧ gK G U ∧ va_D (fun _ => True) ws
def cB {S : Type} (G : gT) (A : Nat → Prop) (wf : S → va_W) : S → State → Prop := fun u t => va_P (gD G) vwCl (wf u) t.heap ∧ va_D A (wf u)
theorem cP_blind {G : gT} {ws : va_W} {sz : Nat} {av : List Value} : FrameBlind (va_Pc av (cP G ws sz)) := fun _ U g mk q => ⟨q.1, q.2.1, q.2.2.1, gK.same (u := U) rfl q.2.2.2.1, q.2.2.2.2⟩
/-- a method with an int or boolean answer; mc cells of ms slots are made; wf: the world behind it -/
def CI {S : Type} (l : Launch) (y : MethodName) (w : List Cond) (rm : Room) (G : gT) (av : List Value) (ws : va_W) (mc ms : Nat) (post : Int32 → S → Prop) (wf : S → va_W) : Prop :=
  ∀ sz : Nat, Met l y w rm (va_Pc av (cP G ws sz)) (va_Qi post (cB G (va_A ws sz) wf) (va_A ws sz)) mc ms (va_A ws sz)
def CV {S : Type} (l : Launch) (y : MethodName) (w : List Cond) (rm : Room) (G : gT) (av : List Value) (ws : va_W) (mc ms : Nat) (post : S → Prop) (wf : S → va_W) : Prop :=
  ∀ sz : Nat, Met l y w rm (va_Pc av (cP G ws sz)) (va_Qv post (cB G (va_A ws sz) wf) (va_A ws sz)) mc ms (va_A ws sz)

theorem CI.of {S : Type} {l : Launch} {y : MethodName} {w ws' : List Cond} {rm : Room} {G : gT} {av : List Value} {ws : va_W} {mc ms : Nat} {post : Int32 → S → Prop} {wf : S → va_W} {cc : ByteArray} {maxL : Nat} {ret : Option FieldType} {lvl : List (Nat × Value)}
    (hy : plainName y.cls = true) (hw : w = Cond.code y cc maxL ret :: ws') (hn : (lg_sl av).length ≤ maxL) (hlv : lv_args 0 av = lvl)
    (body : ∀ (p : Program) (e : Env) (s : State) (m : MethodId) (args : Array Value) (below : List Frame) (meth : Method) (c : Code) (A : Nat → Prop), CallFix p m c cc maxL s args w y.cls → meth.sig.returnType = ret → meth.locks = false → meth.name = y.name → gK G s → (∀ q, s.heap.size ≤ q → A q) → va_P (gD G) vwCl ws s.heap → va_D A ws → va_S A s.heap s.heap [] → ∀ ls : Array Slot, lv_has ls maxL lvl →
      W p l e rm s m args below meth c s.heap [] 0 0 (MQ below (va_Qi post (cB G A wf) A) args s mc ms A) (F0 m 0 ls [])) : CI l y w rm G av ws mc ms post wf := by
  intro sz
  refine Met.ofW (cc := cc) (maxL := maxL) (ret := ret) hy hw ?_
  intro p e s m args below meth c s₁ B hml hv
  obtain ⟨rfl, hsz, hP, hK, hD0⟩ := hv
  subst hsz
  have hl := lv_entry av (n := maxL) hn
  rw [lg_entry_eq]
  rw [hlv] at hl
  exact body p e s m _ below meth c (va_A ws s.heap.size) ⟨B.exec, B.bytes, hml, findClass_of_methodNamed B.named, atoms_spec (ws := w) B.pre⟩ B.returns B.notSynchronized (name_of_methodNamed B.named B.method).1 hK (fun q h => Or.inr h) hP hD0.self va_S.rf _ hl

theorem CV.of {S : Type} {l : Launch} {y : MethodName} {w ws' : List Cond} {rm : Room} {G : gT} {av : List Value} {ws : va_W} {mc ms : Nat} {post : S → Prop} {wf : S → va_W} {cc : ByteArray} {maxL : Nat} {ret : Option FieldType} {lvl : List (Nat × Value)}
    (hy : plainName y.cls = true) (hw : w = Cond.code y cc maxL ret :: ws') (hn : (lg_sl av).length ≤ maxL) (hlv : lv_args 0 av = lvl)
    (body : ∀ (p : Program) (e : Env) (s : State) (m : MethodId) (args : Array Value) (below : List Frame) (meth : Method) (c : Code) (A : Nat → Prop), CallFix p m c cc maxL s args w y.cls → meth.sig.returnType = ret → meth.locks = false → meth.name = y.name → gK G s → (∀ q, s.heap.size ≤ q → A q) → va_P (gD G) vwCl ws s.heap → va_D A ws → va_S A s.heap s.heap [] → ∀ ls : Array Slot, lv_has ls maxL lvl →
      W p l e rm s m args below meth c s.heap [] 0 0 (MQ below (va_Qv post (cB G A wf) A) args s mc ms A) (F0 m 0 ls [])) : CV l y w rm G av ws mc ms post wf := by
  intro sz
  refine Met.ofW (cc := cc) (maxL := maxL) (ret := ret) hy hw ?_
  intro p e s m args below meth c s₁ B hml hv
  obtain ⟨rfl, hsz, hP, hK, hD0⟩ := hv
  subst hsz
  have hl := lv_entry av (n := maxL) hn
  rw [lg_entry_eq]
  rw [hlv] at hl
  exact body p e s m _ below meth c (va_A ws s.heap.size) ⟨B.exec, B.bytes, hml, findClass_of_methodNamed B.named, atoms_spec (ws := w) B.pre⟩ B.returns B.notSynchronized (name_of_methodNamed B.named B.method).1 hK (fun q h => Or.inr h) hP hD0.self va_S.rf _ hl

/-- another post, the same world -/
theorem CI.mono {S S' : Type} {l : Launch} {y : MethodName} {w : List Cond} {rm : Room} {G : gT} {av : List Value} {ws : va_W} {mc ms : Nat} {post : Int32 → S → Prop} {wf : S → va_W} {post' : Int32 → S' → Prop} {wf' : S' → va_W} (h : CI l y w rm G av ws mc ms post wf) (hq : ∀ r u, post r u → ∃ u', post' r u' ∧ wf' u' = wf u) : CI l y w rm G av ws mc ms post' wf' := by
  intro sz p e ha hc hk s m args below hf happ hpre hcl
  obtain ⟨k, o, h1, h2, h3, ⟨⟨⟨r, u, ho, hp, hb⟩, hF⟩, hL⟩⟩ := h sz p e ha hc hk s m args below hf happ hpre hcl
  obtain ⟨u', hp', he⟩ := hq r u hp
  exact ⟨k, o, h1, h2, h3, ⟨⟨r, u', ho, hp', by unfold cB at hb ⊢; rw [he]; exact hb⟩, hF⟩, hL⟩
theorem CV.mono {S S' : Type} {l : Launch} {y : MethodName} {w : List Cond} {rm : Room} {G : gT} {av : List Value} {ws : va_W} {mc ms : Nat} {post : S → Prop} {wf : S → va_W} {post' : S' → Prop} {wf' : S' → va_W} (h : CV l y w rm G av ws mc ms post wf) (hq : ∀ u, post u → ∃ u', post' u' ∧ wf' u' = wf u) : CV l y w rm G av ws mc ms post' wf' := by
  intro sz p e ha hc hk s m args below hf happ hpre hcl
  obtain ⟨k, o, h1, h2, h3, ⟨⟨⟨u, ho, hp, hb⟩, hF⟩, hL⟩⟩ := h sz p e ha hc hk s m args below hf happ hpre hcl
  obtain ⟨u', hp', he⟩ := hq u hp
  exact ⟨k, o, h1, h2, h3, ⟨⟨u', ho, hp', by unfold cB at hb ⊢; rw [he]; exact hb⟩, hF⟩, hL⟩
/-! a world with some cells put anew, in place -/
def rp : va_W → List Nat → va_W → va_W
  | ws, i :: is, e :: es => rp (ws.set i e) is es
  | ws, _, _ => ws
theorem rp_get : ∀ (is : List Nat) (es ws : va_W) (k : Nat) (q : Nat × va_E), es.length = is.length → (rp ws is es)[k]? = some q → (∃ t : Nat, is[t]? = some k ∧ es[t]? = some q) ∨ (k ∉ is ∧ ws[k]? = some q)
  | [], es, ws, k, q, _, h => by
    cases es <;> exact Or.inr ⟨List.not_mem_nil, h⟩
  | i :: is, [], ws, k, q, hl, h => by simp at hl
  | i :: is, e :: es, ws, k, q, hl, h => by
    rcases rp_get is es (ws.set i e) k q (by simpa using hl) h with ⟨t, h1, h2⟩ | ⟨h1, h2⟩
    · exact Or.inl ⟨t + 1, h1, h2⟩
    · by_cases hk : k = i
      · subst hk
        have hlt : k < ws.length := by
          have := (List.getElem?_eq_some_iff.mp h2).1
          simpa using this
        rw [List.getElem?_set_self hlt] at h2
        exact Or.inl ⟨0, rfl, h2⟩
      · rw [List.getElem?_set_ne (Ne.symm hk)] at h2
        exact Or.inr ⟨fun z => (List.mem_cons.mp z).elim hk h1, h2⟩
theorem rp_ok {A0 : Nat → Prop} {D : va_G} {cl : List vw_C} {ws wc w1 : va_W} {H H1 : Heap} (hP : va_P D cl ws H) (hD : va_D A0 ws) (is : List Nat) (hC : is.map (fun i => ws[i]?) = wc.map some) (hl : w1.length = is.length)
    (hk : ∀ q : Nat, q < H.size → ¬ va_A wc H.size q → H1[q]? = H[q]?) (hF : ∀ q, va_A wc H.size q → A0 q) (hP1 : va_P D cl w1 H1) (hD1 : va_D (va_A wc H.size) w1) : va_P D cl (rp ws is w1) H1 ∧ va_D A0 (rp ws is w1) := by
  have at' : ∀ (k : Nat) (q : Nat × va_E), wc[k]? = some q → ∃ i, is[k]? = some i ∧ ws[i]? = some q := by
    intro k q hq
    have h1 : (is.map (fun i => ws[i]?))[k]? = some (some q) := by rw [hC, List.getElem?_map, hq]; rfl
    rw [List.getElem?_map] at h1
    cases hi : is[k]? with
    | none => rw [hi] at h1; cases h1
    | some i => rw [hi] at h1; exact ⟨i, rfl, Option.some.inj h1⟩
  have apart : ∀ (k : Nat) (q : Nat × va_E), k ∉ is → ws[k]? = some q → q.1 < H.size ∧ ¬ va_A wc H.size q.1 := by
    intro k q hn hq
    have hlt := (hP k q hq).lt
    refine ⟨hlt, fun h => ?_⟩
    rcases h with ⟨k2, e, h⟩ | h
    · obtain ⟨j, h3, h4⟩ := at' k2 (q.1, e) h
      have hij := hD.1 k j q (q.1, e) hq h4 rfl
      subst hij
      exact hn (List.mem_of_getElem? h3)
    · omega
  refine ⟨fun k q hq => ?_, fun i j x y hx hy hxy => ?_, fun k q hq => ?_⟩
  · rcases rp_get is w1 ws k q hl hq with ⟨t, h1, h2⟩ | ⟨h1, h2⟩
    · exact hP1 t q h2
    · obtain ⟨g1, g2⟩ := apart k q h1 h2
      exact (hP k q h2).kept (hk q.1 g1 g2)
  · rcases rp_get is w1 ws i x hl hx with ⟨t, h1, h2⟩ | ⟨h1, h2⟩ <;> rcases rp_get is w1 ws j y hl hy with ⟨u, h3, h4⟩ | ⟨h3, h4⟩
    · have := hD1.1 t u x y h2 h4 hxy
      subst this
      exact Option.some.inj (h1.symm.trans h3)
    · exact absurd (by rw [← hxy]; exact hD1.2 t x h2) (apart j y h3 h4).2
    · exact absurd (by rw [hxy]; exact hD1.2 u y h4) (apart i x h1 h2).2
    · exact hD.1 i j x y h2 h4 hxy
  · rcases rp_get is w1 ws k q hl hq with ⟨t, h1, h2⟩ | ⟨h1, h2⟩
    · exact hF _ (hD1.2 t q h2)
    · exact hD.2 k q h2
theorem z_part {D : va_G} {cl : List vw_C} {ws wc : va_W} {H : Heap} (hP : va_P D cl ws H) (is : List Nat) (hC : is.map (fun i => ws[i]?) = wc.map some) : va_P D cl wc H := by
  intro k q hq
  have h1 : (is.map (fun i => ws[i]?))[k]? = some (some q) := by rw [hC, List.getElem?_map, hq]; rfl
  rw [List.getElem?_map] at h1
  cases hi : is[k]? with
  | none => rw [hi] at h1; cases h1
  | some i => rw [hi] at h1; exact hP i q (Option.some.inj h1)
theorem z_partD {A : Nat → Prop} {ws wc : va_W} (hD : va_D A ws) (is : List Nat) (hn : va_nd is = true) (hC : is.map (fun i => ws[i]?) = wc.map some) : va_D (fun _ => True) wc := (hD.sub is hn hC).weaken (fun _ _ _ _ => trivial)
/-- an array's cell holds its n places alone -/
theorem z_arr {D : va_G} {cl : List vw_C} {a n : Nat} {cA : ClassId} {f g : Nat → Int32} {H : Heap} (h : va_at D cl (a, .inl (cA, n, .inl f)) H) (hfg : ∀ j, j < n → f j = g j) : va_at D cl (a, .inl (cA, n, .inl g)) H := by
  show H[a]? = some (vp_cell cA (n, .inl g))
  have e : vp_cell cA (n, .inl g) = vp_cell cA (n, .inl f) := by
    rw [vp_cell_i, vp_cell_i]
    have hf : (fun j : Fin n => Value.int (g j.val)) = fun j : Fin n => Value.int (f j.val) := funext fun j => by rw [hfg j.val j.isLt]
    show ({ cls := cA, slots := Array.ofFn (n := n) (fun j => Value.int (g j.val)), vm := .none } : Cell) = { cls := cA, slots := Array.ofFn (n := n) (fun j => Value.int (f j.val)), vm := .none }
    rw [hf]
  rw [e]
  exact h
theorem z_arrP {D : va_G} {cl : List vw_C} {A : Nat → Prop} {ws : va_W} {a n k : Nat} {cA : ClassId} {f : Nat → Int32} {H : Heap} (hP : va_P D cl ws H) (hD : va_D A ws) (hk : ws[k]? = some (a, .inl (cA, n, .inl f))) (g : Nat → Int32) (hfg : ∀ j, j < n → f j = g j) : va_P D cl (ws.set k (a, .inl (cA, n, .inl g))) H ∧ va_D A (ws.set k (a, .inl (cA, n, .inl g))) := ⟨hP.set hD hk (z_arr (hP k _ hk) hfg) (fun _ _ => rfl), hD.set hk⟩

theorem z_nc {x : Nat} (hx : x < 65536) : vp_nar .char (nI x) = nI x := by
  have h := (pk_charN hx).1
  unfold vp_nar
  rw [h]
theorem z_nz0 : vp_nar .boolean (nI 0) = nI 0 := by decide +kernel
theorem z_nz1 : vp_nar .boolean (nI 1) = nI 1 := by decide +kernel
theorem z_i2c {x : Nat} (hx : x < 65536) : ((nI x).toUInt32 % 65536).toInt32 = nI x := by
  rw [pk_char, pk_tn (by omega), Nat.mod_eq_of_lt hx]
section ZL
variable {p : Program} {l : Launch} {e : Env} {R : Room} {s : State} {m : MethodId} {args : Array Value} {below : List Frame} {meth : Method} {c : Code} {H : Heap} {locs : List Loc} {cells slots : Nat} {Q : State → Prop}
variable {cc : ByteArray} {nL : Nat} {Ts : List Cond} {own : String} {pc : Nat} {ls : Array Slot} {rest : List Value}
theorem z_top {x y : Int32} (h : x = y) (k : W p l e R s m args below meth c H locs cells slots Q (F0 m pc ls (.int y :: rest))) : W p l e R s m args below meth c H locs cells slots Q (F0 m pc ls (.int x :: rest)) := by rw [h]; exact k
theorem z_topl {x y : Int64} (h : x = y) (k : W p l e R s m args below meth c H locs cells slots Q (F0 m pc ls (.long y :: rest))) : W p l e R s m args below meth c H locs cells slots Q (F0 m pc ls (.long x :: rest)) := by rw [h]; exact k
theorem zi_add (S : CallFix p m c cc nL s args Ts own) {a b : Nat} (d : decode cc pc = .ok (.iadd, 1)) (k : W p l e R s m args below meth c H locs cells slots Q (F0 m (pc + 1) ls (.int (nI (a + b)) :: rest))) : W p l e R s m args below meth c H locs cells slots Q (F0 m pc ls (.int (nI b) :: .int (nI a) :: rest)) := lv_iadd S.1 S.2.1 d (z_top (nI_add a b) k)
theorem zi_mul (S : CallFix p m c cc nL s args Ts own) {a b : Nat} (d : decode cc pc = .ok (.imul, 1)) (k : W p l e R s m args below meth c H locs cells slots Q (F0 m (pc + 1) ls (.int (nI (a * b)) :: rest))) : W p l e R s m args below meth c H locs cells slots Q (F0 m pc ls (.int (nI b) :: .int (nI a) :: rest)) := lv_imul S.1 S.2.1 d (z_top (pk_mul a b) k)
theorem zi_sub (S : CallFix p m c cc nL s args Ts own) {a b : Nat} (d : decode cc pc = .ok (.isub, 1)) (h : b ≤ a) (k : W p l e R s m args below meth c H locs cells slots Q (F0 m (pc + 1) ls (.int (nI (a - b)) :: rest))) : W p l e R s m args below meth c H locs cells slots Q (F0 m pc ls (.int (nI b) :: .int (nI a) :: rest)) := lv_isub S.1 S.2.1 d (z_top (pk_sub h) k)
theorem zi_and (S : CallFix p m c cc nL s args Ts own) {a b : Nat} (d : decode cc pc = .ok (.iand, 1)) (k : W p l e R s m args below meth c H locs cells slots Q (F0 m (pc + 1) ls (.int (nI (a &&& b)) :: rest))) : W p l e R s m args below meth c H locs cells slots Q (F0 m pc ls (.int (nI b) :: .int (nI a) :: rest)) := lv_iand S.1 S.2.1 d (z_top (z_and a b) k)
theorem zi_or (S : CallFix p m c cc nL s args Ts own) {a b : Nat} (d : decode cc pc = .ok (.ior, 1)) (k : W p l e R s m args below meth c H locs cells slots Q (F0 m (pc + 1) ls (.int (nI (a ||| b)) :: rest))) : W p l e R s m args below meth c H locs cells slots Q (F0 m pc ls (.int (nI b) :: .int (nI a) :: rest)) := lv_ior S.1 S.2.1 d (z_top (z_or a b) k)
theorem zi_xor (S : CallFix p m c cc nL s args Ts own) {a b : Nat} (d : decode cc pc = .ok (.ixor, 1)) (k : W p l e R s m args below meth c H locs cells slots Q (F0 m (pc + 1) ls (.int (nI (a ^^^ b)) :: rest))) : W p l e R s m args below meth c H locs cells slots Q (F0 m pc ls (.int (nI b) :: .int (nI a) :: rest)) := lv_ixor S.1 S.2.1 d (z_top (z_xor a b) k)
theorem zi_shl (S : CallFix p m c cc nL s args Ts own) {a b : Nat} (d : decode cc pc = .ok (.ishl, 1)) (h : b < 32) (k : W p l e R s m args below meth c H locs cells slots Q (F0 m (pc + 1) ls (.int (nI (a <<< b)) :: rest))) : W p l e R s m args below meth c H locs cells slots Q (F0 m pc ls (.int (nI b) :: .int (nI a) :: rest)) := lv_ishl S.1 S.2.1 d (z_top (z_shl h) k)
theorem zi_shr (S : CallFix p m c cc nL s args Ts own) {a b : Nat} (d : decode cc pc = .ok (.ishr, 1)) (ha : a < 2147483648) (h : b < 32) (k : W p l e R s m args below meth c H locs cells slots Q (F0 m (pc + 1) ls (.int (nI (a >>> b)) :: rest))) : W p l e R s m args below meth c H locs cells slots Q (F0 m pc ls (.int (nI b) :: .int (nI a) :: rest)) := lv_ishr S.1 S.2.1 d (z_top (z_shr ha h) k)
theorem zi_rem (S : CallFix p m c cc nL s args Ts own) {a b : Nat} (d : decode cc pc = .ok (.irem, 1)) (ha : a < 2147483648) (h0 : 0 < b) (hb : b < 2147483648) (k : W p l e R s m args below meth c H locs cells slots Q (F0 m (pc + 1) ls (.int (nI (a % b)) :: rest))) : W p l e R s m args below meth c H locs cells slots Q (F0 m pc ls (.int (nI b) :: .int (nI a) :: rest)) := lv_irem S.1 S.2.1 d (fun q => by have := (z_eq0 hb).mp q; omega) (z_top (pk_rem ha h0 hb) k)
theorem zb_eq (S : CallFix p m c cc nL s args Ts own) {a b : Nat} {off : Int} {tgt : Nat} (d : decode cc pc = .ok (.if_icmp .eq off, 3)) (ht : (pc : Int) + off = (tgt : Int)) (ha : a < 2147483648) (hb : b < 2147483648) (kt : a = b → W p l e R s m args below meth c H locs cells slots Q (F0 m tgt ls (rest))) (kf : ¬ a = b → W p l e R s m args below meth c H locs cells slots Q (F0 m (pc + 3) ls (rest))) : W p l e R s m args below meth c H locs cells slots Q (F0 m pc ls (.int (nI b) :: .int (nI a) :: rest)) := lv_icmp_eq S.1 S.2.1 d ht (fun q => kt (by first | exact (z_eq ha hb).mp q | exact (by have := Int32.not_lt.mp q; exact (nI_leI hb ha).mp this) | exact (by have := Int32.not_le.mp q; exact (nI_ltI hb ha).mp this))) (fun q => kf (by first | exact fun z => q ((z_eq ha hb).mpr z) | exact (by have := Int32.not_lt.mp q; exact (nI_leI hb ha).mp this) | exact (by have := Int32.not_le.mp q; exact (nI_ltI ha hb).mp this)))
theorem zb_ne (S : CallFix p m c cc nL s args Ts own) {a b : Nat} {off : Int} {tgt : Nat} (d : decode cc pc = .ok (.if_icmp .ne off, 3)) (ht : (pc : Int) + off = (tgt : Int)) (ha : a < 2147483648) (hb : b < 2147483648) (kt : ¬ a = b → W p l e R s m args below meth c H locs cells slots Q (F0 m tgt ls (rest))) (kf : a = b → W p l e R s m args below meth c H locs cells slots Q (F0 m (pc + 3) ls (rest))) : W p l e R s m args below meth c H locs cells slots Q (F0 m pc ls (.int (nI b) :: .int (nI a) :: rest)) := lv_icmp_ne S.1 S.2.1 d ht (fun q => kt (by first | exact fun z => q ((z_eq ha hb).mpr z) | exact (by have := Int32.not_lt.mp q; exact (nI_leI hb ha).mp this) | exact (by have := Int32.not_le.mp q; exact (nI_ltI hb ha).mp this))) (fun q => kf (by first | exact (z_eq ha hb).mp q | exact (by have := Int32.not_lt.mp q; exact (nI_leI hb ha).mp this) | exact (by have := Int32.not_le.mp q; exact (nI_ltI ha hb).mp this)))
theorem zb_lt (S : CallFix p m c cc nL s args Ts own) {a b : Nat} {off : Int} {tgt : Nat} (d : decode cc pc = .ok (.if_icmp .lt off, 3)) (ht : (pc : Int) + off = (tgt : Int)) (ha : a < 2147483648) (hb : b < 2147483648) (kt : a < b → W p l e R s m args below meth c H locs cells slots Q (F0 m tgt ls (rest))) (kf : b ≤ a → W p l e R s m args below meth c H locs cells slots Q (F0 m (pc + 3) ls (rest))) : W p l e R s m args below meth c H locs cells slots Q (F0 m pc ls (.int (nI b) :: .int (nI a) :: rest)) := lv_icmp_lt S.1 S.2.1 d ht (fun q => kt (by first | exact (nI_ltI ha hb).mp q | exact (by have := Int32.not_lt.mp q; exact (nI_leI hb ha).mp this) | exact (by have := Int32.not_le.mp q; exact (nI_ltI hb ha).mp this))) (fun q => kf (by first | exact Nat.not_lt.mp (fun z => q ((nI_ltI ha hb).mpr z)) | exact (by have := Int32.not_lt.mp q; exact (nI_leI hb ha).mp this) | exact (by have := Int32.not_le.mp q; exact (nI_ltI ha hb).mp this)))
theorem zb_ge (S : CallFix p m c cc nL s args Ts own) {a b : Nat} {off : Int} {tgt : Nat} (d : decode cc pc = .ok (.if_icmp .ge off, 3)) (ht : (pc : Int) + off = (tgt : Int)) (ha : a < 2147483648) (hb : b < 2147483648) (kt : b ≤ a → W p l e R s m args below meth c H locs cells slots Q (F0 m tgt ls (rest))) (kf : a < b → W p l e R s m args below meth c H locs cells slots Q (F0 m (pc + 3) ls (rest))) : W p l e R s m args below meth c H locs cells slots Q (F0 m pc ls (.int (nI b) :: .int (nI a) :: rest)) := lv_icmp_ge S.1 S.2.1 d ht (fun q => kt (by first | exact (nI_leI hb ha).mp q | exact (by have := Int32.not_lt.mp q; exact (nI_leI hb ha).mp this) | exact (by have := Int32.not_le.mp q; exact (nI_ltI hb ha).mp this))) (fun q => kf (by first | exact Nat.not_le.mp (fun z => q ((nI_leI hb ha).mpr z)) | exact (by have := Int32.not_lt.mp q; exact (nI_leI hb ha).mp this) | exact (by have := Int32.not_le.mp q; exact (nI_ltI ha hb).mp this)))
theorem zb_gt (S : CallFix p m c cc nL s args Ts own) {a b : Nat} {off : Int} {tgt : Nat} (d : decode cc pc = .ok (.if_icmp .gt off, 3)) (ht : (pc : Int) + off = (tgt : Int)) (ha : a < 2147483648) (hb : b < 2147483648) (kt : b < a → W p l e R s m args below meth c H locs cells slots Q (F0 m tgt ls (rest))) (kf : a ≤ b → W p l e R s m args below meth c H locs cells slots Q (F0 m (pc + 3) ls (rest))) : W p l e R s m args below meth c H locs cells slots Q (F0 m pc ls (.int (nI b) :: .int (nI a) :: rest)) := lv_icmp_gt S.1 S.2.1 d ht (fun q => kt (by first | exact (nI_ltI hb ha).mp q | exact (by have := Int32.not_lt.mp q; exact (nI_leI hb ha).mp this) | exact (by have := Int32.not_le.mp q; exact (nI_ltI hb ha).mp this))) (fun q => kf (by first | exact Nat.not_lt.mp (fun z => q ((nI_ltI hb ha).mpr z)) | exact (by have := Int32.not_lt.mp q; exact (nI_leI hb ha).mp this) | exact (by have := Int32.not_le.mp q; exact (nI_ltI ha hb).mp this)))
theorem zb_le (S : CallFix p m c cc nL s args Ts own) {a b : Nat} {off : Int} {tgt : Nat} (d : decode cc pc = .ok (.if_icmp .le off, 3)) (ht : (pc : Int) + off = (tgt : Int)) (ha : a < 2147483648) (hb : b < 2147483648) (kt : a ≤ b → W p l e R s m args below meth c H locs cells slots Q (F0 m tgt ls (rest))) (kf : b < a → W p l e R s m args below meth c H locs cells slots Q (F0 m (pc + 3) ls (rest))) : W p l e R s m args below meth c H locs cells slots Q (F0 m pc ls (.int (nI b) :: .int (nI a) :: rest)) := lv_icmp_le S.1 S.2.1 d ht (fun q => kt (by first | exact (nI_leI ha hb).mp q | exact (by have := Int32.not_lt.mp q; exact (nI_leI hb ha).mp this) | exact (by have := Int32.not_le.mp q; exact (nI_ltI hb ha).mp this))) (fun q => kf (by first | exact Nat.not_le.mp (fun z => q ((nI_leI ha hb).mpr z)) | exact (by have := Int32.not_lt.mp q; exact (nI_leI hb ha).mp this) | exact (by have := Int32.not_le.mp q; exact (nI_ltI ha hb).mp this)))
theorem zf_eq (S : CallFix p m c cc nL s args Ts own) {a : Nat} {off : Int} {tgt : Nat} (d : decode cc pc = .ok (.ifCond .eq off, 3)) (ht : (pc : Int) + off = (tgt : Int)) (ha : a < 2147483648) (kt : a = 0 → W p l e R s m args below meth c H locs cells slots Q (F0 m tgt ls (rest))) (kf : ¬ a = 0 → W p l e R s m args below meth c H locs cells slots Q (F0 m (pc + 3) ls (rest))) : W p l e R s m args below meth c H locs cells slots Q (F0 m pc ls (.int (nI a) :: rest)) := lv_if_eq S.1 S.2.1 d ht (fun q => kt ((z_eq0 ha).mp q)) (fun q => kf (fun z => q ((z_eq0 ha).mpr z)))
theorem zf_ne (S : CallFix p m c cc nL s args Ts own) {a : Nat} {off : Int} {tgt : Nat} (d : decode cc pc = .ok (.ifCond .ne off, 3)) (ht : (pc : Int) + off = (tgt : Int)) (ha : a < 2147483648) (kt : ¬ a = 0 → W p l e R s m args below meth c H locs cells slots Q (F0 m tgt ls (rest))) (kf : a = 0 → W p l e R s m args below meth c H locs cells slots Q (F0 m (pc + 3) ls (rest))) : W p l e R s m args below meth c H locs cells slots Q (F0 m pc ls (.int (nI a) :: rest)) := lv_if_ne S.1 S.2.1 d ht (fun q => kt (fun z => q ((z_eq0 ha).mpr z))) (fun q => kf ((z_eq0 ha).mp q))
theorem zr_eq (S : CallFix p m c cc nL s args Ts own) {x y : Int32} {X Y : Int} {off : Int} {tgt : Nat} (d : decode cc pc = .ok (.if_icmp .eq off, 3)) (ht : (pc : Int) + off = (tgt : Int)) (ha : x.toInt = X) (hb : y.toInt = Y) (kt : X = Y → W p l e R s m args below meth c H locs cells slots Q (F0 m tgt ls (rest))) (kf : ¬ X = Y → W p l e R s m args below meth c H locs cells slots Q (F0 m (pc + 3) ls (rest))) : W p l e R s m args below meth c H locs cells slots Q (F0 m pc ls (.int y :: .int x :: rest)) := lv_icmp_eq S.1 S.2.1 d ht (fun q => kt (by rw [← ha, ← hb]; exact Int32.toInt_inj.mpr q)) (fun q => kf (fun z => q (Int32.toInt_inj.mp (by rw [ha, hb]; exact z))))
theorem zr_ne (S : CallFix p m c cc nL s args Ts own) {x y : Int32} {X Y : Int} {off : Int} {tgt : Nat} (d : decode cc pc = .ok (.if_icmp .ne off, 3)) (ht : (pc : Int) + off = (tgt : Int)) (ha : x.toInt = X) (hb : y.toInt = Y) (kt : ¬ X = Y → W p l e R s m args below meth c H locs cells slots Q (F0 m tgt ls (rest))) (kf : X = Y → W p l e R s m args below meth c H locs cells slots Q (F0 m (pc + 3) ls (rest))) : W p l e R s m args below meth c H locs cells slots Q (F0 m pc ls (.int y :: .int x :: rest)) := lv_icmp_ne S.1 S.2.1 d ht (fun q => kt (fun z => q (Int32.toInt_inj.mp (by rw [ha, hb]; exact z)))) (fun q => kf (by rw [← ha, ← hb]; exact Int32.toInt_inj.mpr q))
theorem zr_lt (S : CallFix p m c cc nL s args Ts own) {x y : Int32} {X Y : Int} {off : Int} {tgt : Nat} (d : decode cc pc = .ok (.if_icmp .lt off, 3)) (ht : (pc : Int) + off = (tgt : Int)) (ha : x.toInt = X) (hb : y.toInt = Y) (kt : X < Y → W p l e R s m args below meth c H locs cells slots Q (F0 m tgt ls (rest))) (kf : Y ≤ X → W p l e R s m args below meth c H locs cells slots Q (F0 m (pc + 3) ls (rest))) : W p l e R s m args below meth c H locs cells slots Q (F0 m pc ls (.int y :: .int x :: rest)) := lv_icmp_lt S.1 S.2.1 d ht (fun q => kt (by have q2 := q; simp only [Int32.lt_iff_toInt_lt, Int32.le_iff_toInt_le, GE.ge, GT.gt, ha, hb] at q2; omega)) (fun q => kf (by have q2 := q; simp only [Int32.lt_iff_toInt_lt, Int32.le_iff_toInt_le, GE.ge, GT.gt, ha, hb] at q2; omega))
theorem zr_ge (S : CallFix p m c cc nL s args Ts own) {x y : Int32} {X Y : Int} {off : Int} {tgt : Nat} (d : decode cc pc = .ok (.if_icmp .ge off, 3)) (ht : (pc : Int) + off = (tgt : Int)) (ha : x.toInt = X) (hb : y.toInt = Y) (kt : Y ≤ X → W p l e R s m args below meth c H locs cells slots Q (F0 m tgt ls (rest))) (kf : X < Y → W p l e R s m args below meth c H locs cells slots Q (F0 m (pc + 3) ls (rest))) : W p l e R s m args below meth c H locs cells slots Q (F0 m pc ls (.int y :: .int x :: rest)) := lv_icmp_ge S.1 S.2.1 d ht (fun q => kt (by have q2 := q; simp only [Int32.lt_iff_toInt_lt, Int32.le_iff_toInt_le, GE.ge, GT.gt, ha, hb] at q2; omega)) (fun q => kf (by have q2 := q; simp only [Int32.lt_iff_toInt_lt, Int32.le_iff_toInt_le, GE.ge, GT.gt, ha, hb] at q2; omega))
theorem zr_gt (S : CallFix p m c cc nL s args Ts own) {x y : Int32} {X Y : Int} {off : Int} {tgt : Nat} (d : decode cc pc = .ok (.if_icmp .gt off, 3)) (ht : (pc : Int) + off = (tgt : Int)) (ha : x.toInt = X) (hb : y.toInt = Y) (kt : Y < X → W p l e R s m args below meth c H locs cells slots Q (F0 m tgt ls (rest))) (kf : X ≤ Y → W p l e R s m args below meth c H locs cells slots Q (F0 m (pc + 3) ls (rest))) : W p l e R s m args below meth c H locs cells slots Q (F0 m pc ls (.int y :: .int x :: rest)) := lv_icmp_gt S.1 S.2.1 d ht (fun q => kt (by have q2 := q; simp only [Int32.lt_iff_toInt_lt, Int32.le_iff_toInt_le, GE.ge, GT.gt, ha, hb] at q2; omega)) (fun q => kf (by have q2 := q; simp only [Int32.lt_iff_toInt_lt, Int32.le_iff_toInt_le, GE.ge, GT.gt, ha, hb] at q2; omega))
theorem zr_le (S : CallFix p m c cc nL s args Ts own) {x y : Int32} {X Y : Int} {off : Int} {tgt : Nat} (d : decode cc pc = .ok (.if_icmp .le off, 3)) (ht : (pc : Int) + off = (tgt : Int)) (ha : x.toInt = X) (hb : y.toInt = Y) (kt : X ≤ Y → W p l e R s m args below meth c H locs cells slots Q (F0 m tgt ls (rest))) (kf : Y < X → W p l e R s m args below meth c H locs cells slots Q (F0 m (pc + 3) ls (rest))) : W p l e R s m args below meth c H locs cells slots Q (F0 m pc ls (.int y :: .int x :: rest)) := lv_icmp_le S.1 S.2.1 d ht (fun q => kt (by have q2 := q; simp only [Int32.lt_iff_toInt_lt, Int32.le_iff_toInt_le, GE.ge, GT.gt, ha, hb] at q2; omega)) (fun q => kf (by have q2 := q; simp only [Int32.lt_iff_toInt_lt, Int32.le_iff_toInt_le, GE.ge, GT.gt, ha, hb] at q2; omega))
theorem zq_eq (S : CallFix p m c cc nL s args Ts own) {x : Int32} {X : Int} {off : Int} {tgt : Nat} (d : decode cc pc = .ok (.ifCond .eq off, 3)) (ht : (pc : Int) + off = (tgt : Int)) (ha : x.toInt = X) (kt : X = 0 → W p l e R s m args below meth c H locs cells slots Q (F0 m tgt ls (rest))) (kf : ¬ X = 0 → W p l e R s m args below meth c H locs cells slots Q (F0 m (pc + 3) ls (rest))) : W p l e R s m args below meth c H locs cells slots Q (F0 m pc ls (.int x :: rest)) := lv_if_eq S.1 S.2.1 d ht (fun q => kt (by rw [← ha]; exact Int32.toInt_inj.mpr q)) (fun q => kf (fun z => q (Int32.toInt_inj.mp (by rw [ha]; exact z))))
theorem zq_ne (S : CallFix p m c cc nL s args Ts own) {x : Int32} {X : Int} {off : Int} {tgt : Nat} (d : decode cc pc = .ok (.ifCond .ne off, 3)) (ht : (pc : Int) + off = (tgt : Int)) (ha : x.toInt = X) (kt : ¬ X = 0 → W p l e R s m args below meth c H locs cells slots Q (F0 m tgt ls (rest))) (kf : X = 0 → W p l e R s m args below meth c H locs cells slots Q (F0 m (pc + 3) ls (rest))) : W p l e R s m args below meth c H locs cells slots Q (F0 m pc ls (.int x :: rest)) := lv_if_ne S.1 S.2.1 d ht (fun q => kt (fun z => q (Int32.toInt_inj.mp (by rw [ha]; exact z)))) (fun q => kf (by rw [← ha]; exact Int32.toInt_inj.mpr q))
theorem zq_lt (S : CallFix p m c cc nL s args Ts own) {x : Int32} {X : Int} {off : Int} {tgt : Nat} (d : decode cc pc = .ok (.ifCond .lt off, 3)) (ht : (pc : Int) + off = (tgt : Int)) (ha : x.toInt = X) (kt : X < 0 → W p l e R s m args below meth c H locs cells slots Q (F0 m tgt ls (rest))) (kf : 0 ≤ X → W p l e R s m args below meth c H locs cells slots Q (F0 m (pc + 3) ls (rest))) : W p l e R s m args below meth c H locs cells slots Q (F0 m pc ls (.int x :: rest)) := lv_if_lt S.1 S.2.1 d ht (fun q => kt (by have q2 := q; simp only [Int32.lt_iff_toInt_lt, Int32.le_iff_toInt_le, GE.ge, GT.gt, ha, Int32.toInt_zero] at q2; omega)) (fun q => kf (by have q2 := q; simp only [Int32.lt_iff_toInt_lt, Int32.le_iff_toInt_le, GE.ge, GT.gt, ha, Int32.toInt_zero] at q2; omega))
theorem zq_ge (S : CallFix p m c cc nL s args Ts own) {x : Int32} {X : Int} {off : Int} {tgt : Nat} (d : decode cc pc = .ok (.ifCond .ge off, 3)) (ht : (pc : Int) + off = (tgt : Int)) (ha : x.toInt = X) (kt : 0 ≤ X → W p l e R s m args below meth c H locs cells slots Q (F0 m tgt ls (rest))) (kf : X < 0 → W p l e R s m args below meth c H locs cells slots Q (F0 m (pc + 3) ls (rest))) : W p l e R s m args below meth c H locs cells slots Q (F0 m pc ls (.int x :: rest)) := lv_if_ge S.1 S.2.1 d ht (fun q => kt (by have q2 := q; simp only [Int32.lt_iff_toInt_lt, Int32.le_iff_toInt_le, GE.ge, GT.gt, ha, Int32.toInt_zero] at q2; omega)) (fun q => kf (by have q2 := q; simp only [Int32.lt_iff_toInt_lt, Int32.le_iff_toInt_le, GE.ge, GT.gt, ha, Int32.toInt_zero] at q2; omega))
theorem zq_gt (S : CallFix p m c cc nL s args Ts own) {x : Int32} {X : Int} {off : Int} {tgt : Nat} (d : decode cc pc = .ok (.ifCond .gt off, 3)) (ht : (pc : Int) + off = (tgt : Int)) (ha : x.toInt = X) (kt : 0 < X → W p l e R s m args below meth c H locs cells slots Q (F0 m tgt ls (rest))) (kf : X ≤ 0 → W p l e R s m args below meth c H locs cells slots Q (F0 m (pc + 3) ls (rest))) : W p l e R s m args below meth c H locs cells slots Q (F0 m pc ls (.int x :: rest)) := lv_if_gt S.1 S.2.1 d ht (fun q => kt (by have q2 := q; simp only [Int32.lt_iff_toInt_lt, Int32.le_iff_toInt_le, GE.ge, GT.gt, ha, Int32.toInt_zero] at q2; omega)) (fun q => kf (by have q2 := q; simp only [Int32.lt_iff_toInt_lt, Int32.le_iff_toInt_le, GE.ge, GT.gt, ha, Int32.toInt_zero] at q2; omega))
theorem zq_le (S : CallFix p m c cc nL s args Ts own) {x : Int32} {X : Int} {off : Int} {tgt : Nat} (d : decode cc pc = .ok (.ifCond .le off, 3)) (ht : (pc : Int) + off = (tgt : Int)) (ha : x.toInt = X) (kt : X ≤ 0 → W p l e R s m args below meth c H locs cells slots Q (F0 m tgt ls (rest))) (kf : 0 < X → W p l e R s m args below meth c H locs cells slots Q (F0 m (pc + 3) ls (rest))) : W p l e R s m args below meth c H locs cells slots Q (F0 m pc ls (.int x :: rest)) := lv_if_le S.1 S.2.1 d ht (fun q => kt (by have q2 := q; simp only [Int32.lt_iff_toInt_lt, Int32.le_iff_toInt_le, GE.ge, GT.gt, ha, Int32.toInt_zero] at q2; omega)) (fun q => kf (by have q2 := q; simp only [Int32.lt_iff_toInt_lt, Int32.le_iff_toInt_le, GE.ge, GT.gt, ha, Int32.toInt_zero] at q2; omega))
theorem z_lc {x y : Int64} : ((lg_cmp x y).toInt < 0 ↔ x.toInt < y.toInt) ∧ (0 < (lg_cmp x y).toInt ↔ y.toInt < x.toInt) ∧ ((lg_cmp x y).toInt = 0 ↔ x.toInt = y.toInt) := by
  unfold lg_cmp
  by_cases h1 : x > y
  · rw [if_pos h1]
    have h2 := Int64.lt_iff_toInt_lt.mp h1
    have e : (1 : Int32).toInt = 1 := by decide
    rw [e]
    omega
  · rw [if_neg h1]
    have h3 : ¬ y.toInt < x.toInt := fun q => h1 (Int64.lt_iff_toInt_lt.mpr q)
    by_cases h2 : x = y
    · rw [if_pos h2]
      have e : (0 : Int32).toInt = 0 := by decide
      rw [e, h2]
      omega
    · rw [if_neg h2]
      have h4 : ¬ x.toInt = y.toInt := fun q => h2 (Int64.toInt_inj.mp q)
      have e : (-1 : Int32).toInt = -1 := by decide
      rw [e]
      omega
theorem zl_lt (S : CallFix p m c cc nL s args Ts own) {x y : Int64} {X Y : Int} {off : Int} {tgt : Nat} (d1 : decode cc pc = .ok (.lcmp, 1)) (d : decode cc (pc + 1) = .ok (.ifCond .lt off, 3)) (ht : ((pc + 1 : Nat) : Int) + off = (tgt : Int)) (ha : x.toInt = X) (hb : y.toInt = Y) (kt : X < Y → W p l e R s m args below meth c H locs cells slots Q (F0 m tgt ls (rest))) (kf : Y ≤ X → W p l e R s m args below meth c H locs cells slots Q (F0 m (pc + 1 + 3) ls (rest))) : W p l e R s m args below meth c H locs cells slots Q (F0 m pc ls (.long y :: .long x :: rest)) := W.lcmp S.1 S.2.1 d1 (zq_lt S d ht rfl (fun q => kt (by have z := @z_lc x y; rw [ha, hb] at z; omega)) (fun q => kf (by have z := @z_lc x y; rw [ha, hb] at z; omega)))
theorem zl_gt (S : CallFix p m c cc nL s args Ts own) {x y : Int64} {X Y : Int} {off : Int} {tgt : Nat} (d1 : decode cc pc = .ok (.lcmp, 1)) (d : decode cc (pc + 1) = .ok (.ifCond .gt off, 3)) (ht : ((pc + 1 : Nat) : Int) + off = (tgt : Int)) (ha : x.toInt = X) (hb : y.toInt = Y) (kt : Y < X → W p l e R s m args below meth c H locs cells slots Q (F0 m tgt ls (rest))) (kf : X ≤ Y → W p l e R s m args below meth c H locs cells slots Q (F0 m (pc + 1 + 3) ls (rest))) : W p l e R s m args below meth c H locs cells slots Q (F0 m pc ls (.long y :: .long x :: rest)) := W.lcmp S.1 S.2.1 d1 (zq_gt S d ht rfl (fun q => kt (by have z := @z_lc x y; rw [ha, hb] at z; omega)) (fun q => kf (by have z := @z_lc x y; rw [ha, hb] at z; omega)))
theorem zl_le (S : CallFix p m c cc nL s args Ts own) {x y : Int64} {X Y : Int} {off : Int} {tgt : Nat} (d1 : decode cc pc = .ok (.lcmp, 1)) (d : decode cc (pc + 1) = .ok (.ifCond .le off, 3)) (ht : ((pc + 1 : Nat) : Int) + off = (tgt : Int)) (ha : x.toInt = X) (hb : y.toInt = Y) (kt : X ≤ Y → W p l e R s m args below meth c H locs cells slots Q (F0 m tgt ls (rest))) (kf : Y < X → W p l e R s m args below meth c H locs cells slots Q (F0 m (pc + 1 + 3) ls (rest))) : W p l e R s m args below meth c H locs cells slots Q (F0 m pc ls (.long y :: .long x :: rest)) := W.lcmp S.1 S.2.1 d1 (zq_le S d ht rfl (fun q => kt (by have z := @z_lc x y; rw [ha, hb] at z; omega)) (fun q => kf (by have z := @z_lc x y; rw [ha, hb] at z; omega)))
theorem zl_ge (S : CallFix p m c cc nL s args Ts own) {x y : Int64} {X Y : Int} {off : Int} {tgt : Nat} (d1 : decode cc pc = .ok (.lcmp, 1)) (d : decode cc (pc + 1) = .ok (.ifCond .ge off, 3)) (ht : ((pc + 1 : Nat) : Int) + off = (tgt : Int)) (ha : x.toInt = X) (hb : y.toInt = Y) (kt : Y ≤ X → W p l e R s m args below meth c H locs cells slots Q (F0 m tgt ls (rest))) (kf : X < Y → W p l e R s m args below meth c H locs cells slots Q (F0 m (pc + 1 + 3) ls (rest))) : W p l e R s m args below meth c H locs cells slots Q (F0 m pc ls (.long y :: .long x :: rest)) := W.lcmp S.1 S.2.1 d1 (zq_ge S d ht rfl (fun q => kt (by have z := @z_lc x y; rw [ha, hb] at z; omega)) (fun q => kf (by have z := @z_lc x y; rw [ha, hb] at z; omega)))
theorem zl_eq (S : CallFix p m c cc nL s args Ts own) {x y : Int64} {X Y : Int} {off : Int} {tgt : Nat} (d1 : decode cc pc = .ok (.lcmp, 1)) (d : decode cc (pc + 1) = .ok (.ifCond .eq off, 3)) (ht : ((pc + 1 : Nat) : Int) + off = (tgt : Int)) (ha : x.toInt = X) (hb : y.toInt = Y) (kt : X = Y → W p l e R s m args below meth c H locs cells slots Q (F0 m tgt ls (rest))) (kf : ¬ X = Y → W p l e R s m args below meth c H locs cells slots Q (F0 m (pc + 1 + 3) ls (rest))) : W p l e R s m args below meth c H locs cells slots Q (F0 m pc ls (.long y :: .long x :: rest)) := W.lcmp S.1 S.2.1 d1 (zq_eq S d ht rfl (fun q => kt (by have z := @z_lc x y; rw [ha, hb] at z; omega)) (fun q => kf (by have z := @z_lc x y; rw [ha, hb] at z; omega)))
theorem zl_ne (S : CallFix p m c cc nL s args Ts own) {x y : Int64} {X Y : Int} {off : Int} {tgt : Nat} (d1 : decode cc pc = .ok (.lcmp, 1)) (d : decode cc (pc + 1) = .ok (.ifCond .ne off, 3)) (ht : ((pc + 1 : Nat) : Int) + off = (tgt : Int)) (ha : x.toInt = X) (hb : y.toInt = Y) (kt : ¬ X = Y → W p l e R s m args below meth c H locs cells slots Q (F0 m tgt ls (rest))) (kf : X = Y → W p l e R s m args below meth c H locs cells slots Q (F0 m (pc + 1 + 3) ls (rest))) : W p l e R s m args below meth c H locs cells slots Q (F0 m pc ls (.long y :: .long x :: rest)) := W.lcmp S.1 S.2.1 d1 (zq_ne S d ht rfl (fun q => kt (by have z := @z_lc x y; rw [ha, hb] at z; omega)) (fun q => kf (by have z := @z_lc x y; rw [ha, hb] at z; omega)))
variable {G : gT} {A : Nat → Prop} {a : Nat} {ws : va_W} {H0 : Heap}
theorem z_get (S : CallFix p m c cc nL s args Ts own) (K : gK G s) (hP : va_P (gD G) vwCl ws H) {C ref : String} {T : u_T} {N ci index : Nat} (hin : ∀ w ∈ u_ws C T N, w ∈ Ts) (q0 : Nat) {fs : List Value} {v : Value} (he : ws[q0]? = some (a, .inr (ci, fs))) (hc : vwCl[ci]? = some (C, T, N)) (k : Nat) (hk : k < N) (hl : Cond.fieldLink own index ref (T k).2.1 (T k).2.2.1 ∈ Ts) (hr : (T k).1 = ref) (hv : fs[k]? = some v) (d : decode cc pc = .ok (.getfield index, 3)) (kk : W p l e R s m args below meth c H locs cells slots Q (F0 m (pc + 3) ls (v :: rest))) : W p l e R s m args below meth c H locs cells slots Q (F0 m pc ls (.ref a :: rest)) := va_get S.1 S.2.1 S.2.2.2.2 hin S.2.2.2.1 K.1 hP q0 he hc k hk (S.2.2.2.2 _ hl) (fun _ h9 => by rw [← hr]; exact h9) hv d kk
theorem z_put (S : CallFix p m c cc nL s args Ts own) (K : gK G s) (hP : va_P (gD G) vwCl ws H) (hD : va_D A ws) (hS : va_S A H0 H locs) {C ref : String} {T : u_T} {N ci index : Nat} {ty0 : Nat → FieldType} (hin : ∀ w ∈ u_ws C T N, w ∈ Ts) (hty : ∀ k, k < N → parseFieldDescriptor (T k).2.2.1 = some (ty0 k)) (hnm : ∀ a, a < N → ∀ b, b < N → a ≠ b → (T a).2.1 ≠ (T b).2.1) (q0 : Nat) {fs : List Value} {v : Value} (he : ws[q0]? = some (a, .inr (ci, fs))) (hc : vwCl[ci]? = some (C, T, N)) (k : Nat) (hk : k < N) (hl : Cond.fieldLink own index ref (T k).2.1 (T k).2.2.1 ∈ Ts) (hr : (T k).1 = ref) (hfin : (T k).2.2.2 = false) (hn : narrow (ty0 k) v = v) (hf : fits (ty0 k) v = true) (hlen : k < fs.length) (d : decode cc pc = .ok (.putfield index, 3)) (kk : ∀ (H1 : Heap) (locs1 : List Loc), va_P (gD G) vwCl (ws.set q0 (a, .inr (ci, fs.set k v))) H1 → va_D A (ws.set q0 (a, .inr (ci, fs.set k v))) → va_S A H0 H1 locs1 → W p l e R s m args below meth c H1 locs1 cells slots Q (F0 m (pc + 3) ls (rest))) : W p l e R s m args below meth c H locs cells slots Q (F0 m pc ls (v :: .ref a :: rest)) := va_put S.1 S.2.1 S.2.2.2.2 hin ty0 hty hnm S.2.2.2.1 K.1 hP hD hS q0 he hc k hk (S.2.2.2.2 _ hl) (fun _ h9 => by rw [← hr]; exact h9) hfin (hty k hk) hn hf hlen d kk
theorem z_putF (S : CallFix p m c cc nL s args Ts own) (hin2 : meth.name = "<init>") (K : gK G s) (hP : va_P (gD G) vwCl ws H) (hD : va_D A ws) (hS : va_S A H0 H locs) {C ref : String} {T : u_T} {N ci index : Nat} {ty0 : Nat → FieldType} (hin : ∀ w ∈ u_ws C T N, w ∈ Ts) (hty : ∀ k, k < N → parseFieldDescriptor (T k).2.2.1 = some (ty0 k)) (hnm : ∀ a, a < N → ∀ b, b < N → a ≠ b → (T a).2.1 ≠ (T b).2.1) (q0 : Nat) {fs : List Value} {v : Value} (he : ws[q0]? = some (a, .inr (ci, fs))) (hc : vwCl[ci]? = some (C, T, N)) (k : Nat) (hk : k < N) (hl : Cond.fieldLink own index ref (T k).2.1 (T k).2.2.1 ∈ Ts) (hr : (T k).1 = ref) (ho : (T k).1 = own) (hfin : (T k).2.2.2 = true) (hn : narrow (ty0 k) v = v) (hf : fits (ty0 k) v = true) (hlen : k < fs.length) (d : decode cc pc = .ok (.putfield index, 3)) (kk : ∀ (H1 : Heap) (locs1 : List Loc), va_P (gD G) vwCl (ws.set q0 (a, .inr (ci, fs.set k v))) H1 → va_D A (ws.set q0 (a, .inr (ci, fs.set k v))) → va_S A H0 H1 locs1 → W p l e R s m args below meth c H1 locs1 cells slots Q (F0 m (pc + 3) ls (rest))) : W p l e R s m args below meth c H locs cells slots Q (F0 m pc ls (v :: .ref a :: rest)) := va_putF S.1 S.2.1 S.2.2.2.2 hin ty0 hty hnm S.2.2.2.1 K.1 hP hD hS q0 he hc k hk (S.2.2.2.2 _ hl) (fun _ h9 => by rw [← hr]; exact h9) hfin hin2 ho (hty k hk) hn hf hlen d kk
theorem z_iald (S : CallFix p m c cc nL s args Ts own) (K : gK G s) (hP : va_P (gD G) vwCl ws H) (q0 : Nat) {n i : Nat} {f : Nat → Nat} (ha : ws[q0]? = some (a, .inl (gI G, n, .inl (nA f)))) (hi : i < n) (hn : n < 2147483648) (d : decode cc pc = .ok (.iaload, 1)) (kk : W p l e R s m args below meth c H locs cells slots Q (F0 m (pc + 1) ls (.int (nI (f i)) :: rest))) : W p l e R s m args below meth c H locs cells slots Q (F0 m pc ls (.int (nI i) :: .ref a :: rest)) := va_iald S.1 S.2.1 K.1 hP q0 0 ha rfl (z_in hi hn) d (z_top (congrArg (nA f) (z_cl (by omega)) : nA f (nI i).toNatClampNeg = nI (f i)) kk)
theorem z_cald (S : CallFix p m c cc nL s args Ts own) (K : gK G s) (hP : va_P (gD G) vwCl ws H) (q0 : Nat) {n i : Nat} {f : Nat → Nat} (ha : ws[q0]? = some (a, .inl (gC G, n, .inl (nA f)))) (hi : i < n) (hn : n < 2147483648) (d : decode cc pc = .ok (.caload, 1)) (kk : W p l e R s m args below meth c H locs cells slots Q (F0 m (pc + 1) ls (.int (nI (f i)) :: rest))) : W p l e R s m args below meth c H locs cells slots Q (F0 m pc ls (.int (nI i) :: .ref a :: rest)) := va_cald S.1 S.2.1 K.1 hP q0 1 ha rfl (z_in hi hn) d (z_top (congrArg (nA f) (z_cl (by omega)) : nA f (nI i).toNatClampNeg = nI (f i)) kk)
theorem z_zald (S : CallFix p m c cc nL s args Ts own) (K : gK G s) (hP : va_P (gD G) vwCl ws H) (q0 : Nat) {n i : Nat} {f : Nat → Nat} (ha : ws[q0]? = some (a, .inl (gZ G, n, .inl (nA f)))) (hi : i < n) (hn : n < 2147483648) (d : decode cc pc = .ok (.baload, 1)) (kk : W p l e R s m args below meth c H locs cells slots Q (F0 m (pc + 1) ls (.int (nI (f i)) :: rest))) : W p l e R s m args below meth c H locs cells slots Q (F0 m pc ls (.int (nI i) :: .ref a :: rest)) := va_zald S.1 S.2.1 K.1 hP q0 2 ha rfl (z_in hi hn) d (z_top (congrArg (nA f) (z_cl (by omega)) : nA f (nI i).toNatClampNeg = nI (f i)) kk)
theorem z_iast (S : CallFix p m c cc nL s args Ts own) (K : gK G s) (hP : va_P (gD G) vwCl ws H) (hD : va_D A ws) (hS : va_S A H0 H locs) (q0 : Nat) {n i x : Nat} {f : Nat → Nat} (ha : ws[q0]? = some (a, .inl (gI G, n, .inl (nA f)))) (hi : i < n) (hn : n < 2147483648) (d : decode cc pc = .ok (.iastore, 1)) (kk : ∀ (H1 : Heap) (locs1 : List Loc), va_P (gD G) vwCl (ws.set q0 (a, .inl (gI G, n, .inl (nA (pu f i x))))) H1 → va_D A (ws.set q0 (a, .inl (gI G, n, .inl (nA (pu f i x))))) → va_S A H0 H1 locs1 → W p l e R s m args below meth c H1 locs1 cells slots Q (F0 m (pc + 1) ls (rest))) : W p l e R s m args below meth c H locs cells slots Q (F0 m pc ls (.int (nI x) :: .int (nI i) :: .ref a :: rest)) := va_iast S.1 S.2.1 K.1 hP hD hS q0 0 ha rfl (z_in hi hn) d (fun H1 locs1 h1 h2 h3 => kk H1 locs1 (by rw [z_cl (by omega), nA_upd] at h1; exact h1) (by rw [z_cl (by omega), nA_upd] at h2; exact h2) h3)
theorem z_zast (S : CallFix p m c cc nL s args Ts own) (K : gK G s) (hP : va_P (gD G) vwCl ws H) (hD : va_D A ws) (hS : va_S A H0 H locs) (q0 : Nat) {n i x : Nat} {f : Nat → Nat} (ha : ws[q0]? = some (a, .inl (gZ G, n, .inl (nA f)))) (hi : i < n) (hn : n < 2147483648) (hx : vp_nar .boolean (nI x) = nI x) (d : decode cc pc = .ok (.bastore, 1)) (kk : ∀ (H1 : Heap) (locs1 : List Loc), va_P (gD G) vwCl (ws.set q0 (a, .inl (gZ G, n, .inl (nA (pu f i x))))) H1 → va_D A (ws.set q0 (a, .inl (gZ G, n, .inl (nA (pu f i x))))) → va_S A H0 H1 locs1 → W p l e R s m args below meth c H1 locs1 cells slots Q (F0 m (pc + 1) ls (rest))) : W p l e R s m args below meth c H locs cells slots Q (F0 m pc ls (.int (nI x) :: .int (nI i) :: .ref a :: rest)) := va_zast S.1 S.2.1 K.1 hP hD hS q0 2 ha rfl (z_in hi hn) d (fun H1 locs1 h1 h2 h3 => kk H1 locs1 (by rw [hx, z_cl (by omega), nA_upd] at h1; exact h1) (by rw [hx, z_cl (by omega), nA_upd] at h2; exact h2) h3)
theorem z_cast (S : CallFix p m c cc nL s args Ts own) (K : gK G s) (hP : va_P (gD G) vwCl ws H) (hD : va_D A ws) (hS : va_S A H0 H locs) (q0 : Nat) {n i x : Nat} {f : Nat → Nat} (ha : ws[q0]? = some (a, .inl (gC G, n, .inl (nA f)))) (hi : i < n) (hn : n < 2147483648) (hx : x < 65536) (d : decode cc pc = .ok (.castore, 1)) (kk : ∀ (H1 : Heap) (locs1 : List Loc), va_P (gD G) vwCl (ws.set q0 (a, .inl (gC G, n, .inl (nA (pu f i x))))) H1 → va_D A (ws.set q0 (a, .inl (gC G, n, .inl (nA (pu f i x))))) → va_S A H0 H1 locs1 → W p l e R s m args below meth c H1 locs1 cells slots Q (F0 m (pc + 1) ls (rest))) : W p l e R s m args below meth c H locs cells slots Q (F0 m pc ls (.int (nI x) :: .int (nI i) :: .ref a :: rest)) := va_cast S.1 S.2.1 K.1 hP hD hS q0 1 ha rfl (z_in hi hn) d (fun H1 locs1 h1 h2 h3 => kk H1 locs1 (by rw [z_nc hx, z_cl (by omega), nA_upd] at h1; exact h1) (by rw [z_nc hx, z_cl (by omega), nA_upd] at h2; exact h2) h3)
theorem z_aldq (S : CallFix p m c cc nL s args Ts own) (K : gK G s) (hP : va_P (gD G) vwCl ws H) (q0 : Nat) {n i b : Nat} {f : Nat → Option Nat} (ha : ws[q0]? = some (a, .inl (gO G, n, .inr (.inr (.inr (.inr f)))))) (hi : i < n) (hn : n < 2147483648) (hf : f i = some b) (d : decode cc pc = .ok (.aaload, 1)) (kk : W p l e R s m args below meth c H locs cells slots Q (F0 m (pc + 1) ls (.ref b :: rest))) : W p l e R s m args below meth c H locs cells slots Q (F0 m pc ls (.int (nI i) :: .ref a :: rest)) := va_aldq S.1 S.2.1 K.1 hP q0 3 ha rfl (z_in hi hn) d (by rw [z_cl (by omega), hf]; exact kk)
theorem z_astq (S : CallFix p m c cc nL s args Ts own) (K : gK G s) (hP : va_P (gD G) vwCl ws H) (hD : va_D A ws) (hS : va_S A H0 H locs) (q0 qk : Nat) {n i b : Nat} {vs : List Value} {f : Nat → Option Nat} (ha : ws[q0]? = some (a, .inl (gO G, n, .inr (.inr (.inr (.inr f)))))) (hv : ws[qk]? = some (b, .inr (3, vs))) (hi : i < n) (hn : n < 2147483648) (d : decode cc pc = .ok (.aastore, 1)) (kk : ∀ (H1 : Heap) (locs1 : List Loc), va_P (gD G) vwCl (ws.set q0 (a, .inl (gO G, n, .inr (.inr (.inr (.inr (va_up f i (some b)))))))) H1 → va_D A (ws.set q0 (a, .inl (gO G, n, .inr (.inr (.inr (.inr (va_up f i (some b)))))))) → va_S A H0 H1 locs1 → W p l e R s m args below meth c H1 locs1 cells slots Q (F0 m (pc + 1) ls (rest))) : W p l e R s m args below meth c H locs cells slots Q (F0 m pc ls (.ref b :: .int (nI i) :: .ref a :: rest)) := va_astq (r := (RX3, TX3, 4)) S.1 S.2.1 K.1 hP hD hS q0 3 qk 3 ha rfl hv rfl (z_in hi hn) d (fun H1 locs1 h1 h2 h3 => kk H1 locs1 (by rw [z_cl (by omega)] at h1; exact h1) (by rw [z_cl (by omega)] at h2; exact h2) h3)
theorem z_copy (S : CallFix p m c cc nL s args Ts own) (hls : ls.size = nL) {index : Nat} (h1 : Cond.methodLink own index arraycopyName ∈ Ts) (h2 : Cond.native arraycopyName ∈ Ts) (h3 : Cond.static arraycopyName ∈ Ts) (h4 : Cond.initialized "java/lang/System" ∈ Ts) (K : gK G s) (hP : va_P (gD G) vwCl ws H) (hD : va_D A ws) (hS : va_S A H0 H locs) (q0 q1 : Nat) {a0 n : Nat} {f g : Nat → Nat} (ha0 : ws[q0]? = some (a0, .inl (gI G, n, .inl (nA f)))) (ha1 : ws[q1]? = some (a, .inl (gI G, n, .inl (nA g)))) (hn : n < 2147483648) (hfr : 1 ≤ R.frames) (hlo : (rest.map fun v => v.category).sum + (nativeFrameWords "java/lang/System" "arraycopy" 5 + 11) ≤ R.locals) (d : decode cc pc = .ok (.invokestatic index, 3)) (kk : ∀ (H1 : Heap) (locs1 : List Loc), va_P (gD G) vwCl (ws.set q1 (a, .inl (gI G, n, .inl (nA f)))) H1 → va_D A (ws.set q1 (a, .inl (gI G, n, .inl (nA f)))) → va_S A H0 H1 locs1 → W p l e R s m args below meth c H1 locs1 cells slots Q (F0 m (pc + 3) ls (rest))) : W p l e R s m args below meth c H locs cells slots Q (F0 m pc ls (.int (nI n) :: .int (nI 0) :: .ref a :: .int (nI 0) :: .ref a0 :: rest)) := by
  have c0 : (nI 0).toNatClampNeg = 0 := z_cl (by omega)
  have cn : (nI n).toNatClampNeg = n := z_cl hn
  refine va_copyi (ty := .int) S.1 S.2.1 (S.2.2.1.trans hls.symm) S.2.2.2.1 (S.2.2.2.2 _ h1) (S.2.2.2.2 _ h2) (S.2.2.2.2 _ h3) (S.2.2.2.2 _ h4) K.1 hP hD hS q0 q1 0 0 ha0 ha1 rfl rfl rfl (nI_pos (by omega)) (nI_pos (by omega)) (nI_pos hn) (by rw [c0, cn]; omega) (by rw [c0, cn]; omega) (fun i _ => rfl) hfr hlo d (fun H1 locs1 g1 g2 g3 => ?_)
  rw [c0, cn] at g1 g2
  have hlt : q1 < ws.length := (List.getElem?_eq_some_iff.mp ha1).1
  obtain ⟨e1, e2⟩ := z_arrP g1 g2 (List.getElem?_set_self hlt) (nA f) (fun j hj => by
    simp only [va_cpy]
    rw [if_pos (by omega)]
    congr 1
    omega)
  rw [List.set_set] at e1 e2
  exact kk H1 locs1 e1 e2 g3
theorem z_iret {Sx : Type} {post : Int32 → Sx → Prop} {wf : Sx → va_W} (S : CallFix p m c cc nL s args Ts own) (hr : meth.sig.returnType = some .int) (hlocks : meth.locks = false) (hP : va_P (gD G) vwCl ws H) (hD : va_D A ws) (hS : va_S A s.heap H locs) {v : Int32} (u : Sx) (hu : wf u = ws) (hp : post v u) (d : decode cc pc = .ok (.ireturn, 1)) : W p l e R s m args below meth c H locs cells slots (MQ below (va_Qi post (cB G A wf) A) args s cells slots A) (F0 m pc ls [.int v]) := W.iret (v := v) S.1 S.2.1 hr (fun t ht hW => ⟨⟨v, u, rfl, hp, by rw [ht, hu]; exact hP, by rw [hu]; exact hD⟩, hS.F ht⟩) hS.2.2 d
theorem z_zret {Sx : Type} {post : Int32 → Sx → Prop} {wf : Sx → va_W} (S : CallFix p m c cc nL s args Ts own) (hr : meth.sig.returnType = some .boolean) (hlocks : meth.locks = false) (hP : va_P (gD G) vwCl ws H) (hD : va_D A ws) (hS : va_S A s.heap H locs) {v : Int32} (u : Sx) (hu : wf u = ws) (hp : post v u) (hn : narrow .boolean (.int v) = .int v) (d : decode cc pc = .ok (.ireturn, 1)) : W p l e R s m args below meth c H locs cells slots (MQ below (va_Qi post (cB G A wf) A) args s cells slots A) (F0 m pc ls [.int v]) := W.zret (v := v) S.1 S.2.1 hr hn (fun t ht hW => ⟨⟨v, u, rfl, hp, by rw [ht, hu]; exact hP, by rw [hu]; exact hD⟩, hS.F ht⟩) hS.2.2 d
theorem z_vret {Sx : Type} {post : Sx → Prop} {wf : Sx → va_W} (S : CallFix p m c cc nL s args Ts own) (hr : meth.sig.returnType = none) (hlocks : meth.locks = false) (hP : va_P (gD G) vwCl ws H) (hD : va_D A ws) (hS : va_S A s.heap H locs) (u : Sx) (hu : wf u = ws) (hp : post u) (d : decode cc pc = .ok (.return_, 1)) : W p l e R s m args below meth c H locs cells slots (MQ below (va_Qv post (cB G A wf) A) args s cells slots A) (F0 m pc ls []) := W.vret S.1 S.2.1 hr (fun t ht hW => ⟨⟨u, rfl, hp, by rw [ht, hu]; exact hP, by rw [hu]; exact hD⟩, hS.F ht⟩) hS.2.2 d
theorem z_bnar (b : Bool) : narrow .boolean (.int (nI (bN b))) = .int (nI (bN b)) := by cases b <;> decide +kernel
variable {y : MethodName} {bytes : ByteArray} {maxL n index : Nat} {ret : Option FieldType} {wsy wsy' : List Cond} {rm : Room} {C : String} {b : Addr} {As : List Value} {wc : va_W} {Sx : Type} {wf : Sx → va_W} {st0 : List Value}
theorem zcVi {post : Int32 → Sx → Prop} (S : CallFix p m c cc nL s args Ts own) (K : gK G s) (hP : va_P (gD G) vwCl ws H) (hD : va_D A ws) (hS : va_S A H0 H locs) (hA : ∀ q, H0.size ≤ q → A q) (hls : ls.size = nL) (cx : CI l y wsy rm G (.ref b :: As) wc 0 0 post wf) (hmc : rm.cells = 0) (hms : rm.slots = 0) (g : GoodIn Ts (wsV own index C y wsy)) (hw : wsy = Cond.code y bytes maxL ret :: wsy') (hd : y.cls = C ∧ y.cls ≠ "java/lang/invoke/MethodHandle" ∧ y.cls ≠ "java/lang/invoke/VarHandle" ∧ (parseMethodDescriptor y.desc).map (fun d => d.parameters.length) = some n) (is : List Nat) (hnd : va_nd is = true) (hC : is.map (fun i => ws[i]?) = wc.map some) (hlen : ∀ u, (wf u).length = is.length) (ci q0 : Nat) {qc : vw_C} {fs : List Value} (hci : vwCl[ci]? = some qc) (hrc : ws[q0]? = some (b, .inr (ci, fs))) (hqc : qc.1 = C) (hn : As.length = n) (hst0 : st0 = As.reverse ++ .ref b :: rest) (hro : (rest.map fun v => v.category).sum ≤ 8) (hf : rm.frames + 1 ≤ R.frames) (hlo : 8 + (maxL + 11) + rm.locals ≤ R.locals) (hcs : cells ≤ R.cells ∧ slots ≤ R.slots) (d : decode cc pc = .ok (.invokevirtual index, 3)) (kk : ∀ (r : Int32) (u : Sx) (H1 : Heap) (locs1 : List Loc), post r u → va_P (gD G) vwCl (rp ws is (wf u)) H1 → va_D A (rp ws is (wf u)) → va_S A H0 H1 locs1 → W p l e R s m args below meth c H1 locs1 cells slots Q (F0 m (pc + 3) ls (.int r :: rest))) : W p l e R s m args below meth c H locs cells slots Q (F0 m pc ls st0) := by
  have hPc := z_part hP is hC
  have hDc := z_partD hD is hnd hC
  have hFc : ∀ q, va_A wc H.size q → A q := va_free hD hS hA is hC
  subst hqc
  refine va_calli (va_runV (As := As) (rest := rest) S (cx H.size) (cwV n S.2.2.2.2 g hw hmc hms hd ⟨hf, hlo⟩) ⟨cP_blind, va_recv K.1 hP hci hrc, fun U hU hW => ⟨rfl, by rw [hU], by rw [hU]; exact hPc, K.warm hW, hDc⟩⟩ rfl hn hls hst0 (lv_room hro) d hcs) hS (fun q _ h => hFc q h) hFc (fun r u t H1 locs1 ht hvm hw1 hB hz1 hk1 hS1 => ?_)
  obtain ⟨hP1, hD1⟩ := hB
  rw [ht] at hP1
  obtain ⟨hP2, hD2⟩ := rp_ok hP hD is hC (hlen u) hk1 hFc hP1 hD1
  exact kk r u H1 locs1 hw1 hP2 hD2 hS1
theorem zcVv {post : Sx → Prop} (S : CallFix p m c cc nL s args Ts own) (K : gK G s) (hP : va_P (gD G) vwCl ws H) (hD : va_D A ws) (hS : va_S A H0 H locs) (hA : ∀ q, H0.size ≤ q → A q) (hls : ls.size = nL) (cx : CV l y wsy rm G (.ref b :: As) wc 0 0 post wf) (hmc : rm.cells = 0) (hms : rm.slots = 0) (g : GoodIn Ts (wsV own index C y wsy)) (hw : wsy = Cond.code y bytes maxL ret :: wsy') (hd : y.cls = C ∧ y.cls ≠ "java/lang/invoke/MethodHandle" ∧ y.cls ≠ "java/lang/invoke/VarHandle" ∧ (parseMethodDescriptor y.desc).map (fun d => d.parameters.length) = some n) (is : List Nat) (hnd : va_nd is = true) (hC : is.map (fun i => ws[i]?) = wc.map some) (hlen : ∀ u, (wf u).length = is.length) (ci q0 : Nat) {qc : vw_C} {fs : List Value} (hci : vwCl[ci]? = some qc) (hrc : ws[q0]? = some (b, .inr (ci, fs))) (hqc : qc.1 = C) (hn : As.length = n) (hst0 : st0 = As.reverse ++ .ref b :: rest) (hro : (rest.map fun v => v.category).sum ≤ 8) (hf : rm.frames + 1 ≤ R.frames) (hlo : 8 + (maxL + 11) + rm.locals ≤ R.locals) (hcs : cells ≤ R.cells ∧ slots ≤ R.slots) (d : decode cc pc = .ok (.invokevirtual index, 3)) (kk : ∀ (u : Sx) (H1 : Heap) (locs1 : List Loc), post u → va_P (gD G) vwCl (rp ws is (wf u)) H1 → va_D A (rp ws is (wf u)) → va_S A H0 H1 locs1 → W p l e R s m args below meth c H1 locs1 cells slots Q (F0 m (pc + 3) ls (rest))) : W p l e R s m args below meth c H locs cells slots Q (F0 m pc ls st0) := by
  have hPc := z_part hP is hC
  have hDc := z_partD hD is hnd hC
  have hFc : ∀ q, va_A wc H.size q → A q := va_free hD hS hA is hC
  subst hqc
  refine va_callv (va_runV (As := As) (rest := rest) S (cx H.size) (cwV n S.2.2.2.2 g hw hmc hms hd ⟨hf, hlo⟩) ⟨cP_blind, va_recv K.1 hP hci hrc, fun U hU hW => ⟨rfl, by rw [hU], by rw [hU]; exact hPc, K.warm hW, hDc⟩⟩ rfl hn hls hst0 (lv_room hro) d hcs) hS (fun q _ h => hFc q h) hFc (fun u t H1 locs1 ht hvm hw1 hB hz1 hk1 hS1 => ?_)
  obtain ⟨hP1, hD1⟩ := hB
  rw [ht] at hP1
  obtain ⟨hP2, hD2⟩ := rp_ok hP hD is hC (hlen u) hk1 hFc hP1 hD1
  exact kk u H1 locs1 hw1 hP2 hD2 hS1
theorem zcSi {post : Int32 → Sx → Prop} (S : CallFix p m c cc nL s args Ts own) (K : gK G s) (hP : va_P (gD G) vwCl ws H) (hD : va_D A ws) (hS : va_S A H0 H locs) (hA : ∀ q, H0.size ≤ q → A q) (hls : ls.size = nL) (cx : CI l y wsy rm G As wc 0 0 post wf) (hmc : rm.cells = 0) (hms : rm.slots = 0) (g : GoodIn Ts (va_wsS own index y wsy)) (hw : wsy = Cond.code y bytes maxL ret :: wsy') (hd : y.cls ≠ "java/lang/invoke/MethodHandle" ∧ y.cls ≠ "java/lang/invoke/VarHandle" ∧ (parseMethodDescriptor y.desc).map (fun d => d.parameters.length) = some n) (is : List Nat) (hnd : va_nd is = true) (hC : is.map (fun i => ws[i]?) = wc.map some) (hlen : ∀ u, (wf u).length = is.length) (hn : As.length = n) (hst0 : st0 = As.reverse ++ rest) (hro : (rest.map fun v => v.category).sum ≤ 8) (hf : rm.frames + 1 ≤ R.frames) (hlo : 8 + (maxL + 11) + rm.locals ≤ R.locals) (hcs : cells ≤ R.cells ∧ slots ≤ R.slots) (d : decode cc pc = .ok (.invokestatic index, 3)) (kk : ∀ (r : Int32) (u : Sx) (H1 : Heap) (locs1 : List Loc), post r u → va_P (gD G) vwCl (rp ws is (wf u)) H1 → va_D A (rp ws is (wf u)) → va_S A H0 H1 locs1 → W p l e R s m args below meth c H1 locs1 cells slots Q (F0 m (pc + 3) ls (.int r :: rest))) : W p l e R s m args below meth c H locs cells slots Q (F0 m pc ls st0) := by
  have hPc := z_part hP is hC
  have hDc := z_partD hD is hnd hC
  have hFc : ∀ q, va_A wc H.size q → A q := va_free hD hS hA is hC
  refine va_calli (va_runS (As := As) (rest := rest) S (cx H.size) (va_cwS n S.2.2.2.2 g hw hmc hms hd ⟨hf, hlo⟩) ⟨cP_blind, fun U hU hW => ⟨rfl, by rw [hU], by rw [hU]; exact hPc, K.warm hW, hDc⟩⟩ rfl hn hls hst0 (lv_room hro) d hcs) hS (fun q _ h => hFc q h) hFc (fun r u t H1 locs1 ht hvm hw1 hB hz1 hk1 hS1 => ?_)
  obtain ⟨hP1, hD1⟩ := hB
  rw [ht] at hP1
  obtain ⟨hP2, hD2⟩ := rp_ok hP hD is hC (hlen u) hk1 hFc hP1 hD1
  exact kk r u H1 locs1 hw1 hP2 hD2 hS1
theorem zcSv {post : Sx → Prop} (S : CallFix p m c cc nL s args Ts own) (K : gK G s) (hP : va_P (gD G) vwCl ws H) (hD : va_D A ws) (hS : va_S A H0 H locs) (hA : ∀ q, H0.size ≤ q → A q) (hls : ls.size = nL) (cx : CV l y wsy rm G As wc 0 0 post wf) (hmc : rm.cells = 0) (hms : rm.slots = 0) (g : GoodIn Ts (va_wsS own index y wsy)) (hw : wsy = Cond.code y bytes maxL ret :: wsy') (hd : y.cls ≠ "java/lang/invoke/MethodHandle" ∧ y.cls ≠ "java/lang/invoke/VarHandle" ∧ (parseMethodDescriptor y.desc).map (fun d => d.parameters.length) = some n) (is : List Nat) (hnd : va_nd is = true) (hC : is.map (fun i => ws[i]?) = wc.map some) (hlen : ∀ u, (wf u).length = is.length) (hn : As.length = n) (hst0 : st0 = As.reverse ++ rest) (hro : (rest.map fun v => v.category).sum ≤ 8) (hf : rm.frames + 1 ≤ R.frames) (hlo : 8 + (maxL + 11) + rm.locals ≤ R.locals) (hcs : cells ≤ R.cells ∧ slots ≤ R.slots) (d : decode cc pc = .ok (.invokestatic index, 3)) (kk : ∀ (u : Sx) (H1 : Heap) (locs1 : List Loc), post u → va_P (gD G) vwCl (rp ws is (wf u)) H1 → va_D A (rp ws is (wf u)) → va_S A H0 H1 locs1 → W p l e R s m args below meth c H1 locs1 cells slots Q (F0 m (pc + 3) ls (rest))) : W p l e R s m args below meth c H locs cells slots Q (F0 m pc ls st0) := by
  have hPc := z_part hP is hC
  have hDc := z_partD hD is hnd hC
  have hFc : ∀ q, va_A wc H.size q → A q := va_free hD hS hA is hC
  refine va_callv (va_runS (As := As) (rest := rest) S (cx H.size) (va_cwS n S.2.2.2.2 g hw hmc hms hd ⟨hf, hlo⟩) ⟨cP_blind, fun U hU hW => ⟨rfl, by rw [hU], by rw [hU]; exact hPc, K.warm hW, hDc⟩⟩ rfl hn hls hst0 (lv_room hro) d hcs) hS (fun q _ h => hFc q h) hFc (fun u t H1 locs1 ht hvm hw1 hB hz1 hk1 hS1 => ?_)
  obtain ⟨hP1, hD1⟩ := hB
  rw [ht] at hP1
  obtain ⟨hP2, hD2⟩ := rp_ok hP hD is hC (hlen u) hk1 hFc hP1 hD1
  exact kk u H1 locs1 hw1 hP2 hD2 hS1
theorem zcNi {post : Int32 → Sx → Prop} {host : String} (S : CallFix p m c cc nL s args Ts own) (K : gK G s) (hP : va_P (gD G) vwCl ws H) (hD : va_D A ws) (hS : va_S A H0 H locs) (hA : ∀ q, H0.size ≤ q → A q) (hls : ls.size = nL) (cx : CI l y wsy rm G As wc 0 0 post wf) (hmc : rm.cells = 0) (hms : rm.slots = 0) (g : GoodIn Ts wsy) (hw : wsy = Cond.code y bytes maxL ret :: wsy') (hnw : Cond.methodLinkNest own index y host ∈ nwL) (hini : Cond.initialized y.cls ∈ Ts) (hst : Cond.static y ∈ Ts) (hd : y.cls ≠ "java/lang/invoke/MethodHandle" ∧ y.cls ≠ "java/lang/invoke/VarHandle" ∧ (parseMethodDescriptor y.desc).map (fun d => d.parameters.length) = some n) (is : List Nat) (hnd : va_nd is = true) (hC : is.map (fun i => ws[i]?) = wc.map some) (hlen : ∀ u, (wf u).length = is.length) (hn : As.length = n) (hst0 : st0 = As.reverse ++ rest) (hro : (rest.map fun v => v.category).sum ≤ 8) (hf : rm.frames + 1 ≤ R.frames) (hlo : 8 + (maxL + 11) + rm.locals ≤ R.locals) (hcs : cells ≤ R.cells ∧ slots ≤ R.slots) (d : decode cc pc = .ok (.invokestatic index, 3)) (kk : ∀ (r : Int32) (u : Sx) (H1 : Heap) (locs1 : List Loc), post r u → va_P (gD G) vwCl (rp ws is (wf u)) H1 → va_D A (rp ws is (wf u)) → va_S A H0 H1 locs1 → W p l e R s m args below meth c H1 locs1 cells slots Q (F0 m (pc + 3) ls (.int r :: rest))) : W p l e R s m args below meth c H locs cells slots Q (F0 m pc ls st0) := by
  have hPc := z_part hP is hC
  have hDc := z_partD hD is hnd hC
  have hFc : ∀ q, va_A wc H.size q → A q := va_free hD hS hA is hC
  refine va_calli (va_runSN (As := As) (rest := rest) S (cx H.size) ⟨va_cnB n S.2.2.2.2 g hw hmc hms (K.2 _ hnw) (S.2.2.2.2 _ hini) hd ⟨hf, hlo⟩, S.2.2.2.2 _ hst, trivial⟩ ⟨cP_blind, fun U hU hW => ⟨rfl, by rw [hU], by rw [hU]; exact hPc, K.warm hW, hDc⟩⟩ rfl hn hls hst0 (lv_room hro) d hcs) hS (fun q _ h => hFc q h) hFc (fun r u t H1 locs1 ht hvm hw1 hB hz1 hk1 hS1 => ?_)
  obtain ⟨hP1, hD1⟩ := hB
  rw [ht] at hP1
  obtain ⟨hP2, hD2⟩ := rp_ok hP hD is hC (hlen u) hk1 hFc hP1 hD1
  exact kk r u H1 locs1 hw1 hP2 hD2 hS1
theorem zcNv {post : Sx → Prop} {host : String} (S : CallFix p m c cc nL s args Ts own) (K : gK G s) (hP : va_P (gD G) vwCl ws H) (hD : va_D A ws) (hS : va_S A H0 H locs) (hA : ∀ q, H0.size ≤ q → A q) (hls : ls.size = nL) (cx : CV l y wsy rm G As wc 0 0 post wf) (hmc : rm.cells = 0) (hms : rm.slots = 0) (g : GoodIn Ts wsy) (hw : wsy = Cond.code y bytes maxL ret :: wsy') (hnw : Cond.methodLinkNest own index y host ∈ nwL) (hini : Cond.initialized y.cls ∈ Ts) (hst : Cond.static y ∈ Ts) (hd : y.cls ≠ "java/lang/invoke/MethodHandle" ∧ y.cls ≠ "java/lang/invoke/VarHandle" ∧ (parseMethodDescriptor y.desc).map (fun d => d.parameters.length) = some n) (is : List Nat) (hnd : va_nd is = true) (hC : is.map (fun i => ws[i]?) = wc.map some) (hlen : ∀ u, (wf u).length = is.length) (hn : As.length = n) (hst0 : st0 = As.reverse ++ rest) (hro : (rest.map fun v => v.category).sum ≤ 8) (hf : rm.frames + 1 ≤ R.frames) (hlo : 8 + (maxL + 11) + rm.locals ≤ R.locals) (hcs : cells ≤ R.cells ∧ slots ≤ R.slots) (d : decode cc pc = .ok (.invokestatic index, 3)) (kk : ∀ (u : Sx) (H1 : Heap) (locs1 : List Loc), post u → va_P (gD G) vwCl (rp ws is (wf u)) H1 → va_D A (rp ws is (wf u)) → va_S A H0 H1 locs1 → W p l e R s m args below meth c H1 locs1 cells slots Q (F0 m (pc + 3) ls (rest))) : W p l e R s m args below meth c H locs cells slots Q (F0 m pc ls st0) := by
  have hPc := z_part hP is hC
  have hDc := z_partD hD is hnd hC
  have hFc : ∀ q, va_A wc H.size q → A q := va_free hD hS hA is hC
  refine va_callv (va_runSN (As := As) (rest := rest) S (cx H.size) ⟨va_cnB n S.2.2.2.2 g hw hmc hms (K.2 _ hnw) (S.2.2.2.2 _ hini) hd ⟨hf, hlo⟩, S.2.2.2.2 _ hst, trivial⟩ ⟨cP_blind, fun U hU hW => ⟨rfl, by rw [hU], by rw [hU]; exact hPc, K.warm hW, hDc⟩⟩ rfl hn hls hst0 (lv_room hro) d hcs) hS (fun q _ h => hFc q h) hFc (fun u t H1 locs1 ht hvm hw1 hB hz1 hk1 hS1 => ?_)
  obtain ⟨hP1, hD1⟩ := hB
  rw [ht] at hP1
  obtain ⟨hP2, hD2⟩ := rp_ok hP hD is hC (hlen u) hk1 hFc hP1 hD1
  exact kk u H1 locs1 hw1 hP2 hD2 hS1
end ZL
end
section
theorem kX0_init_1 : Cond.methodLink RX0 3 objectInit ∈ wsX0_init := List.mem_of_getElem? (i := 1) rfl
theorem kX0_init_2 : Cond.instanceMethod objectInit ∈ wsX0_init := List.mem_of_getElem? (i := 2) rfl
theorem kX0_init_4 : Cond.arrayClass .int ∈ wsX0_init := List.mem_of_getElem? (i := 4) rfl
theorem kX0_init_5 : Cond.fieldLink RX0 9 "ParityRules$BestAnswer" "exchanges" "[I" ∈ wsX0_init := List.mem_of_getElem? (i := 5) rfl
theorem hX0_init_X0 : ∀ w ∈ wsX00, w ∈ wsX0_init := fun w h => List.mem_cons_of_mem _ (List.mem_append_right _ h)
theorem kJ6_bitCount_0f7a4_1 : Cond.constant RJ6 265 (1431655765) ∈ wsJ6_bitCount_0f7a4 := List.mem_of_getElem? (i := 1) rfl
theorem kJ6_bitCount_0f7a4_2 : Cond.constant RJ6 266 (858993459) ∈ wsJ6_bitCount_0f7a4 := List.mem_of_getElem? (i := 2) rfl
theorem kJ6_bitCount_0f7a4_3 : Cond.constant RJ6 267 (252645135) ∈ wsJ6_bitCount_0f7a4 := List.mem_of_getElem? (i := 3) rfl
theorem kX5_parity_2 : Cond.static yJ6_bitCount_0f7a4 ∈ wsX5_parity := List.mem_of_getElem? (i := 2) rfl
theorem kX5_parity_3 : Cond.initialized RJ6 ∈ wsX5_parity := List.mem_of_getElem? (i := 3) rfl
theorem kX0_fillExchanges_1 : Cond.fieldLink RX0 39 "ParityRules$Row" "choices" "I" ∈ wsX0_fillExchanges := List.mem_of_getElem? (i := 1) rfl
theorem kX0_fillExchanges_2 : Cond.fieldLink RX0 47 "ParityRules$Row" "many" "I" ∈ wsX0_fillExchanges := List.mem_of_getElem? (i := 2) rfl
theorem kX0_fillExchanges_3 : Cond.fieldLink RX0 53 "ParityRules$Row" "sets" "[I" ∈ wsX0_fillExchanges := List.mem_of_getElem? (i := 3) rfl
theorem kX0_fillExchanges_4 : Cond.fieldLink RX0 9 "ParityRules$BestAnswer" "exchanges" "[I" ∈ wsX0_fillExchanges := List.mem_of_getElem? (i := 4) rfl
theorem kX0_fillExchanges_5 : Cond.static yX5_parity ∈ wsX0_fillExchanges := List.mem_of_getElem? (i := 5) rfl
theorem kX0_fillExchanges_6 : Cond.initialized RX5 ∈ wsX0_fillExchanges := List.mem_of_getElem? (i := 6) rfl
theorem kX0_fillExchanges_9 : Cond.static yJ6_bitCount_0f7a4 ∈ wsX0_fillExchanges := List.mem_of_getElem? (i := 9) rfl
theorem kX0_fillExchanges_10 : Cond.initialized RJ6 ∈ wsX0_fillExchanges := List.mem_of_getElem? (i := 10) rfl
theorem hX0_fillExchanges_X3 : ∀ w ∈ wsX30, w ∈ wsX0_fillExchanges := fun w h => List.mem_cons_of_mem _ (List.mem_append_left _ (List.mem_append_right _ h))
theorem hX0_fillExchanges_X0 : ∀ w ∈ wsX00, w ∈ wsX0_fillExchanges := fun w h => List.mem_cons_of_mem _ (List.mem_append_right _ h)
theorem kX0_brokenByNone_1 : Cond.fieldLink RX0 47 "ParityRules$Row" "many" "I" ∈ wsX0_brokenByNone := List.mem_of_getElem? (i := 1) rfl
theorem kX0_brokenByNone_2 : Cond.fieldLink RX0 50 "ParityRules$Row" "sums" "[I" ∈ wsX0_brokenByNone := List.mem_of_getElem? (i := 2) rfl
theorem hX0_brokenByNone_X3 : ∀ w ∈ wsX30, w ∈ wsX0_brokenByNone := fun w h => List.mem_cons_of_mem _ (List.mem_append_right _ h)
theorem kX5_lowestBit_2 : Cond.static yJ6_bitCount_0f7a4 ∈ wsX5_lowestBit := List.mem_of_getElem? (i := 2) rfl
theorem kX5_lowestBit_3 : Cond.initialized RJ6 ∈ wsX5_lowestBit := List.mem_of_getElem? (i := 3) rfl
theorem kX0_find_1 : Cond.fieldLink RX0 23 "ParityRules$BestAnswer" "lowest" "I" ∈ wsX0_find := List.mem_of_getElem? (i := 1) rfl
theorem kX0_find_2 : Cond.fieldLink RX0 33 "ParityRules$BestAnswer" "broken" "I" ∈ wsX0_find := List.mem_of_getElem? (i := 2) rfl
theorem kX0_find_3 : Cond.fieldLink RX0 36 "ParityRules$BestAnswer" "asGood" "I" ∈ wsX0_find := List.mem_of_getElem? (i := 3) rfl
theorem kX0_find_4 : Cond.fieldLink RX0 39 "ParityRules$Row" "choices" "I" ∈ wsX0_find := List.mem_of_getElem? (i := 4) rfl
theorem kX0_find_5 : Cond.fieldLink RX0 9 "ParityRules$BestAnswer" "exchanges" "[I" ∈ wsX0_find := List.mem_of_getElem? (i := 5) rfl
theorem kX0_find_9 : Cond.initialized RX0 ∈ wsX0_find := List.mem_of_getElem? (i := 9) rfl
theorem kX0_find_11 : Cond.fieldLink RX0 47 "ParityRules$Row" "many" "I" ∈ wsX0_find := List.mem_of_getElem? (i := 11) rfl
theorem kX0_find_12 : Cond.fieldLink RX0 53 "ParityRules$Row" "sets" "[I" ∈ wsX0_find := List.mem_of_getElem? (i := 12) rfl
theorem kX0_find_13 : Cond.static yX5_parity ∈ wsX0_find := List.mem_of_getElem? (i := 13) rfl
theorem kX0_find_14 : Cond.initialized RX5 ∈ wsX0_find := List.mem_of_getElem? (i := 14) rfl
theorem kX0_find_17 : Cond.static yJ6_bitCount_0f7a4 ∈ wsX0_find := List.mem_of_getElem? (i := 17) rfl
theorem kX0_find_18 : Cond.initialized RJ6 ∈ wsX0_find := List.mem_of_getElem? (i := 18) rfl
theorem kX0_find_24 : Cond.static yX0_brokenByNone ∈ wsX0_find := List.mem_of_getElem? (i := 24) rfl
theorem kX0_find_26 : Cond.fieldLink RX0 50 "ParityRules$Row" "sums" "[I" ∈ wsX0_find := List.mem_of_getElem? (i := 26) rfl
theorem kX0_find_28 : Cond.static yX5_lowestBit ∈ wsX0_find := List.mem_of_getElem? (i := 28) rfl
theorem hX0_find_X0 : ∀ w ∈ wsX00, w ∈ wsX0_find := fun w h => List.mem_cons_of_mem _ (List.mem_append_left _ (List.mem_append_right _ h))
theorem hX0_find_X3 : ∀ w ∈ wsX30, w ∈ wsX0_find := fun w h => List.mem_cons_of_mem _ (List.mem_append_right _ h)
theorem kX3_init_1 : Cond.methodLink RX3 3 objectInit ∈ wsX3_init := List.mem_of_getElem? (i := 1) rfl
theorem kX3_init_2 : Cond.instanceMethod objectInit ∈ wsX3_init := List.mem_of_getElem? (i := 2) rfl
theorem kX3_init_4 : Cond.fieldLink RX3 9 "ParityRules$Row" "choices" "I" ∈ wsX3_init := List.mem_of_getElem? (i := 4) rfl
theorem kX3_init_5 : Cond.arrayClass .int ∈ wsX3_init := List.mem_of_getElem? (i := 5) rfl
theorem kX3_init_6 : Cond.fieldLink RX3 15 "ParityRules$Row" "sets" "[I" ∈ wsX3_init := List.mem_of_getElem? (i := 6) rfl
theorem kX3_init_7 : Cond.fieldLink RX3 19 "ParityRules$Row" "sums" "[I" ∈ wsX3_init := List.mem_of_getElem? (i := 7) rfl
theorem hX3_init_X3 : ∀ w ∈ wsX30, w ∈ wsX3_init := fun w h => List.mem_cons_of_mem _ (List.mem_append_right _ h)
theorem kX1_init_1 : Cond.methodLink RX1 3 objectInit ∈ wsX1_init := List.mem_of_getElem? (i := 1) rfl
theorem kX1_init_2 : Cond.instanceMethod objectInit ∈ wsX1_init := List.mem_of_getElem? (i := 2) rfl
theorem kX1_init_4 : Cond.classLink RX1 9 RX3 ∈ wsX1_init := List.mem_of_getElem? (i := 4) rfl
theorem kX1_init_5 : Cond.fieldLink RX1 11 "ParityRules$History" "states" "[LParityRules$Row;" ∈ wsX1_init := List.mem_of_getElem? (i := 5) rfl
theorem kX1_init_6 : Cond.instantiable RX3 4 ∈ wsX1_init := List.mem_of_getElem? (i := 6) rfl
theorem kX1_init_7 : Cond.initialized RX3 ∈ wsX1_init := List.mem_of_getElem? (i := 7) rfl
theorem kX1_init_8 : Cond.instanceMethod yX3_init ∈ wsX1_init := List.mem_of_getElem? (i := 8) rfl
theorem kX1_init_12 : Cond.arrayClass .int ∈ wsX1_init := List.mem_of_getElem? (i := 12) rfl
theorem hX1_init_X1 : ∀ w ∈ wsX10, w ∈ wsX1_init := fun w h => List.mem_cons_of_mem _ (List.mem_append_left _ (List.mem_append_right _ h))
theorem hX1_init_X3 : ∀ w ∈ wsX30, w ∈ wsX1_init := fun w h => List.mem_cons_of_mem _ (List.mem_append_right _ h)
theorem kX1_dropOldest_1 : Cond.fieldLink RX1 11 "ParityRules$History" "states" "[LParityRules$Row;" ∈ wsX1_dropOldest := List.mem_of_getElem? (i := 1) rfl
theorem kX1_dropOldest_2 : Cond.fieldLink RX1 18 "ParityRules$History" "many" "I" ∈ wsX1_dropOldest := List.mem_of_getElem? (i := 2) rfl
theorem hX1_dropOldest_X1 : ∀ w ∈ wsX10, w ∈ wsX1_dropOldest := fun w h => List.mem_cons_of_mem _ (List.mem_append_right _ h)
theorem kX3_become_1 : Cond.fieldLink RX3 9 "ParityRules$Row" "choices" "I" ∈ wsX3_become := List.mem_of_getElem? (i := 1) rfl
theorem kX3_become_2 : Cond.fieldLink RX3 22 "ParityRules$Row" "many" "I" ∈ wsX3_become := List.mem_of_getElem? (i := 2) rfl
theorem kX3_become_3 : Cond.fieldLink RX3 15 "ParityRules$Row" "sets" "[I" ∈ wsX3_become := List.mem_of_getElem? (i := 3) rfl
theorem kX3_become_4 : Cond.methodLink RX3 25 arraycopyName ∈ wsX3_become := List.mem_of_getElem? (i := 4) rfl
theorem kX3_become_5 : Cond.native arraycopyName ∈ wsX3_become := List.mem_of_getElem? (i := 5) rfl
theorem kX3_become_6 : Cond.static arraycopyName ∈ wsX3_become := List.mem_of_getElem? (i := 6) rfl
theorem kX3_become_7 : Cond.initialized "java/lang/System" ∈ wsX3_become := List.mem_of_getElem? (i := 7) rfl
theorem kX3_become_8 : Cond.fieldLink RX3 19 "ParityRules$Row" "sums" "[I" ∈ wsX3_become := List.mem_of_getElem? (i := 8) rfl
theorem hX3_become_X3 : ∀ w ∈ wsX30, w ∈ wsX3_become := fun w h => List.mem_cons_of_mem _ (List.mem_append_right _ h)
theorem kX1_remember_1 : Cond.fieldLink RX1 18 "ParityRules$History" "many" "I" ∈ wsX1_remember := List.mem_of_getElem? (i := 1) rfl
theorem kX1_remember_2 : Cond.fieldLink RX1 11 "ParityRules$History" "states" "[LParityRules$Row;" ∈ wsX1_remember := List.mem_of_getElem? (i := 2) rfl
theorem kX1_remember_6 : Cond.initialized RX1 ∈ wsX1_remember := List.mem_of_getElem? (i := 6) rfl
theorem kX1_remember_11 : Cond.initialized RX3 ∈ wsX1_remember := List.mem_of_getElem? (i := 11) rfl
theorem kX1_remember_17 : Cond.native arraycopyName ∈ wsX1_remember := List.mem_of_getElem? (i := 17) rfl
theorem kX1_remember_18 : Cond.static arraycopyName ∈ wsX1_remember := List.mem_of_getElem? (i := 18) rfl
theorem kX1_remember_19 : Cond.initialized "java/lang/System" ∈ wsX1_remember := List.mem_of_getElem? (i := 19) rfl
theorem hX1_remember_X1 : ∀ w ∈ wsX10, w ∈ wsX1_remember := fun w h => List.mem_cons_of_mem _ (List.mem_append_left _ (List.mem_append_right _ h))
theorem hX1_remember_X3 : ∀ w ∈ wsX30, w ∈ wsX1_remember := fun w h => List.mem_cons_of_mem _ (List.mem_append_right _ h)
theorem kX1_giveBack_1 : Cond.fieldLink RX1 18 "ParityRules$History" "many" "I" ∈ wsX1_giveBack := List.mem_of_getElem? (i := 1) rfl
theorem kX1_giveBack_2 : Cond.fieldLink RX1 11 "ParityRules$History" "states" "[LParityRules$Row;" ∈ wsX1_giveBack := List.mem_of_getElem? (i := 2) rfl
theorem kX1_giveBack_6 : Cond.initialized RX3 ∈ wsX1_giveBack := List.mem_of_getElem? (i := 6) rfl
theorem kX1_giveBack_12 : Cond.native arraycopyName ∈ wsX1_giveBack := List.mem_of_getElem? (i := 12) rfl
theorem kX1_giveBack_13 : Cond.static arraycopyName ∈ wsX1_giveBack := List.mem_of_getElem? (i := 13) rfl
theorem kX1_giveBack_14 : Cond.initialized "java/lang/System" ∈ wsX1_giveBack := List.mem_of_getElem? (i := 14) rfl
theorem hX1_giveBack_X1 : ∀ w ∈ wsX10, w ∈ wsX1_giveBack := fun w h => List.mem_cons_of_mem _ (List.mem_append_left _ (List.mem_append_right _ h))
theorem hX1_giveBack_X3 : ∀ w ∈ wsX30, w ∈ wsX1_giveBack := fun w h => List.mem_cons_of_mem _ (List.mem_append_right _ h)
theorem kX2_init_1 : Cond.methodLink RX2 3 objectInit ∈ wsX2_init := List.mem_of_getElem? (i := 1) rfl
theorem kX2_init_2 : Cond.instanceMethod objectInit ∈ wsX2_init := List.mem_of_getElem? (i := 2) rfl
theorem kX2_init_4 : Cond.arrayClass .char ∈ wsX2_init := List.mem_of_getElem? (i := 4) rfl
theorem kX2_init_5 : Cond.fieldLink RX2 9 "ParityRules$Pad" "characters" "[C" ∈ wsX2_init := List.mem_of_getElem? (i := 5) rfl
theorem hX2_init_X2 : ∀ w ∈ wsX20, w ∈ wsX2_init := fun w h => List.mem_cons_of_mem _ (List.mem_append_right _ h)
theorem kX2_append_1 : Cond.fieldLink RX2 15 "ParityRules$Pad" "length" "I" ∈ wsX2_append := List.mem_of_getElem? (i := 1) rfl
theorem kX2_append_2 : Cond.fieldLink RX2 9 "ParityRules$Pad" "characters" "[C" ∈ wsX2_append := List.mem_of_getElem? (i := 2) rfl
theorem hX2_append_X2 : ∀ w ∈ wsX20, w ∈ wsX2_append := fun w h => List.mem_cons_of_mem _ (List.mem_append_right _ h)
theorem kX2_startRule_1 : Cond.fieldLink RX2 31 "ParityRules$Pad" "stage" "I" ∈ wsX2_startRule := List.mem_of_getElem? (i := 1) rfl
theorem kX2_startRule_2 : Cond.fieldLink RX2 34 "ParityRules$Pad" "choiceAhead" "I" ∈ wsX2_startRule := List.mem_of_getElem? (i := 2) rfl
theorem kX2_startRule_3 : Cond.fieldLink RX2 37 "ParityRules$Pad" "set" "I" ∈ wsX2_startRule := List.mem_of_getElem? (i := 3) rfl
theorem hX2_startRule_X2 : ∀ w ∈ wsX20, w ∈ wsX2_startRule := fun w h => List.mem_cons_of_mem _ (List.mem_append_right _ h)
theorem kX2_canStartChoice_1 : Cond.fieldLink RX2 34 "ParityRules$Pad" "choiceAhead" "I" ∈ wsX2_canStartChoice := List.mem_of_getElem? (i := 1) rfl
theorem kX2_canStartChoice_2 : Cond.fieldLink RX2 50 "ParityRules$Pad" "choiceHere" "I" ∈ wsX2_canStartChoice := List.mem_of_getElem? (i := 2) rfl
theorem kX2_canStartChoice_3 : Cond.fieldLink RX2 31 "ParityRules$Pad" "stage" "I" ∈ wsX2_canStartChoice := List.mem_of_getElem? (i := 3) rfl
theorem hX2_canStartChoice_X2 : ∀ w ∈ wsX20, w ∈ wsX2_canStartChoice := fun w h => List.mem_cons_of_mem _ (List.mem_append_right _ h)
theorem kX2_canStandInChoice_1 : Cond.fieldLink RX2 50 "ParityRules$Pad" "choiceHere" "I" ∈ wsX2_canStandInChoice := List.mem_of_getElem? (i := 1) rfl
theorem kX2_canStandInChoice_2 : Cond.fieldLink RX2 34 "ParityRules$Pad" "choiceAhead" "I" ∈ wsX2_canStandInChoice := List.mem_of_getElem? (i := 2) rfl
theorem kX2_canStandInChoice_3 : Cond.fieldLink RX2 37 "ParityRules$Pad" "set" "I" ∈ wsX2_canStandInChoice := List.mem_of_getElem? (i := 3) rfl
theorem kX2_canStandInChoice_4 : Cond.fieldLink RX2 31 "ParityRules$Pad" "stage" "I" ∈ wsX2_canStandInChoice := List.mem_of_getElem? (i := 4) rfl
theorem hX2_canStandInChoice_X2 : ∀ w ∈ wsX20, w ∈ wsX2_canStandInChoice := fun w h => List.mem_cons_of_mem _ (List.mem_append_right _ h)
theorem kX3_append_1 : Cond.fieldLink RX3 22 "ParityRules$Row" "many" "I" ∈ wsX3_append := List.mem_of_getElem? (i := 1) rfl
theorem kX3_append_2 : Cond.fieldLink RX3 15 "ParityRules$Row" "sets" "[I" ∈ wsX3_append := List.mem_of_getElem? (i := 2) rfl
theorem kX3_append_3 : Cond.fieldLink RX3 19 "ParityRules$Row" "sums" "[I" ∈ wsX3_append := List.mem_of_getElem? (i := 3) rfl
theorem hX3_append_X3 : ∀ w ∈ wsX30, w ∈ wsX3_append := fun w h => List.mem_cons_of_mem _ (List.mem_append_right _ h)
theorem kX2_canBeSum_1 : Cond.fieldLink RX2 37 "ParityRules$Pad" "set" "I" ∈ wsX2_canBeSum := List.mem_of_getElem? (i := 1) rfl
theorem kX2_canBeSum_2 : Cond.fieldLink RX2 31 "ParityRules$Pad" "stage" "I" ∈ wsX2_canBeSum := List.mem_of_getElem? (i := 2) rfl
theorem kX2_canBeSum_6 : Cond.initialized RX3 ∈ wsX2_canBeSum := List.mem_of_getElem? (i := 6) rfl
theorem hX2_canBeSum_X2 : ∀ w ∈ wsX20, w ∈ wsX2_canBeSum := fun w h => List.mem_cons_of_mem _ (List.mem_append_left _ (List.mem_append_right _ h))
theorem hX2_canBeSum_X3 : ∀ w ∈ wsX30, w ∈ wsX2_canBeSum := fun w h => List.mem_cons_of_mem _ (List.mem_append_right _ h)
theorem kX2_canStand_1 : Cond.fieldLink RX2 31 "ParityRules$Pad" "stage" "I" ∈ wsX2_canStand := List.mem_of_getElem? (i := 1) rfl
theorem kX2_canStand_5 : Cond.initialized RX2 ∈ wsX2_canStand := List.mem_of_getElem? (i := 5) rfl
theorem kX2_canStand_7 : Cond.fieldLink RX2 34 "ParityRules$Pad" "choiceAhead" "I" ∈ wsX2_canStand := List.mem_of_getElem? (i := 7) rfl
theorem kX2_canStand_8 : Cond.fieldLink RX2 50 "ParityRules$Pad" "choiceHere" "I" ∈ wsX2_canStand := List.mem_of_getElem? (i := 8) rfl
theorem kX2_canStand_13 : Cond.fieldLink RX2 37 "ParityRules$Pad" "set" "I" ∈ wsX2_canStand := List.mem_of_getElem? (i := 13) rfl
theorem kX2_canStand_21 : Cond.initialized RX3 ∈ wsX2_canStand := List.mem_of_getElem? (i := 21) rfl
theorem hX2_canStand_X2 : ∀ w ∈ wsX20, w ∈ wsX2_canStand := fun w h => List.mem_cons_of_mem _ (List.mem_append_left _ (List.mem_append_right _ h))
theorem hX2_canStand_X3 : ∀ w ∈ wsX30, w ∈ wsX2_canStand := fun w h => List.mem_cons_of_mem _ (List.mem_append_right _ h)
theorem kX2_readInto_1 : Cond.fieldLink RX2 19 "ParityRules$Row" "many" "I" ∈ wsX2_readInto := List.mem_of_getElem? (i := 1) rfl
theorem kX2_readInto_2 : Cond.fieldLink RX2 15 "ParityRules$Pad" "length" "I" ∈ wsX2_readInto := List.mem_of_getElem? (i := 2) rfl
theorem kX2_readInto_3 : Cond.fieldLink RX2 9 "ParityRules$Pad" "characters" "[C" ∈ wsX2_readInto := List.mem_of_getElem? (i := 3) rfl
theorem kX2_readInto_4 : Cond.fieldLink RX2 31 "ParityRules$Pad" "stage" "I" ∈ wsX2_readInto := List.mem_of_getElem? (i := 4) rfl
theorem kX2_readInto_8 : Cond.initialized RX2 ∈ wsX2_readInto := List.mem_of_getElem? (i := 8) rfl
theorem kX2_readInto_10 : Cond.fieldLink RX2 34 "ParityRules$Pad" "choiceAhead" "I" ∈ wsX2_readInto := List.mem_of_getElem? (i := 10) rfl
theorem kX2_readInto_11 : Cond.fieldLink RX2 37 "ParityRules$Pad" "set" "I" ∈ wsX2_readInto := List.mem_of_getElem? (i := 11) rfl
theorem kX2_readInto_20 : Cond.fieldLink RX2 50 "ParityRules$Pad" "choiceHere" "I" ∈ wsX2_readInto := List.mem_of_getElem? (i := 20) rfl
theorem kX2_readInto_32 : Cond.initialized RX3 ∈ wsX2_readInto := List.mem_of_getElem? (i := 32) rfl
theorem hX2_readInto_X3 : ∀ w ∈ wsX30, w ∈ wsX2_readInto := fun w h => List.mem_cons_of_mem _ (List.mem_append_left _ (List.mem_append_right _ h))
theorem hX2_readInto_X2 : ∀ w ∈ wsX20, w ∈ wsX2_readInto := fun w h => List.mem_cons_of_mem _ (List.mem_append_right _ h)
theorem kX3_hasPlace_1 : Cond.fieldLink RX3 22 "ParityRules$Row" "many" "I" ∈ wsX3_hasPlace := List.mem_of_getElem? (i := 1) rfl
theorem hX3_hasPlace_X3 : ∀ w ∈ wsX30, w ∈ wsX3_hasPlace := fun w h => List.mem_cons_of_mem _ (List.mem_append_right _ h)
theorem kX3_hasSet_1 : Cond.fieldLink RX3 9 "ParityRules$Row" "choices" "I" ∈ wsX3_hasSet := List.mem_of_getElem? (i := 1) rfl
theorem hX3_hasSet_X3 : ∀ w ∈ wsX30, w ∈ wsX3_hasSet := fun w h => List.mem_cons_of_mem _ (List.mem_append_right _ h)
theorem kX3_setsStayBelow_1 : Cond.fieldLink RX3 22 "ParityRules$Row" "many" "I" ∈ wsX3_setsStayBelow := List.mem_of_getElem? (i := 1) rfl
theorem kX3_setsStayBelow_2 : Cond.fieldLink RX3 15 "ParityRules$Row" "sets" "[I" ∈ wsX3_setsStayBelow := List.mem_of_getElem? (i := 2) rfl
theorem hX3_setsStayBelow_X3 : ∀ w ∈ wsX30, w ∈ wsX3_setsStayBelow := fun w h => List.mem_cons_of_mem _ (List.mem_append_right _ h)
theorem kX3_rulesWith_1 : Cond.fieldLink RX3 22 "ParityRules$Row" "many" "I" ∈ wsX3_rulesWith := List.mem_of_getElem? (i := 1) rfl
theorem kX3_rulesWith_2 : Cond.fieldLink RX3 15 "ParityRules$Row" "sets" "[I" ∈ wsX3_rulesWith := List.mem_of_getElem? (i := 2) rfl
theorem hX3_rulesWith_X3 : ∀ w ∈ wsX30, w ∈ wsX3_rulesWith := fun w h => List.mem_cons_of_mem _ (List.mem_append_right _ h)
theorem kX3_carryRule_1 : Cond.fieldLink RX3 15 "ParityRules$Row" "sets" "[I" ∈ wsX3_carryRule := List.mem_of_getElem? (i := 1) rfl
theorem kX3_carryRule_2 : Cond.fieldLink RX3 19 "ParityRules$Row" "sums" "[I" ∈ wsX3_carryRule := List.mem_of_getElem? (i := 2) rfl
theorem kX3_carryRule_3 : Cond.static yX5_carry ∈ wsX3_carryRule := List.mem_of_getElem? (i := 3) rfl
theorem kX3_carryRule_4 : Cond.initialized RX5 ∈ wsX3_carryRule := List.mem_of_getElem? (i := 4) rfl
theorem hX3_carryRule_X3 : ∀ w ∈ wsX30, w ∈ wsX3_carryRule := fun w h => List.mem_cons_of_mem _ (List.mem_append_right _ h)
theorem kX3_takeOut_1 : Cond.fieldLink RX3 22 "ParityRules$Row" "many" "I" ∈ wsX3_takeOut := List.mem_of_getElem? (i := 1) rfl
theorem kX3_takeOut_5 : Cond.initialized RX3 ∈ wsX3_takeOut := List.mem_of_getElem? (i := 5) rfl
theorem kX3_takeOut_7 : Cond.fieldLink RX3 15 "ParityRules$Row" "sets" "[I" ∈ wsX3_takeOut := List.mem_of_getElem? (i := 7) rfl
theorem kX3_takeOut_8 : Cond.fieldLink RX3 19 "ParityRules$Row" "sums" "[I" ∈ wsX3_takeOut := List.mem_of_getElem? (i := 8) rfl
theorem kX3_takeOut_9 : Cond.static yX5_carry ∈ wsX3_takeOut := List.mem_of_getElem? (i := 9) rfl
theorem kX3_takeOut_10 : Cond.initialized RX5 ∈ wsX3_takeOut := List.mem_of_getElem? (i := 10) rfl
theorem hX3_takeOut_X3 : ∀ w ∈ wsX30, w ∈ wsX3_takeOut := fun w h => List.mem_cons_of_mem _ (List.mem_append_right _ h)
theorem kX4_init_1 : Cond.methodLink RX4 3 objectInit ∈ wsX4_init := List.mem_of_getElem? (i := 1) rfl
theorem kX4_init_2 : Cond.instanceMethod objectInit ∈ wsX4_init := List.mem_of_getElem? (i := 2) rfl
theorem kX4_init_4 : Cond.arrayClass .int ∈ wsX4_init := List.mem_of_getElem? (i := 4) rfl
theorem kX4_init_5 : Cond.fieldLink RX4 9 "ParityRules$Verdict" "states" "[I" ∈ wsX4_init := List.mem_of_getElem? (i := 5) rfl
theorem kX4_init_6 : Cond.fieldLink RX4 15 "ParityRules$Verdict" "reasons" "[I" ∈ wsX4_init := List.mem_of_getElem? (i := 6) rfl
theorem kX4_init_7 : Cond.fieldLink RX4 18 "ParityRules$Verdict" "tally" "[I" ∈ wsX4_init := List.mem_of_getElem? (i := 7) rfl
theorem kX4_init_8 : Cond.fieldLink RX4 21 "ParityRules$Verdict" "stepSets" "[I" ∈ wsX4_init := List.mem_of_getElem? (i := 8) rfl
theorem kX4_init_9 : Cond.fieldLink RX4 24 "ParityRules$Verdict" "stepSums" "[I" ∈ wsX4_init := List.mem_of_getElem? (i := 9) rfl
theorem kX4_init_10 : Cond.fieldLink RX4 27 "ParityRules$Verdict" "stepReasons" "[I" ∈ wsX4_init := List.mem_of_getElem? (i := 10) rfl
theorem kX4_init_11 : Cond.fieldLink RX4 30 "ParityRules$Verdict" "exchanges" "[I" ∈ wsX4_init := List.mem_of_getElem? (i := 11) rfl
theorem hX4_init_X4 : ∀ w ∈ wsX40, w ∈ wsX4_init := fun w h => List.mem_cons_of_mem _ (List.mem_append_right _ h)
theorem kX4_combine_1 : Cond.fieldLink RX4 58 "ParityRules$Verdict" "restSet" "I" ∈ wsX4_combine := List.mem_of_getElem? (i := 1) rfl
theorem kX4_combine_2 : Cond.fieldLink RX4 65 "ParityRules$Verdict" "restSum" "I" ∈ wsX4_combine := List.mem_of_getElem? (i := 2) rfl
theorem kX4_combine_3 : Cond.fieldLink RX4 68 "ParityRules$Verdict" "restReason" "I" ∈ wsX4_combine := List.mem_of_getElem? (i := 3) rfl
theorem kX4_combine_4 : Cond.fieldLink RX4 21 "ParityRules$Verdict" "stepSets" "[I" ∈ wsX4_combine := List.mem_of_getElem? (i := 4) rfl
theorem kX4_combine_5 : Cond.fieldLink RX4 24 "ParityRules$Verdict" "stepSums" "[I" ∈ wsX4_combine := List.mem_of_getElem? (i := 5) rfl
theorem kX4_combine_6 : Cond.fieldLink RX4 27 "ParityRules$Verdict" "stepReasons" "[I" ∈ wsX4_combine := List.mem_of_getElem? (i := 6) rfl
theorem hX4_combine_X4 : ∀ w ∈ wsX40, w ∈ wsX4_combine := fun w h => List.mem_cons_of_mem _ (List.mem_append_right _ h)
theorem kX4_stateOf_1 : Cond.fieldLink RX4 58 "ParityRules$Verdict" "restSet" "I" ∈ wsX4_stateOf := List.mem_of_getElem? (i := 1) rfl
theorem kX4_stateOf_2 : Cond.fieldLink RX4 65 "ParityRules$Verdict" "restSum" "I" ∈ wsX4_stateOf := List.mem_of_getElem? (i := 2) rfl
theorem kX4_stateOf_6 : Cond.initialized RX4 ∈ wsX4_stateOf := List.mem_of_getElem? (i := 6) rfl
theorem kX4_stateOf_8 : Cond.fieldLink RX4 68 "ParityRules$Verdict" "restReason" "I" ∈ wsX4_stateOf := List.mem_of_getElem? (i := 8) rfl
theorem kX4_stateOf_9 : Cond.fieldLink RX4 21 "ParityRules$Verdict" "stepSets" "[I" ∈ wsX4_stateOf := List.mem_of_getElem? (i := 9) rfl
theorem kX4_stateOf_10 : Cond.fieldLink RX4 24 "ParityRules$Verdict" "stepSums" "[I" ∈ wsX4_stateOf := List.mem_of_getElem? (i := 10) rfl
theorem kX4_stateOf_11 : Cond.fieldLink RX4 27 "ParityRules$Verdict" "stepReasons" "[I" ∈ wsX4_stateOf := List.mem_of_getElem? (i := 11) rfl
theorem hX4_stateOf_X4 : ∀ w ∈ wsX40, w ∈ wsX4_stateOf := fun w h => List.mem_cons_of_mem _ (List.mem_append_right _ h)
theorem kX4_judgeNext_1 : Cond.fieldLink RX4 58 "ParityRules$Verdict" "restSet" "I" ∈ wsX4_judgeNext := List.mem_of_getElem? (i := 1) rfl
theorem kX4_judgeNext_2 : Cond.fieldLink RX4 21 "ParityRules$Verdict" "stepSets" "[I" ∈ wsX4_judgeNext := List.mem_of_getElem? (i := 2) rfl
theorem kX4_judgeNext_3 : Cond.fieldLink RX4 24 "ParityRules$Verdict" "stepSums" "[I" ∈ wsX4_judgeNext := List.mem_of_getElem? (i := 3) rfl
theorem kX4_judgeNext_4 : Cond.fieldLink RX4 65 "ParityRules$Verdict" "restSum" "I" ∈ wsX4_judgeNext := List.mem_of_getElem? (i := 4) rfl
theorem kX4_judgeNext_5 : Cond.fieldLink RX4 27 "ParityRules$Verdict" "stepReasons" "[I" ∈ wsX4_judgeNext := List.mem_of_getElem? (i := 5) rfl
theorem kX4_judgeNext_6 : Cond.fieldLink RX4 68 "ParityRules$Verdict" "restReason" "I" ∈ wsX4_judgeNext := List.mem_of_getElem? (i := 6) rfl
theorem kX4_judgeNext_7 : Cond.fieldLink RX4 40 "ParityRules$Verdict" "many" "I" ∈ wsX4_judgeNext := List.mem_of_getElem? (i := 7) rfl
theorem kX4_judgeNext_8 : Cond.fieldLink RX4 9 "ParityRules$Verdict" "states" "[I" ∈ wsX4_judgeNext := List.mem_of_getElem? (i := 8) rfl
theorem kX4_judgeNext_9 : Cond.fieldLink RX4 15 "ParityRules$Verdict" "reasons" "[I" ∈ wsX4_judgeNext := List.mem_of_getElem? (i := 9) rfl
theorem kX4_judgeNext_10 : Cond.fieldLink RX4 18 "ParityRules$Verdict" "tally" "[I" ∈ wsX4_judgeNext := List.mem_of_getElem? (i := 10) rfl
theorem kX4_judgeNext_14 : Cond.initialized RX4 ∈ wsX4_judgeNext := List.mem_of_getElem? (i := 14) rfl
theorem kX4_judgeNext_20 : Cond.static yX5_lowestBit ∈ wsX4_judgeNext := List.mem_of_getElem? (i := 20) rfl
theorem kX4_judgeNext_21 : Cond.initialized RX5 ∈ wsX4_judgeNext := List.mem_of_getElem? (i := 21) rfl
theorem kX4_judgeNext_24 : Cond.static yJ6_bitCount_0f7a4 ∈ wsX4_judgeNext := List.mem_of_getElem? (i := 24) rfl
theorem kX4_judgeNext_25 : Cond.initialized RJ6 ∈ wsX4_judgeNext := List.mem_of_getElem? (i := 25) rfl
theorem hX4_judgeNext_X4 : ∀ w ∈ wsX40, w ∈ wsX4_judgeNext := fun w h => List.mem_cons_of_mem _ (List.mem_append_right _ h)
theorem kX4_judge_1 : Cond.fieldLink RX4 33 "ParityRules$Row" "choices" "I" ∈ wsX4_judge := List.mem_of_getElem? (i := 1) rfl
theorem kX4_judge_2 : Cond.fieldLink RX4 39 "ParityRules$Verdict" "choices" "I" ∈ wsX4_judge := List.mem_of_getElem? (i := 2) rfl
theorem kX4_judge_3 : Cond.fieldLink RX4 40 "ParityRules$Verdict" "many" "I" ∈ wsX4_judge := List.mem_of_getElem? (i := 3) rfl
theorem kX4_judge_4 : Cond.fieldLink RX4 18 "ParityRules$Verdict" "tally" "[I" ∈ wsX4_judge := List.mem_of_getElem? (i := 4) rfl
theorem kX4_judge_5 : Cond.fieldLink RX4 21 "ParityRules$Verdict" "stepSets" "[I" ∈ wsX4_judge := List.mem_of_getElem? (i := 5) rfl
theorem kX4_judge_6 : Cond.fieldLink RX4 43 "ParityRules$Row" "many" "I" ∈ wsX4_judge := List.mem_of_getElem? (i := 6) rfl
theorem kX4_judge_7 : Cond.fieldLink RX4 44 "ParityRules$Row" "sets" "[I" ∈ wsX4_judge := List.mem_of_getElem? (i := 7) rfl
theorem kX4_judge_8 : Cond.fieldLink RX4 47 "ParityRules$Row" "sums" "[I" ∈ wsX4_judge := List.mem_of_getElem? (i := 8) rfl
theorem kX4_judge_12 : Cond.initialized RX4 ∈ wsX4_judge := List.mem_of_getElem? (i := 12) rfl
theorem kX4_judge_14 : Cond.fieldLink RX4 58 "ParityRules$Verdict" "restSet" "I" ∈ wsX4_judge := List.mem_of_getElem? (i := 14) rfl
theorem kX4_judge_15 : Cond.fieldLink RX4 24 "ParityRules$Verdict" "stepSums" "[I" ∈ wsX4_judge := List.mem_of_getElem? (i := 15) rfl
theorem kX4_judge_16 : Cond.fieldLink RX4 65 "ParityRules$Verdict" "restSum" "I" ∈ wsX4_judge := List.mem_of_getElem? (i := 16) rfl
theorem kX4_judge_17 : Cond.fieldLink RX4 27 "ParityRules$Verdict" "stepReasons" "[I" ∈ wsX4_judge := List.mem_of_getElem? (i := 17) rfl
theorem kX4_judge_18 : Cond.fieldLink RX4 68 "ParityRules$Verdict" "restReason" "I" ∈ wsX4_judge := List.mem_of_getElem? (i := 18) rfl
theorem kX4_judge_19 : Cond.fieldLink RX4 9 "ParityRules$Verdict" "states" "[I" ∈ wsX4_judge := List.mem_of_getElem? (i := 19) rfl
theorem kX4_judge_20 : Cond.fieldLink RX4 15 "ParityRules$Verdict" "reasons" "[I" ∈ wsX4_judge := List.mem_of_getElem? (i := 20) rfl
theorem kX4_judge_29 : Cond.static yX5_lowestBit ∈ wsX4_judge := List.mem_of_getElem? (i := 29) rfl
theorem kX4_judge_30 : Cond.initialized RX5 ∈ wsX4_judge := List.mem_of_getElem? (i := 30) rfl
theorem kX4_judge_33 : Cond.static yJ6_bitCount_0f7a4 ∈ wsX4_judge := List.mem_of_getElem? (i := 33) rfl
theorem kX4_judge_34 : Cond.initialized RJ6 ∈ wsX4_judge := List.mem_of_getElem? (i := 34) rfl
theorem hX4_judge_X3 : ∀ w ∈ wsX30, w ∈ wsX4_judge := fun w h => List.mem_cons_of_mem _ (List.mem_append_left _ (List.mem_append_right _ h))
theorem hX4_judge_X4 : ∀ w ∈ wsX40, w ∈ wsX4_judge := fun w h => List.mem_cons_of_mem _ (List.mem_append_right _ h)
theorem kX4_sumOf_1 : Cond.fieldLink RX4 58 "ParityRules$Verdict" "restSet" "I" ∈ wsX4_sumOf := List.mem_of_getElem? (i := 1) rfl
theorem kX4_sumOf_2 : Cond.fieldLink RX4 65 "ParityRules$Verdict" "restSum" "I" ∈ wsX4_sumOf := List.mem_of_getElem? (i := 2) rfl
theorem kX4_sumOf_6 : Cond.initialized RX4 ∈ wsX4_sumOf := List.mem_of_getElem? (i := 6) rfl
theorem kX4_sumOf_8 : Cond.fieldLink RX4 68 "ParityRules$Verdict" "restReason" "I" ∈ wsX4_sumOf := List.mem_of_getElem? (i := 8) rfl
theorem kX4_sumOf_9 : Cond.fieldLink RX4 21 "ParityRules$Verdict" "stepSets" "[I" ∈ wsX4_sumOf := List.mem_of_getElem? (i := 9) rfl
theorem kX4_sumOf_10 : Cond.fieldLink RX4 24 "ParityRules$Verdict" "stepSums" "[I" ∈ wsX4_sumOf := List.mem_of_getElem? (i := 10) rfl
theorem kX4_sumOf_11 : Cond.fieldLink RX4 27 "ParityRules$Verdict" "stepReasons" "[I" ∈ wsX4_sumOf := List.mem_of_getElem? (i := 11) rfl
theorem hX4_sumOf_X4 : ∀ w ∈ wsX40, w ∈ wsX4_sumOf := fun w h => List.mem_cons_of_mem _ (List.mem_append_right _ h)
theorem kX4_reasonsWith_1 : Cond.fieldLink RX4 40 "ParityRules$Verdict" "many" "I" ∈ wsX4_reasonsWith := List.mem_of_getElem? (i := 1) rfl
theorem kX4_reasonsWith_2 : Cond.fieldLink RX4 15 "ParityRules$Verdict" "reasons" "[I" ∈ wsX4_reasonsWith := List.mem_of_getElem? (i := 2) rfl
theorem hX4_reasonsWith_X4 : ∀ w ∈ wsX40, w ∈ wsX4_reasonsWith := fun w h => List.mem_cons_of_mem _ (List.mem_append_right _ h)
theorem kX4_settled_1 : Cond.fieldLink RX4 39 "ParityRules$Verdict" "choices" "I" ∈ wsX4_settled := List.mem_of_getElem? (i := 1) rfl
theorem kX4_settled_5 : Cond.initialized RX4 ∈ wsX4_settled := List.mem_of_getElem? (i := 5) rfl
theorem kX4_settled_7 : Cond.fieldLink RX4 58 "ParityRules$Verdict" "restSet" "I" ∈ wsX4_settled := List.mem_of_getElem? (i := 7) rfl
theorem kX4_settled_8 : Cond.fieldLink RX4 65 "ParityRules$Verdict" "restSum" "I" ∈ wsX4_settled := List.mem_of_getElem? (i := 8) rfl
theorem kX4_settled_13 : Cond.fieldLink RX4 68 "ParityRules$Verdict" "restReason" "I" ∈ wsX4_settled := List.mem_of_getElem? (i := 13) rfl
theorem kX4_settled_14 : Cond.fieldLink RX4 21 "ParityRules$Verdict" "stepSets" "[I" ∈ wsX4_settled := List.mem_of_getElem? (i := 14) rfl
theorem kX4_settled_15 : Cond.fieldLink RX4 24 "ParityRules$Verdict" "stepSums" "[I" ∈ wsX4_settled := List.mem_of_getElem? (i := 15) rfl
theorem kX4_settled_16 : Cond.fieldLink RX4 27 "ParityRules$Verdict" "stepReasons" "[I" ∈ wsX4_settled := List.mem_of_getElem? (i := 16) rfl
theorem hX4_settled_X4 : ∀ w ∈ wsX40, w ∈ wsX4_settled := fun w h => List.mem_cons_of_mem _ (List.mem_append_right _ h)
theorem kX4_boundTo_1 : Cond.fieldLink RX4 39 "ParityRules$Verdict" "choices" "I" ∈ wsX4_boundTo := List.mem_of_getElem? (i := 1) rfl
theorem kX4_boundTo_5 : Cond.initialized RX4 ∈ wsX4_boundTo := List.mem_of_getElem? (i := 5) rfl
theorem kX4_boundTo_7 : Cond.fieldLink RX4 58 "ParityRules$Verdict" "restSet" "I" ∈ wsX4_boundTo := List.mem_of_getElem? (i := 7) rfl
theorem kX4_boundTo_8 : Cond.fieldLink RX4 65 "ParityRules$Verdict" "restSum" "I" ∈ wsX4_boundTo := List.mem_of_getElem? (i := 8) rfl
theorem kX4_boundTo_13 : Cond.fieldLink RX4 68 "ParityRules$Verdict" "restReason" "I" ∈ wsX4_boundTo := List.mem_of_getElem? (i := 13) rfl
theorem kX4_boundTo_14 : Cond.fieldLink RX4 21 "ParityRules$Verdict" "stepSets" "[I" ∈ wsX4_boundTo := List.mem_of_getElem? (i := 14) rfl
theorem kX4_boundTo_15 : Cond.fieldLink RX4 24 "ParityRules$Verdict" "stepSums" "[I" ∈ wsX4_boundTo := List.mem_of_getElem? (i := 15) rfl
theorem kX4_boundTo_16 : Cond.fieldLink RX4 27 "ParityRules$Verdict" "stepReasons" "[I" ∈ wsX4_boundTo := List.mem_of_getElem? (i := 16) rfl
theorem hX4_boundTo_X4 : ∀ w ∈ wsX40, w ∈ wsX4_boundTo := fun w h => List.mem_cons_of_mem _ (List.mem_append_right _ h)
theorem kX4_answers_1 : Cond.fieldLink RX4 39 "ParityRules$Verdict" "choices" "I" ∈ wsX4_answers := List.mem_of_getElem? (i := 1) rfl
theorem kX4_answers_2 : Cond.fieldLink RX4 18 "ParityRules$Verdict" "tally" "[I" ∈ wsX4_answers := List.mem_of_getElem? (i := 2) rfl
theorem hX4_answers_X4 : ∀ w ∈ wsX40, w ∈ wsX4_answers := fun w h => List.mem_cons_of_mem _ (List.mem_append_right _ h)
theorem kX4_answerAt_1 : Cond.fieldLink RX4 39 "ParityRules$Verdict" "choices" "I" ∈ wsX4_answerAt := List.mem_of_getElem? (i := 1) rfl
theorem kX4_answerAt_2 : Cond.fieldLink RX4 18 "ParityRules$Verdict" "tally" "[I" ∈ wsX4_answerAt := List.mem_of_getElem? (i := 2) rfl
theorem kX4_answerAt_3 : Cond.fieldLink RX4 21 "ParityRules$Verdict" "stepSets" "[I" ∈ wsX4_answerAt := List.mem_of_getElem? (i := 3) rfl
theorem kX4_answerAt_4 : Cond.fieldLink RX4 24 "ParityRules$Verdict" "stepSums" "[I" ∈ wsX4_answerAt := List.mem_of_getElem? (i := 4) rfl
theorem kX4_answerAt_5 : Cond.static yX5_parity ∈ wsX4_answerAt := List.mem_of_getElem? (i := 5) rfl
theorem kX4_answerAt_6 : Cond.initialized RX5 ∈ wsX4_answerAt := List.mem_of_getElem? (i := 6) rfl
theorem kX4_answerAt_9 : Cond.static yJ6_bitCount_0f7a4 ∈ wsX4_answerAt := List.mem_of_getElem? (i := 9) rfl
theorem kX4_answerAt_10 : Cond.initialized RJ6 ∈ wsX4_answerAt := List.mem_of_getElem? (i := 10) rfl
theorem hX4_answerAt_X4 : ∀ w ∈ wsX40, w ∈ wsX4_answerAt := fun w h => List.mem_cons_of_mem _ (List.mem_append_right _ h)
theorem kX4_fillExchanges_1 : Cond.fieldLink RX4 39 "ParityRules$Verdict" "choices" "I" ∈ wsX4_fillExchanges := List.mem_of_getElem? (i := 1) rfl
theorem kX4_fillExchanges_2 : Cond.fieldLink RX4 18 "ParityRules$Verdict" "tally" "[I" ∈ wsX4_fillExchanges := List.mem_of_getElem? (i := 2) rfl
theorem kX4_fillExchanges_3 : Cond.fieldLink RX4 30 "ParityRules$Verdict" "exchanges" "[I" ∈ wsX4_fillExchanges := List.mem_of_getElem? (i := 3) rfl
theorem kX4_fillExchanges_7 : Cond.initialized RX4 ∈ wsX4_fillExchanges := List.mem_of_getElem? (i := 7) rfl
theorem kX4_fillExchanges_9 : Cond.fieldLink RX4 21 "ParityRules$Verdict" "stepSets" "[I" ∈ wsX4_fillExchanges := List.mem_of_getElem? (i := 9) rfl
theorem kX4_fillExchanges_10 : Cond.fieldLink RX4 24 "ParityRules$Verdict" "stepSums" "[I" ∈ wsX4_fillExchanges := List.mem_of_getElem? (i := 10) rfl
theorem kX4_fillExchanges_11 : Cond.static yX5_parity ∈ wsX4_fillExchanges := List.mem_of_getElem? (i := 11) rfl
theorem kX4_fillExchanges_12 : Cond.initialized RX5 ∈ wsX4_fillExchanges := List.mem_of_getElem? (i := 12) rfl
theorem kX4_fillExchanges_15 : Cond.static yJ6_bitCount_0f7a4 ∈ wsX4_fillExchanges := List.mem_of_getElem? (i := 15) rfl
theorem kX4_fillExchanges_16 : Cond.initialized RJ6 ∈ wsX4_fillExchanges := List.mem_of_getElem? (i := 16) rfl
theorem hX4_fillExchanges_X4 : ∀ w ∈ wsX40, w ∈ wsX4_fillExchanges := fun w h => List.mem_cons_of_mem _ (List.mem_append_right _ h)
theorem kX4_nearestTo_1 : Cond.fieldLink RX4 30 "ParityRules$Verdict" "exchanges" "[I" ∈ wsX4_nearestTo := List.mem_of_getElem? (i := 1) rfl
theorem kX4_nearestTo_5 : Cond.initialized RX4 ∈ wsX4_nearestTo := List.mem_of_getElem? (i := 5) rfl
theorem kX4_nearestTo_7 : Cond.fieldLink RX4 39 "ParityRules$Verdict" "choices" "I" ∈ wsX4_nearestTo := List.mem_of_getElem? (i := 7) rfl
theorem kX4_nearestTo_8 : Cond.fieldLink RX4 18 "ParityRules$Verdict" "tally" "[I" ∈ wsX4_nearestTo := List.mem_of_getElem? (i := 8) rfl
theorem kX4_nearestTo_13 : Cond.fieldLink RX4 21 "ParityRules$Verdict" "stepSets" "[I" ∈ wsX4_nearestTo := List.mem_of_getElem? (i := 13) rfl
theorem kX4_nearestTo_14 : Cond.fieldLink RX4 24 "ParityRules$Verdict" "stepSums" "[I" ∈ wsX4_nearestTo := List.mem_of_getElem? (i := 14) rfl
theorem kX4_nearestTo_15 : Cond.static yX5_parity ∈ wsX4_nearestTo := List.mem_of_getElem? (i := 15) rfl
theorem kX4_nearestTo_16 : Cond.initialized RX5 ∈ wsX4_nearestTo := List.mem_of_getElem? (i := 16) rfl
theorem kX4_nearestTo_19 : Cond.static yJ6_bitCount_0f7a4 ∈ wsX4_nearestTo := List.mem_of_getElem? (i := 19) rfl
theorem kX4_nearestTo_20 : Cond.initialized RJ6 ∈ wsX4_nearestTo := List.mem_of_getElem? (i := 20) rfl
theorem kX4_nearestTo_30 : Cond.static yX5_lowestBit ∈ wsX4_nearestTo := List.mem_of_getElem? (i := 30) rfl
theorem hX4_nearestTo_X4 : ∀ w ∈ wsX40, w ∈ wsX4_nearestTo := fun w h => List.mem_cons_of_mem _ (List.mem_append_right _ h)
theorem kX5_init_1 : Cond.methodLink RX5 1 objectInit ∈ wsX5_init := List.mem_of_getElem? (i := 1) rfl
theorem kX5_init_2 : Cond.instanceMethod objectInit ∈ wsX5_init := List.mem_of_getElem? (i := 2) rfl
theorem kX5_init_4 : Cond.classLink RX5 7 RX3 ∈ wsX5_init := List.mem_of_getElem? (i := 4) rfl
theorem kX5_init_5 : Cond.instantiable RX3 4 ∈ wsX5_init := List.mem_of_getElem? (i := 5) rfl
theorem kX5_init_6 : Cond.initialized RX3 ∈ wsX5_init := List.mem_of_getElem? (i := 6) rfl
theorem kX5_init_7 : Cond.fieldLink RX5 10 "ParityRules" "now" "LParityRules$Row;" ∈ wsX5_init := List.mem_of_getElem? (i := 7) rfl
theorem kX5_init_8 : Cond.classLink RX5 16 RX4 ∈ wsX5_init := List.mem_of_getElem? (i := 8) rfl
theorem kX5_init_9 : Cond.instantiable RX4 12 ∈ wsX5_init := List.mem_of_getElem? (i := 9) rfl
theorem kX5_init_10 : Cond.initialized RX4 ∈ wsX5_init := List.mem_of_getElem? (i := 10) rfl
theorem kX5_init_11 : Cond.fieldLink RX5 19 "ParityRules" "verdict" "LParityRules$Verdict;" ∈ wsX5_init := List.mem_of_getElem? (i := 11) rfl
theorem kX5_init_12 : Cond.fieldLink RX5 23 "ParityRules" "trialRow" "LParityRules$Row;" ∈ wsX5_init := List.mem_of_getElem? (i := 12) rfl
theorem kX5_init_13 : Cond.fieldLink RX5 26 "ParityRules" "trialVerdict" "LParityRules$Verdict;" ∈ wsX5_init := List.mem_of_getElem? (i := 13) rfl
theorem kX5_init_14 : Cond.arrayClass .int ∈ wsX5_init := List.mem_of_getElem? (i := 14) rfl
theorem kX5_init_15 : Cond.fieldLink RX5 29 "ParityRules" "statesBefore" "[I" ∈ wsX5_init := List.mem_of_getElem? (i := 15) rfl
theorem kX5_init_16 : Cond.classLink RX5 33 RX0 ∈ wsX5_init := List.mem_of_getElem? (i := 16) rfl
theorem kX5_init_17 : Cond.instantiable RX0 4 ∈ wsX5_init := List.mem_of_getElem? (i := 17) rfl
theorem kX5_init_18 : Cond.initialized RX0 ∈ wsX5_init := List.mem_of_getElem? (i := 18) rfl
theorem kX5_init_19 : Cond.fieldLink RX5 36 "ParityRules" "bestAnswer" "LParityRules$BestAnswer;" ∈ wsX5_init := List.mem_of_getElem? (i := 19) rfl
theorem kX5_init_20 : Cond.classLink RX5 40 RX2 ∈ wsX5_init := List.mem_of_getElem? (i := 20) rfl
theorem kX5_init_21 : Cond.instantiable RX2 6 ∈ wsX5_init := List.mem_of_getElem? (i := 21) rfl
theorem kX5_init_22 : Cond.initialized RX2 ∈ wsX5_init := List.mem_of_getElem? (i := 22) rfl
theorem kX5_init_23 : Cond.fieldLink RX5 43 "ParityRules" "pad" "LParityRules$Pad;" ∈ wsX5_init := List.mem_of_getElem? (i := 23) rfl
theorem kX5_init_24 : Cond.fieldLink RX5 47 "ParityRules" "padRules" "LParityRules$Row;" ∈ wsX5_init := List.mem_of_getElem? (i := 24) rfl
theorem kX5_init_25 : Cond.classLink RX5 50 RX1 ∈ wsX5_init := List.mem_of_getElem? (i := 25) rfl
theorem kX5_init_26 : Cond.instantiable RX1 2 ∈ wsX5_init := List.mem_of_getElem? (i := 26) rfl
theorem kX5_init_27 : Cond.initialized RX1 ∈ wsX5_init := List.mem_of_getElem? (i := 27) rfl
theorem kX5_init_28 : Cond.fieldLink RX5 53 "ParityRules" "history" "LParityRules$History;" ∈ wsX5_init := List.mem_of_getElem? (i := 28) rfl
theorem kX5_init_29 : Cond.fieldLink RX5 57 "ParityRules" "slots" "[LParityRules$Row;" ∈ wsX5_init := List.mem_of_getElem? (i := 29) rfl
theorem kX5_init_30 : Cond.arrayClass .boolean ∈ wsX5_init := List.mem_of_getElem? (i := 30) rfl
theorem kX5_init_31 : Cond.fieldLink RX5 61 "ParityRules" "saved" "[Z" ∈ wsX5_init := List.mem_of_getElem? (i := 31) rfl
theorem kX5_init_32 : Cond.instanceMethod yX3_init ∈ wsX5_init := List.mem_of_getElem? (i := 32) rfl
theorem kX5_init_38 : Cond.instanceMethod yX4_init ∈ wsX5_init := List.mem_of_getElem? (i := 38) rfl
theorem kX5_init_48 : Cond.instanceMethod yX0_init ∈ wsX5_init := List.mem_of_getElem? (i := 48) rfl
theorem kX5_init_52 : Cond.instanceMethod yX2_init ∈ wsX5_init := List.mem_of_getElem? (i := 52) rfl
theorem kX5_init_55 : Cond.arrayClass .char ∈ wsX5_init := List.mem_of_getElem? (i := 55) rfl
theorem kX5_init_58 : Cond.instanceMethod yX1_init ∈ wsX5_init := List.mem_of_getElem? (i := 58) rfl
theorem kX5_init_88 : Cond.static yX5_lowestBit ∈ wsX5_init := List.mem_of_getElem? (i := 88) rfl
theorem kX5_init_89 : Cond.initialized RX5 ∈ wsX5_init := List.mem_of_getElem? (i := 89) rfl
theorem kX5_init_92 : Cond.static yJ6_bitCount_0f7a4 ∈ wsX5_init := List.mem_of_getElem? (i := 92) rfl
theorem kX5_init_93 : Cond.initialized RJ6 ∈ wsX5_init := List.mem_of_getElem? (i := 93) rfl
theorem hX5_init_X3 : ∀ w ∈ wsX30, w ∈ wsX5_init := fun w h => List.mem_cons_of_mem _ (List.mem_append_left _ (List.mem_append_left _ (List.mem_append_left _ (List.mem_append_left _ (List.mem_append_left _ (List.mem_append_right _ h))))))
theorem hX5_init_X5 : ∀ w ∈ wsX50, w ∈ wsX5_init := fun w h => List.mem_cons_of_mem _ (List.mem_append_left _ (List.mem_append_left _ (List.mem_append_left _ (List.mem_append_left _ (List.mem_append_right _ h)))))
theorem hX5_init_X4 : ∀ w ∈ wsX40, w ∈ wsX5_init := fun w h => List.mem_cons_of_mem _ (List.mem_append_left _ (List.mem_append_left _ (List.mem_append_left _ (List.mem_append_right _ h))))
theorem hX5_init_X0 : ∀ w ∈ wsX00, w ∈ wsX5_init := fun w h => List.mem_cons_of_mem _ (List.mem_append_left _ (List.mem_append_left _ (List.mem_append_right _ h)))
theorem hX5_init_X2 : ∀ w ∈ wsX20, w ∈ wsX5_init := fun w h => List.mem_cons_of_mem _ (List.mem_append_left _ (List.mem_append_right _ h))
theorem hX5_init_X1 : ∀ w ∈ wsX10, w ∈ wsX5_init := fun w h => List.mem_cons_of_mem _ (List.mem_append_right _ h)
theorem kX5_choices_1 : Cond.fieldLink RX5 10 "ParityRules" "now" "LParityRules$Row;" ∈ wsX5_choices := List.mem_of_getElem? (i := 1) rfl
theorem kX5_choices_2 : Cond.fieldLink RX5 73 "ParityRules$Row" "choices" "I" ∈ wsX5_choices := List.mem_of_getElem? (i := 2) rfl
theorem kX5_choices_3 : Cond.fieldLink RX5 53 "ParityRules" "history" "LParityRules$History;" ∈ wsX5_choices := List.mem_of_getElem? (i := 3) rfl
theorem kX5_choices_4 : Cond.fieldLink RX5 19 "ParityRules" "verdict" "LParityRules$Verdict;" ∈ wsX5_choices := List.mem_of_getElem? (i := 4) rfl
theorem kX5_choices_8 : Cond.initialized RX3 ∈ wsX5_choices := List.mem_of_getElem? (i := 8) rfl
theorem kX5_choices_15 : Cond.initialized RX1 ∈ wsX5_choices := List.mem_of_getElem? (i := 15) rfl
theorem kX5_choices_29 : Cond.native arraycopyName ∈ wsX5_choices := List.mem_of_getElem? (i := 29) rfl
theorem kX5_choices_30 : Cond.static arraycopyName ∈ wsX5_choices := List.mem_of_getElem? (i := 30) rfl
theorem kX5_choices_31 : Cond.initialized "java/lang/System" ∈ wsX5_choices := List.mem_of_getElem? (i := 31) rfl
theorem kX5_choices_36 : Cond.initialized RX4 ∈ wsX5_choices := List.mem_of_getElem? (i := 36) rfl
theorem kX5_choices_65 : Cond.static yX5_lowestBit ∈ wsX5_choices := List.mem_of_getElem? (i := 65) rfl
theorem kX5_choices_66 : Cond.initialized RX5 ∈ wsX5_choices := List.mem_of_getElem? (i := 66) rfl
theorem kX5_choices_69 : Cond.static yJ6_bitCount_0f7a4 ∈ wsX5_choices := List.mem_of_getElem? (i := 69) rfl
theorem kX5_choices_70 : Cond.initialized RJ6 ∈ wsX5_choices := List.mem_of_getElem? (i := 70) rfl
theorem hX5_choices_X5 : ∀ w ∈ wsX50, w ∈ wsX5_choices := fun w h => List.mem_cons_of_mem _ (List.mem_append_left _ (List.mem_append_left _ (List.mem_append_left _ (List.mem_append_right _ h))))
theorem hX5_choices_X3 : ∀ w ∈ wsX30, w ∈ wsX5_choices := fun w h => List.mem_cons_of_mem _ (List.mem_append_left _ (List.mem_append_left _ (List.mem_append_right _ h)))
theorem hX5_choices_X1 : ∀ w ∈ wsX10, w ∈ wsX5_choices := fun w h => List.mem_cons_of_mem _ (List.mem_append_left _ (List.mem_append_right _ h))
theorem hX5_choices_X4 : ∀ w ∈ wsX40, w ∈ wsX5_choices := fun w h => List.mem_cons_of_mem _ (List.mem_append_right _ h)
theorem kX5_isRule_1 : Cond.fieldLink RX5 10 "ParityRules" "now" "LParityRules$Row;" ∈ wsX5_isRule := List.mem_of_getElem? (i := 1) rfl
theorem kX5_isRule_5 : Cond.initialized RX3 ∈ wsX5_isRule := List.mem_of_getElem? (i := 5) rfl
theorem hX5_isRule_X5 : ∀ w ∈ wsX50, w ∈ wsX5_isRule := fun w h => List.mem_cons_of_mem _ (List.mem_append_left _ (List.mem_append_right _ h))
theorem hX5_isRule_X3 : ∀ w ∈ wsX30, w ∈ wsX5_isRule := fun w h => List.mem_cons_of_mem _ (List.mem_append_right _ h)
theorem kX5_tell_1 : Cond.fieldLink RX5 10 "ParityRules" "now" "LParityRules$Row;" ∈ wsX5_tell := List.mem_of_getElem? (i := 1) rfl
theorem kX5_tell_2 : Cond.fieldLink RX5 84 "ParityRules$Row" "many" "I" ∈ wsX5_tell := List.mem_of_getElem? (i := 2) rfl
theorem kX5_tell_3 : Cond.fieldLink RX5 53 "ParityRules" "history" "LParityRules$History;" ∈ wsX5_tell := List.mem_of_getElem? (i := 3) rfl
theorem kX5_tell_4 : Cond.fieldLink RX5 19 "ParityRules" "verdict" "LParityRules$Verdict;" ∈ wsX5_tell := List.mem_of_getElem? (i := 4) rfl
theorem kX5_tell_5 : Cond.fieldLink RX5 91 "ParityRules$Verdict" "states" "[I" ∈ wsX5_tell := List.mem_of_getElem? (i := 5) rfl
theorem kX5_tell_9 : Cond.initialized RX5 ∈ wsX5_tell := List.mem_of_getElem? (i := 9) rfl
theorem kX5_tell_14 : Cond.initialized RX3 ∈ wsX5_tell := List.mem_of_getElem? (i := 14) rfl
theorem kX5_tell_20 : Cond.initialized RX1 ∈ wsX5_tell := List.mem_of_getElem? (i := 20) rfl
theorem kX5_tell_35 : Cond.native arraycopyName ∈ wsX5_tell := List.mem_of_getElem? (i := 35) rfl
theorem kX5_tell_36 : Cond.static arraycopyName ∈ wsX5_tell := List.mem_of_getElem? (i := 36) rfl
theorem kX5_tell_37 : Cond.initialized "java/lang/System" ∈ wsX5_tell := List.mem_of_getElem? (i := 37) rfl
theorem kX5_tell_46 : Cond.initialized RX4 ∈ wsX5_tell := List.mem_of_getElem? (i := 46) rfl
theorem kX5_tell_75 : Cond.static yX5_lowestBit ∈ wsX5_tell := List.mem_of_getElem? (i := 75) rfl
theorem kX5_tell_78 : Cond.static yJ6_bitCount_0f7a4 ∈ wsX5_tell := List.mem_of_getElem? (i := 78) rfl
theorem kX5_tell_79 : Cond.initialized RJ6 ∈ wsX5_tell := List.mem_of_getElem? (i := 79) rfl
theorem hX5_tell_X5 : ∀ w ∈ wsX50, w ∈ wsX5_tell := fun w h => List.mem_cons_of_mem _ (List.mem_append_left _ (List.mem_append_left _ (List.mem_append_left _ (List.mem_append_right _ h))))
theorem hX5_tell_X3 : ∀ w ∈ wsX30, w ∈ wsX5_tell := fun w h => List.mem_cons_of_mem _ (List.mem_append_left _ (List.mem_append_left _ (List.mem_append_right _ h)))
theorem hX5_tell_X4 : ∀ w ∈ wsX40, w ∈ wsX5_tell := fun w h => List.mem_cons_of_mem _ (List.mem_append_left _ (List.mem_append_right _ h))
theorem hX5_tell_X1 : ∀ w ∈ wsX10, w ∈ wsX5_tell := fun w h => List.mem_cons_of_mem _ (List.mem_append_right _ h)
theorem kX5_drop_1 : Cond.fieldLink RX5 10 "ParityRules" "now" "LParityRules$Row;" ∈ wsX5_drop := List.mem_of_getElem? (i := 1) rfl
theorem kX5_drop_2 : Cond.fieldLink RX5 53 "ParityRules" "history" "LParityRules$History;" ∈ wsX5_drop := List.mem_of_getElem? (i := 2) rfl
theorem kX5_drop_3 : Cond.fieldLink RX5 19 "ParityRules" "verdict" "LParityRules$Verdict;" ∈ wsX5_drop := List.mem_of_getElem? (i := 3) rfl
theorem kX5_drop_4 : Cond.fieldLink RX5 84 "ParityRules$Row" "many" "I" ∈ wsX5_drop := List.mem_of_getElem? (i := 4) rfl
theorem kX5_drop_8 : Cond.initialized RX3 ∈ wsX5_drop := List.mem_of_getElem? (i := 8) rfl
theorem kX5_drop_14 : Cond.initialized RX1 ∈ wsX5_drop := List.mem_of_getElem? (i := 14) rfl
theorem kX5_drop_29 : Cond.native arraycopyName ∈ wsX5_drop := List.mem_of_getElem? (i := 29) rfl
theorem kX5_drop_30 : Cond.static arraycopyName ∈ wsX5_drop := List.mem_of_getElem? (i := 30) rfl
theorem kX5_drop_31 : Cond.initialized "java/lang/System" ∈ wsX5_drop := List.mem_of_getElem? (i := 31) rfl
theorem kX5_drop_41 : Cond.static yX5_carry ∈ wsX5_drop := List.mem_of_getElem? (i := 41) rfl
theorem kX5_drop_42 : Cond.initialized RX5 ∈ wsX5_drop := List.mem_of_getElem? (i := 42) rfl
theorem kX5_drop_47 : Cond.initialized RX4 ∈ wsX5_drop := List.mem_of_getElem? (i := 47) rfl
theorem kX5_drop_76 : Cond.static yX5_lowestBit ∈ wsX5_drop := List.mem_of_getElem? (i := 76) rfl
theorem kX5_drop_79 : Cond.static yJ6_bitCount_0f7a4 ∈ wsX5_drop := List.mem_of_getElem? (i := 79) rfl
theorem kX5_drop_80 : Cond.initialized RJ6 ∈ wsX5_drop := List.mem_of_getElem? (i := 80) rfl
theorem hX5_drop_X5 : ∀ w ∈ wsX50, w ∈ wsX5_drop := fun w h => List.mem_cons_of_mem _ (List.mem_append_left _ (List.mem_append_left _ (List.mem_append_left _ (List.mem_append_right _ h))))
theorem hX5_drop_X3 : ∀ w ∈ wsX30, w ∈ wsX5_drop := fun w h => List.mem_cons_of_mem _ (List.mem_append_left _ (List.mem_append_left _ (List.mem_append_right _ h)))
theorem hX5_drop_X1 : ∀ w ∈ wsX10, w ∈ wsX5_drop := fun w h => List.mem_cons_of_mem _ (List.mem_append_left _ (List.mem_append_right _ h))
theorem hX5_drop_X4 : ∀ w ∈ wsX40, w ∈ wsX5_drop := fun w h => List.mem_cons_of_mem _ (List.mem_append_right _ h)
theorem kX5_move_1 : Cond.fieldLink RX5 10 "ParityRules" "now" "LParityRules$Row;" ∈ wsX5_move := List.mem_of_getElem? (i := 1) rfl
theorem kX5_move_2 : Cond.fieldLink RX5 53 "ParityRules" "history" "LParityRules$History;" ∈ wsX5_move := List.mem_of_getElem? (i := 2) rfl
theorem kX5_move_3 : Cond.fieldLink RX5 19 "ParityRules" "verdict" "LParityRules$Verdict;" ∈ wsX5_move := List.mem_of_getElem? (i := 3) rfl
theorem kX5_move_4 : Cond.fieldLink RX5 91 "ParityRules$Verdict" "states" "[I" ∈ wsX5_move := List.mem_of_getElem? (i := 4) rfl
theorem kX5_move_5 : Cond.fieldLink RX5 29 "ParityRules" "statesBefore" "[I" ∈ wsX5_move := List.mem_of_getElem? (i := 5) rfl
theorem kX5_move_6 : Cond.methodLink RX5 101 arraycopyName ∈ wsX5_move := List.mem_of_getElem? (i := 6) rfl
theorem kX5_move_7 : Cond.native arraycopyName ∈ wsX5_move := List.mem_of_getElem? (i := 7) rfl
theorem kX5_move_8 : Cond.static arraycopyName ∈ wsX5_move := List.mem_of_getElem? (i := 8) rfl
theorem kX5_move_9 : Cond.initialized "java/lang/System" ∈ wsX5_move := List.mem_of_getElem? (i := 9) rfl
theorem kX5_move_10 : Cond.fieldLink RX5 84 "ParityRules$Row" "many" "I" ∈ wsX5_move := List.mem_of_getElem? (i := 10) rfl
theorem kX5_move_14 : Cond.initialized RX3 ∈ wsX5_move := List.mem_of_getElem? (i := 14) rfl
theorem kX5_move_20 : Cond.initialized RX1 ∈ wsX5_move := List.mem_of_getElem? (i := 20) rfl
theorem kX5_move_37 : Cond.static yX5_carry ∈ wsX5_move := List.mem_of_getElem? (i := 37) rfl
theorem kX5_move_38 : Cond.initialized RX5 ∈ wsX5_move := List.mem_of_getElem? (i := 38) rfl
theorem kX5_move_47 : Cond.initialized RX4 ∈ wsX5_move := List.mem_of_getElem? (i := 47) rfl
theorem kX5_move_76 : Cond.static yX5_lowestBit ∈ wsX5_move := List.mem_of_getElem? (i := 76) rfl
theorem kX5_move_79 : Cond.static yJ6_bitCount_0f7a4 ∈ wsX5_move := List.mem_of_getElem? (i := 79) rfl
theorem kX5_move_80 : Cond.initialized RJ6 ∈ wsX5_move := List.mem_of_getElem? (i := 80) rfl
theorem hX5_move_X5 : ∀ w ∈ wsX50, w ∈ wsX5_move := fun w h => List.mem_cons_of_mem _ (List.mem_append_left _ (List.mem_append_left _ (List.mem_append_left _ (List.mem_append_right _ h))))
theorem hX5_move_X4 : ∀ w ∈ wsX40, w ∈ wsX5_move := fun w h => List.mem_cons_of_mem _ (List.mem_append_left _ (List.mem_append_left _ (List.mem_append_right _ h)))
theorem hX5_move_X3 : ∀ w ∈ wsX30, w ∈ wsX5_move := fun w h => List.mem_cons_of_mem _ (List.mem_append_left _ (List.mem_append_right _ h))
theorem hX5_move_X1 : ∀ w ∈ wsX10, w ∈ wsX5_move := fun w h => List.mem_cons_of_mem _ (List.mem_append_right _ h)
theorem kX5_turn_1 : Cond.fieldLink RX5 10 "ParityRules" "now" "LParityRules$Row;" ∈ wsX5_turn := List.mem_of_getElem? (i := 1) rfl
theorem kX5_turn_2 : Cond.fieldLink RX5 53 "ParityRules" "history" "LParityRules$History;" ∈ wsX5_turn := List.mem_of_getElem? (i := 2) rfl
theorem kX5_turn_3 : Cond.fieldLink RX5 114 "ParityRules$Row" "sums" "[I" ∈ wsX5_turn := List.mem_of_getElem? (i := 3) rfl
theorem kX5_turn_4 : Cond.fieldLink RX5 19 "ParityRules" "verdict" "LParityRules$Verdict;" ∈ wsX5_turn := List.mem_of_getElem? (i := 4) rfl
theorem kX5_turn_5 : Cond.fieldLink RX5 91 "ParityRules$Verdict" "states" "[I" ∈ wsX5_turn := List.mem_of_getElem? (i := 5) rfl
theorem kX5_turn_9 : Cond.initialized RX3 ∈ wsX5_turn := List.mem_of_getElem? (i := 9) rfl
theorem kX5_turn_15 : Cond.initialized RX1 ∈ wsX5_turn := List.mem_of_getElem? (i := 15) rfl
theorem kX5_turn_30 : Cond.native arraycopyName ∈ wsX5_turn := List.mem_of_getElem? (i := 30) rfl
theorem kX5_turn_31 : Cond.static arraycopyName ∈ wsX5_turn := List.mem_of_getElem? (i := 31) rfl
theorem kX5_turn_32 : Cond.initialized "java/lang/System" ∈ wsX5_turn := List.mem_of_getElem? (i := 32) rfl
theorem kX5_turn_37 : Cond.initialized RX4 ∈ wsX5_turn := List.mem_of_getElem? (i := 37) rfl
theorem kX5_turn_66 : Cond.static yX5_lowestBit ∈ wsX5_turn := List.mem_of_getElem? (i := 66) rfl
theorem kX5_turn_67 : Cond.initialized RX5 ∈ wsX5_turn := List.mem_of_getElem? (i := 67) rfl
theorem kX5_turn_70 : Cond.static yJ6_bitCount_0f7a4 ∈ wsX5_turn := List.mem_of_getElem? (i := 70) rfl
theorem kX5_turn_71 : Cond.initialized RJ6 ∈ wsX5_turn := List.mem_of_getElem? (i := 71) rfl
theorem hX5_turn_X5 : ∀ w ∈ wsX50, w ∈ wsX5_turn := fun w h => List.mem_cons_of_mem _ (List.mem_append_left _ (List.mem_append_left _ (List.mem_append_left _ (List.mem_append_right _ h))))
theorem hX5_turn_X3 : ∀ w ∈ wsX30, w ∈ wsX5_turn := fun w h => List.mem_cons_of_mem _ (List.mem_append_left _ (List.mem_append_left _ (List.mem_append_right _ h)))
theorem hX5_turn_X4 : ∀ w ∈ wsX40, w ∈ wsX5_turn := fun w h => List.mem_cons_of_mem _ (List.mem_append_left _ (List.mem_append_right _ h))
theorem hX5_turn_X1 : ∀ w ∈ wsX10, w ∈ wsX5_turn := fun w h => List.mem_cons_of_mem _ (List.mem_append_right _ h)
theorem kX5_read_1 : Cond.fieldLink RX5 43 "ParityRules" "pad" "LParityRules$Pad;" ∈ wsX5_read := List.mem_of_getElem? (i := 1) rfl
theorem kX5_read_2 : Cond.fieldLink RX5 47 "ParityRules" "padRules" "LParityRules$Row;" ∈ wsX5_read := List.mem_of_getElem? (i := 2) rfl
theorem kX5_read_3 : Cond.fieldLink RX5 10 "ParityRules" "now" "LParityRules$Row;" ∈ wsX5_read := List.mem_of_getElem? (i := 3) rfl
theorem kX5_read_4 : Cond.fieldLink RX5 73 "ParityRules$Row" "choices" "I" ∈ wsX5_read := List.mem_of_getElem? (i := 4) rfl
theorem kX5_read_5 : Cond.fieldLink RX5 84 "ParityRules$Row" "many" "I" ∈ wsX5_read := List.mem_of_getElem? (i := 5) rfl
theorem kX5_read_6 : Cond.fieldLink RX5 53 "ParityRules" "history" "LParityRules$History;" ∈ wsX5_read := List.mem_of_getElem? (i := 6) rfl
theorem kX5_read_7 : Cond.fieldLink RX5 121 "ParityRules$Row" "sets" "[I" ∈ wsX5_read := List.mem_of_getElem? (i := 7) rfl
theorem kX5_read_8 : Cond.fieldLink RX5 114 "ParityRules$Row" "sums" "[I" ∈ wsX5_read := List.mem_of_getElem? (i := 8) rfl
theorem kX5_read_9 : Cond.fieldLink RX5 124 "ParityRules$Pad" "length" "I" ∈ wsX5_read := List.mem_of_getElem? (i := 9) rfl
theorem kX5_read_10 : Cond.fieldLink RX5 19 "ParityRules" "verdict" "LParityRules$Verdict;" ∈ wsX5_read := List.mem_of_getElem? (i := 10) rfl
theorem kX5_read_14 : Cond.initialized RX2 ∈ wsX5_read := List.mem_of_getElem? (i := 14) rfl
theorem kX5_read_46 : Cond.initialized RX3 ∈ wsX5_read := List.mem_of_getElem? (i := 46) rfl
theorem kX5_read_58 : Cond.initialized RX1 ∈ wsX5_read := List.mem_of_getElem? (i := 58) rfl
theorem kX5_read_72 : Cond.native arraycopyName ∈ wsX5_read := List.mem_of_getElem? (i := 72) rfl
theorem kX5_read_73 : Cond.static arraycopyName ∈ wsX5_read := List.mem_of_getElem? (i := 73) rfl
theorem kX5_read_74 : Cond.initialized "java/lang/System" ∈ wsX5_read := List.mem_of_getElem? (i := 74) rfl
theorem kX5_read_79 : Cond.initialized RX4 ∈ wsX5_read := List.mem_of_getElem? (i := 79) rfl
theorem kX5_read_108 : Cond.static yX5_lowestBit ∈ wsX5_read := List.mem_of_getElem? (i := 108) rfl
theorem kX5_read_109 : Cond.initialized RX5 ∈ wsX5_read := List.mem_of_getElem? (i := 109) rfl
theorem kX5_read_112 : Cond.static yJ6_bitCount_0f7a4 ∈ wsX5_read := List.mem_of_getElem? (i := 112) rfl
theorem kX5_read_113 : Cond.initialized RJ6 ∈ wsX5_read := List.mem_of_getElem? (i := 113) rfl
theorem hX5_read_X5 : ∀ w ∈ wsX50, w ∈ wsX5_read := fun w h => List.mem_cons_of_mem _ (List.mem_append_left _ (List.mem_append_left _ (List.mem_append_left _ (List.mem_append_left _ (List.mem_append_right _ h)))))
theorem hX5_read_X3 : ∀ w ∈ wsX30, w ∈ wsX5_read := fun w h => List.mem_cons_of_mem _ (List.mem_append_left _ (List.mem_append_left _ (List.mem_append_left _ (List.mem_append_right _ h))))
theorem hX5_read_X2 : ∀ w ∈ wsX20, w ∈ wsX5_read := fun w h => List.mem_cons_of_mem _ (List.mem_append_left _ (List.mem_append_left _ (List.mem_append_right _ h)))
theorem hX5_read_X1 : ∀ w ∈ wsX10, w ∈ wsX5_read := fun w h => List.mem_cons_of_mem _ (List.mem_append_left _ (List.mem_append_right _ h))
theorem hX5_read_X4 : ∀ w ∈ wsX40, w ∈ wsX5_read := fun w h => List.mem_cons_of_mem _ (List.mem_append_right _ h)
theorem kX5_rule_1 : Cond.fieldLink RX5 10 "ParityRules" "now" "LParityRules$Row;" ∈ wsX5_rule := List.mem_of_getElem? (i := 1) rfl
theorem kX5_rule_2 : Cond.fieldLink RX5 19 "ParityRules" "verdict" "LParityRules$Verdict;" ∈ wsX5_rule := List.mem_of_getElem? (i := 2) rfl
theorem kX5_rule_3 : Cond.fieldLink RX5 91 "ParityRules$Verdict" "states" "[I" ∈ wsX5_rule := List.mem_of_getElem? (i := 3) rfl
theorem kX5_rule_4 : Cond.fieldLink RX5 121 "ParityRules$Row" "sets" "[I" ∈ wsX5_rule := List.mem_of_getElem? (i := 4) rfl
theorem kX5_rule_5 : Cond.fieldLink RX5 114 "ParityRules$Row" "sums" "[I" ∈ wsX5_rule := List.mem_of_getElem? (i := 5) rfl
theorem kX5_rule_6 : Cond.fieldLink RX5 127 "ParityRules$Verdict" "reasons" "[I" ∈ wsX5_rule := List.mem_of_getElem? (i := 6) rfl
theorem kX5_rule_10 : Cond.initialized RX3 ∈ wsX5_rule := List.mem_of_getElem? (i := 10) rfl
theorem kX5_rule_16 : Cond.initialized RX4 ∈ wsX5_rule := List.mem_of_getElem? (i := 16) rfl
theorem hX5_rule_X5 : ∀ w ∈ wsX50, w ∈ wsX5_rule := fun w h => List.mem_cons_of_mem _ (List.mem_append_left _ (List.mem_append_left _ (List.mem_append_right _ h)))
theorem hX5_rule_X4 : ∀ w ∈ wsX40, w ∈ wsX5_rule := fun w h => List.mem_cons_of_mem _ (List.mem_append_left _ (List.mem_append_right _ h))
theorem hX5_rule_X3 : ∀ w ∈ wsX30, w ∈ wsX5_rule := fun w h => List.mem_cons_of_mem _ (List.mem_append_right _ h)
theorem kX5_choice_1 : Cond.fieldLink RX5 10 "ParityRules" "now" "LParityRules$Row;" ∈ wsX5_choice := List.mem_of_getElem? (i := 1) rfl
theorem kX5_choice_2 : Cond.fieldLink RX5 73 "ParityRules$Row" "choices" "I" ∈ wsX5_choice := List.mem_of_getElem? (i := 2) rfl
theorem kX5_choice_3 : Cond.fieldLink RX5 19 "ParityRules" "verdict" "LParityRules$Verdict;" ∈ wsX5_choice := List.mem_of_getElem? (i := 3) rfl
theorem kX5_choice_7 : Cond.initialized RX4 ∈ wsX5_choice := List.mem_of_getElem? (i := 7) rfl
theorem kX5_choice_22 : Cond.initialized RX3 ∈ wsX5_choice := List.mem_of_getElem? (i := 22) rfl
theorem hX5_choice_X5 : ∀ w ∈ wsX50, w ∈ wsX5_choice := fun w h => List.mem_cons_of_mem _ (List.mem_append_left _ (List.mem_append_left _ (List.mem_append_right _ h)))
theorem hX5_choice_X3 : ∀ w ∈ wsX30, w ∈ wsX5_choice := fun w h => List.mem_cons_of_mem _ (List.mem_append_left _ (List.mem_append_right _ h))
theorem hX5_choice_X4 : ∀ w ∈ wsX40, w ∈ wsX5_choice := fun w h => List.mem_cons_of_mem _ (List.mem_append_right _ h)
theorem kX5_count_1 : Cond.fieldLink RX5 10 "ParityRules" "now" "LParityRules$Row;" ∈ wsX5_count := List.mem_of_getElem? (i := 1) rfl
theorem kX5_count_2 : Cond.fieldLink RX5 84 "ParityRules$Row" "many" "I" ∈ wsX5_count := List.mem_of_getElem? (i := 2) rfl
theorem kX5_count_3 : Cond.fieldLink RX5 19 "ParityRules" "verdict" "LParityRules$Verdict;" ∈ wsX5_count := List.mem_of_getElem? (i := 3) rfl
theorem kX5_count_4 : Cond.fieldLink RX5 147 "ParityRules$Verdict" "tally" "[I" ∈ wsX5_count := List.mem_of_getElem? (i := 4) rfl
theorem kX5_count_5 : Cond.fieldLink RX5 73 "ParityRules$Row" "choices" "I" ∈ wsX5_count := List.mem_of_getElem? (i := 5) rfl
theorem kX5_count_6 : Cond.fieldLink RX5 43 "ParityRules" "pad" "LParityRules$Pad;" ∈ wsX5_count := List.mem_of_getElem? (i := 6) rfl
theorem kX5_count_7 : Cond.fieldLink RX5 124 "ParityRules$Pad" "length" "I" ∈ wsX5_count := List.mem_of_getElem? (i := 7) rfl
theorem kX5_count_8 : Cond.fieldLink RX5 53 "ParityRules" "history" "LParityRules$History;" ∈ wsX5_count := List.mem_of_getElem? (i := 8) rfl
theorem kX5_count_9 : Cond.fieldLink RX5 153 "ParityRules$History" "many" "I" ∈ wsX5_count := List.mem_of_getElem? (i := 9) rfl
theorem kX5_count_13 : Cond.initialized RX4 ∈ wsX5_count := List.mem_of_getElem? (i := 13) rfl
theorem hX5_count_X5 : ∀ w ∈ wsX50, w ∈ wsX5_count := fun w h => List.mem_cons_of_mem _ (List.mem_append_left _ (List.mem_append_left _ (List.mem_append_left _ (List.mem_append_left _ (List.mem_append_right _ h)))))
theorem hX5_count_X3 : ∀ w ∈ wsX30, w ∈ wsX5_count := fun w h => List.mem_cons_of_mem _ (List.mem_append_left _ (List.mem_append_left _ (List.mem_append_left _ (List.mem_append_right _ h))))
theorem hX5_count_X4 : ∀ w ∈ wsX40, w ∈ wsX5_count := fun w h => List.mem_cons_of_mem _ (List.mem_append_left _ (List.mem_append_left _ (List.mem_append_right _ h)))
theorem hX5_count_X2 : ∀ w ∈ wsX20, w ∈ wsX5_count := fun w h => List.mem_cons_of_mem _ (List.mem_append_left _ (List.mem_append_right _ h))
theorem hX5_count_X1 : ∀ w ∈ wsX10, w ∈ wsX5_count := fun w h => List.mem_cons_of_mem _ (List.mem_append_right _ h)
theorem kX5_answer_1 : Cond.fieldLink RX5 19 "ParityRules" "verdict" "LParityRules$Verdict;" ∈ wsX5_answer := List.mem_of_getElem? (i := 1) rfl
theorem kX5_answer_5 : Cond.initialized RX4 ∈ wsX5_answer := List.mem_of_getElem? (i := 5) rfl
theorem kX5_answer_15 : Cond.static yX5_parity ∈ wsX5_answer := List.mem_of_getElem? (i := 15) rfl
theorem kX5_answer_16 : Cond.initialized RX5 ∈ wsX5_answer := List.mem_of_getElem? (i := 16) rfl
theorem kX5_answer_19 : Cond.static yJ6_bitCount_0f7a4 ∈ wsX5_answer := List.mem_of_getElem? (i := 19) rfl
theorem kX5_answer_20 : Cond.initialized RJ6 ∈ wsX5_answer := List.mem_of_getElem? (i := 20) rfl
theorem hX5_answer_X5 : ∀ w ∈ wsX50, w ∈ wsX5_answer := fun w h => List.mem_cons_of_mem _ (List.mem_append_left _ (List.mem_append_right _ h))
theorem hX5_answer_X4 : ∀ w ∈ wsX40, w ∈ wsX5_answer := fun w h => List.mem_cons_of_mem _ (List.mem_append_right _ h)
theorem kX5_known_1 : Cond.fieldLink RX5 10 "ParityRules" "now" "LParityRules$Row;" ∈ wsX5_known := List.mem_of_getElem? (i := 1) rfl
theorem kX5_known_2 : Cond.fieldLink RX5 19 "ParityRules" "verdict" "LParityRules$Verdict;" ∈ wsX5_known := List.mem_of_getElem? (i := 2) rfl
theorem kX5_known_6 : Cond.initialized RX3 ∈ wsX5_known := List.mem_of_getElem? (i := 6) rfl
theorem kX5_known_12 : Cond.initialized RX4 ∈ wsX5_known := List.mem_of_getElem? (i := 12) rfl
theorem hX5_known_X5 : ∀ w ∈ wsX50, w ∈ wsX5_known := fun w h => List.mem_cons_of_mem _ (List.mem_append_left _ (List.mem_append_left _ (List.mem_append_right _ h)))
theorem hX5_known_X3 : ∀ w ∈ wsX30, w ∈ wsX5_known := fun w h => List.mem_cons_of_mem _ (List.mem_append_left _ (List.mem_append_right _ h))
theorem hX5_known_X4 : ∀ w ∈ wsX40, w ∈ wsX5_known := fun w h => List.mem_cons_of_mem _ (List.mem_append_right _ h)
theorem kX5_nearest_1 : Cond.fieldLink RX5 10 "ParityRules" "now" "LParityRules$Row;" ∈ wsX5_nearest := List.mem_of_getElem? (i := 1) rfl
theorem kX5_nearest_2 : Cond.fieldLink RX5 19 "ParityRules" "verdict" "LParityRules$Verdict;" ∈ wsX5_nearest := List.mem_of_getElem? (i := 2) rfl
theorem kX5_nearest_6 : Cond.initialized RX3 ∈ wsX5_nearest := List.mem_of_getElem? (i := 6) rfl
theorem kX5_nearest_12 : Cond.initialized RX4 ∈ wsX5_nearest := List.mem_of_getElem? (i := 12) rfl
theorem kX5_nearest_27 : Cond.static yX5_parity ∈ wsX5_nearest := List.mem_of_getElem? (i := 27) rfl
theorem kX5_nearest_28 : Cond.initialized RX5 ∈ wsX5_nearest := List.mem_of_getElem? (i := 28) rfl
theorem kX5_nearest_31 : Cond.static yJ6_bitCount_0f7a4 ∈ wsX5_nearest := List.mem_of_getElem? (i := 31) rfl
theorem kX5_nearest_32 : Cond.initialized RJ6 ∈ wsX5_nearest := List.mem_of_getElem? (i := 32) rfl
theorem kX5_nearest_42 : Cond.static yX5_lowestBit ∈ wsX5_nearest := List.mem_of_getElem? (i := 42) rfl
theorem hX5_nearest_X5 : ∀ w ∈ wsX50, w ∈ wsX5_nearest := fun w h => List.mem_cons_of_mem _ (List.mem_append_left _ (List.mem_append_left _ (List.mem_append_right _ h)))
theorem hX5_nearest_X3 : ∀ w ∈ wsX30, w ∈ wsX5_nearest := fun w h => List.mem_cons_of_mem _ (List.mem_append_left _ (List.mem_append_right _ h))
theorem hX5_nearest_X4 : ∀ w ∈ wsX40, w ∈ wsX5_nearest := fun w h => List.mem_cons_of_mem _ (List.mem_append_right _ h)
theorem kX5_best_1 : Cond.fieldLink RX5 36 "ParityRules" "bestAnswer" "LParityRules$BestAnswer;" ∈ wsX5_best := List.mem_of_getElem? (i := 1) rfl
theorem kX5_best_2 : Cond.fieldLink RX5 10 "ParityRules" "now" "LParityRules$Row;" ∈ wsX5_best := List.mem_of_getElem? (i := 2) rfl
theorem kX5_best_3 : Cond.fieldLink RX5 171 "ParityRules$BestAnswer" "lowest" "I" ∈ wsX5_best := List.mem_of_getElem? (i := 3) rfl
theorem kX5_best_4 : Cond.fieldLink RX5 174 "ParityRules$BestAnswer" "broken" "I" ∈ wsX5_best := List.mem_of_getElem? (i := 4) rfl
theorem kX5_best_5 : Cond.fieldLink RX5 177 "ParityRules$BestAnswer" "asGood" "I" ∈ wsX5_best := List.mem_of_getElem? (i := 5) rfl
theorem kX5_best_9 : Cond.initialized RX0 ∈ wsX5_best := List.mem_of_getElem? (i := 9) rfl
theorem kX5_best_22 : Cond.static yX5_parity ∈ wsX5_best := List.mem_of_getElem? (i := 22) rfl
theorem kX5_best_23 : Cond.initialized RX5 ∈ wsX5_best := List.mem_of_getElem? (i := 23) rfl
theorem kX5_best_26 : Cond.static yJ6_bitCount_0f7a4 ∈ wsX5_best := List.mem_of_getElem? (i := 26) rfl
theorem kX5_best_27 : Cond.initialized RJ6 ∈ wsX5_best := List.mem_of_getElem? (i := 27) rfl
theorem kX5_best_33 : Cond.static yX0_brokenByNone ∈ wsX5_best := List.mem_of_getElem? (i := 33) rfl
theorem kX5_best_37 : Cond.static yX5_lowestBit ∈ wsX5_best := List.mem_of_getElem? (i := 37) rfl
theorem hX5_best_X5 : ∀ w ∈ wsX50, w ∈ wsX5_best := fun w h => List.mem_cons_of_mem _ (List.mem_append_left _ (List.mem_append_left _ (List.mem_append_right _ h)))
theorem hX5_best_X0 : ∀ w ∈ wsX00, w ∈ wsX5_best := fun w h => List.mem_cons_of_mem _ (List.mem_append_left _ (List.mem_append_right _ h))
theorem hX5_best_X3 : ∀ w ∈ wsX30, w ∈ wsX5_best := fun w h => List.mem_cons_of_mem _ (List.mem_append_right _ h)
theorem kX5_ifTold_1 : Cond.fieldLink RX5 19 "ParityRules" "verdict" "LParityRules$Verdict;" ∈ wsX5_ifTold := List.mem_of_getElem? (i := 1) rfl
theorem kX5_ifTold_5 : Cond.initialized RX5 ∈ wsX5_ifTold := List.mem_of_getElem? (i := 5) rfl
theorem kX5_ifTold_7 : Cond.fieldLink RX5 10 "ParityRules" "now" "LParityRules$Row;" ∈ wsX5_ifTold := List.mem_of_getElem? (i := 7) rfl
theorem kX5_ifTold_11 : Cond.initialized RX3 ∈ wsX5_ifTold := List.mem_of_getElem? (i := 11) rfl
theorem kX5_ifTold_17 : Cond.initialized RX4 ∈ wsX5_ifTold := List.mem_of_getElem? (i := 17) rfl
theorem hX5_ifTold_X5 : ∀ w ∈ wsX50, w ∈ wsX5_ifTold := fun w h => List.mem_cons_of_mem _ (List.mem_append_left _ (List.mem_append_left _ (List.mem_append_right _ h)))
theorem hX5_ifTold_X3 : ∀ w ∈ wsX30, w ∈ wsX5_ifTold := fun w h => List.mem_cons_of_mem _ (List.mem_append_left _ (List.mem_append_right _ h))
theorem hX5_ifTold_X4 : ∀ w ∈ wsX40, w ∈ wsX5_ifTold := fun w h => List.mem_cons_of_mem _ (List.mem_append_right _ h)
theorem kX5_ifDropped_1 : Cond.fieldLink RX5 10 "ParityRules" "now" "LParityRules$Row;" ∈ wsX5_ifDropped := List.mem_of_getElem? (i := 1) rfl
theorem kX5_ifDropped_2 : Cond.fieldLink RX5 23 "ParityRules" "trialRow" "LParityRules$Row;" ∈ wsX5_ifDropped := List.mem_of_getElem? (i := 2) rfl
theorem kX5_ifDropped_3 : Cond.fieldLink RX5 26 "ParityRules" "trialVerdict" "LParityRules$Verdict;" ∈ wsX5_ifDropped := List.mem_of_getElem? (i := 3) rfl
theorem kX5_ifDropped_7 : Cond.initialized RX3 ∈ wsX5_ifDropped := List.mem_of_getElem? (i := 7) rfl
theorem kX5_ifDropped_17 : Cond.native arraycopyName ∈ wsX5_ifDropped := List.mem_of_getElem? (i := 17) rfl
theorem kX5_ifDropped_18 : Cond.static arraycopyName ∈ wsX5_ifDropped := List.mem_of_getElem? (i := 18) rfl
theorem kX5_ifDropped_19 : Cond.initialized "java/lang/System" ∈ wsX5_ifDropped := List.mem_of_getElem? (i := 19) rfl
theorem kX5_ifDropped_29 : Cond.static yX5_carry ∈ wsX5_ifDropped := List.mem_of_getElem? (i := 29) rfl
theorem kX5_ifDropped_30 : Cond.initialized RX5 ∈ wsX5_ifDropped := List.mem_of_getElem? (i := 30) rfl
theorem kX5_ifDropped_35 : Cond.initialized RX4 ∈ wsX5_ifDropped := List.mem_of_getElem? (i := 35) rfl
theorem kX5_ifDropped_64 : Cond.static yX5_lowestBit ∈ wsX5_ifDropped := List.mem_of_getElem? (i := 64) rfl
theorem kX5_ifDropped_67 : Cond.static yJ6_bitCount_0f7a4 ∈ wsX5_ifDropped := List.mem_of_getElem? (i := 67) rfl
theorem kX5_ifDropped_68 : Cond.initialized RJ6 ∈ wsX5_ifDropped := List.mem_of_getElem? (i := 68) rfl
theorem hX5_ifDropped_X5 : ∀ w ∈ wsX50, w ∈ wsX5_ifDropped := fun w h => List.mem_cons_of_mem _ (List.mem_append_left _ (List.mem_append_left _ (List.mem_append_right _ h)))
theorem hX5_ifDropped_X3 : ∀ w ∈ wsX30, w ∈ wsX5_ifDropped := fun w h => List.mem_cons_of_mem _ (List.mem_append_left _ (List.mem_append_right _ h))
theorem hX5_ifDropped_X4 : ∀ w ∈ wsX40, w ∈ wsX5_ifDropped := fun w h => List.mem_cons_of_mem _ (List.mem_append_right _ h)
theorem kX5_ifMoved_1 : Cond.fieldLink RX5 10 "ParityRules" "now" "LParityRules$Row;" ∈ wsX5_ifMoved := List.mem_of_getElem? (i := 1) rfl
theorem kX5_ifMoved_2 : Cond.fieldLink RX5 23 "ParityRules" "trialRow" "LParityRules$Row;" ∈ wsX5_ifMoved := List.mem_of_getElem? (i := 2) rfl
theorem kX5_ifMoved_3 : Cond.fieldLink RX5 26 "ParityRules" "trialVerdict" "LParityRules$Verdict;" ∈ wsX5_ifMoved := List.mem_of_getElem? (i := 3) rfl
theorem kX5_ifMoved_4 : Cond.fieldLink RX5 147 "ParityRules$Verdict" "tally" "[I" ∈ wsX5_ifMoved := List.mem_of_getElem? (i := 4) rfl
theorem kX5_ifMoved_8 : Cond.initialized RX3 ∈ wsX5_ifMoved := List.mem_of_getElem? (i := 8) rfl
theorem kX5_ifMoved_18 : Cond.native arraycopyName ∈ wsX5_ifMoved := List.mem_of_getElem? (i := 18) rfl
theorem kX5_ifMoved_19 : Cond.static arraycopyName ∈ wsX5_ifMoved := List.mem_of_getElem? (i := 19) rfl
theorem kX5_ifMoved_20 : Cond.initialized "java/lang/System" ∈ wsX5_ifMoved := List.mem_of_getElem? (i := 20) rfl
theorem kX5_ifMoved_26 : Cond.static yX5_carry ∈ wsX5_ifMoved := List.mem_of_getElem? (i := 26) rfl
theorem kX5_ifMoved_27 : Cond.initialized RX5 ∈ wsX5_ifMoved := List.mem_of_getElem? (i := 27) rfl
theorem kX5_ifMoved_32 : Cond.initialized RX4 ∈ wsX5_ifMoved := List.mem_of_getElem? (i := 32) rfl
theorem kX5_ifMoved_61 : Cond.static yX5_lowestBit ∈ wsX5_ifMoved := List.mem_of_getElem? (i := 61) rfl
theorem kX5_ifMoved_64 : Cond.static yJ6_bitCount_0f7a4 ∈ wsX5_ifMoved := List.mem_of_getElem? (i := 64) rfl
theorem kX5_ifMoved_65 : Cond.initialized RJ6 ∈ wsX5_ifMoved := List.mem_of_getElem? (i := 65) rfl
theorem hX5_ifMoved_X5 : ∀ w ∈ wsX50, w ∈ wsX5_ifMoved := fun w h => List.mem_cons_of_mem _ (List.mem_append_left _ (List.mem_append_left _ (List.mem_append_right _ h)))
theorem hX5_ifMoved_X4 : ∀ w ∈ wsX40, w ∈ wsX5_ifMoved := fun w h => List.mem_cons_of_mem _ (List.mem_append_left _ (List.mem_append_right _ h))
theorem hX5_ifMoved_X3 : ∀ w ∈ wsX30, w ∈ wsX5_ifMoved := fun w h => List.mem_cons_of_mem _ (List.mem_append_right _ h)
theorem kX5_charactersIn_1 : Cond.constantLong RX5 191 (255) ∈ wsX5_charactersIn := List.mem_of_getElem? (i := 1) rfl
theorem kX5_charactersIn_2 : Cond.constantLong RX5 199 (33) ∈ wsX5_charactersIn := List.mem_of_getElem? (i := 2) rfl
theorem kX5_charactersIn_3 : Cond.constantLong RX5 201 (126) ∈ wsX5_charactersIn := List.mem_of_getElem? (i := 3) rfl
theorem kX5_put_1 : Cond.fieldLink RX5 43 "ParityRules" "pad" "LParityRules$Pad;" ∈ wsX5_put := List.mem_of_getElem? (i := 1) rfl
theorem kX5_put_2 : Cond.fieldLink RX5 124 "ParityRules$Pad" "length" "I" ∈ wsX5_put := List.mem_of_getElem? (i := 2) rfl
theorem kX5_put_3 : Cond.constantLong RX5 191 (255) ∈ wsX5_put := List.mem_of_getElem? (i := 3) rfl
theorem kX5_put_5 : Cond.static yX5_charactersIn ∈ wsX5_put := List.mem_of_getElem? (i := 5) rfl
theorem kX5_put_6 : Cond.initialized RX5 ∈ wsX5_put := List.mem_of_getElem? (i := 6) rfl
theorem kX5_put_8 : Cond.constantLong RX5 199 (33) ∈ wsX5_put := List.mem_of_getElem? (i := 8) rfl
theorem kX5_put_9 : Cond.constantLong RX5 201 (126) ∈ wsX5_put := List.mem_of_getElem? (i := 9) rfl
theorem kX5_put_13 : Cond.initialized RX2 ∈ wsX5_put := List.mem_of_getElem? (i := 13) rfl
theorem hX5_put_X5 : ∀ w ∈ wsX50, w ∈ wsX5_put := fun w h => List.mem_cons_of_mem _ (List.mem_append_left _ (List.mem_append_right _ h))
theorem hX5_put_X2 : ∀ w ∈ wsX20, w ∈ wsX5_put := fun w h => List.mem_cons_of_mem _ (List.mem_append_right _ h)
theorem kX5_wipe_1 : Cond.fieldLink RX5 43 "ParityRules" "pad" "LParityRules$Pad;" ∈ wsX5_wipe := List.mem_of_getElem? (i := 1) rfl
theorem kX5_wipe_2 : Cond.fieldLink RX5 124 "ParityRules$Pad" "length" "I" ∈ wsX5_wipe := List.mem_of_getElem? (i := 2) rfl
theorem hX5_wipe_X5 : ∀ w ∈ wsX50, w ∈ wsX5_wipe := fun w h => List.mem_cons_of_mem _ (List.mem_append_left _ (List.mem_append_right _ h))
theorem hX5_wipe_X2 : ∀ w ∈ wsX20, w ∈ wsX5_wipe := fun w h => List.mem_cons_of_mem _ (List.mem_append_right _ h)
theorem kX5_fault_1 : Cond.fieldLink RX5 43 "ParityRules" "pad" "LParityRules$Pad;" ∈ wsX5_fault := List.mem_of_getElem? (i := 1) rfl
theorem kX5_fault_2 : Cond.fieldLink RX5 47 "ParityRules" "padRules" "LParityRules$Row;" ∈ wsX5_fault := List.mem_of_getElem? (i := 2) rfl
theorem kX5_fault_6 : Cond.initialized RX2 ∈ wsX5_fault := List.mem_of_getElem? (i := 6) rfl
theorem kX5_fault_38 : Cond.initialized RX3 ∈ wsX5_fault := List.mem_of_getElem? (i := 38) rfl
theorem hX5_fault_X5 : ∀ w ∈ wsX50, w ∈ wsX5_fault := fun w h => List.mem_cons_of_mem _ (List.mem_append_left _ (List.mem_append_left _ (List.mem_append_right _ h)))
theorem hX5_fault_X3 : ∀ w ∈ wsX30, w ∈ wsX5_fault := fun w h => List.mem_cons_of_mem _ (List.mem_append_left _ (List.mem_append_right _ h))
theorem hX5_fault_X2 : ∀ w ∈ wsX20, w ∈ wsX5_fault := fun w h => List.mem_cons_of_mem _ (List.mem_append_right _ h)
theorem kX5_undo_1 : Cond.fieldLink RX5 53 "ParityRules" "history" "LParityRules$History;" ∈ wsX5_undo := List.mem_of_getElem? (i := 1) rfl
theorem kX5_undo_2 : Cond.fieldLink RX5 153 "ParityRules$History" "many" "I" ∈ wsX5_undo := List.mem_of_getElem? (i := 2) rfl
theorem kX5_undo_3 : Cond.fieldLink RX5 10 "ParityRules" "now" "LParityRules$Row;" ∈ wsX5_undo := List.mem_of_getElem? (i := 3) rfl
theorem kX5_undo_4 : Cond.fieldLink RX5 19 "ParityRules" "verdict" "LParityRules$Verdict;" ∈ wsX5_undo := List.mem_of_getElem? (i := 4) rfl
theorem kX5_undo_8 : Cond.initialized RX1 ∈ wsX5_undo := List.mem_of_getElem? (i := 8) rfl
theorem kX5_undo_15 : Cond.initialized RX3 ∈ wsX5_undo := List.mem_of_getElem? (i := 15) rfl
theorem kX5_undo_21 : Cond.native arraycopyName ∈ wsX5_undo := List.mem_of_getElem? (i := 21) rfl
theorem kX5_undo_22 : Cond.static arraycopyName ∈ wsX5_undo := List.mem_of_getElem? (i := 22) rfl
theorem kX5_undo_23 : Cond.initialized "java/lang/System" ∈ wsX5_undo := List.mem_of_getElem? (i := 23) rfl
theorem kX5_undo_28 : Cond.initialized RX4 ∈ wsX5_undo := List.mem_of_getElem? (i := 28) rfl
theorem kX5_undo_57 : Cond.static yX5_lowestBit ∈ wsX5_undo := List.mem_of_getElem? (i := 57) rfl
theorem kX5_undo_58 : Cond.initialized RX5 ∈ wsX5_undo := List.mem_of_getElem? (i := 58) rfl
theorem kX5_undo_61 : Cond.static yJ6_bitCount_0f7a4 ∈ wsX5_undo := List.mem_of_getElem? (i := 61) rfl
theorem kX5_undo_62 : Cond.initialized RJ6 ∈ wsX5_undo := List.mem_of_getElem? (i := 62) rfl
theorem hX5_undo_X5 : ∀ w ∈ wsX50, w ∈ wsX5_undo := fun w h => List.mem_cons_of_mem _ (List.mem_append_left _ (List.mem_append_left _ (List.mem_append_left _ (List.mem_append_right _ h))))
theorem hX5_undo_X1 : ∀ w ∈ wsX10, w ∈ wsX5_undo := fun w h => List.mem_cons_of_mem _ (List.mem_append_left _ (List.mem_append_left _ (List.mem_append_right _ h)))
theorem hX5_undo_X3 : ∀ w ∈ wsX30, w ∈ wsX5_undo := fun w h => List.mem_cons_of_mem _ (List.mem_append_left _ (List.mem_append_right _ h))
theorem hX5_undo_X4 : ∀ w ∈ wsX40, w ∈ wsX5_undo := fun w h => List.mem_cons_of_mem _ (List.mem_append_right _ h)
theorem kX5_save_1 : Cond.fieldLink RX5 57 "ParityRules" "slots" "[LParityRules$Row;" ∈ wsX5_save := List.mem_of_getElem? (i := 1) rfl
theorem kX5_save_2 : Cond.fieldLink RX5 10 "ParityRules" "now" "LParityRules$Row;" ∈ wsX5_save := List.mem_of_getElem? (i := 2) rfl
theorem kX5_save_3 : Cond.fieldLink RX5 61 "ParityRules" "saved" "[Z" ∈ wsX5_save := List.mem_of_getElem? (i := 3) rfl
theorem kX5_save_4 : Cond.fieldLink RX5 84 "ParityRules$Row" "many" "I" ∈ wsX5_save := List.mem_of_getElem? (i := 4) rfl
theorem kX5_save_8 : Cond.initialized RX3 ∈ wsX5_save := List.mem_of_getElem? (i := 8) rfl
theorem kX5_save_14 : Cond.native arraycopyName ∈ wsX5_save := List.mem_of_getElem? (i := 14) rfl
theorem kX5_save_15 : Cond.static arraycopyName ∈ wsX5_save := List.mem_of_getElem? (i := 15) rfl
theorem kX5_save_16 : Cond.initialized "java/lang/System" ∈ wsX5_save := List.mem_of_getElem? (i := 16) rfl
theorem hX5_save_X5 : ∀ w ∈ wsX50, w ∈ wsX5_save := fun w h => List.mem_cons_of_mem _ (List.mem_append_left _ (List.mem_append_right _ h))
theorem hX5_save_X3 : ∀ w ∈ wsX30, w ∈ wsX5_save := fun w h => List.mem_cons_of_mem _ (List.mem_append_right _ h)
theorem kX5_restore_1 : Cond.fieldLink RX5 61 "ParityRules" "saved" "[Z" ∈ wsX5_restore := List.mem_of_getElem? (i := 1) rfl
theorem kX5_restore_2 : Cond.fieldLink RX5 53 "ParityRules" "history" "LParityRules$History;" ∈ wsX5_restore := List.mem_of_getElem? (i := 2) rfl
theorem kX5_restore_3 : Cond.fieldLink RX5 10 "ParityRules" "now" "LParityRules$Row;" ∈ wsX5_restore := List.mem_of_getElem? (i := 3) rfl
theorem kX5_restore_4 : Cond.fieldLink RX5 57 "ParityRules" "slots" "[LParityRules$Row;" ∈ wsX5_restore := List.mem_of_getElem? (i := 4) rfl
theorem kX5_restore_5 : Cond.fieldLink RX5 19 "ParityRules" "verdict" "LParityRules$Verdict;" ∈ wsX5_restore := List.mem_of_getElem? (i := 5) rfl
theorem kX5_restore_6 : Cond.fieldLink RX5 84 "ParityRules$Row" "many" "I" ∈ wsX5_restore := List.mem_of_getElem? (i := 6) rfl
theorem kX5_restore_10 : Cond.initialized RX1 ∈ wsX5_restore := List.mem_of_getElem? (i := 10) rfl
theorem kX5_restore_21 : Cond.initialized RX3 ∈ wsX5_restore := List.mem_of_getElem? (i := 21) rfl
theorem kX5_restore_27 : Cond.native arraycopyName ∈ wsX5_restore := List.mem_of_getElem? (i := 27) rfl
theorem kX5_restore_28 : Cond.static arraycopyName ∈ wsX5_restore := List.mem_of_getElem? (i := 28) rfl
theorem kX5_restore_29 : Cond.initialized "java/lang/System" ∈ wsX5_restore := List.mem_of_getElem? (i := 29) rfl
theorem kX5_restore_35 : Cond.initialized RX4 ∈ wsX5_restore := List.mem_of_getElem? (i := 35) rfl
theorem kX5_restore_64 : Cond.static yX5_lowestBit ∈ wsX5_restore := List.mem_of_getElem? (i := 64) rfl
theorem kX5_restore_65 : Cond.initialized RX5 ∈ wsX5_restore := List.mem_of_getElem? (i := 65) rfl
theorem kX5_restore_68 : Cond.static yJ6_bitCount_0f7a4 ∈ wsX5_restore := List.mem_of_getElem? (i := 68) rfl
theorem kX5_restore_69 : Cond.initialized RJ6 ∈ wsX5_restore := List.mem_of_getElem? (i := 69) rfl
theorem hX5_restore_X5 : ∀ w ∈ wsX50, w ∈ wsX5_restore := fun w h => List.mem_cons_of_mem _ (List.mem_append_left _ (List.mem_append_left _ (List.mem_append_left _ (List.mem_append_right _ h))))
theorem hX5_restore_X3 : ∀ w ∈ wsX30, w ∈ wsX5_restore := fun w h => List.mem_cons_of_mem _ (List.mem_append_left _ (List.mem_append_left _ (List.mem_append_right _ h)))
theorem hX5_restore_X1 : ∀ w ∈ wsX10, w ∈ wsX5_restore := fun w h => List.mem_cons_of_mem _ (List.mem_append_left _ (List.mem_append_right _ h))
theorem hX5_restore_X4 : ∀ w ∈ wsX40, w ∈ wsX5_restore := fun w h => List.mem_cons_of_mem _ (List.mem_append_right _ h)
theorem kX6_init_1 : Cond.methodLink RX6 1 objectInit ∈ wsX6_init := List.mem_of_getElem? (i := 1) rfl
theorem kX6_init_2 : Cond.instanceMethod objectInit ∈ wsX6_init := List.mem_of_getElem? (i := 2) rfl
theorem kX6_init_4 : Cond.arrayClass .int ∈ wsX6_init := List.mem_of_getElem? (i := 4) rfl
theorem kX6_init_5 : Cond.fieldLink RX6 7 "ParityRulesModel" "all" "[I" ∈ wsX6_init := List.mem_of_getElem? (i := 5) rfl
theorem kX6_init_6 : Cond.fieldLink RX6 13 "ParityRulesModel" "kept" "[I" ∈ wsX6_init := List.mem_of_getElem? (i := 6) rfl
theorem kX6_init_7 : Cond.fieldLink RX6 16 "ParityRulesModel" "history" "[I" ∈ wsX6_init := List.mem_of_getElem? (i := 7) rfl
theorem kX6_init_8 : Cond.fieldLink RX6 19 "ParityRulesModel" "slots" "[I" ∈ wsX6_init := List.mem_of_getElem? (i := 8) rfl
theorem kX6_init_9 : Cond.fieldLink RX6 22 "ParityRulesModel" "isSaved" "[I" ∈ wsX6_init := List.mem_of_getElem? (i := 9) rfl
theorem kX6_init_10 : Cond.fieldLink RX6 25 "ParityRulesModel" "leading" "[I" ∈ wsX6_init := List.mem_of_getElem? (i := 10) rfl
theorem kX6_init_11 : Cond.fieldLink RX6 28 "ParityRulesModel" "which" "[I" ∈ wsX6_init := List.mem_of_getElem? (i := 11) rfl
theorem kX6_init_12 : Cond.fieldLink RX6 31 "ParityRulesModel" "state" "[I" ∈ wsX6_init := List.mem_of_getElem? (i := 12) rfl
theorem kX6_init_13 : Cond.fieldLink RX6 34 "ParityRulesModel" "reason" "[I" ∈ wsX6_init := List.mem_of_getElem? (i := 13) rfl
theorem kX6_init_14 : Cond.fieldLink RX6 37 "ParityRulesModel" "had" "[I" ∈ wsX6_init := List.mem_of_getElem? (i := 14) rfl
theorem kX6_init_15 : Cond.fieldLink RX6 40 "ParityRulesModel" "pad" "[I" ∈ wsX6_init := List.mem_of_getElem? (i := 15) rfl
theorem kX6_init_16 : Cond.fieldLink RX6 43 "ParityRulesModel" "readSet" "[I" ∈ wsX6_init := List.mem_of_getElem? (i := 16) rfl
theorem kX6_init_17 : Cond.fieldLink RX6 46 "ParityRulesModel" "readSum" "[I" ∈ wsX6_init := List.mem_of_getElem? (i := 17) rfl
theorem hX6_init_X6 : ∀ w ∈ wsX60, w ∈ wsX6_init := fun w h => List.mem_cons_of_mem _ (List.mem_append_right _ h)
theorem kX6_keep_1 : Cond.fieldLink RX6 13 "ParityRulesModel" "kept" "[I" ∈ wsX6_keep := List.mem_of_getElem? (i := 1) rfl
theorem kX6_keep_2 : Cond.fieldLink RX6 7 "ParityRulesModel" "all" "[I" ∈ wsX6_keep := List.mem_of_getElem? (i := 2) rfl
theorem hX6_keep_X6 : ∀ w ∈ wsX60, w ∈ wsX6_keep := fun w h => List.mem_cons_of_mem _ (List.mem_append_right _ h)
theorem kX6_giveBack_1 : Cond.fieldLink RX6 7 "ParityRulesModel" "all" "[I" ∈ wsX6_giveBack := List.mem_of_getElem? (i := 1) rfl
theorem kX6_giveBack_2 : Cond.fieldLink RX6 13 "ParityRulesModel" "kept" "[I" ∈ wsX6_giveBack := List.mem_of_getElem? (i := 2) rfl
theorem hX6_giveBack_X6 : ∀ w ∈ wsX60, w ∈ wsX6_giveBack := fun w h => List.mem_cons_of_mem _ (List.mem_append_right _ h)
theorem kX6_changed_1 : Cond.fieldLink RX6 49 "ParityRulesModel" "historyLong" "I" ∈ wsX6_changed := List.mem_of_getElem? (i := 1) rfl
theorem kX6_changed_2 : Cond.fieldLink RX6 16 "ParityRulesModel" "history" "[I" ∈ wsX6_changed := List.mem_of_getElem? (i := 2) rfl
theorem kX6_changed_3 : Cond.fieldLink RX6 13 "ParityRulesModel" "kept" "[I" ∈ wsX6_changed := List.mem_of_getElem? (i := 3) rfl
theorem hX6_changed_X6 : ∀ w ∈ wsX60, w ∈ wsX6_changed := fun w h => List.mem_cons_of_mem _ (List.mem_append_right _ h)
theorem kX6_odd_2 : Cond.static yX6_bits ∈ wsX6_odd := List.mem_of_getElem? (i := 2) rfl
theorem kX6_odd_3 : Cond.initialized RX6 ∈ wsX6_odd := List.mem_of_getElem? (i := 3) rfl
theorem kX6_masks_1 : Cond.fieldLink RX6 7 "ParityRulesModel" "all" "[I" ∈ wsX6_masks := List.mem_of_getElem? (i := 1) rfl
theorem hX6_masks_X6 : ∀ w ∈ wsX60, w ∈ wsX6_masks := fun w h => List.mem_cons_of_mem _ (List.mem_append_right _ h)
theorem kX6_isSet_4 : Cond.initialized RX6 ∈ wsX6_isSet := List.mem_of_getElem? (i := 4) rfl
theorem kX6_isSet_6 : Cond.fieldLink RX6 7 "ParityRulesModel" "all" "[I" ∈ wsX6_isSet := List.mem_of_getElem? (i := 6) rfl
theorem kX6_isSet_8 : Cond.static yX6_in ∈ wsX6_isSet := List.mem_of_getElem? (i := 8) rfl
theorem hX6_isSet_X6 : ∀ w ∈ wsX60, w ∈ wsX6_isSet := fun w h => List.mem_cons_of_mem _ (List.mem_append_right _ h)
theorem kX6_isRule_1 : Cond.fieldLink RX6 7 "ParityRulesModel" "all" "[I" ∈ wsX6_isRule := List.mem_of_getElem? (i := 1) rfl
theorem kX6_isRule_3 : Cond.static yX6_in ∈ wsX6_isRule := List.mem_of_getElem? (i := 3) rfl
theorem kX6_isRule_4 : Cond.initialized RX6 ∈ wsX6_isRule := List.mem_of_getElem? (i := 4) rfl
theorem hX6_isRule_X6 : ∀ w ∈ wsX60, w ∈ wsX6_isRule := fun w h => List.mem_cons_of_mem _ (List.mem_append_right _ h)
theorem kX6_fits_1 : Cond.fieldLink RX6 7 "ParityRulesModel" "all" "[I" ∈ wsX6_fits := List.mem_of_getElem? (i := 1) rfl
theorem kX6_fits_3 : Cond.static yX6_odd ∈ wsX6_fits := List.mem_of_getElem? (i := 3) rfl
theorem kX6_fits_4 : Cond.initialized RX6 ∈ wsX6_fits := List.mem_of_getElem? (i := 4) rfl
theorem kX6_fits_7 : Cond.static yX6_bits ∈ wsX6_fits := List.mem_of_getElem? (i := 7) rfl
theorem hX6_fits_X6 : ∀ w ∈ wsX60, w ∈ wsX6_fits := fun w h => List.mem_cons_of_mem _ (List.mem_append_right _ h)
theorem kX6_reduces_1 : Cond.fieldLink RX6 68 "ParityRulesModel" "left" "I" ∈ wsX6_reduces := List.mem_of_getElem? (i := 1) rfl
theorem kX6_reduces_2 : Cond.fieldLink RX6 71 "ParityRulesModel" "made" "I" ∈ wsX6_reduces := List.mem_of_getElem? (i := 2) rfl
theorem kX6_reduces_3 : Cond.fieldLink RX6 25 "ParityRulesModel" "leading" "[I" ∈ wsX6_reduces := List.mem_of_getElem? (i := 3) rfl
theorem kX6_reduces_4 : Cond.fieldLink RX6 28 "ParityRulesModel" "which" "[I" ∈ wsX6_reduces := List.mem_of_getElem? (i := 4) rfl
theorem hX6_reduces_X6 : ∀ w ∈ wsX60, w ∈ wsX6_reduces := fun w h => List.mem_cons_of_mem _ (List.mem_append_right _ h)
theorem kX6_sumOf_1 : Cond.fieldLink RX6 7 "ParityRulesModel" "all" "[I" ∈ wsX6_sumOf := List.mem_of_getElem? (i := 1) rfl
theorem hX6_sumOf_X6 : ∀ w ∈ wsX60, w ∈ wsX6_sumOf := fun w h => List.mem_cons_of_mem _ (List.mem_append_right _ h)
theorem kX6_stateOf_1 : Cond.fieldLink RX6 68 "ParityRulesModel" "left" "I" ∈ wsX6_stateOf := List.mem_of_getElem? (i := 1) rfl
theorem kX6_stateOf_2 : Cond.fieldLink RX6 71 "ParityRulesModel" "made" "I" ∈ wsX6_stateOf := List.mem_of_getElem? (i := 2) rfl
theorem kX6_stateOf_6 : Cond.initialized RX6 ∈ wsX6_stateOf := List.mem_of_getElem? (i := 6) rfl
theorem kX6_stateOf_8 : Cond.fieldLink RX6 25 "ParityRulesModel" "leading" "[I" ∈ wsX6_stateOf := List.mem_of_getElem? (i := 8) rfl
theorem kX6_stateOf_9 : Cond.fieldLink RX6 28 "ParityRulesModel" "which" "[I" ∈ wsX6_stateOf := List.mem_of_getElem? (i := 9) rfl
theorem kX6_stateOf_14 : Cond.fieldLink RX6 7 "ParityRulesModel" "all" "[I" ∈ wsX6_stateOf := List.mem_of_getElem? (i := 14) rfl
theorem hX6_stateOf_X6 : ∀ w ∈ wsX60, w ∈ wsX6_stateOf := fun w h => List.mem_cons_of_mem _ (List.mem_append_right _ h)
theorem kX6_judges_1 : Cond.fieldLink RX6 25 "ParityRulesModel" "leading" "[I" ∈ wsX6_judges := List.mem_of_getElem? (i := 1) rfl
theorem kX6_judges_2 : Cond.fieldLink RX6 28 "ParityRulesModel" "which" "[I" ∈ wsX6_judges := List.mem_of_getElem? (i := 2) rfl
theorem kX6_judges_3 : Cond.fieldLink RX6 7 "ParityRulesModel" "all" "[I" ∈ wsX6_judges := List.mem_of_getElem? (i := 3) rfl
theorem kX6_judges_4 : Cond.fieldLink RX6 31 "ParityRulesModel" "state" "[I" ∈ wsX6_judges := List.mem_of_getElem? (i := 4) rfl
theorem kX6_judges_5 : Cond.fieldLink RX6 34 "ParityRulesModel" "reason" "[I" ∈ wsX6_judges := List.mem_of_getElem? (i := 5) rfl
theorem kX6_judges_6 : Cond.fieldLink RX6 71 "ParityRulesModel" "made" "I" ∈ wsX6_judges := List.mem_of_getElem? (i := 6) rfl
theorem kX6_judges_7 : Cond.fieldLink RX6 68 "ParityRulesModel" "left" "I" ∈ wsX6_judges := List.mem_of_getElem? (i := 7) rfl
theorem kX6_judges_11 : Cond.initialized RX6 ∈ wsX6_judges := List.mem_of_getElem? (i := 11) rfl
theorem hX6_judges_X6 : ∀ w ∈ wsX60, w ∈ wsX6_judges := fun w h => List.mem_cons_of_mem _ (List.mem_append_right _ h)
theorem kX6_rulesIn_1 : Cond.fieldLink RX6 7 "ParityRulesModel" "all" "[I" ∈ wsX6_rulesIn := List.mem_of_getElem? (i := 1) rfl
theorem kX6_rulesIn_2 : Cond.fieldLink RX6 31 "ParityRulesModel" "state" "[I" ∈ wsX6_rulesIn := List.mem_of_getElem? (i := 2) rfl
theorem kX6_rulesIn_6 : Cond.initialized RX6 ∈ wsX6_rulesIn := List.mem_of_getElem? (i := 6) rfl
theorem kX6_rulesIn_8 : Cond.fieldLink RX6 25 "ParityRulesModel" "leading" "[I" ∈ wsX6_rulesIn := List.mem_of_getElem? (i := 8) rfl
theorem kX6_rulesIn_9 : Cond.fieldLink RX6 28 "ParityRulesModel" "which" "[I" ∈ wsX6_rulesIn := List.mem_of_getElem? (i := 9) rfl
theorem kX6_rulesIn_10 : Cond.fieldLink RX6 34 "ParityRulesModel" "reason" "[I" ∈ wsX6_rulesIn := List.mem_of_getElem? (i := 10) rfl
theorem kX6_rulesIn_11 : Cond.fieldLink RX6 71 "ParityRulesModel" "made" "I" ∈ wsX6_rulesIn := List.mem_of_getElem? (i := 11) rfl
theorem kX6_rulesIn_12 : Cond.fieldLink RX6 68 "ParityRulesModel" "left" "I" ∈ wsX6_rulesIn := List.mem_of_getElem? (i := 12) rfl
theorem hX6_rulesIn_X6 : ∀ w ∈ wsX60, w ∈ wsX6_rulesIn := fun w h => List.mem_cons_of_mem _ (List.mem_append_right _ h)
theorem kX6_answers_1 : Cond.fieldLink RX6 7 "ParityRulesModel" "all" "[I" ∈ wsX6_answers := List.mem_of_getElem? (i := 1) rfl
theorem kX6_answers_5 : Cond.initialized RX6 ∈ wsX6_answers := List.mem_of_getElem? (i := 5) rfl
theorem kX6_answers_7 : Cond.fieldLink RX6 31 "ParityRulesModel" "state" "[I" ∈ wsX6_answers := List.mem_of_getElem? (i := 7) rfl
theorem kX6_answers_12 : Cond.fieldLink RX6 25 "ParityRulesModel" "leading" "[I" ∈ wsX6_answers := List.mem_of_getElem? (i := 12) rfl
theorem kX6_answers_13 : Cond.fieldLink RX6 28 "ParityRulesModel" "which" "[I" ∈ wsX6_answers := List.mem_of_getElem? (i := 13) rfl
theorem kX6_answers_14 : Cond.fieldLink RX6 34 "ParityRulesModel" "reason" "[I" ∈ wsX6_answers := List.mem_of_getElem? (i := 14) rfl
theorem kX6_answers_15 : Cond.fieldLink RX6 71 "ParityRulesModel" "made" "I" ∈ wsX6_answers := List.mem_of_getElem? (i := 15) rfl
theorem kX6_answers_16 : Cond.fieldLink RX6 68 "ParityRulesModel" "left" "I" ∈ wsX6_answers := List.mem_of_getElem? (i := 16) rfl
theorem hX6_answers_X6 : ∀ w ∈ wsX60, w ∈ wsX6_answers := fun w h => List.mem_cons_of_mem _ (List.mem_append_right _ h)
theorem kX6_isAnswer_1 : Cond.fieldLink RX6 7 "ParityRulesModel" "all" "[I" ∈ wsX6_isAnswer := List.mem_of_getElem? (i := 1) rfl
theorem kX6_isAnswer_2 : Cond.fieldLink RX6 31 "ParityRulesModel" "state" "[I" ∈ wsX6_isAnswer := List.mem_of_getElem? (i := 2) rfl
theorem kX6_isAnswer_6 : Cond.initialized RX6 ∈ wsX6_isAnswer := List.mem_of_getElem? (i := 6) rfl
theorem kX6_isAnswer_9 : Cond.static yX6_odd ∈ wsX6_isAnswer := List.mem_of_getElem? (i := 9) rfl
theorem kX6_isAnswer_12 : Cond.static yX6_bits ∈ wsX6_isAnswer := List.mem_of_getElem? (i := 12) rfl
theorem hX6_isAnswer_X6 : ∀ w ∈ wsX60, w ∈ wsX6_isAnswer := fun w h => List.mem_cons_of_mem _ (List.mem_append_right _ h)
theorem kX6_knownOf_1 : Cond.fieldLink RX6 68 "ParityRulesModel" "left" "I" ∈ wsX6_knownOf := List.mem_of_getElem? (i := 1) rfl
theorem kX6_knownOf_2 : Cond.fieldLink RX6 71 "ParityRulesModel" "made" "I" ∈ wsX6_knownOf := List.mem_of_getElem? (i := 2) rfl
theorem kX6_knownOf_6 : Cond.initialized RX6 ∈ wsX6_knownOf := List.mem_of_getElem? (i := 6) rfl
theorem kX6_knownOf_8 : Cond.fieldLink RX6 25 "ParityRulesModel" "leading" "[I" ∈ wsX6_knownOf := List.mem_of_getElem? (i := 8) rfl
theorem kX6_knownOf_9 : Cond.fieldLink RX6 28 "ParityRulesModel" "which" "[I" ∈ wsX6_knownOf := List.mem_of_getElem? (i := 9) rfl
theorem kX6_knownOf_14 : Cond.fieldLink RX6 7 "ParityRulesModel" "all" "[I" ∈ wsX6_knownOf := List.mem_of_getElem? (i := 14) rfl
theorem hX6_knownOf_X6 : ∀ w ∈ wsX60, w ∈ wsX6_knownOf := fun w h => List.mem_cons_of_mem _ (List.mem_append_right _ h)
theorem kX6_choices_1 : Cond.constantLong RX6 95 (12) ∈ wsX6_choices := List.mem_of_getElem? (i := 1) rfl
theorem kX6_choices_2 : Cond.fieldLink RX6 7 "ParityRulesModel" "all" "[I" ∈ wsX6_choices := List.mem_of_getElem? (i := 2) rfl
theorem kX6_choices_4 : Cond.static yX6_in ∈ wsX6_choices := List.mem_of_getElem? (i := 4) rfl
theorem kX6_choices_5 : Cond.initialized RX6 ∈ wsX6_choices := List.mem_of_getElem? (i := 5) rfl
theorem kX6_choices_11 : Cond.fieldLink RX6 13 "ParityRulesModel" "kept" "[I" ∈ wsX6_choices := List.mem_of_getElem? (i := 11) rfl
theorem kX6_choices_16 : Cond.fieldLink RX6 49 "ParityRulesModel" "historyLong" "I" ∈ wsX6_choices := List.mem_of_getElem? (i := 16) rfl
theorem kX6_choices_17 : Cond.fieldLink RX6 16 "ParityRulesModel" "history" "[I" ∈ wsX6_choices := List.mem_of_getElem? (i := 17) rfl
theorem hX6_choices_X6 : ∀ w ∈ wsX60, w ∈ wsX6_choices := fun w h => List.mem_cons_of_mem _ (List.mem_append_right _ h)
theorem kX6_adds_1 : Cond.fieldLink RX6 7 "ParityRulesModel" "all" "[I" ∈ wsX6_adds := List.mem_of_getElem? (i := 1) rfl
theorem hX6_adds_X6 : ∀ w ∈ wsX60, w ∈ wsX6_adds := fun w h => List.mem_cons_of_mem _ (List.mem_append_right _ h)
theorem kX6_tell_1 : Cond.fieldLink RX6 7 "ParityRulesModel" "all" "[I" ∈ wsX6_tell := List.mem_of_getElem? (i := 1) rfl
theorem kX6_tell_2 : Cond.fieldLink RX6 31 "ParityRulesModel" "state" "[I" ∈ wsX6_tell := List.mem_of_getElem? (i := 2) rfl
theorem kX6_tell_6 : Cond.initialized RX6 ∈ wsX6_tell := List.mem_of_getElem? (i := 6) rfl
theorem kX6_tell_13 : Cond.static yX6_in ∈ wsX6_tell := List.mem_of_getElem? (i := 13) rfl
theorem kX6_tell_19 : Cond.fieldLink RX6 13 "ParityRulesModel" "kept" "[I" ∈ wsX6_tell := List.mem_of_getElem? (i := 19) rfl
theorem kX6_tell_28 : Cond.fieldLink RX6 25 "ParityRulesModel" "leading" "[I" ∈ wsX6_tell := List.mem_of_getElem? (i := 28) rfl
theorem kX6_tell_29 : Cond.fieldLink RX6 28 "ParityRulesModel" "which" "[I" ∈ wsX6_tell := List.mem_of_getElem? (i := 29) rfl
theorem kX6_tell_30 : Cond.fieldLink RX6 34 "ParityRulesModel" "reason" "[I" ∈ wsX6_tell := List.mem_of_getElem? (i := 30) rfl
theorem kX6_tell_31 : Cond.fieldLink RX6 71 "ParityRulesModel" "made" "I" ∈ wsX6_tell := List.mem_of_getElem? (i := 31) rfl
theorem kX6_tell_32 : Cond.fieldLink RX6 68 "ParityRulesModel" "left" "I" ∈ wsX6_tell := List.mem_of_getElem? (i := 32) rfl
theorem kX6_tell_49 : Cond.fieldLink RX6 49 "ParityRulesModel" "historyLong" "I" ∈ wsX6_tell := List.mem_of_getElem? (i := 49) rfl
theorem kX6_tell_50 : Cond.fieldLink RX6 16 "ParityRulesModel" "history" "[I" ∈ wsX6_tell := List.mem_of_getElem? (i := 50) rfl
theorem hX6_tell_X6 : ∀ w ∈ wsX60, w ∈ wsX6_tell := fun w h => List.mem_cons_of_mem _ (List.mem_append_right _ h)
theorem kX6_takesOut_1 : Cond.fieldLink RX6 7 "ParityRulesModel" "all" "[I" ∈ wsX6_takesOut := List.mem_of_getElem? (i := 1) rfl
theorem hX6_takesOut_X6 : ∀ w ∈ wsX60, w ∈ wsX6_takesOut := fun w h => List.mem_cons_of_mem _ (List.mem_append_right _ h)
theorem kX6_putsIn_1 : Cond.fieldLink RX6 7 "ParityRulesModel" "all" "[I" ∈ wsX6_putsIn := List.mem_of_getElem? (i := 1) rfl
theorem hX6_putsIn_X6 : ∀ w ∈ wsX60, w ∈ wsX6_putsIn := fun w h => List.mem_cons_of_mem _ (List.mem_append_right _ h)
theorem kX6_moves_1 : Cond.fieldLink RX6 7 "ParityRulesModel" "all" "[I" ∈ wsX6_moves := List.mem_of_getElem? (i := 1) rfl
theorem kX6_moves_5 : Cond.initialized RX6 ∈ wsX6_moves := List.mem_of_getElem? (i := 5) rfl
theorem hX6_moves_X6 : ∀ w ∈ wsX60, w ∈ wsX6_moves := fun w h => List.mem_cons_of_mem _ (List.mem_append_right _ h)
theorem kX6_drop_1 : Cond.fieldLink RX6 7 "ParityRulesModel" "all" "[I" ∈ wsX6_drop := List.mem_of_getElem? (i := 1) rfl
theorem kX6_drop_5 : Cond.initialized RX6 ∈ wsX6_drop := List.mem_of_getElem? (i := 5) rfl
theorem kX6_drop_8 : Cond.static yX6_in ∈ wsX6_drop := List.mem_of_getElem? (i := 8) rfl
theorem kX6_drop_14 : Cond.fieldLink RX6 13 "ParityRulesModel" "kept" "[I" ∈ wsX6_drop := List.mem_of_getElem? (i := 14) rfl
theorem kX6_drop_23 : Cond.fieldLink RX6 49 "ParityRulesModel" "historyLong" "I" ∈ wsX6_drop := List.mem_of_getElem? (i := 23) rfl
theorem kX6_drop_24 : Cond.fieldLink RX6 16 "ParityRulesModel" "history" "[I" ∈ wsX6_drop := List.mem_of_getElem? (i := 24) rfl
theorem hX6_drop_X6 : ∀ w ∈ wsX60, w ∈ wsX6_drop := fun w h => List.mem_cons_of_mem _ (List.mem_append_right _ h)
theorem kX6_move_1 : Cond.fieldLink RX6 7 "ParityRulesModel" "all" "[I" ∈ wsX6_move := List.mem_of_getElem? (i := 1) rfl
theorem kX6_move_2 : Cond.fieldLink RX6 37 "ParityRulesModel" "had" "[I" ∈ wsX6_move := List.mem_of_getElem? (i := 2) rfl
theorem kX6_move_3 : Cond.fieldLink RX6 31 "ParityRulesModel" "state" "[I" ∈ wsX6_move := List.mem_of_getElem? (i := 3) rfl
theorem kX6_move_7 : Cond.initialized RX6 ∈ wsX6_move := List.mem_of_getElem? (i := 7) rfl
theorem kX6_move_10 : Cond.static yX6_in ∈ wsX6_move := List.mem_of_getElem? (i := 10) rfl
theorem kX6_move_16 : Cond.fieldLink RX6 13 "ParityRulesModel" "kept" "[I" ∈ wsX6_move := List.mem_of_getElem? (i := 16) rfl
theorem kX6_move_21 : Cond.fieldLink RX6 25 "ParityRulesModel" "leading" "[I" ∈ wsX6_move := List.mem_of_getElem? (i := 21) rfl
theorem kX6_move_22 : Cond.fieldLink RX6 28 "ParityRulesModel" "which" "[I" ∈ wsX6_move := List.mem_of_getElem? (i := 22) rfl
theorem kX6_move_23 : Cond.fieldLink RX6 34 "ParityRulesModel" "reason" "[I" ∈ wsX6_move := List.mem_of_getElem? (i := 23) rfl
theorem kX6_move_24 : Cond.fieldLink RX6 71 "ParityRulesModel" "made" "I" ∈ wsX6_move := List.mem_of_getElem? (i := 24) rfl
theorem kX6_move_25 : Cond.fieldLink RX6 68 "ParityRulesModel" "left" "I" ∈ wsX6_move := List.mem_of_getElem? (i := 25) rfl
theorem kX6_move_54 : Cond.fieldLink RX6 49 "ParityRulesModel" "historyLong" "I" ∈ wsX6_move := List.mem_of_getElem? (i := 54) rfl
theorem kX6_move_55 : Cond.fieldLink RX6 16 "ParityRulesModel" "history" "[I" ∈ wsX6_move := List.mem_of_getElem? (i := 55) rfl
theorem hX6_move_X6 : ∀ w ∈ wsX60, w ∈ wsX6_move := fun w h => List.mem_cons_of_mem _ (List.mem_append_right _ h)
theorem kX6_turn_1 : Cond.fieldLink RX6 7 "ParityRulesModel" "all" "[I" ∈ wsX6_turn := List.mem_of_getElem? (i := 1) rfl
theorem kX6_turn_2 : Cond.fieldLink RX6 31 "ParityRulesModel" "state" "[I" ∈ wsX6_turn := List.mem_of_getElem? (i := 2) rfl
theorem kX6_turn_6 : Cond.initialized RX6 ∈ wsX6_turn := List.mem_of_getElem? (i := 6) rfl
theorem kX6_turn_9 : Cond.static yX6_in ∈ wsX6_turn := List.mem_of_getElem? (i := 9) rfl
theorem kX6_turn_15 : Cond.fieldLink RX6 13 "ParityRulesModel" "kept" "[I" ∈ wsX6_turn := List.mem_of_getElem? (i := 15) rfl
theorem kX6_turn_20 : Cond.fieldLink RX6 25 "ParityRulesModel" "leading" "[I" ∈ wsX6_turn := List.mem_of_getElem? (i := 20) rfl
theorem kX6_turn_21 : Cond.fieldLink RX6 28 "ParityRulesModel" "which" "[I" ∈ wsX6_turn := List.mem_of_getElem? (i := 21) rfl
theorem kX6_turn_22 : Cond.fieldLink RX6 34 "ParityRulesModel" "reason" "[I" ∈ wsX6_turn := List.mem_of_getElem? (i := 22) rfl
theorem kX6_turn_23 : Cond.fieldLink RX6 71 "ParityRulesModel" "made" "I" ∈ wsX6_turn := List.mem_of_getElem? (i := 23) rfl
theorem kX6_turn_24 : Cond.fieldLink RX6 68 "ParityRulesModel" "left" "I" ∈ wsX6_turn := List.mem_of_getElem? (i := 24) rfl
theorem kX6_turn_41 : Cond.fieldLink RX6 49 "ParityRulesModel" "historyLong" "I" ∈ wsX6_turn := List.mem_of_getElem? (i := 41) rfl
theorem kX6_turn_42 : Cond.fieldLink RX6 16 "ParityRulesModel" "history" "[I" ∈ wsX6_turn := List.mem_of_getElem? (i := 42) rfl
theorem hX6_turn_X6 : ∀ w ∈ wsX60, w ∈ wsX6_turn := fun w h => List.mem_cons_of_mem _ (List.mem_append_right _ h)
theorem kX6_reasonsWith_1 : Cond.fieldLink RX6 7 "ParityRulesModel" "all" "[I" ∈ wsX6_reasonsWith := List.mem_of_getElem? (i := 1) rfl
theorem kX6_reasonsWith_2 : Cond.fieldLink RX6 31 "ParityRulesModel" "state" "[I" ∈ wsX6_reasonsWith := List.mem_of_getElem? (i := 2) rfl
theorem kX6_reasonsWith_3 : Cond.fieldLink RX6 34 "ParityRulesModel" "reason" "[I" ∈ wsX6_reasonsWith := List.mem_of_getElem? (i := 3) rfl
theorem hX6_reasonsWith_X6 : ∀ w ∈ wsX60, w ∈ wsX6_reasonsWith := fun w h => List.mem_cons_of_mem _ (List.mem_append_right _ h)
theorem kX6_rule_1 : Cond.fieldLink RX6 7 "ParityRulesModel" "all" "[I" ∈ wsX6_rule := List.mem_of_getElem? (i := 1) rfl
theorem kX6_rule_2 : Cond.fieldLink RX6 31 "ParityRulesModel" "state" "[I" ∈ wsX6_rule := List.mem_of_getElem? (i := 2) rfl
theorem kX6_rule_3 : Cond.fieldLink RX6 34 "ParityRulesModel" "reason" "[I" ∈ wsX6_rule := List.mem_of_getElem? (i := 3) rfl
theorem kX6_rule_7 : Cond.initialized RX6 ∈ wsX6_rule := List.mem_of_getElem? (i := 7) rfl
theorem kX6_rule_10 : Cond.static yX6_in ∈ wsX6_rule := List.mem_of_getElem? (i := 10) rfl
theorem kX6_rule_16 : Cond.fieldLink RX6 25 "ParityRulesModel" "leading" "[I" ∈ wsX6_rule := List.mem_of_getElem? (i := 16) rfl
theorem kX6_rule_17 : Cond.fieldLink RX6 28 "ParityRulesModel" "which" "[I" ∈ wsX6_rule := List.mem_of_getElem? (i := 17) rfl
theorem kX6_rule_18 : Cond.fieldLink RX6 71 "ParityRulesModel" "made" "I" ∈ wsX6_rule := List.mem_of_getElem? (i := 18) rfl
theorem kX6_rule_19 : Cond.fieldLink RX6 68 "ParityRulesModel" "left" "I" ∈ wsX6_rule := List.mem_of_getElem? (i := 19) rfl
theorem hX6_rule_X6 : ∀ w ∈ wsX60, w ∈ wsX6_rule := fun w h => List.mem_cons_of_mem _ (List.mem_append_right _ h)
theorem kX6_rulesWith_1 : Cond.fieldLink RX6 7 "ParityRulesModel" "all" "[I" ∈ wsX6_rulesWith := List.mem_of_getElem? (i := 1) rfl
theorem hX6_rulesWith_X6 : ∀ w ∈ wsX60, w ∈ wsX6_rulesWith := fun w h => List.mem_cons_of_mem _ (List.mem_append_right _ h)
theorem kX6_tiedTo_1 : Cond.fieldLink RX6 7 "ParityRulesModel" "all" "[I" ∈ wsX6_tiedTo := List.mem_of_getElem? (i := 1) rfl
theorem kX6_tiedTo_5 : Cond.initialized RX6 ∈ wsX6_tiedTo := List.mem_of_getElem? (i := 5) rfl
theorem kX6_tiedTo_7 : Cond.fieldLink RX6 68 "ParityRulesModel" "left" "I" ∈ wsX6_tiedTo := List.mem_of_getElem? (i := 7) rfl
theorem kX6_tiedTo_8 : Cond.fieldLink RX6 71 "ParityRulesModel" "made" "I" ∈ wsX6_tiedTo := List.mem_of_getElem? (i := 8) rfl
theorem kX6_tiedTo_13 : Cond.fieldLink RX6 25 "ParityRulesModel" "leading" "[I" ∈ wsX6_tiedTo := List.mem_of_getElem? (i := 13) rfl
theorem kX6_tiedTo_14 : Cond.fieldLink RX6 28 "ParityRulesModel" "which" "[I" ∈ wsX6_tiedTo := List.mem_of_getElem? (i := 14) rfl
theorem hX6_tiedTo_X6 : ∀ w ∈ wsX60, w ∈ wsX6_tiedTo := fun w h => List.mem_cons_of_mem _ (List.mem_append_right _ h)
theorem kX6_choice_1 : Cond.fieldLink RX6 7 "ParityRulesModel" "all" "[I" ∈ wsX6_choice := List.mem_of_getElem? (i := 1) rfl
theorem kX6_choice_3 : Cond.static yX6_in ∈ wsX6_choice := List.mem_of_getElem? (i := 3) rfl
theorem kX6_choice_4 : Cond.initialized RX6 ∈ wsX6_choice := List.mem_of_getElem? (i := 4) rfl
theorem kX6_choice_10 : Cond.fieldLink RX6 25 "ParityRulesModel" "leading" "[I" ∈ wsX6_choice := List.mem_of_getElem? (i := 10) rfl
theorem kX6_choice_11 : Cond.fieldLink RX6 28 "ParityRulesModel" "which" "[I" ∈ wsX6_choice := List.mem_of_getElem? (i := 11) rfl
theorem kX6_choice_12 : Cond.fieldLink RX6 31 "ParityRulesModel" "state" "[I" ∈ wsX6_choice := List.mem_of_getElem? (i := 12) rfl
theorem kX6_choice_13 : Cond.fieldLink RX6 34 "ParityRulesModel" "reason" "[I" ∈ wsX6_choice := List.mem_of_getElem? (i := 13) rfl
theorem kX6_choice_14 : Cond.fieldLink RX6 71 "ParityRulesModel" "made" "I" ∈ wsX6_choice := List.mem_of_getElem? (i := 14) rfl
theorem kX6_choice_15 : Cond.fieldLink RX6 68 "ParityRulesModel" "left" "I" ∈ wsX6_choice := List.mem_of_getElem? (i := 15) rfl
theorem hX6_choice_X6 : ∀ w ∈ wsX60, w ∈ wsX6_choice := fun w h => List.mem_cons_of_mem _ (List.mem_append_right _ h)
theorem kX6_settled_1 : Cond.fieldLink RX6 7 "ParityRulesModel" "all" "[I" ∈ wsX6_settled := List.mem_of_getElem? (i := 1) rfl
theorem kX6_settled_5 : Cond.initialized RX6 ∈ wsX6_settled := List.mem_of_getElem? (i := 5) rfl
theorem kX6_settled_7 : Cond.fieldLink RX6 25 "ParityRulesModel" "leading" "[I" ∈ wsX6_settled := List.mem_of_getElem? (i := 7) rfl
theorem kX6_settled_8 : Cond.fieldLink RX6 28 "ParityRulesModel" "which" "[I" ∈ wsX6_settled := List.mem_of_getElem? (i := 8) rfl
theorem kX6_settled_9 : Cond.fieldLink RX6 31 "ParityRulesModel" "state" "[I" ∈ wsX6_settled := List.mem_of_getElem? (i := 9) rfl
theorem kX6_settled_10 : Cond.fieldLink RX6 34 "ParityRulesModel" "reason" "[I" ∈ wsX6_settled := List.mem_of_getElem? (i := 10) rfl
theorem kX6_settled_11 : Cond.fieldLink RX6 71 "ParityRulesModel" "made" "I" ∈ wsX6_settled := List.mem_of_getElem? (i := 11) rfl
theorem kX6_settled_12 : Cond.fieldLink RX6 68 "ParityRulesModel" "left" "I" ∈ wsX6_settled := List.mem_of_getElem? (i := 12) rfl
theorem hX6_settled_X6 : ∀ w ∈ wsX60, w ∈ wsX6_settled := fun w h => List.mem_cons_of_mem _ (List.mem_append_right _ h)
theorem kX6_count_1 : Cond.fieldLink RX6 7 "ParityRulesModel" "all" "[I" ∈ wsX6_count := List.mem_of_getElem? (i := 1) rfl
theorem kX6_count_2 : Cond.fieldLink RX6 142 "ParityRulesModel" "padLong" "I" ∈ wsX6_count := List.mem_of_getElem? (i := 2) rfl
theorem kX6_count_3 : Cond.fieldLink RX6 49 "ParityRulesModel" "historyLong" "I" ∈ wsX6_count := List.mem_of_getElem? (i := 3) rfl
theorem kX6_count_7 : Cond.initialized RX6 ∈ wsX6_count := List.mem_of_getElem? (i := 7) rfl
theorem kX6_count_9 : Cond.fieldLink RX6 31 "ParityRulesModel" "state" "[I" ∈ wsX6_count := List.mem_of_getElem? (i := 9) rfl
theorem kX6_count_14 : Cond.fieldLink RX6 25 "ParityRulesModel" "leading" "[I" ∈ wsX6_count := List.mem_of_getElem? (i := 14) rfl
theorem kX6_count_15 : Cond.fieldLink RX6 28 "ParityRulesModel" "which" "[I" ∈ wsX6_count := List.mem_of_getElem? (i := 15) rfl
theorem kX6_count_16 : Cond.fieldLink RX6 34 "ParityRulesModel" "reason" "[I" ∈ wsX6_count := List.mem_of_getElem? (i := 16) rfl
theorem kX6_count_17 : Cond.fieldLink RX6 71 "ParityRulesModel" "made" "I" ∈ wsX6_count := List.mem_of_getElem? (i := 17) rfl
theorem kX6_count_18 : Cond.fieldLink RX6 68 "ParityRulesModel" "left" "I" ∈ wsX6_count := List.mem_of_getElem? (i := 18) rfl
theorem hX6_count_X6 : ∀ w ∈ wsX60, w ∈ wsX6_count := fun w h => List.mem_cons_of_mem _ (List.mem_append_right _ h)
theorem kX6_answer_4 : Cond.initialized RX6 ∈ wsX6_answer := List.mem_of_getElem? (i := 4) rfl
theorem kX6_answer_6 : Cond.fieldLink RX6 7 "ParityRulesModel" "all" "[I" ∈ wsX6_answer := List.mem_of_getElem? (i := 6) rfl
theorem kX6_answer_11 : Cond.fieldLink RX6 31 "ParityRulesModel" "state" "[I" ∈ wsX6_answer := List.mem_of_getElem? (i := 11) rfl
theorem kX6_answer_16 : Cond.fieldLink RX6 25 "ParityRulesModel" "leading" "[I" ∈ wsX6_answer := List.mem_of_getElem? (i := 16) rfl
theorem kX6_answer_17 : Cond.fieldLink RX6 28 "ParityRulesModel" "which" "[I" ∈ wsX6_answer := List.mem_of_getElem? (i := 17) rfl
theorem kX6_answer_18 : Cond.fieldLink RX6 34 "ParityRulesModel" "reason" "[I" ∈ wsX6_answer := List.mem_of_getElem? (i := 18) rfl
theorem kX6_answer_19 : Cond.fieldLink RX6 71 "ParityRulesModel" "made" "I" ∈ wsX6_answer := List.mem_of_getElem? (i := 19) rfl
theorem kX6_answer_20 : Cond.fieldLink RX6 68 "ParityRulesModel" "left" "I" ∈ wsX6_answer := List.mem_of_getElem? (i := 20) rfl
theorem kX6_answer_34 : Cond.static yX6_in ∈ wsX6_answer := List.mem_of_getElem? (i := 34) rfl
theorem kX6_answer_45 : Cond.static yX6_odd ∈ wsX6_answer := List.mem_of_getElem? (i := 45) rfl
theorem kX6_answer_48 : Cond.static yX6_bits ∈ wsX6_answer := List.mem_of_getElem? (i := 48) rfl
theorem hX6_answer_X6 : ∀ w ∈ wsX60, w ∈ wsX6_answer := fun w h => List.mem_cons_of_mem _ (List.mem_append_right _ h)
theorem kX6_known_4 : Cond.initialized RX6 ∈ wsX6_known := List.mem_of_getElem? (i := 4) rfl
theorem kX6_known_6 : Cond.fieldLink RX6 25 "ParityRulesModel" "leading" "[I" ∈ wsX6_known := List.mem_of_getElem? (i := 6) rfl
theorem kX6_known_7 : Cond.fieldLink RX6 28 "ParityRulesModel" "which" "[I" ∈ wsX6_known := List.mem_of_getElem? (i := 7) rfl
theorem kX6_known_8 : Cond.fieldLink RX6 7 "ParityRulesModel" "all" "[I" ∈ wsX6_known := List.mem_of_getElem? (i := 8) rfl
theorem kX6_known_9 : Cond.fieldLink RX6 31 "ParityRulesModel" "state" "[I" ∈ wsX6_known := List.mem_of_getElem? (i := 9) rfl
theorem kX6_known_10 : Cond.fieldLink RX6 34 "ParityRulesModel" "reason" "[I" ∈ wsX6_known := List.mem_of_getElem? (i := 10) rfl
theorem kX6_known_11 : Cond.fieldLink RX6 71 "ParityRulesModel" "made" "I" ∈ wsX6_known := List.mem_of_getElem? (i := 11) rfl
theorem kX6_known_12 : Cond.fieldLink RX6 68 "ParityRulesModel" "left" "I" ∈ wsX6_known := List.mem_of_getElem? (i := 12) rfl
theorem kX6_known_30 : Cond.static yX6_in ∈ wsX6_known := List.mem_of_getElem? (i := 30) rfl
theorem hX6_known_X6 : ∀ w ∈ wsX60, w ∈ wsX6_known := fun w h => List.mem_cons_of_mem _ (List.mem_append_right _ h)
theorem kX6_nearest_4 : Cond.initialized RX6 ∈ wsX6_nearest := List.mem_of_getElem? (i := 4) rfl
theorem kX6_nearest_6 : Cond.fieldLink RX6 7 "ParityRulesModel" "all" "[I" ∈ wsX6_nearest := List.mem_of_getElem? (i := 6) rfl
theorem kX6_nearest_8 : Cond.static yX6_in ∈ wsX6_nearest := List.mem_of_getElem? (i := 8) rfl
theorem kX6_nearest_14 : Cond.fieldLink RX6 25 "ParityRulesModel" "leading" "[I" ∈ wsX6_nearest := List.mem_of_getElem? (i := 14) rfl
theorem kX6_nearest_15 : Cond.fieldLink RX6 28 "ParityRulesModel" "which" "[I" ∈ wsX6_nearest := List.mem_of_getElem? (i := 15) rfl
theorem kX6_nearest_16 : Cond.fieldLink RX6 31 "ParityRulesModel" "state" "[I" ∈ wsX6_nearest := List.mem_of_getElem? (i := 16) rfl
theorem kX6_nearest_17 : Cond.fieldLink RX6 34 "ParityRulesModel" "reason" "[I" ∈ wsX6_nearest := List.mem_of_getElem? (i := 17) rfl
theorem kX6_nearest_18 : Cond.fieldLink RX6 71 "ParityRulesModel" "made" "I" ∈ wsX6_nearest := List.mem_of_getElem? (i := 18) rfl
theorem kX6_nearest_19 : Cond.fieldLink RX6 68 "ParityRulesModel" "left" "I" ∈ wsX6_nearest := List.mem_of_getElem? (i := 19) rfl
theorem kX6_nearest_33 : Cond.static yX6_bits ∈ wsX6_nearest := List.mem_of_getElem? (i := 33) rfl
theorem kX6_nearest_44 : Cond.static yX6_odd ∈ wsX6_nearest := List.mem_of_getElem? (i := 44) rfl
theorem hX6_nearest_X6 : ∀ w ∈ wsX60, w ∈ wsX6_nearest := fun w h => List.mem_cons_of_mem _ (List.mem_append_right _ h)
theorem kX6_broken_1 : Cond.fieldLink RX6 7 "ParityRulesModel" "all" "[I" ∈ wsX6_broken := List.mem_of_getElem? (i := 1) rfl
theorem kX6_broken_5 : Cond.initialized RX6 ∈ wsX6_broken := List.mem_of_getElem? (i := 5) rfl
theorem kX6_broken_8 : Cond.static yX6_odd ∈ wsX6_broken := List.mem_of_getElem? (i := 8) rfl
theorem kX6_broken_11 : Cond.static yX6_bits ∈ wsX6_broken := List.mem_of_getElem? (i := 11) rfl
theorem hX6_broken_X6 : ∀ w ∈ wsX60, w ∈ wsX6_broken := fun w h => List.mem_cons_of_mem _ (List.mem_append_right _ h)
theorem kX6_best_1 : Cond.constantLong RX6 148 (2) ∈ wsX6_best := List.mem_of_getElem? (i := 1) rfl
theorem kX6_best_3 : Cond.static yX6_in ∈ wsX6_best := List.mem_of_getElem? (i := 3) rfl
theorem kX6_best_4 : Cond.initialized RX6 ∈ wsX6_best := List.mem_of_getElem? (i := 4) rfl
theorem kX6_best_10 : Cond.fieldLink RX6 7 "ParityRulesModel" "all" "[I" ∈ wsX6_best := List.mem_of_getElem? (i := 10) rfl
theorem kX6_best_20 : Cond.static yX6_odd ∈ wsX6_best := List.mem_of_getElem? (i := 20) rfl
theorem kX6_best_23 : Cond.static yX6_bits ∈ wsX6_best := List.mem_of_getElem? (i := 23) rfl
theorem hX6_best_X6 : ∀ w ∈ wsX60, w ∈ wsX6_best := fun w h => List.mem_cons_of_mem _ (List.mem_append_right _ h)
theorem kX6_ifTold_4 : Cond.initialized RX6 ∈ wsX6_ifTold := List.mem_of_getElem? (i := 4) rfl
theorem kX6_ifTold_10 : Cond.fieldLink RX6 7 "ParityRulesModel" "all" "[I" ∈ wsX6_ifTold := List.mem_of_getElem? (i := 10) rfl
theorem kX6_ifTold_12 : Cond.static yX6_in ∈ wsX6_ifTold := List.mem_of_getElem? (i := 12) rfl
theorem kX6_ifTold_18 : Cond.fieldLink RX6 25 "ParityRulesModel" "leading" "[I" ∈ wsX6_ifTold := List.mem_of_getElem? (i := 18) rfl
theorem kX6_ifTold_19 : Cond.fieldLink RX6 28 "ParityRulesModel" "which" "[I" ∈ wsX6_ifTold := List.mem_of_getElem? (i := 19) rfl
theorem kX6_ifTold_20 : Cond.fieldLink RX6 31 "ParityRulesModel" "state" "[I" ∈ wsX6_ifTold := List.mem_of_getElem? (i := 20) rfl
theorem kX6_ifTold_21 : Cond.fieldLink RX6 34 "ParityRulesModel" "reason" "[I" ∈ wsX6_ifTold := List.mem_of_getElem? (i := 21) rfl
theorem kX6_ifTold_22 : Cond.fieldLink RX6 71 "ParityRulesModel" "made" "I" ∈ wsX6_ifTold := List.mem_of_getElem? (i := 22) rfl
theorem kX6_ifTold_23 : Cond.fieldLink RX6 68 "ParityRulesModel" "left" "I" ∈ wsX6_ifTold := List.mem_of_getElem? (i := 23) rfl
theorem hX6_ifTold_X6 : ∀ w ∈ wsX60, w ∈ wsX6_ifTold := fun w h => List.mem_cons_of_mem _ (List.mem_append_right _ h)
theorem kX6_ifDropped_4 : Cond.initialized RX6 ∈ wsX6_ifDropped := List.mem_of_getElem? (i := 4) rfl
theorem kX6_ifDropped_6 : Cond.fieldLink RX6 7 "ParityRulesModel" "all" "[I" ∈ wsX6_ifDropped := List.mem_of_getElem? (i := 6) rfl
theorem kX6_ifDropped_8 : Cond.static yX6_in ∈ wsX6_ifDropped := List.mem_of_getElem? (i := 8) rfl
theorem kX6_ifDropped_14 : Cond.fieldLink RX6 13 "ParityRulesModel" "kept" "[I" ∈ wsX6_ifDropped := List.mem_of_getElem? (i := 14) rfl
theorem kX6_ifDropped_27 : Cond.fieldLink RX6 31 "ParityRulesModel" "state" "[I" ∈ wsX6_ifDropped := List.mem_of_getElem? (i := 27) rfl
theorem kX6_ifDropped_32 : Cond.fieldLink RX6 25 "ParityRulesModel" "leading" "[I" ∈ wsX6_ifDropped := List.mem_of_getElem? (i := 32) rfl
theorem kX6_ifDropped_33 : Cond.fieldLink RX6 28 "ParityRulesModel" "which" "[I" ∈ wsX6_ifDropped := List.mem_of_getElem? (i := 33) rfl
theorem kX6_ifDropped_34 : Cond.fieldLink RX6 34 "ParityRulesModel" "reason" "[I" ∈ wsX6_ifDropped := List.mem_of_getElem? (i := 34) rfl
theorem kX6_ifDropped_35 : Cond.fieldLink RX6 71 "ParityRulesModel" "made" "I" ∈ wsX6_ifDropped := List.mem_of_getElem? (i := 35) rfl
theorem kX6_ifDropped_36 : Cond.fieldLink RX6 68 "ParityRulesModel" "left" "I" ∈ wsX6_ifDropped := List.mem_of_getElem? (i := 36) rfl
theorem hX6_ifDropped_X6 : ∀ w ∈ wsX60, w ∈ wsX6_ifDropped := fun w h => List.mem_cons_of_mem _ (List.mem_append_right _ h)
theorem kX6_ifMoved_4 : Cond.initialized RX6 ∈ wsX6_ifMoved := List.mem_of_getElem? (i := 4) rfl
theorem kX6_ifMoved_6 : Cond.fieldLink RX6 7 "ParityRulesModel" "all" "[I" ∈ wsX6_ifMoved := List.mem_of_getElem? (i := 6) rfl
theorem kX6_ifMoved_8 : Cond.static yX6_in ∈ wsX6_ifMoved := List.mem_of_getElem? (i := 8) rfl
theorem kX6_ifMoved_14 : Cond.fieldLink RX6 13 "ParityRulesModel" "kept" "[I" ∈ wsX6_ifMoved := List.mem_of_getElem? (i := 14) rfl
theorem kX6_ifMoved_31 : Cond.fieldLink RX6 31 "ParityRulesModel" "state" "[I" ∈ wsX6_ifMoved := List.mem_of_getElem? (i := 31) rfl
theorem kX6_ifMoved_36 : Cond.fieldLink RX6 25 "ParityRulesModel" "leading" "[I" ∈ wsX6_ifMoved := List.mem_of_getElem? (i := 36) rfl
theorem kX6_ifMoved_37 : Cond.fieldLink RX6 28 "ParityRulesModel" "which" "[I" ∈ wsX6_ifMoved := List.mem_of_getElem? (i := 37) rfl
theorem kX6_ifMoved_38 : Cond.fieldLink RX6 34 "ParityRulesModel" "reason" "[I" ∈ wsX6_ifMoved := List.mem_of_getElem? (i := 38) rfl
theorem kX6_ifMoved_39 : Cond.fieldLink RX6 71 "ParityRulesModel" "made" "I" ∈ wsX6_ifMoved := List.mem_of_getElem? (i := 39) rfl
theorem kX6_ifMoved_40 : Cond.fieldLink RX6 68 "ParityRulesModel" "left" "I" ∈ wsX6_ifMoved := List.mem_of_getElem? (i := 40) rfl
theorem hX6_ifMoved_X6 : ∀ w ∈ wsX60, w ∈ wsX6_ifMoved := fun w h => List.mem_cons_of_mem _ (List.mem_append_right _ h)
theorem kX6_put_1 : Cond.constantLong RX6 156 (255) ∈ wsX6_put := List.mem_of_getElem? (i := 1) rfl
theorem kX6_put_2 : Cond.constantLong RX6 158 (33) ∈ wsX6_put := List.mem_of_getElem? (i := 2) rfl
theorem kX6_put_3 : Cond.constantLong RX6 160 (126) ∈ wsX6_put := List.mem_of_getElem? (i := 3) rfl
theorem kX6_put_4 : Cond.fieldLink RX6 142 "ParityRulesModel" "padLong" "I" ∈ wsX6_put := List.mem_of_getElem? (i := 4) rfl
theorem kX6_put_5 : Cond.fieldLink RX6 40 "ParityRulesModel" "pad" "[I" ∈ wsX6_put := List.mem_of_getElem? (i := 5) rfl
theorem kX6_put_7 : Cond.static yX6_in ∈ wsX6_put := List.mem_of_getElem? (i := 7) rfl
theorem kX6_put_8 : Cond.initialized RX6 ∈ wsX6_put := List.mem_of_getElem? (i := 8) rfl
theorem hX6_put_X6 : ∀ w ∈ wsX60, w ∈ wsX6_put := fun w h => List.mem_cons_of_mem _ (List.mem_append_right _ h)
theorem kX6_wipe_1 : Cond.fieldLink RX6 142 "ParityRulesModel" "padLong" "I" ∈ wsX6_wipe := List.mem_of_getElem? (i := 1) rfl
theorem hX6_wipe_X6 : ∀ w ∈ wsX60, w ∈ wsX6_wipe := fun w h => List.mem_cons_of_mem _ (List.mem_append_right _ h)
theorem kX6_isHere_1 : Cond.fieldLink RX6 162 "ParityRulesModel" "spot" "I" ∈ wsX6_isHere := List.mem_of_getElem? (i := 1) rfl
theorem kX6_isHere_2 : Cond.fieldLink RX6 142 "ParityRulesModel" "padLong" "I" ∈ wsX6_isHere := List.mem_of_getElem? (i := 2) rfl
theorem kX6_isHere_3 : Cond.fieldLink RX6 40 "ParityRulesModel" "pad" "[I" ∈ wsX6_isHere := List.mem_of_getElem? (i := 3) rfl
theorem kX6_isHere_5 : Cond.static yX6_in ∈ wsX6_isHere := List.mem_of_getElem? (i := 5) rfl
theorem kX6_isHere_6 : Cond.initialized RX6 ∈ wsX6_isHere := List.mem_of_getElem? (i := 6) rfl
theorem hX6_isHere_X6 : ∀ w ∈ wsX60, w ∈ wsX6_isHere := fun w h => List.mem_cons_of_mem _ (List.mem_append_right _ h)
theorem kX6_takes_1 : Cond.fieldLink RX6 162 "ParityRulesModel" "spot" "I" ∈ wsX6_takes := List.mem_of_getElem? (i := 1) rfl
theorem kX6_takes_5 : Cond.initialized RX6 ∈ wsX6_takes := List.mem_of_getElem? (i := 5) rfl
theorem kX6_takes_7 : Cond.fieldLink RX6 142 "ParityRulesModel" "padLong" "I" ∈ wsX6_takes := List.mem_of_getElem? (i := 7) rfl
theorem kX6_takes_8 : Cond.fieldLink RX6 40 "ParityRulesModel" "pad" "[I" ∈ wsX6_takes := List.mem_of_getElem? (i := 8) rfl
theorem kX6_takes_10 : Cond.static yX6_in ∈ wsX6_takes := List.mem_of_getElem? (i := 10) rfl
theorem hX6_takes_X6 : ∀ w ∈ wsX60, w ∈ wsX6_takes := fun w h => List.mem_cons_of_mem _ (List.mem_append_right _ h)
theorem kX6_readsChoice_1 : Cond.fieldLink RX6 40 "ParityRulesModel" "pad" "[I" ∈ wsX6_readsChoice := List.mem_of_getElem? (i := 1) rfl
theorem kX6_readsChoice_2 : Cond.fieldLink RX6 162 "ParityRulesModel" "spot" "I" ∈ wsX6_readsChoice := List.mem_of_getElem? (i := 2) rfl
theorem kX6_readsChoice_3 : Cond.fieldLink RX6 168 "ParityRulesModel" "last" "I" ∈ wsX6_readsChoice := List.mem_of_getElem? (i := 3) rfl
theorem kX6_readsChoice_7 : Cond.initialized RX6 ∈ wsX6_readsChoice := List.mem_of_getElem? (i := 7) rfl
theorem kX6_readsChoice_9 : Cond.fieldLink RX6 142 "ParityRulesModel" "padLong" "I" ∈ wsX6_readsChoice := List.mem_of_getElem? (i := 9) rfl
theorem kX6_readsChoice_11 : Cond.static yX6_in ∈ wsX6_readsChoice := List.mem_of_getElem? (i := 11) rfl
theorem hX6_readsChoice_X6 : ∀ w ∈ wsX60, w ∈ wsX6_readsChoice := fun w h => List.mem_cons_of_mem _ (List.mem_append_right _ h)
theorem kX6_readsRule_1 : Cond.fieldLink RX6 168 "ParityRulesModel" "last" "I" ∈ wsX6_readsRule := List.mem_of_getElem? (i := 1) rfl
theorem kX6_readsRule_2 : Cond.fieldLink RX6 43 "ParityRulesModel" "readSet" "[I" ∈ wsX6_readsRule := List.mem_of_getElem? (i := 2) rfl
theorem kX6_readsRule_3 : Cond.fieldLink RX6 178 "ParityRulesModel" "readMany" "I" ∈ wsX6_readsRule := List.mem_of_getElem? (i := 3) rfl
theorem kX6_readsRule_4 : Cond.fieldLink RX6 46 "ParityRulesModel" "readSum" "[I" ∈ wsX6_readsRule := List.mem_of_getElem? (i := 4) rfl
theorem kX6_readsRule_5 : Cond.fieldLink RX6 40 "ParityRulesModel" "pad" "[I" ∈ wsX6_readsRule := List.mem_of_getElem? (i := 5) rfl
theorem kX6_readsRule_6 : Cond.fieldLink RX6 162 "ParityRulesModel" "spot" "I" ∈ wsX6_readsRule := List.mem_of_getElem? (i := 6) rfl
theorem kX6_readsRule_10 : Cond.initialized RX6 ∈ wsX6_readsRule := List.mem_of_getElem? (i := 10) rfl
theorem kX6_readsRule_16 : Cond.fieldLink RX6 142 "ParityRulesModel" "padLong" "I" ∈ wsX6_readsRule := List.mem_of_getElem? (i := 16) rfl
theorem kX6_readsRule_18 : Cond.static yX6_in ∈ wsX6_readsRule := List.mem_of_getElem? (i := 18) rfl
theorem hX6_readsRule_X6 : ∀ w ∈ wsX60, w ∈ wsX6_readsRule := fun w h => List.mem_cons_of_mem _ (List.mem_append_right _ h)
theorem kX6_fault_1 : Cond.fieldLink RX6 162 "ParityRulesModel" "spot" "I" ∈ wsX6_fault := List.mem_of_getElem? (i := 1) rfl
theorem kX6_fault_2 : Cond.fieldLink RX6 178 "ParityRulesModel" "readMany" "I" ∈ wsX6_fault := List.mem_of_getElem? (i := 2) rfl
theorem kX6_fault_3 : Cond.fieldLink RX6 142 "ParityRulesModel" "padLong" "I" ∈ wsX6_fault := List.mem_of_getElem? (i := 3) rfl
theorem kX6_fault_7 : Cond.initialized RX6 ∈ wsX6_fault := List.mem_of_getElem? (i := 7) rfl
theorem kX6_fault_9 : Cond.fieldLink RX6 168 "ParityRulesModel" "last" "I" ∈ wsX6_fault := List.mem_of_getElem? (i := 9) rfl
theorem kX6_fault_10 : Cond.fieldLink RX6 43 "ParityRulesModel" "readSet" "[I" ∈ wsX6_fault := List.mem_of_getElem? (i := 10) rfl
theorem kX6_fault_11 : Cond.fieldLink RX6 46 "ParityRulesModel" "readSum" "[I" ∈ wsX6_fault := List.mem_of_getElem? (i := 11) rfl
theorem kX6_fault_12 : Cond.fieldLink RX6 40 "ParityRulesModel" "pad" "[I" ∈ wsX6_fault := List.mem_of_getElem? (i := 12) rfl
theorem kX6_fault_22 : Cond.static yX6_in ∈ wsX6_fault := List.mem_of_getElem? (i := 22) rfl
theorem hX6_fault_X6 : ∀ w ∈ wsX60, w ∈ wsX6_fault := fun w h => List.mem_cons_of_mem _ (List.mem_append_right _ h)
theorem kX6_read_1 : Cond.fieldLink RX6 178 "ParityRulesModel" "readMany" "I" ∈ wsX6_read := List.mem_of_getElem? (i := 1) rfl
theorem kX6_read_2 : Cond.fieldLink RX6 43 "ParityRulesModel" "readSet" "[I" ∈ wsX6_read := List.mem_of_getElem? (i := 2) rfl
theorem kX6_read_3 : Cond.fieldLink RX6 7 "ParityRulesModel" "all" "[I" ∈ wsX6_read := List.mem_of_getElem? (i := 3) rfl
theorem kX6_read_4 : Cond.fieldLink RX6 46 "ParityRulesModel" "readSum" "[I" ∈ wsX6_read := List.mem_of_getElem? (i := 4) rfl
theorem kX6_read_5 : Cond.fieldLink RX6 142 "ParityRulesModel" "padLong" "I" ∈ wsX6_read := List.mem_of_getElem? (i := 5) rfl
theorem kX6_read_9 : Cond.initialized RX6 ∈ wsX6_read := List.mem_of_getElem? (i := 9) rfl
theorem kX6_read_11 : Cond.fieldLink RX6 162 "ParityRulesModel" "spot" "I" ∈ wsX6_read := List.mem_of_getElem? (i := 11) rfl
theorem kX6_read_16 : Cond.fieldLink RX6 168 "ParityRulesModel" "last" "I" ∈ wsX6_read := List.mem_of_getElem? (i := 16) rfl
theorem kX6_read_17 : Cond.fieldLink RX6 40 "ParityRulesModel" "pad" "[I" ∈ wsX6_read := List.mem_of_getElem? (i := 17) rfl
theorem kX6_read_27 : Cond.static yX6_in ∈ wsX6_read := List.mem_of_getElem? (i := 27) rfl
theorem kX6_read_45 : Cond.fieldLink RX6 13 "ParityRulesModel" "kept" "[I" ∈ wsX6_read := List.mem_of_getElem? (i := 45) rfl
theorem kX6_read_54 : Cond.fieldLink RX6 49 "ParityRulesModel" "historyLong" "I" ∈ wsX6_read := List.mem_of_getElem? (i := 54) rfl
theorem kX6_read_55 : Cond.fieldLink RX6 16 "ParityRulesModel" "history" "[I" ∈ wsX6_read := List.mem_of_getElem? (i := 55) rfl
theorem hX6_read_X6 : ∀ w ∈ wsX60, w ∈ wsX6_read := fun w h => List.mem_cons_of_mem _ (List.mem_append_right _ h)
theorem kX6_undo_1 : Cond.fieldLink RX6 49 "ParityRulesModel" "historyLong" "I" ∈ wsX6_undo := List.mem_of_getElem? (i := 1) rfl
theorem kX6_undo_2 : Cond.fieldLink RX6 7 "ParityRulesModel" "all" "[I" ∈ wsX6_undo := List.mem_of_getElem? (i := 2) rfl
theorem kX6_undo_3 : Cond.fieldLink RX6 16 "ParityRulesModel" "history" "[I" ∈ wsX6_undo := List.mem_of_getElem? (i := 3) rfl
theorem hX6_undo_X6 : ∀ w ∈ wsX60, w ∈ wsX6_undo := fun w h => List.mem_cons_of_mem _ (List.mem_append_right _ h)
theorem kX6_save_1 : Cond.fieldLink RX6 19 "ParityRulesModel" "slots" "[I" ∈ wsX6_save := List.mem_of_getElem? (i := 1) rfl
theorem kX6_save_2 : Cond.fieldLink RX6 7 "ParityRulesModel" "all" "[I" ∈ wsX6_save := List.mem_of_getElem? (i := 2) rfl
theorem kX6_save_3 : Cond.fieldLink RX6 22 "ParityRulesModel" "isSaved" "[I" ∈ wsX6_save := List.mem_of_getElem? (i := 3) rfl
theorem kX6_save_5 : Cond.static yX6_in ∈ wsX6_save := List.mem_of_getElem? (i := 5) rfl
theorem kX6_save_6 : Cond.initialized RX6 ∈ wsX6_save := List.mem_of_getElem? (i := 6) rfl
theorem hX6_save_X6 : ∀ w ∈ wsX60, w ∈ wsX6_save := fun w h => List.mem_cons_of_mem _ (List.mem_append_right _ h)
theorem kX6_restore_1 : Cond.fieldLink RX6 22 "ParityRulesModel" "isSaved" "[I" ∈ wsX6_restore := List.mem_of_getElem? (i := 1) rfl
theorem kX6_restore_2 : Cond.fieldLink RX6 7 "ParityRulesModel" "all" "[I" ∈ wsX6_restore := List.mem_of_getElem? (i := 2) rfl
theorem kX6_restore_3 : Cond.fieldLink RX6 19 "ParityRulesModel" "slots" "[I" ∈ wsX6_restore := List.mem_of_getElem? (i := 3) rfl
theorem kX6_restore_5 : Cond.static yX6_in ∈ wsX6_restore := List.mem_of_getElem? (i := 5) rfl
theorem kX6_restore_6 : Cond.initialized RX6 ∈ wsX6_restore := List.mem_of_getElem? (i := 6) rfl
theorem kX6_restore_12 : Cond.fieldLink RX6 13 "ParityRulesModel" "kept" "[I" ∈ wsX6_restore := List.mem_of_getElem? (i := 12) rfl
theorem kX6_restore_17 : Cond.fieldLink RX6 49 "ParityRulesModel" "historyLong" "I" ∈ wsX6_restore := List.mem_of_getElem? (i := 17) rfl
theorem kX6_restore_18 : Cond.fieldLink RX6 16 "ParityRulesModel" "history" "[I" ∈ wsX6_restore := List.mem_of_getElem? (i := 18) rfl
theorem hX6_restore_X6 : ∀ w ∈ wsX60, w ∈ wsX6_restore := fun w h => List.mem_cons_of_mem _ (List.mem_append_right _ h)
theorem eX0_init : yX0_init.cls = RX0 ∧ yX0_init.cls ≠ "java/lang/invoke/MethodHandle" ∧ yX0_init.cls ≠ "java/lang/invoke/VarHandle" ∧ (parseMethodDescriptor yX0_init.desc).map (fun d => d.parameters.length) = some 0 := ⟨rfl, by decide +kernel, by decide +kernel, by decide +kernel⟩
theorem eX0_find : yX0_find.cls = RX0 ∧ yX0_find.cls ≠ "java/lang/invoke/MethodHandle" ∧ yX0_find.cls ≠ "java/lang/invoke/VarHandle" ∧ (parseMethodDescriptor yX0_find.desc).map (fun d => d.parameters.length) = some 1 := ⟨rfl, by decide +kernel, by decide +kernel, by decide +kernel⟩
theorem eX0_brokenByNone : yX0_brokenByNone.cls = RX0 ∧ yX0_brokenByNone.cls ≠ "java/lang/invoke/MethodHandle" ∧ yX0_brokenByNone.cls ≠ "java/lang/invoke/VarHandle" ∧ (parseMethodDescriptor yX0_brokenByNone.desc).map (fun d => d.parameters.length) = some 1 := ⟨rfl, by decide +kernel, by decide +kernel, by decide +kernel⟩
theorem eX0_fillExchanges : yX0_fillExchanges.cls = RX0 ∧ yX0_fillExchanges.cls ≠ "java/lang/invoke/MethodHandle" ∧ yX0_fillExchanges.cls ≠ "java/lang/invoke/VarHandle" ∧ (parseMethodDescriptor yX0_fillExchanges.desc).map (fun d => d.parameters.length) = some 1 := ⟨rfl, by decide +kernel, by decide +kernel, by decide +kernel⟩
theorem eX1_init : yX1_init.cls = RX1 ∧ yX1_init.cls ≠ "java/lang/invoke/MethodHandle" ∧ yX1_init.cls ≠ "java/lang/invoke/VarHandle" ∧ (parseMethodDescriptor yX1_init.desc).map (fun d => d.parameters.length) = some 0 := ⟨rfl, by decide +kernel, by decide +kernel, by decide +kernel⟩
theorem eX1_remember : yX1_remember.cls = RX1 ∧ yX1_remember.cls ≠ "java/lang/invoke/MethodHandle" ∧ yX1_remember.cls ≠ "java/lang/invoke/VarHandle" ∧ (parseMethodDescriptor yX1_remember.desc).map (fun d => d.parameters.length) = some 1 := ⟨rfl, by decide +kernel, by decide +kernel, by decide +kernel⟩
theorem eX1_dropOldest : yX1_dropOldest.cls = RX1 ∧ yX1_dropOldest.cls ≠ "java/lang/invoke/MethodHandle" ∧ yX1_dropOldest.cls ≠ "java/lang/invoke/VarHandle" ∧ (parseMethodDescriptor yX1_dropOldest.desc).map (fun d => d.parameters.length) = some 0 := ⟨rfl, by decide +kernel, by decide +kernel, by decide +kernel⟩
theorem eX1_giveBack : yX1_giveBack.cls = RX1 ∧ yX1_giveBack.cls ≠ "java/lang/invoke/MethodHandle" ∧ yX1_giveBack.cls ≠ "java/lang/invoke/VarHandle" ∧ (parseMethodDescriptor yX1_giveBack.desc).map (fun d => d.parameters.length) = some 1 := ⟨rfl, by decide +kernel, by decide +kernel, by decide +kernel⟩
theorem eX2_init : yX2_init.cls = RX2 ∧ yX2_init.cls ≠ "java/lang/invoke/MethodHandle" ∧ yX2_init.cls ≠ "java/lang/invoke/VarHandle" ∧ (parseMethodDescriptor yX2_init.desc).map (fun d => d.parameters.length) = some 0 := ⟨rfl, by decide +kernel, by decide +kernel, by decide +kernel⟩
theorem eX2_append : yX2_append.cls = RX2 ∧ yX2_append.cls ≠ "java/lang/invoke/MethodHandle" ∧ yX2_append.cls ≠ "java/lang/invoke/VarHandle" ∧ (parseMethodDescriptor yX2_append.desc).map (fun d => d.parameters.length) = some 1 := ⟨rfl, by decide +kernel, by decide +kernel, by decide +kernel⟩
theorem eX2_readInto : yX2_readInto.cls = RX2 ∧ yX2_readInto.cls ≠ "java/lang/invoke/MethodHandle" ∧ yX2_readInto.cls ≠ "java/lang/invoke/VarHandle" ∧ (parseMethodDescriptor yX2_readInto.desc).map (fun d => d.parameters.length) = some 1 := ⟨rfl, by decide +kernel, by decide +kernel, by decide +kernel⟩
theorem eX2_startRule : yX2_startRule.cls = RX2 ∧ yX2_startRule.cls ≠ "java/lang/invoke/MethodHandle" ∧ yX2_startRule.cls ≠ "java/lang/invoke/VarHandle" ∧ (parseMethodDescriptor yX2_startRule.desc).map (fun d => d.parameters.length) = some 0 := ⟨rfl, by decide +kernel, by decide +kernel, by decide +kernel⟩
theorem eX2_canStand : yX2_canStand.cls = RX2 ∧ yX2_canStand.cls ≠ "java/lang/invoke/MethodHandle" ∧ yX2_canStand.cls ≠ "java/lang/invoke/VarHandle" ∧ (parseMethodDescriptor yX2_canStand.desc).map (fun d => d.parameters.length) = some 2 := ⟨rfl, by decide +kernel, by decide +kernel, by decide +kernel⟩
theorem eX2_canStartChoice : yX2_canStartChoice.cls = RX2 ∧ yX2_canStartChoice.cls ≠ "java/lang/invoke/MethodHandle" ∧ yX2_canStartChoice.cls ≠ "java/lang/invoke/VarHandle" ∧ (parseMethodDescriptor yX2_canStartChoice.desc).map (fun d => d.parameters.length) = some 1 := ⟨rfl, by decide +kernel, by decide +kernel, by decide +kernel⟩
theorem eX2_canStandInChoice : yX2_canStandInChoice.cls = RX2 ∧ yX2_canStandInChoice.cls ≠ "java/lang/invoke/MethodHandle" ∧ yX2_canStandInChoice.cls ≠ "java/lang/invoke/VarHandle" ∧ (parseMethodDescriptor yX2_canStandInChoice.desc).map (fun d => d.parameters.length) = some 1 := ⟨rfl, by decide +kernel, by decide +kernel, by decide +kernel⟩
theorem eX2_canBeSum : yX2_canBeSum.cls = RX2 ∧ yX2_canBeSum.cls ≠ "java/lang/invoke/MethodHandle" ∧ yX2_canBeSum.cls ≠ "java/lang/invoke/VarHandle" ∧ (parseMethodDescriptor yX2_canBeSum.desc).map (fun d => d.parameters.length) = some 2 := ⟨rfl, by decide +kernel, by decide +kernel, by decide +kernel⟩
theorem eX3_init : yX3_init.cls = RX3 ∧ yX3_init.cls ≠ "java/lang/invoke/MethodHandle" ∧ yX3_init.cls ≠ "java/lang/invoke/VarHandle" ∧ (parseMethodDescriptor yX3_init.desc).map (fun d => d.parameters.length) = some 0 := ⟨rfl, by decide +kernel, by decide +kernel, by decide +kernel⟩
theorem eX3_hasPlace : yX3_hasPlace.cls = RX3 ∧ yX3_hasPlace.cls ≠ "java/lang/invoke/MethodHandle" ∧ yX3_hasPlace.cls ≠ "java/lang/invoke/VarHandle" ∧ (parseMethodDescriptor yX3_hasPlace.desc).map (fun d => d.parameters.length) = some 1 := ⟨rfl, by decide +kernel, by decide +kernel, by decide +kernel⟩
theorem eX3_hasSet : yX3_hasSet.cls = RX3 ∧ yX3_hasSet.cls ≠ "java/lang/invoke/MethodHandle" ∧ yX3_hasSet.cls ≠ "java/lang/invoke/VarHandle" ∧ (parseMethodDescriptor yX3_hasSet.desc).map (fun d => d.parameters.length) = some 1 := ⟨rfl, by decide +kernel, by decide +kernel, by decide +kernel⟩
theorem eX3_setsStayBelow : yX3_setsStayBelow.cls = RX3 ∧ yX3_setsStayBelow.cls ≠ "java/lang/invoke/MethodHandle" ∧ yX3_setsStayBelow.cls ≠ "java/lang/invoke/VarHandle" ∧ (parseMethodDescriptor yX3_setsStayBelow.desc).map (fun d => d.parameters.length) = some 1 := ⟨rfl, by decide +kernel, by decide +kernel, by decide +kernel⟩
theorem eX3_rulesWith : yX3_rulesWith.cls = RX3 ∧ yX3_rulesWith.cls ≠ "java/lang/invoke/MethodHandle" ∧ yX3_rulesWith.cls ≠ "java/lang/invoke/VarHandle" ∧ (parseMethodDescriptor yX3_rulesWith.desc).map (fun d => d.parameters.length) = some 1 := ⟨rfl, by decide +kernel, by decide +kernel, by decide +kernel⟩
theorem eX3_become : yX3_become.cls = RX3 ∧ yX3_become.cls ≠ "java/lang/invoke/MethodHandle" ∧ yX3_become.cls ≠ "java/lang/invoke/VarHandle" ∧ (parseMethodDescriptor yX3_become.desc).map (fun d => d.parameters.length) = some 1 := ⟨rfl, by decide +kernel, by decide +kernel, by decide +kernel⟩
theorem eX3_append : yX3_append.cls = RX3 ∧ yX3_append.cls ≠ "java/lang/invoke/MethodHandle" ∧ yX3_append.cls ≠ "java/lang/invoke/VarHandle" ∧ (parseMethodDescriptor yX3_append.desc).map (fun d => d.parameters.length) = some 2 := ⟨rfl, by decide +kernel, by decide +kernel, by decide +kernel⟩
theorem eX3_carryRule : yX3_carryRule.cls = RX3 ∧ yX3_carryRule.cls ≠ "java/lang/invoke/MethodHandle" ∧ yX3_carryRule.cls ≠ "java/lang/invoke/VarHandle" ∧ (parseMethodDescriptor yX3_carryRule.desc).map (fun d => d.parameters.length) = some 2 := ⟨rfl, by decide +kernel, by decide +kernel, by decide +kernel⟩
theorem eX3_takeOut : yX3_takeOut.cls = RX3 ∧ yX3_takeOut.cls ≠ "java/lang/invoke/MethodHandle" ∧ yX3_takeOut.cls ≠ "java/lang/invoke/VarHandle" ∧ (parseMethodDescriptor yX3_takeOut.desc).map (fun d => d.parameters.length) = some 1 := ⟨rfl, by decide +kernel, by decide +kernel, by decide +kernel⟩
theorem eX4_init : yX4_init.cls = RX4 ∧ yX4_init.cls ≠ "java/lang/invoke/MethodHandle" ∧ yX4_init.cls ≠ "java/lang/invoke/VarHandle" ∧ (parseMethodDescriptor yX4_init.desc).map (fun d => d.parameters.length) = some 0 := ⟨rfl, by decide +kernel, by decide +kernel, by decide +kernel⟩
theorem eX4_judge : yX4_judge.cls = RX4 ∧ yX4_judge.cls ≠ "java/lang/invoke/MethodHandle" ∧ yX4_judge.cls ≠ "java/lang/invoke/VarHandle" ∧ (parseMethodDescriptor yX4_judge.desc).map (fun d => d.parameters.length) = some 1 := ⟨rfl, by decide +kernel, by decide +kernel, by decide +kernel⟩
theorem eX4_judgeNext : yX4_judgeNext.cls = RX4 ∧ yX4_judgeNext.cls ≠ "java/lang/invoke/MethodHandle" ∧ yX4_judgeNext.cls ≠ "java/lang/invoke/VarHandle" ∧ (parseMethodDescriptor yX4_judgeNext.desc).map (fun d => d.parameters.length) = some 2 := ⟨rfl, by decide +kernel, by decide +kernel, by decide +kernel⟩
theorem eX4_stateOf : yX4_stateOf.cls = RX4 ∧ yX4_stateOf.cls ≠ "java/lang/invoke/MethodHandle" ∧ yX4_stateOf.cls ≠ "java/lang/invoke/VarHandle" ∧ (parseMethodDescriptor yX4_stateOf.desc).map (fun d => d.parameters.length) = some 2 := ⟨rfl, by decide +kernel, by decide +kernel, by decide +kernel⟩
theorem eX4_sumOf : yX4_sumOf.cls = RX4 ∧ yX4_sumOf.cls ≠ "java/lang/invoke/MethodHandle" ∧ yX4_sumOf.cls ≠ "java/lang/invoke/VarHandle" ∧ (parseMethodDescriptor yX4_sumOf.desc).map (fun d => d.parameters.length) = some 1 := ⟨rfl, by decide +kernel, by decide +kernel, by decide +kernel⟩
theorem eX4_combine : yX4_combine.cls = RX4 ∧ yX4_combine.cls ≠ "java/lang/invoke/MethodHandle" ∧ yX4_combine.cls ≠ "java/lang/invoke/VarHandle" ∧ (parseMethodDescriptor yX4_combine.desc).map (fun d => d.parameters.length) = some 2 := ⟨rfl, by decide +kernel, by decide +kernel, by decide +kernel⟩
theorem eX4_reasonsWith : yX4_reasonsWith.cls = RX4 ∧ yX4_reasonsWith.cls ≠ "java/lang/invoke/MethodHandle" ∧ yX4_reasonsWith.cls ≠ "java/lang/invoke/VarHandle" ∧ (parseMethodDescriptor yX4_reasonsWith.desc).map (fun d => d.parameters.length) = some 1 := ⟨rfl, by decide +kernel, by decide +kernel, by decide +kernel⟩
theorem eX4_settled : yX4_settled.cls = RX4 ∧ yX4_settled.cls ≠ "java/lang/invoke/MethodHandle" ∧ yX4_settled.cls ≠ "java/lang/invoke/VarHandle" ∧ (parseMethodDescriptor yX4_settled.desc).map (fun d => d.parameters.length) = some 0 := ⟨rfl, by decide +kernel, by decide +kernel, by decide +kernel⟩
theorem eX4_boundTo : yX4_boundTo.cls = RX4 ∧ yX4_boundTo.cls ≠ "java/lang/invoke/MethodHandle" ∧ yX4_boundTo.cls ≠ "java/lang/invoke/VarHandle" ∧ (parseMethodDescriptor yX4_boundTo.desc).map (fun d => d.parameters.length) = some 1 := ⟨rfl, by decide +kernel, by decide +kernel, by decide +kernel⟩
theorem eX4_answers : yX4_answers.cls = RX4 ∧ yX4_answers.cls ≠ "java/lang/invoke/MethodHandle" ∧ yX4_answers.cls ≠ "java/lang/invoke/VarHandle" ∧ (parseMethodDescriptor yX4_answers.desc).map (fun d => d.parameters.length) = some 0 := ⟨rfl, by decide +kernel, by decide +kernel, by decide +kernel⟩
theorem eX4_answerAt : yX4_answerAt.cls = RX4 ∧ yX4_answerAt.cls ≠ "java/lang/invoke/MethodHandle" ∧ yX4_answerAt.cls ≠ "java/lang/invoke/VarHandle" ∧ (parseMethodDescriptor yX4_answerAt.desc).map (fun d => d.parameters.length) = some 1 := ⟨rfl, by decide +kernel, by decide +kernel, by decide +kernel⟩
theorem eX4_nearestTo : yX4_nearestTo.cls = RX4 ∧ yX4_nearestTo.cls ≠ "java/lang/invoke/MethodHandle" ∧ yX4_nearestTo.cls ≠ "java/lang/invoke/VarHandle" ∧ (parseMethodDescriptor yX4_nearestTo.desc).map (fun d => d.parameters.length) = some 1 := ⟨rfl, by decide +kernel, by decide +kernel, by decide +kernel⟩
theorem eX4_fillExchanges : yX4_fillExchanges.cls = RX4 ∧ yX4_fillExchanges.cls ≠ "java/lang/invoke/MethodHandle" ∧ yX4_fillExchanges.cls ≠ "java/lang/invoke/VarHandle" ∧ (parseMethodDescriptor yX4_fillExchanges.desc).map (fun d => d.parameters.length) = some 0 := ⟨rfl, by decide +kernel, by decide +kernel, by decide +kernel⟩
theorem eX5_init : yX5_init.cls = RX5 ∧ yX5_init.cls ≠ "java/lang/invoke/MethodHandle" ∧ yX5_init.cls ≠ "java/lang/invoke/VarHandle" ∧ (parseMethodDescriptor yX5_init.desc).map (fun d => d.parameters.length) = some 0 := ⟨rfl, by decide +kernel, by decide +kernel, by decide +kernel⟩
theorem eX5_choices : yX5_choices.cls = RX5 ∧ yX5_choices.cls ≠ "java/lang/invoke/MethodHandle" ∧ yX5_choices.cls ≠ "java/lang/invoke/VarHandle" ∧ (parseMethodDescriptor yX5_choices.desc).map (fun d => d.parameters.length) = some 1 := ⟨rfl, by decide +kernel, by decide +kernel, by decide +kernel⟩
theorem eX5_tell : yX5_tell.cls = RX5 ∧ yX5_tell.cls ≠ "java/lang/invoke/MethodHandle" ∧ yX5_tell.cls ≠ "java/lang/invoke/VarHandle" ∧ (parseMethodDescriptor yX5_tell.desc).map (fun d => d.parameters.length) = some 2 := ⟨rfl, by decide +kernel, by decide +kernel, by decide +kernel⟩
theorem eX5_drop : yX5_drop.cls = RX5 ∧ yX5_drop.cls ≠ "java/lang/invoke/MethodHandle" ∧ yX5_drop.cls ≠ "java/lang/invoke/VarHandle" ∧ (parseMethodDescriptor yX5_drop.desc).map (fun d => d.parameters.length) = some 1 := ⟨rfl, by decide +kernel, by decide +kernel, by decide +kernel⟩
theorem eX5_move : yX5_move.cls = RX5 ∧ yX5_move.cls ≠ "java/lang/invoke/MethodHandle" ∧ yX5_move.cls ≠ "java/lang/invoke/VarHandle" ∧ (parseMethodDescriptor yX5_move.desc).map (fun d => d.parameters.length) = some 2 := ⟨rfl, by decide +kernel, by decide +kernel, by decide +kernel⟩
theorem eX5_turn : yX5_turn.cls = RX5 ∧ yX5_turn.cls ≠ "java/lang/invoke/MethodHandle" ∧ yX5_turn.cls ≠ "java/lang/invoke/VarHandle" ∧ (parseMethodDescriptor yX5_turn.desc).map (fun d => d.parameters.length) = some 1 := ⟨rfl, by decide +kernel, by decide +kernel, by decide +kernel⟩
theorem eX5_read : yX5_read.cls = RX5 ∧ yX5_read.cls ≠ "java/lang/invoke/MethodHandle" ∧ yX5_read.cls ≠ "java/lang/invoke/VarHandle" ∧ (parseMethodDescriptor yX5_read.desc).map (fun d => d.parameters.length) = some 0 := ⟨rfl, by decide +kernel, by decide +kernel, by decide +kernel⟩
theorem eX5_rule : yX5_rule.cls = RX5 ∧ yX5_rule.cls ≠ "java/lang/invoke/MethodHandle" ∧ yX5_rule.cls ≠ "java/lang/invoke/VarHandle" ∧ (parseMethodDescriptor yX5_rule.desc).map (fun d => d.parameters.length) = some 2 := ⟨rfl, by decide +kernel, by decide +kernel, by decide +kernel⟩
theorem eX5_choice : yX5_choice.cls = RX5 ∧ yX5_choice.cls ≠ "java/lang/invoke/MethodHandle" ∧ yX5_choice.cls ≠ "java/lang/invoke/VarHandle" ∧ (parseMethodDescriptor yX5_choice.desc).map (fun d => d.parameters.length) = some 2 := ⟨rfl, by decide +kernel, by decide +kernel, by decide +kernel⟩
theorem eX5_count : yX5_count.cls = RX5 ∧ yX5_count.cls ≠ "java/lang/invoke/MethodHandle" ∧ yX5_count.cls ≠ "java/lang/invoke/VarHandle" ∧ (parseMethodDescriptor yX5_count.desc).map (fun d => d.parameters.length) = some 1 := ⟨rfl, by decide +kernel, by decide +kernel, by decide +kernel⟩
theorem eX5_answer : yX5_answer.cls = RX5 ∧ yX5_answer.cls ≠ "java/lang/invoke/MethodHandle" ∧ yX5_answer.cls ≠ "java/lang/invoke/VarHandle" ∧ (parseMethodDescriptor yX5_answer.desc).map (fun d => d.parameters.length) = some 1 := ⟨rfl, by decide +kernel, by decide +kernel, by decide +kernel⟩
theorem eX5_known : yX5_known.cls = RX5 ∧ yX5_known.cls ≠ "java/lang/invoke/MethodHandle" ∧ yX5_known.cls ≠ "java/lang/invoke/VarHandle" ∧ (parseMethodDescriptor yX5_known.desc).map (fun d => d.parameters.length) = some 1 := ⟨rfl, by decide +kernel, by decide +kernel, by decide +kernel⟩
theorem eX5_nearest : yX5_nearest.cls = RX5 ∧ yX5_nearest.cls ≠ "java/lang/invoke/MethodHandle" ∧ yX5_nearest.cls ≠ "java/lang/invoke/VarHandle" ∧ (parseMethodDescriptor yX5_nearest.desc).map (fun d => d.parameters.length) = some 2 := ⟨rfl, by decide +kernel, by decide +kernel, by decide +kernel⟩
theorem eX5_best : yX5_best.cls = RX5 ∧ yX5_best.cls ≠ "java/lang/invoke/MethodHandle" ∧ yX5_best.cls ≠ "java/lang/invoke/VarHandle" ∧ (parseMethodDescriptor yX5_best.desc).map (fun d => d.parameters.length) = some 1 := ⟨rfl, by decide +kernel, by decide +kernel, by decide +kernel⟩
theorem eX5_ifTold : yX5_ifTold.cls = RX5 ∧ yX5_ifTold.cls ≠ "java/lang/invoke/MethodHandle" ∧ yX5_ifTold.cls ≠ "java/lang/invoke/VarHandle" ∧ (parseMethodDescriptor yX5_ifTold.desc).map (fun d => d.parameters.length) = some 2 := ⟨rfl, by decide +kernel, by decide +kernel, by decide +kernel⟩
theorem eX5_ifDropped : yX5_ifDropped.cls = RX5 ∧ yX5_ifDropped.cls ≠ "java/lang/invoke/MethodHandle" ∧ yX5_ifDropped.cls ≠ "java/lang/invoke/VarHandle" ∧ (parseMethodDescriptor yX5_ifDropped.desc).map (fun d => d.parameters.length) = some 1 := ⟨rfl, by decide +kernel, by decide +kernel, by decide +kernel⟩
theorem eX5_ifMoved : yX5_ifMoved.cls = RX5 ∧ yX5_ifMoved.cls ≠ "java/lang/invoke/MethodHandle" ∧ yX5_ifMoved.cls ≠ "java/lang/invoke/VarHandle" ∧ (parseMethodDescriptor yX5_ifMoved.desc).map (fun d => d.parameters.length) = some 2 := ⟨rfl, by decide +kernel, by decide +kernel, by decide +kernel⟩
theorem eX5_put : yX5_put.cls = RX5 ∧ yX5_put.cls ≠ "java/lang/invoke/MethodHandle" ∧ yX5_put.cls ≠ "java/lang/invoke/VarHandle" ∧ (parseMethodDescriptor yX5_put.desc).map (fun d => d.parameters.length) = some 1 := ⟨rfl, by decide +kernel, by decide +kernel, by decide +kernel⟩
theorem eX5_wipe : yX5_wipe.cls = RX5 ∧ yX5_wipe.cls ≠ "java/lang/invoke/MethodHandle" ∧ yX5_wipe.cls ≠ "java/lang/invoke/VarHandle" ∧ (parseMethodDescriptor yX5_wipe.desc).map (fun d => d.parameters.length) = some 0 := ⟨rfl, by decide +kernel, by decide +kernel, by decide +kernel⟩
theorem eX5_fault : yX5_fault.cls = RX5 ∧ yX5_fault.cls ≠ "java/lang/invoke/MethodHandle" ∧ yX5_fault.cls ≠ "java/lang/invoke/VarHandle" ∧ (parseMethodDescriptor yX5_fault.desc).map (fun d => d.parameters.length) = some 0 := ⟨rfl, by decide +kernel, by decide +kernel, by decide +kernel⟩
theorem eX5_undo : yX5_undo.cls = RX5 ∧ yX5_undo.cls ≠ "java/lang/invoke/MethodHandle" ∧ yX5_undo.cls ≠ "java/lang/invoke/VarHandle" ∧ (parseMethodDescriptor yX5_undo.desc).map (fun d => d.parameters.length) = some 0 := ⟨rfl, by decide +kernel, by decide +kernel, by decide +kernel⟩
theorem eX5_save : yX5_save.cls = RX5 ∧ yX5_save.cls ≠ "java/lang/invoke/MethodHandle" ∧ yX5_save.cls ≠ "java/lang/invoke/VarHandle" ∧ (parseMethodDescriptor yX5_save.desc).map (fun d => d.parameters.length) = some 1 := ⟨rfl, by decide +kernel, by decide +kernel, by decide +kernel⟩
theorem eX5_restore : yX5_restore.cls = RX5 ∧ yX5_restore.cls ≠ "java/lang/invoke/MethodHandle" ∧ yX5_restore.cls ≠ "java/lang/invoke/VarHandle" ∧ (parseMethodDescriptor yX5_restore.desc).map (fun d => d.parameters.length) = some 1 := ⟨rfl, by decide +kernel, by decide +kernel, by decide +kernel⟩
theorem eX5_isRule : yX5_isRule.cls = RX5 ∧ yX5_isRule.cls ≠ "java/lang/invoke/MethodHandle" ∧ yX5_isRule.cls ≠ "java/lang/invoke/VarHandle" ∧ (parseMethodDescriptor yX5_isRule.desc).map (fun d => d.parameters.length) = some 2 := ⟨rfl, by decide +kernel, by decide +kernel, by decide +kernel⟩
theorem eX5_charactersIn : yX5_charactersIn.cls = RX5 ∧ yX5_charactersIn.cls ≠ "java/lang/invoke/MethodHandle" ∧ yX5_charactersIn.cls ≠ "java/lang/invoke/VarHandle" ∧ (parseMethodDescriptor yX5_charactersIn.desc).map (fun d => d.parameters.length) = some 1 := ⟨rfl, by decide +kernel, by decide +kernel, by decide +kernel⟩
theorem eX5_parity : yX5_parity.cls = RX5 ∧ yX5_parity.cls ≠ "java/lang/invoke/MethodHandle" ∧ yX5_parity.cls ≠ "java/lang/invoke/VarHandle" ∧ (parseMethodDescriptor yX5_parity.desc).map (fun d => d.parameters.length) = some 1 := ⟨rfl, by decide +kernel, by decide +kernel, by decide +kernel⟩
theorem eX5_lowestBit : yX5_lowestBit.cls = RX5 ∧ yX5_lowestBit.cls ≠ "java/lang/invoke/MethodHandle" ∧ yX5_lowestBit.cls ≠ "java/lang/invoke/VarHandle" ∧ (parseMethodDescriptor yX5_lowestBit.desc).map (fun d => d.parameters.length) = some 1 := ⟨rfl, by decide +kernel, by decide +kernel, by decide +kernel⟩
theorem eX5_carry : yX5_carry.cls = RX5 ∧ yX5_carry.cls ≠ "java/lang/invoke/MethodHandle" ∧ yX5_carry.cls ≠ "java/lang/invoke/VarHandle" ∧ (parseMethodDescriptor yX5_carry.desc).map (fun d => d.parameters.length) = some 3 := ⟨rfl, by decide +kernel, by decide +kernel, by decide +kernel⟩
theorem eX6_init : yX6_init.cls = RX6 ∧ yX6_init.cls ≠ "java/lang/invoke/MethodHandle" ∧ yX6_init.cls ≠ "java/lang/invoke/VarHandle" ∧ (parseMethodDescriptor yX6_init.desc).map (fun d => d.parameters.length) = some 0 := ⟨rfl, by decide +kernel, by decide +kernel, by decide +kernel⟩
theorem eX6_in : yX6_in.cls = RX6 ∧ yX6_in.cls ≠ "java/lang/invoke/MethodHandle" ∧ yX6_in.cls ≠ "java/lang/invoke/VarHandle" ∧ (parseMethodDescriptor yX6_in.desc).map (fun d => d.parameters.length) = some 3 := ⟨rfl, by decide +kernel, by decide +kernel, by decide +kernel⟩
theorem eX6_keep : yX6_keep.cls = RX6 ∧ yX6_keep.cls ≠ "java/lang/invoke/MethodHandle" ∧ yX6_keep.cls ≠ "java/lang/invoke/VarHandle" ∧ (parseMethodDescriptor yX6_keep.desc).map (fun d => d.parameters.length) = some 0 := ⟨rfl, by decide +kernel, by decide +kernel, by decide +kernel⟩
theorem eX6_giveBack : yX6_giveBack.cls = RX6 ∧ yX6_giveBack.cls ≠ "java/lang/invoke/MethodHandle" ∧ yX6_giveBack.cls ≠ "java/lang/invoke/VarHandle" ∧ (parseMethodDescriptor yX6_giveBack.desc).map (fun d => d.parameters.length) = some 0 := ⟨rfl, by decide +kernel, by decide +kernel, by decide +kernel⟩
theorem eX6_changed : yX6_changed.cls = RX6 ∧ yX6_changed.cls ≠ "java/lang/invoke/MethodHandle" ∧ yX6_changed.cls ≠ "java/lang/invoke/VarHandle" ∧ (parseMethodDescriptor yX6_changed.desc).map (fun d => d.parameters.length) = some 1 := ⟨rfl, by decide +kernel, by decide +kernel, by decide +kernel⟩
theorem eX6_bits : yX6_bits.cls = RX6 ∧ yX6_bits.cls ≠ "java/lang/invoke/MethodHandle" ∧ yX6_bits.cls ≠ "java/lang/invoke/VarHandle" ∧ (parseMethodDescriptor yX6_bits.desc).map (fun d => d.parameters.length) = some 1 := ⟨rfl, by decide +kernel, by decide +kernel, by decide +kernel⟩
theorem eX6_odd : yX6_odd.cls = RX6 ∧ yX6_odd.cls ≠ "java/lang/invoke/MethodHandle" ∧ yX6_odd.cls ≠ "java/lang/invoke/VarHandle" ∧ (parseMethodDescriptor yX6_odd.desc).map (fun d => d.parameters.length) = some 1 := ⟨rfl, by decide +kernel, by decide +kernel, by decide +kernel⟩
theorem eX6_masks : yX6_masks.cls = RX6 ∧ yX6_masks.cls ≠ "java/lang/invoke/MethodHandle" ∧ yX6_masks.cls ≠ "java/lang/invoke/VarHandle" ∧ (parseMethodDescriptor yX6_masks.desc).map (fun d => d.parameters.length) = some 0 := ⟨rfl, by decide +kernel, by decide +kernel, by decide +kernel⟩
theorem eX6_isSet : yX6_isSet.cls = RX6 ∧ yX6_isSet.cls ≠ "java/lang/invoke/MethodHandle" ∧ yX6_isSet.cls ≠ "java/lang/invoke/VarHandle" ∧ (parseMethodDescriptor yX6_isSet.desc).map (fun d => d.parameters.length) = some 1 := ⟨rfl, by decide +kernel, by decide +kernel, by decide +kernel⟩
theorem eX6_isRule : yX6_isRule.cls = RX6 ∧ yX6_isRule.cls ≠ "java/lang/invoke/MethodHandle" ∧ yX6_isRule.cls ≠ "java/lang/invoke/VarHandle" ∧ (parseMethodDescriptor yX6_isRule.desc).map (fun d => d.parameters.length) = some 1 := ⟨rfl, by decide +kernel, by decide +kernel, by decide +kernel⟩
theorem eX6_fits : yX6_fits.cls = RX6 ∧ yX6_fits.cls ≠ "java/lang/invoke/MethodHandle" ∧ yX6_fits.cls ≠ "java/lang/invoke/VarHandle" ∧ (parseMethodDescriptor yX6_fits.desc).map (fun d => d.parameters.length) = some 2 := ⟨rfl, by decide +kernel, by decide +kernel, by decide +kernel⟩
theorem eX6_reduces : yX6_reduces.cls = RX6 ∧ yX6_reduces.cls ≠ "java/lang/invoke/MethodHandle" ∧ yX6_reduces.cls ≠ "java/lang/invoke/VarHandle" ∧ (parseMethodDescriptor yX6_reduces.desc).map (fun d => d.parameters.length) = some 1 := ⟨rfl, by decide +kernel, by decide +kernel, by decide +kernel⟩
theorem eX6_sumOf : yX6_sumOf.cls = RX6 ∧ yX6_sumOf.cls ≠ "java/lang/invoke/MethodHandle" ∧ yX6_sumOf.cls ≠ "java/lang/invoke/VarHandle" ∧ (parseMethodDescriptor yX6_sumOf.desc).map (fun d => d.parameters.length) = some 1 := ⟨rfl, by decide +kernel, by decide +kernel, by decide +kernel⟩
theorem eX6_stateOf : yX6_stateOf.cls = RX6 ∧ yX6_stateOf.cls ≠ "java/lang/invoke/MethodHandle" ∧ yX6_stateOf.cls ≠ "java/lang/invoke/VarHandle" ∧ (parseMethodDescriptor yX6_stateOf.desc).map (fun d => d.parameters.length) = some 2 := ⟨rfl, by decide +kernel, by decide +kernel, by decide +kernel⟩
theorem eX6_judges : yX6_judges.cls = RX6 ∧ yX6_judges.cls ≠ "java/lang/invoke/MethodHandle" ∧ yX6_judges.cls ≠ "java/lang/invoke/VarHandle" ∧ (parseMethodDescriptor yX6_judges.desc).map (fun d => d.parameters.length) = some 0 := ⟨rfl, by decide +kernel, by decide +kernel, by decide +kernel⟩
theorem eX6_rulesIn : yX6_rulesIn.cls = RX6 ∧ yX6_rulesIn.cls ≠ "java/lang/invoke/MethodHandle" ∧ yX6_rulesIn.cls ≠ "java/lang/invoke/VarHandle" ∧ (parseMethodDescriptor yX6_rulesIn.desc).map (fun d => d.parameters.length) = some 1 := ⟨rfl, by decide +kernel, by decide +kernel, by decide +kernel⟩
theorem eX6_answers : yX6_answers.cls = RX6 ∧ yX6_answers.cls ≠ "java/lang/invoke/MethodHandle" ∧ yX6_answers.cls ≠ "java/lang/invoke/VarHandle" ∧ (parseMethodDescriptor yX6_answers.desc).map (fun d => d.parameters.length) = some 0 := ⟨rfl, by decide +kernel, by decide +kernel, by decide +kernel⟩
theorem eX6_isAnswer : yX6_isAnswer.cls = RX6 ∧ yX6_isAnswer.cls ≠ "java/lang/invoke/MethodHandle" ∧ yX6_isAnswer.cls ≠ "java/lang/invoke/VarHandle" ∧ (parseMethodDescriptor yX6_isAnswer.desc).map (fun d => d.parameters.length) = some 1 := ⟨rfl, by decide +kernel, by decide +kernel, by decide +kernel⟩
theorem eX6_knownOf : yX6_knownOf.cls = RX6 ∧ yX6_knownOf.cls ≠ "java/lang/invoke/MethodHandle" ∧ yX6_knownOf.cls ≠ "java/lang/invoke/VarHandle" ∧ (parseMethodDescriptor yX6_knownOf.desc).map (fun d => d.parameters.length) = some 1 := ⟨rfl, by decide +kernel, by decide +kernel, by decide +kernel⟩
theorem eX6_choices : yX6_choices.cls = RX6 ∧ yX6_choices.cls ≠ "java/lang/invoke/MethodHandle" ∧ yX6_choices.cls ≠ "java/lang/invoke/VarHandle" ∧ (parseMethodDescriptor yX6_choices.desc).map (fun d => d.parameters.length) = some 1 := ⟨rfl, by decide +kernel, by decide +kernel, by decide +kernel⟩
theorem eX6_adds : yX6_adds.cls = RX6 ∧ yX6_adds.cls ≠ "java/lang/invoke/MethodHandle" ∧ yX6_adds.cls ≠ "java/lang/invoke/VarHandle" ∧ (parseMethodDescriptor yX6_adds.desc).map (fun d => d.parameters.length) = some 2 := ⟨rfl, by decide +kernel, by decide +kernel, by decide +kernel⟩
theorem eX6_tell : yX6_tell.cls = RX6 ∧ yX6_tell.cls ≠ "java/lang/invoke/MethodHandle" ∧ yX6_tell.cls ≠ "java/lang/invoke/VarHandle" ∧ (parseMethodDescriptor yX6_tell.desc).map (fun d => d.parameters.length) = some 2 := ⟨rfl, by decide +kernel, by decide +kernel, by decide +kernel⟩
theorem eX6_takesOut : yX6_takesOut.cls = RX6 ∧ yX6_takesOut.cls ≠ "java/lang/invoke/MethodHandle" ∧ yX6_takesOut.cls ≠ "java/lang/invoke/VarHandle" ∧ (parseMethodDescriptor yX6_takesOut.desc).map (fun d => d.parameters.length) = some 1 := ⟨rfl, by decide +kernel, by decide +kernel, by decide +kernel⟩
theorem eX6_putsIn : yX6_putsIn.cls = RX6 ∧ yX6_putsIn.cls ≠ "java/lang/invoke/MethodHandle" ∧ yX6_putsIn.cls ≠ "java/lang/invoke/VarHandle" ∧ (parseMethodDescriptor yX6_putsIn.desc).map (fun d => d.parameters.length) = some 3 := ⟨rfl, by decide +kernel, by decide +kernel, by decide +kernel⟩
theorem eX6_moves : yX6_moves.cls = RX6 ∧ yX6_moves.cls ≠ "java/lang/invoke/MethodHandle" ∧ yX6_moves.cls ≠ "java/lang/invoke/VarHandle" ∧ (parseMethodDescriptor yX6_moves.desc).map (fun d => d.parameters.length) = some 2 := ⟨rfl, by decide +kernel, by decide +kernel, by decide +kernel⟩
theorem eX6_drop : yX6_drop.cls = RX6 ∧ yX6_drop.cls ≠ "java/lang/invoke/MethodHandle" ∧ yX6_drop.cls ≠ "java/lang/invoke/VarHandle" ∧ (parseMethodDescriptor yX6_drop.desc).map (fun d => d.parameters.length) = some 1 := ⟨rfl, by decide +kernel, by decide +kernel, by decide +kernel⟩
theorem eX6_move : yX6_move.cls = RX6 ∧ yX6_move.cls ≠ "java/lang/invoke/MethodHandle" ∧ yX6_move.cls ≠ "java/lang/invoke/VarHandle" ∧ (parseMethodDescriptor yX6_move.desc).map (fun d => d.parameters.length) = some 2 := ⟨rfl, by decide +kernel, by decide +kernel, by decide +kernel⟩
theorem eX6_turn : yX6_turn.cls = RX6 ∧ yX6_turn.cls ≠ "java/lang/invoke/MethodHandle" ∧ yX6_turn.cls ≠ "java/lang/invoke/VarHandle" ∧ (parseMethodDescriptor yX6_turn.desc).map (fun d => d.parameters.length) = some 1 := ⟨rfl, by decide +kernel, by decide +kernel, by decide +kernel⟩
theorem eX6_reasonsWith : yX6_reasonsWith.cls = RX6 ∧ yX6_reasonsWith.cls ≠ "java/lang/invoke/MethodHandle" ∧ yX6_reasonsWith.cls ≠ "java/lang/invoke/VarHandle" ∧ (parseMethodDescriptor yX6_reasonsWith.desc).map (fun d => d.parameters.length) = some 1 := ⟨rfl, by decide +kernel, by decide +kernel, by decide +kernel⟩
theorem eX6_rule : yX6_rule.cls = RX6 ∧ yX6_rule.cls ≠ "java/lang/invoke/MethodHandle" ∧ yX6_rule.cls ≠ "java/lang/invoke/VarHandle" ∧ (parseMethodDescriptor yX6_rule.desc).map (fun d => d.parameters.length) = some 2 := ⟨rfl, by decide +kernel, by decide +kernel, by decide +kernel⟩
theorem eX6_rulesWith : yX6_rulesWith.cls = RX6 ∧ yX6_rulesWith.cls ≠ "java/lang/invoke/MethodHandle" ∧ yX6_rulesWith.cls ≠ "java/lang/invoke/VarHandle" ∧ (parseMethodDescriptor yX6_rulesWith.desc).map (fun d => d.parameters.length) = some 1 := ⟨rfl, by decide +kernel, by decide +kernel, by decide +kernel⟩
theorem eX6_tiedTo : yX6_tiedTo.cls = RX6 ∧ yX6_tiedTo.cls ≠ "java/lang/invoke/MethodHandle" ∧ yX6_tiedTo.cls ≠ "java/lang/invoke/VarHandle" ∧ (parseMethodDescriptor yX6_tiedTo.desc).map (fun d => d.parameters.length) = some 1 := ⟨rfl, by decide +kernel, by decide +kernel, by decide +kernel⟩
theorem eX6_choice : yX6_choice.cls = RX6 ∧ yX6_choice.cls ≠ "java/lang/invoke/MethodHandle" ∧ yX6_choice.cls ≠ "java/lang/invoke/VarHandle" ∧ (parseMethodDescriptor yX6_choice.desc).map (fun d => d.parameters.length) = some 2 := ⟨rfl, by decide +kernel, by decide +kernel, by decide +kernel⟩
theorem eX6_settled : yX6_settled.cls = RX6 ∧ yX6_settled.cls ≠ "java/lang/invoke/MethodHandle" ∧ yX6_settled.cls ≠ "java/lang/invoke/VarHandle" ∧ (parseMethodDescriptor yX6_settled.desc).map (fun d => d.parameters.length) = some 0 := ⟨rfl, by decide +kernel, by decide +kernel, by decide +kernel⟩
theorem eX6_count : yX6_count.cls = RX6 ∧ yX6_count.cls ≠ "java/lang/invoke/MethodHandle" ∧ yX6_count.cls ≠ "java/lang/invoke/VarHandle" ∧ (parseMethodDescriptor yX6_count.desc).map (fun d => d.parameters.length) = some 1 := ⟨rfl, by decide +kernel, by decide +kernel, by decide +kernel⟩
theorem eX6_answer : yX6_answer.cls = RX6 ∧ yX6_answer.cls ≠ "java/lang/invoke/MethodHandle" ∧ yX6_answer.cls ≠ "java/lang/invoke/VarHandle" ∧ (parseMethodDescriptor yX6_answer.desc).map (fun d => d.parameters.length) = some 1 := ⟨rfl, by decide +kernel, by decide +kernel, by decide +kernel⟩
theorem eX6_known : yX6_known.cls = RX6 ∧ yX6_known.cls ≠ "java/lang/invoke/MethodHandle" ∧ yX6_known.cls ≠ "java/lang/invoke/VarHandle" ∧ (parseMethodDescriptor yX6_known.desc).map (fun d => d.parameters.length) = some 1 := ⟨rfl, by decide +kernel, by decide +kernel, by decide +kernel⟩
theorem eX6_nearest : yX6_nearest.cls = RX6 ∧ yX6_nearest.cls ≠ "java/lang/invoke/MethodHandle" ∧ yX6_nearest.cls ≠ "java/lang/invoke/VarHandle" ∧ (parseMethodDescriptor yX6_nearest.desc).map (fun d => d.parameters.length) = some 2 := ⟨rfl, by decide +kernel, by decide +kernel, by decide +kernel⟩
theorem eX6_broken : yX6_broken.cls = RX6 ∧ yX6_broken.cls ≠ "java/lang/invoke/MethodHandle" ∧ yX6_broken.cls ≠ "java/lang/invoke/VarHandle" ∧ (parseMethodDescriptor yX6_broken.desc).map (fun d => d.parameters.length) = some 1 := ⟨rfl, by decide +kernel, by decide +kernel, by decide +kernel⟩
theorem eX6_best : yX6_best.cls = RX6 ∧ yX6_best.cls ≠ "java/lang/invoke/MethodHandle" ∧ yX6_best.cls ≠ "java/lang/invoke/VarHandle" ∧ (parseMethodDescriptor yX6_best.desc).map (fun d => d.parameters.length) = some 1 := ⟨rfl, by decide +kernel, by decide +kernel, by decide +kernel⟩
theorem eX6_ifTold : yX6_ifTold.cls = RX6 ∧ yX6_ifTold.cls ≠ "java/lang/invoke/MethodHandle" ∧ yX6_ifTold.cls ≠ "java/lang/invoke/VarHandle" ∧ (parseMethodDescriptor yX6_ifTold.desc).map (fun d => d.parameters.length) = some 2 := ⟨rfl, by decide +kernel, by decide +kernel, by decide +kernel⟩
theorem eX6_ifDropped : yX6_ifDropped.cls = RX6 ∧ yX6_ifDropped.cls ≠ "java/lang/invoke/MethodHandle" ∧ yX6_ifDropped.cls ≠ "java/lang/invoke/VarHandle" ∧ (parseMethodDescriptor yX6_ifDropped.desc).map (fun d => d.parameters.length) = some 1 := ⟨rfl, by decide +kernel, by decide +kernel, by decide +kernel⟩
theorem eX6_ifMoved : yX6_ifMoved.cls = RX6 ∧ yX6_ifMoved.cls ≠ "java/lang/invoke/MethodHandle" ∧ yX6_ifMoved.cls ≠ "java/lang/invoke/VarHandle" ∧ (parseMethodDescriptor yX6_ifMoved.desc).map (fun d => d.parameters.length) = some 2 := ⟨rfl, by decide +kernel, by decide +kernel, by decide +kernel⟩
theorem eX6_put : yX6_put.cls = RX6 ∧ yX6_put.cls ≠ "java/lang/invoke/MethodHandle" ∧ yX6_put.cls ≠ "java/lang/invoke/VarHandle" ∧ (parseMethodDescriptor yX6_put.desc).map (fun d => d.parameters.length) = some 1 := ⟨rfl, by decide +kernel, by decide +kernel, by decide +kernel⟩
theorem eX6_wipe : yX6_wipe.cls = RX6 ∧ yX6_wipe.cls ≠ "java/lang/invoke/MethodHandle" ∧ yX6_wipe.cls ≠ "java/lang/invoke/VarHandle" ∧ (parseMethodDescriptor yX6_wipe.desc).map (fun d => d.parameters.length) = some 0 := ⟨rfl, by decide +kernel, by decide +kernel, by decide +kernel⟩
theorem eX6_isHere : yX6_isHere.cls = RX6 ∧ yX6_isHere.cls ≠ "java/lang/invoke/MethodHandle" ∧ yX6_isHere.cls ≠ "java/lang/invoke/VarHandle" ∧ (parseMethodDescriptor yX6_isHere.desc).map (fun d => d.parameters.length) = some 2 := ⟨rfl, by decide +kernel, by decide +kernel, by decide +kernel⟩
theorem eX6_takes : yX6_takes.cls = RX6 ∧ yX6_takes.cls ≠ "java/lang/invoke/MethodHandle" ∧ yX6_takes.cls ≠ "java/lang/invoke/VarHandle" ∧ (parseMethodDescriptor yX6_takes.desc).map (fun d => d.parameters.length) = some 1 := ⟨rfl, by decide +kernel, by decide +kernel, by decide +kernel⟩
theorem eX6_readsChoice : yX6_readsChoice.cls = RX6 ∧ yX6_readsChoice.cls ≠ "java/lang/invoke/MethodHandle" ∧ yX6_readsChoice.cls ≠ "java/lang/invoke/VarHandle" ∧ (parseMethodDescriptor yX6_readsChoice.desc).map (fun d => d.parameters.length) = some 0 := ⟨rfl, by decide +kernel, by decide +kernel, by decide +kernel⟩
theorem eX6_readsRule : yX6_readsRule.cls = RX6 ∧ yX6_readsRule.cls ≠ "java/lang/invoke/MethodHandle" ∧ yX6_readsRule.cls ≠ "java/lang/invoke/VarHandle" ∧ (parseMethodDescriptor yX6_readsRule.desc).map (fun d => d.parameters.length) = some 0 := ⟨rfl, by decide +kernel, by decide +kernel, by decide +kernel⟩
theorem eX6_fault : yX6_fault.cls = RX6 ∧ yX6_fault.cls ≠ "java/lang/invoke/MethodHandle" ∧ yX6_fault.cls ≠ "java/lang/invoke/VarHandle" ∧ (parseMethodDescriptor yX6_fault.desc).map (fun d => d.parameters.length) = some 0 := ⟨rfl, by decide +kernel, by decide +kernel, by decide +kernel⟩
theorem eX6_read : yX6_read.cls = RX6 ∧ yX6_read.cls ≠ "java/lang/invoke/MethodHandle" ∧ yX6_read.cls ≠ "java/lang/invoke/VarHandle" ∧ (parseMethodDescriptor yX6_read.desc).map (fun d => d.parameters.length) = some 0 := ⟨rfl, by decide +kernel, by decide +kernel, by decide +kernel⟩
theorem eX6_undo : yX6_undo.cls = RX6 ∧ yX6_undo.cls ≠ "java/lang/invoke/MethodHandle" ∧ yX6_undo.cls ≠ "java/lang/invoke/VarHandle" ∧ (parseMethodDescriptor yX6_undo.desc).map (fun d => d.parameters.length) = some 0 := ⟨rfl, by decide +kernel, by decide +kernel, by decide +kernel⟩
theorem eX6_save : yX6_save.cls = RX6 ∧ yX6_save.cls ≠ "java/lang/invoke/MethodHandle" ∧ yX6_save.cls ≠ "java/lang/invoke/VarHandle" ∧ (parseMethodDescriptor yX6_save.desc).map (fun d => d.parameters.length) = some 1 := ⟨rfl, by decide +kernel, by decide +kernel, by decide +kernel⟩
theorem eX6_restore : yX6_restore.cls = RX6 ∧ yX6_restore.cls ≠ "java/lang/invoke/MethodHandle" ∧ yX6_restore.cls ≠ "java/lang/invoke/VarHandle" ∧ (parseMethodDescriptor yX6_restore.desc).map (fun d => d.parameters.length) = some 1 := ⟨rfl, by decide +kernel, by decide +kernel, by decide +kernel⟩
theorem eJ6_bitCount_0f7a4 : yJ6_bitCount_0f7a4.cls = RJ6 ∧ yJ6_bitCount_0f7a4.cls ≠ "java/lang/invoke/MethodHandle" ∧ yJ6_bitCount_0f7a4.cls ≠ "java/lang/invoke/VarHandle" ∧ (parseMethodDescriptor yJ6_bitCount_0f7a4.desc).map (fun d => d.parameters.length) = some 1 := ⟨rfl, by decide +kernel, by decide +kernel, by decide +kernel⟩
end
section
/-! combinations, reduction by steps -/
theorem tb_1 (r i : Nat) : r >>> i &&& 1 = 1 ↔ r.testBit i = true := by
  rw [Nat.testBit, Nat.and_comm 1, Nat.and_one_is_mod, bne_iff_ne]
  generalize r >>> i = z
  omega
def rst (ss su sr : Nat → Nat) (c : Nat) (x : Nat × Nat × Nat) : Nat × Nat × Nat := if x.1.testBit c = true ∧ ¬ ss c = 0 then (x.1 ^^^ ss c, x.2.1 ^^^ su c, x.2.2 ^^^ sr c) else x
def red (ss su sr : Nat → Nat) : Nat → Nat × Nat × Nat → Nat × Nat × Nat
  | 0, x => x
  | k + 1, x => rst ss su sr k (red ss su sr k x)
theorem red_hit {ss su sr : Nat → Nat} {i r1 r2 r3 : Nat} {x : Nat × Nat × Nat} (h : red ss su sr i x = (r1, r2, r3)) (h1 : r1 >>> i &&& 1 = 1) (h2 : ¬ ss i = 0) : red ss su sr (i + 1) x = (r1 ^^^ ss i, r2 ^^^ su i, r3 ^^^ sr i) := by
  show rst ss su sr i (red ss su sr i x) = _
  rw [h]
  exact if_pos ⟨(tb_1 _ _).mp h1, h2⟩
theorem red_sk1 {ss su sr : Nat → Nat} {i r1 r2 r3 : Nat} {x : Nat × Nat × Nat} (h : red ss su sr i x = (r1, r2, r3)) (h1 : ¬ r1 >>> i &&& 1 = 1) : red ss su sr (i + 1) x = (r1, r2, r3) := by
  show rst ss su sr i (red ss su sr i x) = _
  rw [h]
  exact if_neg (fun q => h1 ((tb_1 _ _).mpr q.1))
theorem red_sk2 {ss su sr : Nat → Nat} {i r1 r2 r3 : Nat} {x : Nat × Nat × Nat} (h : red ss su sr i x = (r1, r2, r3)) (h2 : ss i = 0) : red ss su sr (i + 1) x = (r1, r2, r3) := by
  show rst ss su sr i (red ss su sr i x) = _
  rw [h]
  exact if_neg (fun q => q.2 h2)
theorem xor12 {a b : Nat} (ha : a < 4096) (hb : b < 4096) : a ^^^ b < 4096 := Nat.xor_lt_two_pow (n := 12) ha hb
theorem and31 {a b : Nat} (ha : a < 2147483648) : a &&& b < 2147483648 := Nat.lt_of_le_of_lt Nat.and_le_left ha
theorem and1_31 {a : Nat} : a &&& 1 < 2147483648 := Nat.lt_of_le_of_lt Nat.and_le_right (by decide)
/-! how many bits: the JDK's way, and a plain one -/
def pcnt : Nat → Nat → Nat
  | 0, _ => 0
  | k + 1, n => n % 2 + pcnt k (n / 2)
theorem pcnt_add (a b : Nat) : ∀ n, pcnt (a + b) n = pcnt a n + pcnt b (n / 2 ^ a) := by
  induction a with
  | zero => intro n; simp [pcnt]
  | succ a ih =>
    intro n
    rw [Nat.add_right_comm]
    show n % 2 + pcnt (a + b) (n / 2) = n % 2 + pcnt a (n / 2) + pcnt b (n / 2 ^ (a + 1))
    rw [ih, Nat.div_div_eq_div_mul, ← Nat.pow_succ', Nat.add_assoc]
theorem pcnt_le (k : Nat) : ∀ n, pcnt k n ≤ k := by
  induction k with
  | zero => intro n; exact Nat.le_refl _
  | succ k ih =>
    intro n
    have := ih (n / 2)
    show n % 2 + pcnt k (n / 2) ≤ k + 1
    omega
theorem and_split {w x y u v : Nat} (hy : y < 2 ^ w) (hv : v < 2 ^ w) : (2 ^ w * x + y) &&& (2 ^ w * u + v) = 2 ^ w * (x &&& u) + (y &&& v) := by
  apply Nat.eq_of_testBit_eq
  intro i
  have hyv : y &&& v < 2 ^ w := Nat.lt_of_le_of_lt Nat.and_le_left hy
  rw [Nat.testBit_and, Nat.testBit_two_pow_mul_add _ hy, Nat.testBit_two_pow_mul_add _ hv, Nat.testBit_two_pow_mul_add _ hyv]
  by_cases h : i < w
  · simp [h]
  · simp [h]
def mk1 : Nat → Nat
  | 0 => 0
  | k + 1 => 4 * mk1 k + 1
def mk2 : Nat → Nat
  | 0 => 0
  | k + 1 => 16 * mk2 k + 3
def mk3 : Nat → Nat
  | 0 => 0
  | k + 1 => 256 * mk3 k + 15
def dg1 : Nat → Nat → Nat
  | 0, _ => 0
  | k + 1, n => 4 * dg1 k (n / 4) + pcnt 2 n
def dg2 : Nat → Nat → Nat
  | 0, _ => 0
  | k + 1, n => 16 * dg2 k (n / 16) + pcnt 4 n
def dg3 : Nat → Nat → Nat
  | 0, _ => 0
  | k + 1, n => 256 * dg3 k (n / 256) + pcnt 8 n
theorem pcnt2 (n : Nat) : pcnt 2 n = n % 2 + n / 2 % 2 := rfl
theorem dg1_ok (k : Nat) : ∀ n, n < 4 ^ k → n - ((n / 2) &&& mk1 k) = dg1 k n := by
  induction k with
  | zero => intro n h; simp at h; subst h; rfl
  | succ k ih =>
    intro n h
    have h4 : n / 4 < 4 ^ k := by rw [Nat.pow_succ] at h; omega
    have e := ih (n / 4) h4
    have e2 : n / 2 = 2 ^ 2 * (n / 8) + n / 2 % 4 := by omega
    have e3 : n / 4 / 2 = n / 8 := by omega
    rw [e3] at e
    show n - ((n / 2) &&& (2 ^ 2 * mk1 k + 1)) = 4 * dg1 k (n / 4) + pcnt 2 n
    rw [e2, and_split (by omega) (by omega), Nat.and_one_is_mod, ← e, pcnt2]
    have hle : (n / 8 &&& mk1 k) ≤ n / 8 := Nat.and_le_left
    generalize (n / 8 &&& mk1 k) = a at hle ⊢
    omega
theorem dg2_ok (k : Nat) : ∀ n, (dg1 (2 * k) n &&& mk2 k) + ((dg1 (2 * k) n / 4) &&& mk2 k) = dg2 k n := by
  induction k with
  | zero =>
    intro n
    show (_ &&& 0) + (_ &&& 0) = 0
    rw [Nat.and_zero, Nat.and_zero]
  | succ k ih =>
    intro n
    have e := ih (n / 16)
    have e4 : n / 4 / 4 = n / 16 := by omega
    have ex : dg1 (2 * (k + 1)) n = 4 * (4 * dg1 (2 * k) (n / 16) + pcnt 2 (n / 4)) + pcnt 2 n := by
      show 4 * (4 * dg1 (2 * k) (n / 4 / 4) + pcnt 2 (n / 4)) + pcnt 2 n = _
      rw [e4]
    have c0 := pcnt_le 2 n
    have c1 := pcnt_le 2 (n / 4)
    have ep : pcnt 4 n = pcnt 2 n + pcnt 2 (n / 4) := pcnt_add 2 2 n
    rw [ex]
    show _ = 16 * dg2 k (n / 16) + pcnt 4 n
    rw [← e, ep]
    generalize dg1 (2 * k) (n / 16) = y
    generalize pcnt 2 n = p0 at c0 ⊢
    generalize pcnt 2 (n / 4) = p1 at c1 ⊢
    have f1 : 4 * (4 * y + p1) + p0 = 2 ^ 4 * y + (4 * p1 + p0) := by omega
    have f2 : (2 ^ 4 * y + (4 * p1 + p0)) / 4 = 2 ^ 4 * (y / 4) + (4 * (y % 4) + p1) := by omega
    show (4 * (4 * y + p1) + p0 &&& (2 ^ 4 * mk2 k + 3)) + ((4 * (4 * y + p1) + p0) / 4 &&& (2 ^ 4 * mk2 k + 3)) = _
    have m3 : ∀ z : Nat, z &&& 3 = z % 4 := fun z => Nat.and_two_pow_sub_one_eq_mod z 2
    rw [f1, f2, and_split (by omega) (by omega), and_split (by omega) (by omega), m3, m3]
    omega
theorem dg2_lo (k n : Nat) : dg2 k n % 16 ≤ 4 := by
  cases k with
  | zero => exact Nat.zero_le _
  | succ k =>
    have h := pcnt_le 4 n
    show (16 * dg2 k (n / 16) + pcnt 4 n) % 16 ≤ 4
    omega
theorem dg3_ok (k : Nat) : ∀ n, (dg2 (2 * k) n + dg2 (2 * k) n / 16) &&& mk3 k = dg3 k n := by
  induction k with
  | zero =>
    intro n
    show (_ &&& 0) = 0
    rw [Nat.and_zero]
  | succ k ih =>
    intro n
    have e := ih (n / 256)
    have e4 : n / 16 / 16 = n / 256 := by omega
    have ex : dg2 (2 * (k + 1)) n = 16 * (16 * dg2 (2 * k) (n / 256) + pcnt 4 (n / 16)) + pcnt 4 n := by
      show 16 * (16 * dg2 (2 * k) (n / 16 / 16) + pcnt 4 (n / 16)) + pcnt 4 n = _
      rw [e4]
    have c0 := pcnt_le 4 n
    have c1 := pcnt_le 4 (n / 16)
    have lo := dg2_lo (2 * k) (n / 256)
    have ep : pcnt 8 n = pcnt 4 n + pcnt 4 (n / 16) := pcnt_add 4 4 n
    rw [ex]
    show _ = 256 * dg3 k (n / 256) + pcnt 8 n
    rw [← e, ep]
    generalize dg2 (2 * k) (n / 256) = y at lo ⊢
    generalize pcnt 4 n = p0 at c0 ⊢
    generalize pcnt 4 (n / 16) = p1 at c1 ⊢
    have f1 : 16 * (16 * y + p1) + p0 + (16 * (16 * y + p1) + p0) / 16 = 2 ^ 8 * (y + y / 16) + (16 * (y % 16 + p1) + (p0 + p1)) := by omega
    show (16 * (16 * y + p1) + p0 + (16 * (16 * y + p1) + p0) / 16) &&& (2 ^ 8 * mk3 k + 15) = _
    have m15 : ∀ z : Nat, z &&& 15 = z % 16 := fun z => Nat.and_two_pow_sub_one_eq_mod z 4
    rw [f1, and_split (by omega) (by omega), m15]
    omega
def bc1 (n : Nat) : Nat := n - ((n / 2) &&& 1431655765)
def bc2 (x : Nat) : Nat := (x &&& 858993459) + ((x / 4) &&& 858993459)
def bc3 (x : Nat) : Nat := (x + x / 16) &&& 252645135
def bc4 (x : Nat) : Nat := x + x / 256
def bc5 (x : Nat) : Nat := x + x / 65536
theorem bc_ok {n : Nat} (h : n < 4294967296) : bc5 (bc4 (bc3 (bc2 (bc1 n)))) &&& 63 = pcnt 32 n := by
  have e1 : bc1 n = dg1 16 n := by
    show n - ((n / 2) &&& 1431655765) = _
    rw [show (1431655765 : Nat) = mk1 16 by decide]
    exact dg1_ok 16 n (by omega)
  have e2 : bc2 (dg1 16 n) = dg2 8 n := by
    show (dg1 16 n &&& 858993459) + ((dg1 16 n / 4) &&& 858993459) = _
    rw [show (858993459 : Nat) = mk2 8 by decide]
    exact dg2_ok 8 n
  have e3 : bc3 (dg2 8 n) = dg3 4 n := by
    show (dg2 8 n + dg2 8 n / 16) &&& 252645135 = _
    rw [show (252645135 : Nat) = mk3 4 by decide]
    exact dg3_ok 4 n
  rw [e1, e2, e3]
  have ep : pcnt 32 n = pcnt 8 n + (pcnt 8 (n / 256) + (pcnt 8 (n / 256 / 256) + pcnt 8 (n / 256 / 256 / 256))) := by
    rw [show (32 : Nat) = 8 + (8 + (8 + 8)) from rfl, pcnt_add, pcnt_add, pcnt_add]
  have b0 := pcnt_le 8 n
  have b1 := pcnt_le 8 (n / 256)
  have b2 := pcnt_le 8 (n / 256 / 256)
  have b3 := pcnt_le 8 (n / 256 / 256 / 256)
  have m63 : ∀ z : Nat, z &&& 63 = z % 64 := fun z => Nat.and_two_pow_sub_one_eq_mod z 6
  rw [ep, m63]
  show bc5 (bc4 (256 * (256 * (256 * (256 * 0 + pcnt 8 (n / 256 / 256 / 256)) + pcnt 8 (n / 256 / 256)) + pcnt 8 (n / 256)) + pcnt 8 n)) % 64 = _
  generalize pcnt 8 n = p0 at b0 ⊢
  generalize pcnt 8 (n / 256) = p1 at b1 ⊢
  generalize pcnt 8 (n / 256 / 256) = p2 at b2 ⊢
  generalize pcnt 8 (n / 256 / 256 / 256) = p3 at b3 ⊢
  have x1 : (256 * (256 * (256 * (256 * 0 + p3) + p2) + p1) + p0) / 256 = 65536 * p3 + 256 * p2 + p1 := by omega
  unfold bc5 bc4
  rw [x1]
  have x2 : (256 * (256 * (256 * (256 * 0 + p3) + p2) + p1) + p0 + (65536 * p3 + 256 * p2 + p1)) / 65536 = 256 * p3 + p2 + p3 := by omega
  rw [x2]
  omega
theorem bc1_le (n : Nat) : bc1 n ≤ n := Nat.sub_le _ _
theorem bc2_le (x : Nat) : bc2 x ≤ 1717986918 := by
  have h1 : x &&& 858993459 ≤ 858993459 := Nat.and_le_right
  have h2 : (x / 4) &&& 858993459 ≤ 858993459 := Nat.and_le_right
  unfold bc2
  omega
theorem bc3_le (x : Nat) : bc3 x ≤ 252645135 := Nat.and_le_right
theorem bc4_le {x : Nat} (h : x ≤ 252645135) : bc4 x ≤ 300000000 := by unfold bc4; omega
/-! the lowest bit -/
def lbk : Nat → Nat → Nat
  | 0, _ => 0
  | k + 1, n => if n % 2 = 1 then 0 else 1 + lbk k (n / 2)
def lb (n : Nat) : Nat := lbk 12 n
theorem lbk_ok (k : Nat) : ∀ n, 0 < n → n < 2 ^ k → lbk k n < k ∧ n.testBit (lbk k n) = true ∧ ∀ i, i < lbk k n → n.testBit i = false := by
  induction k with
  | zero => intro n h0 h; simp at h; omega
  | succ k ih =>
    intro n h0 h
    by_cases h2 : n % 2 = 1
    · have e : lbk (k + 1) n = 0 := if_pos h2
      rw [e]
      refine ⟨by omega, ?_, fun i hi => absurd hi (Nat.not_lt_zero _)⟩
      rw [Nat.testBit_zero]
      simp [h2]
    · have e : lbk (k + 1) n = 1 + lbk k (n / 2) := if_neg h2
      obtain ⟨g1, g2, g3⟩ := ih (n / 2) (by omega) (by rw [Nat.pow_succ] at h; omega)
      rw [e]
      refine ⟨by omega, ?_, fun i hi => ?_⟩
      · rw [Nat.add_comm, Nat.testBit_succ]
        exact g2
      · cases i with
        | zero =>
          rw [Nat.testBit_zero]
          simp [h2]
        | succ i =>
          rw [Nat.testBit_succ]
          exact g3 i (by omega)
theorem lb_ok {n : Nat} (h0 : 0 < n) (h : n < 4096) : lb n < 12 ∧ n.testBit (lb n) = true ∧ ∀ i, i < lb n → n.testBit i = false := lbk_ok 12 n h0 h
theorem lb_mask0 : ∀ a, a < 64 → ∀ b, b < 64 → 64 * a + b = 0 ∨ (nI (64 * a + b) ^^^ (-1)) &&& nI (64 * a + b - 1) = nI (2 ^ lb (64 * a + b) - 1) := by decide +kernel
theorem lb_mask {n : Nat} (h0 : 0 < n) (h : n < 4096) : (nI n ^^^ (-1)) &&& nI (n - 1) = nI (2 ^ lb n - 1) := by
  have q := lb_mask0 (n / 64) (by omega) (n % 64) (by omega)
  rw [Nat.div_add_mod] at q
  rcases q with q | q
  · omega
  · exact q
theorem pcnt_ones : ∀ k, k < 12 → pcnt 32 (2 ^ k - 1) = k := by decide +kernel
def pty (n : Nat) : Nat := pcnt 32 n &&& 1
theorem pty_mod (n : Nat) : pty n = pcnt 32 n % 2 := Nat.and_one_is_mod _
theorem pty_le (n : Nat) : pty n ≤ 1 := Nat.and_le_right
theorem lb_31 {n : Nat} (h0 : 0 < n) (h : n < 4096) : 2 ^ lb n - 1 < 2147483648 := by
  have h2 : 2 ^ lb n ≤ 2 ^ 12 := Nat.pow_le_pow_right (by decide) (by have := (lb_ok h0 h).1; omega)
  omega
/-! a row carried, or'ed, summed -/
def carF {α : Type} (f : Nat → α) (i k : Nat) : Nat → α := fun j => if j = k then f i else if i ≤ j ∧ j < k then f (j + 1) else if k < j ∧ j ≤ i then f (j - 1) else f j
theorem car_end {f h1 h2 : Nat → Nat} {i k a b : Nat} (g1 : ∀ j, h1 j = if i ≤ j ∧ j < a then f (j + 1) else f j) (g2 : ∀ j, h2 j = if b < j ∧ j ≤ i then h1 (j - 1) else h1 j) (ha : a = i ∨ a = k) (hb : b = i ∨ b = k) (ha2 : i < k → a = k) (ha3 : k ≤ i → a = i) (hb2 : k < i → b = k) (hb3 : i ≤ k → b = i) : ∀ j, pu h2 k (f i) j = carF f i k j := by
  intro j
  unfold carF
  by_cases hj : j = k
  · rw [hj, pu_s, if_pos rfl]
  · rw [pu_n hj, if_neg hj, g2]
    rcases Nat.lt_trichotomy i k with h | h | h
    · have e1 := ha2 h
      have e2 := hb3 (by omega)
      subst e1; subst e2
      rw [if_neg (by omega), g1]
      by_cases q : i ≤ j ∧ j < k
      · rw [if_pos q, if_pos q]
      · rw [if_neg q, if_neg q, if_neg (by omega)]
    · subst h
      have e1 := ha3 (Nat.le_refl _)
      have e2 := hb3 (Nat.le_refl _)
      subst e1; subst e2
      rw [if_neg (by omega), g1, if_neg (by omega), if_neg (by omega), if_neg (by omega)]
    · have e1 := ha3 (by omega)
      have e2 := hb2 h
      subst e1; subst e2
      rw [if_neg (show ¬ (i ≤ j ∧ j < k) by omega)]
      by_cases q : k < j ∧ j ≤ i
      · rw [if_pos q, if_pos q, g1, if_neg (by omega)]
      · rw [if_neg q, if_neg q, g1, if_neg (by omega)]
def orF (f : Nat → Nat) : Nat → Nat
  | 0 => 0
  | k + 1 => orF f k ||| f k
theorem orF_lt {f : Nat → Nat} {n : Nat} (h : ∀ j, j < n → f j < 4096) : ∀ k, k ≤ n → orF f k < 4096
  | 0, _ => by decide
  | k + 1, hk => Nat.or_lt_two_pow (n := 12) (orF_lt h k (by omega)) (h k (by omega))
theorem orF_shr (f : Nat → Nat) (b : Nat) : ∀ n, orF f n >>> b = 0 ↔ ∀ j, j < n → f j >>> b = 0 := by
  intro n
  induction n with
  | zero => simp [orF]
  | succ n ih =>
    show (orF f n ||| f n) >>> b = 0 ↔ _
    rw [Nat.shiftRight_or_distrib, Nat.or_eq_zero_iff, ih]
    constructor
    · intro q j hj
      rcases Nat.lt_or_ge j n with h | h
      · exact q.1 j h
      · rw [show j = n by omega]; exact q.2
    · intro q
      exact ⟨fun j hj => q j (by omega), q n (by omega)⟩
def smF (f : Nat → Nat) : Nat → Nat
  | 0 => 0
  | k + 1 => smF f k + f k
theorem smF_le {f : Nat → Nat} {b : Nat} : ∀ n, (∀ j, j < n → f j ≤ b) → smF f n ≤ n * b
  | 0, _ => Nat.zero_le _
  | n + 1, h => by
    have h1 := smF_le n (fun j hj => h j (by omega))
    have h2 := h n (by omega)
    show smF f n + f n ≤ (n + 1) * b
    rw [Nat.succ_mul]
    omega
theorem smF_cong {f g : Nat → Nat} : ∀ n, (∀ j, j < n → f j = g j) → smF f n = smF g n
  | 0, _ => rfl
  | n + 1, h => by
    show smF f n + f n = smF g n + g n
    rw [smF_cong n (fun j hj => h j (by omega)), h n (by omega)]
theorem shl1_lt {c : Nat} (h : c ≤ 12) : 1 <<< c < 2147483648 := by
  rw [Nat.one_shiftLeft]
  have h2 : 2 ^ c ≤ 2 ^ 12 := Nat.pow_le_pow_right (by decide) h
  omega
theorem shr_lt {a b : Nat} (h : a < 2147483648) : a >>> b < 2147483648 := Nat.lt_of_le_of_lt (Nat.shiftRight_le _ _) h
end
section
set_option maxHeartbeats 4000000 in
set_option maxRecDepth 100000 in
theorem c_X4_combine (l : Launch) (G : gT) (a0 a1 a2 a3 a4 a5 a6 a7 : Nat) (vc vm rs rm rr : Int32) (ss su sr : Nat → Nat) (set sum : Nat) (hset : set < 4096) (hss : ∀ j, ss j < 4096) : CV l yX4_combine wsX4_combine ({ frames := 0, cells := 0, slots := 0, locals := 0 } : Room) G [.ref a0, .int (nI set), .int (nI sum)] [(a0, .inr (4, [.int vc, .int vm, .ref a1, .ref a2, .ref a3, .ref a4, .ref a5, .ref a6, .int rs, .int rm, .int rr, .ref a7])), (a4, .inl (gI G, 12, .inl (nA ss))), (a5, .inl (gI G, 12, .inl (nA su))), (a6, .inl (gI G, 12, .inl (nA sr)))] 0 0 (fun (u : Unit) => True) (fun (u : Unit) => [(a0, .inr (4, [.int vc, .int vm, .ref a1, .ref a2, .ref a3, .ref a4, .ref a5, .ref a6, .int (nI ((red ss su sr 12 (set, sum, 0)).1)), .int (nI ((red ss su sr 12 (set, sum, 0)).2.1)), .int (nI ((red ss su sr 12 (set, sum, 0)).2.2)), .ref a7])), (a4, .inl (gI G, 12, .inl (nA ss))), (a5, .inl (gI G, 12, .inl (nA su))), (a6, .inl (gI G, 12, .inl (nA sr)))]) := by
  refine CV.of (cc := cX4_combine) (maxL := 4) (ret := none) (by decide +kernel) rfl (Nat.le_of_ble_eq_true rfl) rfl (fun p e s m args below meth c A S hr hlk hnm K hA hP hD hS ls hl => ?_)
  have hx := S.1
  have hb := S.2.1
  have hl : lv_has ls 4 [(0, .ref a0), (1, .int (nI set)), (2, .int (nI sum))] := hl
  refine lv_aload_n hx hb dX4_combine_0 rfl (lv_at hl 0 rfl) ?_
  refine lv_iload_n hx hb dX4_combine_1 rfl (lv_at hl 1 rfl) ?_
  refine z_put S K hP hD hS (ty0 := tyX4) hX4_combine_X4 tyX4_ok nmX4 0 rfl rfl 8 (by decide) kX4_combine_1 rfl rfl rfl rfl (Nat.le_of_ble_eq_true rfl) dX4_combine_2 (fun H locs hP hD hS => ?_)
  have hP : va_P (gD G) vwCl [(a0, .inr (4, [.int vc, .int vm, .ref a1, .ref a2, .ref a3, .ref a4, .ref a5, .ref a6, .int (nI set), .int rm, .int rr, .ref a7])), (a4, .inl (gI G, 12, .inl (nA ss))), (a5, .inl (gI G, 12, .inl (nA su))), (a6, .inl (gI G, 12, .inl (nA sr)))] H := hP
  have hD : va_D A [(a0, .inr (4, [.int vc, .int vm, .ref a1, .ref a2, .ref a3, .ref a4, .ref a5, .ref a6, .int (nI set), .int rm, .int rr, .ref a7])), (a4, .inl (gI G, 12, .inl (nA ss))), (a5, .inl (gI G, 12, .inl (nA su))), (a6, .inl (gI G, 12, .inl (nA sr)))] := hD
  refine lv_aload_n hx hb dX4_combine_5 rfl (lv_at hl 0 rfl) ?_
  refine lv_iload_n hx hb dX4_combine_6 rfl (lv_at hl 2 rfl) ?_
  refine z_put S K hP hD hS (ty0 := tyX4) hX4_combine_X4 tyX4_ok nmX4 0 rfl rfl 9 (by decide) kX4_combine_2 rfl rfl rfl rfl (Nat.le_of_ble_eq_true rfl) dX4_combine_7 (fun H locs hP hD hS => ?_)
  have hP : va_P (gD G) vwCl [(a0, .inr (4, [.int vc, .int vm, .ref a1, .ref a2, .ref a3, .ref a4, .ref a5, .ref a6, .int (nI set), .int (nI sum), .int rr, .ref a7])), (a4, .inl (gI G, 12, .inl (nA ss))), (a5, .inl (gI G, 12, .inl (nA su))), (a6, .inl (gI G, 12, .inl (nA sr)))] H := hP
  have hD : va_D A [(a0, .inr (4, [.int vc, .int vm, .ref a1, .ref a2, .ref a3, .ref a4, .ref a5, .ref a6, .int (nI set), .int (nI sum), .int rr, .ref a7])), (a4, .inl (gI G, 12, .inl (nA ss))), (a5, .inl (gI G, 12, .inl (nA su))), (a6, .inl (gI G, 12, .inl (nA sr)))] := hD
  refine lv_aload_n hx hb dX4_combine_10 rfl (lv_at hl 0 rfl) ?_
  refine lv_iconst (v := nI 0) hx hb dX4_combine_11 (by decide +kernel) ?_
  refine z_put S K hP hD hS (ty0 := tyX4) hX4_combine_X4 tyX4_ok nmX4 0 rfl rfl 10 (by decide) kX4_combine_3 rfl rfl rfl rfl (Nat.le_of_ble_eq_true rfl) dX4_combine_12 (fun H locs hP hD hS => ?_)
  have hP : va_P (gD G) vwCl [(a0, .inr (4, [.int vc, .int vm, .ref a1, .ref a2, .ref a3, .ref a4, .ref a5, .ref a6, .int (nI set), .int (nI sum), .int (nI 0), .ref a7])), (a4, .inl (gI G, 12, .inl (nA ss))), (a5, .inl (gI G, 12, .inl (nA su))), (a6, .inl (gI G, 12, .inl (nA sr)))] H := hP
  have hD : va_D A [(a0, .inr (4, [.int vc, .int vm, .ref a1, .ref a2, .ref a3, .ref a4, .ref a5, .ref a6, .int (nI set), .int (nI sum), .int (nI 0), .ref a7])), (a4, .inl (gI G, 12, .inl (nA ss))), (a5, .inl (gI G, 12, .inl (nA su))), (a6, .inl (gI G, 12, .inl (nA sr)))] := hD
  refine lv_iconst (v := nI 0) hx hb dX4_combine_15 (by decide +kernel) ?_
  refine lv_istore_n (lv' := [(3, .int (nI 0)), (0, .ref a0), (1, .int (nI set)), (2, .int (nI sum))]) hx hb dX4_combine_16 rfl hl (by decide) rfl (fun ls hl => ?_)
  have lp_17 : ∀ (n_17 : Nat) (i r1 r2 r3 : Nat), 12 - i < n_17 → i ≤ 12 → red ss su sr i (set, sum, 0) = (r1, r2, r3) → r1 < 4096 → ∀ (H : Heap) (locs : List Loc), va_P (gD G) vwCl [(a0, .inr (4, [.int vc, .int vm, .ref a1, .ref a2, .ref a3, .ref a4, .ref a5, .ref a6, .int (nI r1), .int (nI r2), .int (nI r3), .ref a7])), (a4, .inl (gI G, 12, .inl (nA ss))), (a5, .inl (gI G, 12, .inl (nA su))), (a6, .inl (gI G, 12, .inl (nA sr)))] H → va_D A [(a0, .inr (4, [.int vc, .int vm, .ref a1, .ref a2, .ref a3, .ref a4, .ref a5, .ref a6, .int (nI r1), .int (nI r2), .int (nI r3), .ref a7])), (a4, .inl (gI G, 12, .inl (nA ss))), (a5, .inl (gI G, 12, .inl (nA su))), (a6, .inl (gI G, 12, .inl (nA sr)))] → va_S A s.heap H locs → ∀ ls : Array Slot, lv_has ls 4 [(3, .int (nI i)), (0, .ref a0), (1, .int (nI set)), (2, .int (nI sum))] → W p l e ({ frames := 0, cells := 0, slots := 0, locals := 0 } : Room) s m args below meth c H locs 0 0 (MQ below (va_Qv (fun (u : Unit) => True) (cB G A (fun (u : Unit) => [(a0, .inr (4, [.int vc, .int vm, .ref a1, .ref a2, .ref a3, .ref a4, .ref a5, .ref a6, .int (nI ((red ss su sr 12 (set, sum, 0)).1)), .int (nI ((red ss su sr 12 (set, sum, 0)).2.1)), .int (nI ((red ss su sr 12 (set, sum, 0)).2.2)), .ref a7])), (a4, .inl (gI G, 12, .inl (nA ss))), (a5, .inl (gI G, 12, .inl (nA su))), (a6, .inl (gI G, 12, .inl (nA sr)))])) A) args s 0 0 A) (F0 m 17 ls []) := by
    intro n_17
    induction n_17 with
    | zero =>
      intro i r1 r2 r3 h0
      exact absurd h0 (Nat.not_lt_zero _)
    | succ n_17 ih_17 =>
      intro i r1 r2 r3 hm_17 hi hr hb1 H locs hP hD hS ls hl
      refine lv_iload_n hx hb dX4_combine_17 rfl (lv_at hl 0 rfl) ?_
      refine lv_bipush (v := nI 12) hx hb dX4_combine_18 (by decide +kernel) ?_
      refine zb_ge (tgt := 95) S dX4_combine_20 (by decide) (by omega) (by decide) (fun c_20 => ?_) (fun c_20 => ?_)
      · skip
        have hi12 : i = 12 := by omega
        obtain rfl : i = 12 := hi12
        obtain rfl : r1 = (red ss su sr 12 (set, sum, 0)).1 := by rw [hr]
        obtain rfl : r2 = (red ss su sr 12 (set, sum, 0)).2.1 := by rw [hr]
        obtain rfl : r3 = (red ss su sr 12 (set, sum, 0)).2.2 := by rw [hr]
        exact z_vret S hr hlk hP hD hS () rfl trivial dX4_combine_95
      · skip
        refine lv_aload_n hx hb dX4_combine_23 rfl (lv_at hl 1 rfl) ?_
        refine z_get S K hP hX4_combine_X4 0 rfl rfl 8 (by decide) kX4_combine_1 rfl rfl dX4_combine_24 ?_
        refine lv_iload_n hx hb dX4_combine_27 rfl (lv_at hl 0 rfl) ?_
        refine zi_shr S dX4_combine_28 (by omega) (by omega) ?_
        refine lv_iconst (v := nI 1) hx hb dX4_combine_29 (by decide +kernel) ?_
        refine zi_and S dX4_combine_30 ?_
        refine lv_iconst (v := nI 1) hx hb dX4_combine_31 (by decide +kernel) ?_
        refine zb_ne (tgt := 89) S dX4_combine_32 (by decide) and1_31 (by decide) (fun c_32 => ?_) (fun c_32 => ?_)
        · skip
          refine lv_iinc (v := (nI (i + 1))) (lv' := [(3, .int (nI (i + 1))), (0, .ref a0), (1, .int (nI set)), (2, .int (nI sum))]) hx hb dX4_combine_89 hl (k := 0) rfl (z_i1 _) (by decide) rfl (fun ls hl => ?_)
          refine lv_goto (tgt := 17) hx hb dX4_combine_92 (by decide) ?_
          exact ih_17 (i + 1) r1 r2 r3 (by omega) (by omega) (by first | exact red_hit hr c_32 c_41 | exact red_sk1 hr c_32 | exact red_sk2 hr c_41) (by first | assumption | exact xor12 hb1 (hss _)) _ _ hP hD hS _ (lv_sub hl [0, 1, 2, 3] rfl)
        · skip
          refine lv_aload_n hx hb dX4_combine_35 rfl (lv_at hl 1 rfl) ?_
          refine z_get S K hP hX4_combine_X4 0 rfl rfl 5 (by decide) kX4_combine_4 rfl rfl dX4_combine_36 ?_
          refine lv_iload_n hx hb dX4_combine_39 rfl (lv_at hl 0 rfl) ?_
          refine z_iald S K hP 1 rfl (by omega) (by decide) dX4_combine_40 ?_
          have q_40 := hss i
          refine zf_eq (tgt := 89) S dX4_combine_41 (by decide) (by omega) (fun c_41 => ?_) (fun c_41 => ?_)
          · skip
            refine lv_iinc (v := (nI (i + 1))) (lv' := [(3, .int (nI (i + 1))), (0, .ref a0), (1, .int (nI set)), (2, .int (nI sum))]) hx hb dX4_combine_89 hl (k := 0) rfl (z_i1 _) (by decide) rfl (fun ls hl => ?_)
            refine lv_goto (tgt := 17) hx hb dX4_combine_92 (by decide) ?_
            exact ih_17 (i + 1) r1 r2 r3 (by omega) (by omega) (by first | exact red_hit hr c_32 c_41 | exact red_sk1 hr c_32 | exact red_sk2 hr c_41) (by first | assumption | exact xor12 hb1 (hss _)) _ _ hP hD hS _ (lv_sub hl [0, 1, 2, 3] rfl)
          · skip
            refine lv_aload_n hx hb dX4_combine_44 rfl (lv_at hl 1 rfl) ?_
            refine lv_dup hx hb dX4_combine_45 rfl ?_
            refine z_get S K hP hX4_combine_X4 0 rfl rfl 8 (by decide) kX4_combine_1 rfl rfl dX4_combine_46 ?_
            refine lv_aload_n hx hb dX4_combine_49 rfl (lv_at hl 1 rfl) ?_
            refine z_get S K hP hX4_combine_X4 0 rfl rfl 5 (by decide) kX4_combine_4 rfl rfl dX4_combine_50 ?_
            refine lv_iload_n hx hb dX4_combine_53 rfl (lv_at hl 0 rfl) ?_
            refine z_iald S K hP 1 rfl (by omega) (by decide) dX4_combine_54 ?_
            have q_54 := hss i
            refine zi_xor S dX4_combine_55 ?_
            refine z_put S K hP hD hS (ty0 := tyX4) hX4_combine_X4 tyX4_ok nmX4 0 rfl rfl 8 (by decide) kX4_combine_1 rfl rfl rfl rfl (Nat.le_of_ble_eq_true rfl) dX4_combine_56 (fun H locs hP hD hS => ?_)
            have hP : va_P (gD G) vwCl [(a0, .inr (4, [.int vc, .int vm, .ref a1, .ref a2, .ref a3, .ref a4, .ref a5, .ref a6, .int (nI (r1 ^^^ (ss i))), .int (nI r2), .int (nI r3), .ref a7])), (a4, .inl (gI G, 12, .inl (nA ss))), (a5, .inl (gI G, 12, .inl (nA su))), (a6, .inl (gI G, 12, .inl (nA sr)))] H := hP
            have hD : va_D A [(a0, .inr (4, [.int vc, .int vm, .ref a1, .ref a2, .ref a3, .ref a4, .ref a5, .ref a6, .int (nI (r1 ^^^ (ss i))), .int (nI r2), .int (nI r3), .ref a7])), (a4, .inl (gI G, 12, .inl (nA ss))), (a5, .inl (gI G, 12, .inl (nA su))), (a6, .inl (gI G, 12, .inl (nA sr)))] := hD
            refine lv_aload_n hx hb dX4_combine_59 rfl (lv_at hl 1 rfl) ?_
            refine lv_dup hx hb dX4_combine_60 rfl ?_
            refine z_get S K hP hX4_combine_X4 0 rfl rfl 9 (by decide) kX4_combine_2 rfl rfl dX4_combine_61 ?_
            refine lv_aload_n hx hb dX4_combine_64 rfl (lv_at hl 1 rfl) ?_
            refine z_get S K hP hX4_combine_X4 0 rfl rfl 6 (by decide) kX4_combine_5 rfl rfl dX4_combine_65 ?_
            refine lv_iload_n hx hb dX4_combine_68 rfl (lv_at hl 0 rfl) ?_
            refine z_iald S K hP 2 rfl (by omega) (by decide) dX4_combine_69 ?_
            refine zi_xor S dX4_combine_70 ?_
            refine z_put S K hP hD hS (ty0 := tyX4) hX4_combine_X4 tyX4_ok nmX4 0 rfl rfl 9 (by decide) kX4_combine_2 rfl rfl rfl rfl (Nat.le_of_ble_eq_true rfl) dX4_combine_71 (fun H locs hP hD hS => ?_)
            have hP : va_P (gD G) vwCl [(a0, .inr (4, [.int vc, .int vm, .ref a1, .ref a2, .ref a3, .ref a4, .ref a5, .ref a6, .int (nI (r1 ^^^ (ss i))), .int (nI (r2 ^^^ (su i))), .int (nI r3), .ref a7])), (a4, .inl (gI G, 12, .inl (nA ss))), (a5, .inl (gI G, 12, .inl (nA su))), (a6, .inl (gI G, 12, .inl (nA sr)))] H := hP
            have hD : va_D A [(a0, .inr (4, [.int vc, .int vm, .ref a1, .ref a2, .ref a3, .ref a4, .ref a5, .ref a6, .int (nI (r1 ^^^ (ss i))), .int (nI (r2 ^^^ (su i))), .int (nI r3), .ref a7])), (a4, .inl (gI G, 12, .inl (nA ss))), (a5, .inl (gI G, 12, .inl (nA su))), (a6, .inl (gI G, 12, .inl (nA sr)))] := hD
            refine lv_aload_n hx hb dX4_combine_74 rfl (lv_at hl 1 rfl) ?_
            refine lv_dup hx hb dX4_combine_75 rfl ?_
            refine z_get S K hP hX4_combine_X4 0 rfl rfl 10 (by decide) kX4_combine_3 rfl rfl dX4_combine_76 ?_
            refine lv_aload_n hx hb dX4_combine_79 rfl (lv_at hl 1 rfl) ?_
            refine z_get S K hP hX4_combine_X4 0 rfl rfl 7 (by decide) kX4_combine_6 rfl rfl dX4_combine_80 ?_
            refine lv_iload_n hx hb dX4_combine_83 rfl (lv_at hl 0 rfl) ?_
            refine z_iald S K hP 3 rfl (by omega) (by decide) dX4_combine_84 ?_
            refine zi_xor S dX4_combine_85 ?_
            refine z_put S K hP hD hS (ty0 := tyX4) hX4_combine_X4 tyX4_ok nmX4 0 rfl rfl 10 (by decide) kX4_combine_3 rfl rfl rfl rfl (Nat.le_of_ble_eq_true rfl) dX4_combine_86 (fun H locs hP hD hS => ?_)
            have hP : va_P (gD G) vwCl [(a0, .inr (4, [.int vc, .int vm, .ref a1, .ref a2, .ref a3, .ref a4, .ref a5, .ref a6, .int (nI (r1 ^^^ (ss i))), .int (nI (r2 ^^^ (su i))), .int (nI (r3 ^^^ (sr i))), .ref a7])), (a4, .inl (gI G, 12, .inl (nA ss))), (a5, .inl (gI G, 12, .inl (nA su))), (a6, .inl (gI G, 12, .inl (nA sr)))] H := hP
            have hD : va_D A [(a0, .inr (4, [.int vc, .int vm, .ref a1, .ref a2, .ref a3, .ref a4, .ref a5, .ref a6, .int (nI (r1 ^^^ (ss i))), .int (nI (r2 ^^^ (su i))), .int (nI (r3 ^^^ (sr i))), .ref a7])), (a4, .inl (gI G, 12, .inl (nA ss))), (a5, .inl (gI G, 12, .inl (nA su))), (a6, .inl (gI G, 12, .inl (nA sr)))] := hD
            refine lv_iinc (v := (nI (i + 1))) (lv' := [(3, .int (nI (i + 1))), (0, .ref a0), (1, .int (nI set)), (2, .int (nI sum))]) hx hb dX4_combine_89 hl (k := 0) rfl (z_i1 _) (by decide) rfl (fun ls hl => ?_)
            refine lv_goto (tgt := 17) hx hb dX4_combine_92 (by decide) ?_
            exact ih_17 (i + 1) (r1 ^^^ (ss i)) (r2 ^^^ (su i)) (r3 ^^^ (sr i)) (by omega) (by omega) (by first | exact red_hit hr c_32 c_41 | exact red_sk1 hr c_32 | exact red_sk2 hr c_41) (by first | assumption | exact xor12 hb1 (hss _)) _ _ hP hD hS _ (lv_sub hl [0, 1, 2, 3] rfl)
  exact lp_17 _ 0 set sum 0 (Nat.lt_succ_self _) (by omega) rfl hset _ _ hP hD hS _ (lv_sub hl [0, 1, 2, 3] rfl)
end
section
theorem zq_end : True := trivial
end
