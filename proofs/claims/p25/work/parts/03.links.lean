theorem kX0_init_1 : Cond.methodLink RX0 3 objectInit ∈ wsX0_init := List.mem_of_getElem? (i := 1) rfl
theorem kX0_init_2 : Cond.instanceMethod objectInit ∈ wsX0_init := List.mem_of_getElem? (i := 2) rfl
theorem kX0_init_4 : Cond.arrayClass .int ∈ wsX0_init := List.mem_of_getElem? (i := 4) rfl
theorem kX0_init_5 : Cond.fieldLink RX0 9 "ParityRules$BestAnswer" "exchanges" "[I" ∈ wsX0_init := List.mem_of_getElem? (i := 5) rfl
theorem hX0_init_X0 : ∀ w ∈ wsX00, w ∈ wsX0_init := fun w h => List.mem_cons_of_mem _ (List.mem_append_right _ h)
theorem kJ6_bitCount_0f7a4_1 : Cond.constant RJ6 265 (1431655765) ∈ wsJ6_bitCount_0f7a4 := List.mem_of_getElem? (i := 1) rfl
theorem kJ6_bitCount_0f7a4_2 : Cond.constant RJ6 266 (858993459) ∈ wsJ6_bitCount_0f7a4 := List.mem_of_getElem? (i := 2) rfl
theorem kJ6_bitCount_0f7a4_3 : Cond.constant RJ6 267 (252645135) ∈ wsJ6_bitCount_0f7a4 := List.mem_of_getElem? (i := 3) rfl
theorem kX5_parity_2 : Cond.static yJ6_bitCount_0f7a4 ∈ wsX5_parity := List.mem_of_getElem? (i := 2) rfl
theorem kX5_parity_3 : Cond.initialized RJ6 ∈ wsX5_parity := List.mem_of_getElem? (i := 3) rfl
theorem kX0_fillExchanges_1 : Cond.fieldLink RX0 39 "ParityRules$Row" "choices" "I" ∈ wsX0_fillExchanges := List.mem_of_getElem? (i := 1) rfl
theorem kX0_fillExchanges_2 : Cond.fieldLink RX0 47 "ParityRules$Row" "many" "I" ∈ wsX0_fillExchanges := List.mem_of_getElem? (i := 2) rfl
theorem kX0_fillExchanges_3 : Cond.fieldLink RX0 53 "ParityRules$Row" "sets" "[I" ∈ wsX0_fillExchanges := List.mem_of_getElem? (i := 3) rfl
theorem kX0_fillExchanges_4 : Cond.fieldLink RX0 9 "ParityRules$BestAnswer" "exchanges" "[I" ∈ wsX0_fillExchanges := List.mem_of_getElem? (i := 4) rfl
theorem kX0_fillExchanges_5 : Cond.static yX5_parity ∈ wsX0_fillExchanges := List.mem_of_getElem? (i := 5) rfl
theorem kX0_fillExchanges_6 : Cond.initialized RX5 ∈ wsX0_fillExchanges := List.mem_of_getElem? (i := 6) rfl
theorem kX0_fillExchanges_9 : Cond.static yJ6_bitCount_0f7a4 ∈ wsX0_fillExchanges := List.mem_of_getElem? (i := 9) rfl
theorem kX0_fillExchanges_10 : Cond.initialized RJ6 ∈ wsX0_fillExchanges := List.mem_of_getElem? (i := 10) rfl
theorem hX0_fillExchanges_X3 : ∀ w ∈ wsX30, w ∈ wsX0_fillExchanges := fun w h => List.mem_cons_of_mem _ (List.mem_append_left _ (List.mem_append_right _ h))
theorem hX0_fillExchanges_X0 : ∀ w ∈ wsX00, w ∈ wsX0_fillExchanges := fun w h => List.mem_cons_of_mem _ (List.mem_append_right _ h)
theorem kX0_brokenByNone_1 : Cond.fieldLink RX0 47 "ParityRules$Row" "many" "I" ∈ wsX0_brokenByNone := List.mem_of_getElem? (i := 1) rfl
theorem kX0_brokenByNone_2 : Cond.fieldLink RX0 50 "ParityRules$Row" "sums" "[I" ∈ wsX0_brokenByNone := List.mem_of_getElem? (i := 2) rfl
theorem hX0_brokenByNone_X3 : ∀ w ∈ wsX30, w ∈ wsX0_brokenByNone := fun w h => List.mem_cons_of_mem _ (List.mem_append_right _ h)
theorem kX5_lowestBit_2 : Cond.static yJ6_bitCount_0f7a4 ∈ wsX5_lowestBit := List.mem_of_getElem? (i := 2) rfl
theorem kX5_lowestBit_3 : Cond.initialized RJ6 ∈ wsX5_lowestBit := List.mem_of_getElem? (i := 3) rfl
theorem kX0_find_1 : Cond.fieldLink RX0 23 "ParityRules$BestAnswer" "lowest" "I" ∈ wsX0_find := List.mem_of_getElem? (i := 1) rfl
theorem kX0_find_2 : Cond.fieldLink RX0 33 "ParityRules$BestAnswer" "broken" "I" ∈ wsX0_find := List.mem_of_getElem? (i := 2) rfl
theorem kX0_find_3 : Cond.fieldLink RX0 36 "ParityRules$BestAnswer" "asGood" "I" ∈ wsX0_find := List.mem_of_getElem? (i := 3) rfl
theorem kX0_find_4 : Cond.fieldLink RX0 39 "ParityRules$Row" "choices" "I" ∈ wsX0_find := List.mem_of_getElem? (i := 4) rfl
theorem kX0_find_5 : Cond.fieldLink RX0 9 "ParityRules$BestAnswer" "exchanges" "[I" ∈ wsX0_find := List.mem_of_getElem? (i := 5) rfl
theorem kX0_find_9 : Cond.initialized RX0 ∈ wsX0_find := List.mem_of_getElem? (i := 9) rfl
theorem kX0_find_11 : Cond.fieldLink RX0 47 "ParityRules$Row" "many" "I" ∈ wsX0_find := List.mem_of_getElem? (i := 11) rfl
theorem kX0_find_12 : Cond.fieldLink RX0 53 "ParityRules$Row" "sets" "[I" ∈ wsX0_find := List.mem_of_getElem? (i := 12) rfl
theorem kX0_find_13 : Cond.static yX5_parity ∈ wsX0_find := List.mem_of_getElem? (i := 13) rfl
theorem kX0_find_14 : Cond.initialized RX5 ∈ wsX0_find := List.mem_of_getElem? (i := 14) rfl
theorem kX0_find_17 : Cond.static yJ6_bitCount_0f7a4 ∈ wsX0_find := List.mem_of_getElem? (i := 17) rfl
theorem kX0_find_18 : Cond.initialized RJ6 ∈ wsX0_find := List.mem_of_getElem? (i := 18) rfl
theorem kX0_find_24 : Cond.static yX0_brokenByNone ∈ wsX0_find := List.mem_of_getElem? (i := 24) rfl
theorem kX0_find_26 : Cond.fieldLink RX0 50 "ParityRules$Row" "sums" "[I" ∈ wsX0_find := List.mem_of_getElem? (i := 26) rfl
theorem kX0_find_28 : Cond.static yX5_lowestBit ∈ wsX0_find := List.mem_of_getElem? (i := 28) rfl
theorem hX0_find_X0 : ∀ w ∈ wsX00, w ∈ wsX0_find := fun w h => List.mem_cons_of_mem _ (List.mem_append_left _ (List.mem_append_right _ h))
theorem hX0_find_X3 : ∀ w ∈ wsX30, w ∈ wsX0_find := fun w h => List.mem_cons_of_mem _ (List.mem_append_right _ h)
theorem kX3_init_1 : Cond.methodLink RX3 3 objectInit ∈ wsX3_init := List.mem_of_getElem? (i := 1) rfl
theorem kX3_init_2 : Cond.instanceMethod objectInit ∈ wsX3_init := List.mem_of_getElem? (i := 2) rfl
theorem kX3_init_4 : Cond.fieldLink RX3 9 "ParityRules$Row" "choices" "I" ∈ wsX3_init := List.mem_of_getElem? (i := 4) rfl
theorem kX3_init_5 : Cond.arrayClass .int ∈ wsX3_init := List.mem_of_getElem? (i := 5) rfl
theorem kX3_init_6 : Cond.fieldLink RX3 15 "ParityRules$Row" "sets" "[I" ∈ wsX3_init := List.mem_of_getElem? (i := 6) rfl
theorem kX3_init_7 : Cond.fieldLink RX3 19 "ParityRules$Row" "sums" "[I" ∈ wsX3_init := List.mem_of_getElem? (i := 7) rfl
theorem hX3_init_X3 : ∀ w ∈ wsX30, w ∈ wsX3_init := fun w h => List.mem_cons_of_mem _ (List.mem_append_right _ h)
theorem kX1_init_1 : Cond.methodLink RX1 3 objectInit ∈ wsX1_init := List.mem_of_getElem? (i := 1) rfl
theorem kX1_init_2 : Cond.instanceMethod objectInit ∈ wsX1_init := List.mem_of_getElem? (i := 2) rfl
theorem kX1_init_4 : Cond.classLink RX1 9 RX3 ∈ wsX1_init := List.mem_of_getElem? (i := 4) rfl
theorem kX1_init_5 : Cond.fieldLink RX1 11 "ParityRules$History" "states" "[LParityRules$Row;" ∈ wsX1_init := List.mem_of_getElem? (i := 5) rfl
theorem kX1_init_6 : Cond.instantiable RX3 4 ∈ wsX1_init := List.mem_of_getElem? (i := 6) rfl
theorem kX1_init_7 : Cond.initialized RX3 ∈ wsX1_init := List.mem_of_getElem? (i := 7) rfl
theorem kX1_init_8 : Cond.instanceMethod yX3_init ∈ wsX1_init := List.mem_of_getElem? (i := 8) rfl
theorem kX1_init_12 : Cond.arrayClass .int ∈ wsX1_init := List.mem_of_getElem? (i := 12) rfl
theorem hX1_init_X1 : ∀ w ∈ wsX10, w ∈ wsX1_init := fun w h => List.mem_cons_of_mem _ (List.mem_append_left _ (List.mem_append_right _ h))
theorem hX1_init_X3 : ∀ w ∈ wsX30, w ∈ wsX1_init := fun w h => List.mem_cons_of_mem _ (List.mem_append_right _ h)
theorem kX1_dropOldest_1 : Cond.fieldLink RX1 11 "ParityRules$History" "states" "[LParityRules$Row;" ∈ wsX1_dropOldest := List.mem_of_getElem? (i := 1) rfl
theorem kX1_dropOldest_2 : Cond.fieldLink RX1 18 "ParityRules$History" "many" "I" ∈ wsX1_dropOldest := List.mem_of_getElem? (i := 2) rfl
theorem hX1_dropOldest_X1 : ∀ w ∈ wsX10, w ∈ wsX1_dropOldest := fun w h => List.mem_cons_of_mem _ (List.mem_append_right _ h)
theorem kX3_become_1 : Cond.fieldLink RX3 9 "ParityRules$Row" "choices" "I" ∈ wsX3_become := List.mem_of_getElem? (i := 1) rfl
theorem kX3_become_2 : Cond.fieldLink RX3 22 "ParityRules$Row" "many" "I" ∈ wsX3_become := List.mem_of_getElem? (i := 2) rfl
theorem kX3_become_3 : Cond.fieldLink RX3 15 "ParityRules$Row" "sets" "[I" ∈ wsX3_become := List.mem_of_getElem? (i := 3) rfl
theorem kX3_become_4 : Cond.methodLink RX3 25 arraycopyName ∈ wsX3_become := List.mem_of_getElem? (i := 4) rfl
theorem kX3_become_5 : Cond.native arraycopyName ∈ wsX3_become := List.mem_of_getElem? (i := 5) rfl
theorem kX3_become_6 : Cond.static arraycopyName ∈ wsX3_become := List.mem_of_getElem? (i := 6) rfl
theorem kX3_become_7 : Cond.initialized "java/lang/System" ∈ wsX3_become := List.mem_of_getElem? (i := 7) rfl
theorem kX3_become_8 : Cond.fieldLink RX3 19 "ParityRules$Row" "sums" "[I" ∈ wsX3_become := List.mem_of_getElem? (i := 8) rfl
theorem hX3_become_X3 : ∀ w ∈ wsX30, w ∈ wsX3_become := fun w h => List.mem_cons_of_mem _ (List.mem_append_right _ h)
theorem kX1_remember_1 : Cond.fieldLink RX1 18 "ParityRules$History" "many" "I" ∈ wsX1_remember := List.mem_of_getElem? (i := 1) rfl
theorem kX1_remember_2 : Cond.fieldLink RX1 11 "ParityRules$History" "states" "[LParityRules$Row;" ∈ wsX1_remember := List.mem_of_getElem? (i := 2) rfl
theorem kX1_remember_6 : Cond.initialized RX1 ∈ wsX1_remember := List.mem_of_getElem? (i := 6) rfl
theorem kX1_remember_11 : Cond.initialized RX3 ∈ wsX1_remember := List.mem_of_getElem? (i := 11) rfl
theorem kX1_remember_17 : Cond.native arraycopyName ∈ wsX1_remember := List.mem_of_getElem? (i := 17) rfl
theorem kX1_remember_18 : Cond.static arraycopyName ∈ wsX1_remember := List.mem_of_getElem? (i := 18) rfl
theorem kX1_remember_19 : Cond.initialized "java/lang/System" ∈ wsX1_remember := List.mem_of_getElem? (i := 19) rfl
theorem hX1_remember_X1 : ∀ w ∈ wsX10, w ∈ wsX1_remember := fun w h => List.mem_cons_of_mem _ (List.mem_append_left _ (List.mem_append_right _ h))
theorem hX1_remember_X3 : ∀ w ∈ wsX30, w ∈ wsX1_remember := fun w h => List.mem_cons_of_mem _ (List.mem_append_right _ h)
theorem kX1_giveBack_1 : Cond.fieldLink RX1 18 "ParityRules$History" "many" "I" ∈ wsX1_giveBack := List.mem_of_getElem? (i := 1) rfl
theorem kX1_giveBack_2 : Cond.fieldLink RX1 11 "ParityRules$History" "states" "[LParityRules$Row;" ∈ wsX1_giveBack := List.mem_of_getElem? (i := 2) rfl
theorem kX1_giveBack_6 : Cond.initialized RX3 ∈ wsX1_giveBack := List.mem_of_getElem? (i := 6) rfl
theorem kX1_giveBack_12 : Cond.native arraycopyName ∈ wsX1_giveBack := List.mem_of_getElem? (i := 12) rfl
theorem kX1_giveBack_13 : Cond.static arraycopyName ∈ wsX1_giveBack := List.mem_of_getElem? (i := 13) rfl
theorem kX1_giveBack_14 : Cond.initialized "java/lang/System" ∈ wsX1_giveBack := List.mem_of_getElem? (i := 14) rfl
theorem hX1_giveBack_X1 : ∀ w ∈ wsX10, w ∈ wsX1_giveBack := fun w h => List.mem_cons_of_mem _ (List.mem_append_left _ (List.mem_append_right _ h))
theorem hX1_giveBack_X3 : ∀ w ∈ wsX30, w ∈ wsX1_giveBack := fun w h => List.mem_cons_of_mem _ (List.mem_append_right _ h)
theorem kX2_init_1 : Cond.methodLink RX2 3 objectInit ∈ wsX2_init := List.mem_of_getElem? (i := 1) rfl
theorem kX2_init_2 : Cond.instanceMethod objectInit ∈ wsX2_init := List.mem_of_getElem? (i := 2) rfl
theorem kX2_init_4 : Cond.arrayClass .char ∈ wsX2_init := List.mem_of_getElem? (i := 4) rfl
theorem kX2_init_5 : Cond.fieldLink RX2 9 "ParityRules$Pad" "characters" "[C" ∈ wsX2_init := List.mem_of_getElem? (i := 5) rfl
theorem hX2_init_X2 : ∀ w ∈ wsX20, w ∈ wsX2_init := fun w h => List.mem_cons_of_mem _ (List.mem_append_right _ h)
theorem kX3_hasPlace_1 : Cond.fieldLink RX3 22 "ParityRules$Row" "many" "I" ∈ wsX3_hasPlace := List.mem_of_getElem? (i := 1) rfl
theorem hX3_hasPlace_X3 : ∀ w ∈ wsX30, w ∈ wsX3_hasPlace := fun w h => List.mem_cons_of_mem _ (List.mem_append_right _ h)
theorem kX3_hasSet_1 : Cond.fieldLink RX3 9 "ParityRules$Row" "choices" "I" ∈ wsX3_hasSet := List.mem_of_getElem? (i := 1) rfl
theorem hX3_hasSet_X3 : ∀ w ∈ wsX30, w ∈ wsX3_hasSet := fun w h => List.mem_cons_of_mem _ (List.mem_append_right _ h)
theorem kX3_setsStayBelow_1 : Cond.fieldLink RX3 22 "ParityRules$Row" "many" "I" ∈ wsX3_setsStayBelow := List.mem_of_getElem? (i := 1) rfl
theorem kX3_setsStayBelow_2 : Cond.fieldLink RX3 15 "ParityRules$Row" "sets" "[I" ∈ wsX3_setsStayBelow := List.mem_of_getElem? (i := 2) rfl
theorem hX3_setsStayBelow_X3 : ∀ w ∈ wsX30, w ∈ wsX3_setsStayBelow := fun w h => List.mem_cons_of_mem _ (List.mem_append_right _ h)
theorem kX3_rulesWith_1 : Cond.fieldLink RX3 22 "ParityRules$Row" "many" "I" ∈ wsX3_rulesWith := List.mem_of_getElem? (i := 1) rfl
theorem kX3_rulesWith_2 : Cond.fieldLink RX3 15 "ParityRules$Row" "sets" "[I" ∈ wsX3_rulesWith := List.mem_of_getElem? (i := 2) rfl
theorem hX3_rulesWith_X3 : ∀ w ∈ wsX30, w ∈ wsX3_rulesWith := fun w h => List.mem_cons_of_mem _ (List.mem_append_right _ h)
theorem kX3_append_1 : Cond.fieldLink RX3 22 "ParityRules$Row" "many" "I" ∈ wsX3_append := List.mem_of_getElem? (i := 1) rfl
theorem kX3_append_2 : Cond.fieldLink RX3 15 "ParityRules$Row" "sets" "[I" ∈ wsX3_append := List.mem_of_getElem? (i := 2) rfl
theorem kX3_append_3 : Cond.fieldLink RX3 19 "ParityRules$Row" "sums" "[I" ∈ wsX3_append := List.mem_of_getElem? (i := 3) rfl
theorem hX3_append_X3 : ∀ w ∈ wsX30, w ∈ wsX3_append := fun w h => List.mem_cons_of_mem _ (List.mem_append_right _ h)
theorem kX3_carryRule_1 : Cond.fieldLink RX3 15 "ParityRules$Row" "sets" "[I" ∈ wsX3_carryRule := List.mem_of_getElem? (i := 1) rfl
theorem kX3_carryRule_2 : Cond.fieldLink RX3 19 "ParityRules$Row" "sums" "[I" ∈ wsX3_carryRule := List.mem_of_getElem? (i := 2) rfl
theorem kX3_carryRule_3 : Cond.static yX5_carry ∈ wsX3_carryRule := List.mem_of_getElem? (i := 3) rfl
theorem kX3_carryRule_4 : Cond.initialized RX5 ∈ wsX3_carryRule := List.mem_of_getElem? (i := 4) rfl
theorem hX3_carryRule_X3 : ∀ w ∈ wsX30, w ∈ wsX3_carryRule := fun w h => List.mem_cons_of_mem _ (List.mem_append_right _ h)
theorem kX3_takeOut_1 : Cond.fieldLink RX3 22 "ParityRules$Row" "many" "I" ∈ wsX3_takeOut := List.mem_of_getElem? (i := 1) rfl
theorem kX3_takeOut_5 : Cond.initialized RX3 ∈ wsX3_takeOut := List.mem_of_getElem? (i := 5) rfl
theorem kX3_takeOut_7 : Cond.fieldLink RX3 15 "ParityRules$Row" "sets" "[I" ∈ wsX3_takeOut := List.mem_of_getElem? (i := 7) rfl
theorem kX3_takeOut_8 : Cond.fieldLink RX3 19 "ParityRules$Row" "sums" "[I" ∈ wsX3_takeOut := List.mem_of_getElem? (i := 8) rfl
theorem kX3_takeOut_9 : Cond.static yX5_carry ∈ wsX3_takeOut := List.mem_of_getElem? (i := 9) rfl
theorem kX3_takeOut_10 : Cond.initialized RX5 ∈ wsX3_takeOut := List.mem_of_getElem? (i := 10) rfl
theorem hX3_takeOut_X3 : ∀ w ∈ wsX30, w ∈ wsX3_takeOut := fun w h => List.mem_cons_of_mem _ (List.mem_append_right _ h)
theorem kX4_init_1 : Cond.methodLink RX4 3 objectInit ∈ wsX4_init := List.mem_of_getElem? (i := 1) rfl
theorem kX4_init_2 : Cond.instanceMethod objectInit ∈ wsX4_init := List.mem_of_getElem? (i := 2) rfl
theorem kX4_init_4 : Cond.arrayClass .int ∈ wsX4_init := List.mem_of_getElem? (i := 4) rfl
theorem kX4_init_5 : Cond.fieldLink RX4 9 "ParityRules$Verdict" "states" "[I" ∈ wsX4_init := List.mem_of_getElem? (i := 5) rfl
theorem kX4_init_6 : Cond.fieldLink RX4 15 "ParityRules$Verdict" "reasons" "[I" ∈ wsX4_init := List.mem_of_getElem? (i := 6) rfl
theorem kX4_init_7 : Cond.fieldLink RX4 18 "ParityRules$Verdict" "tally" "[I" ∈ wsX4_init := List.mem_of_getElem? (i := 7) rfl
theorem kX4_init_8 : Cond.fieldLink RX4 21 "ParityRules$Verdict" "stepSets" "[I" ∈ wsX4_init := List.mem_of_getElem? (i := 8) rfl
theorem kX4_init_9 : Cond.fieldLink RX4 24 "ParityRules$Verdict" "stepSums" "[I" ∈ wsX4_init := List.mem_of_getElem? (i := 9) rfl
theorem kX4_init_10 : Cond.fieldLink RX4 27 "ParityRules$Verdict" "stepReasons" "[I" ∈ wsX4_init := List.mem_of_getElem? (i := 10) rfl
theorem kX4_init_11 : Cond.fieldLink RX4 30 "ParityRules$Verdict" "exchanges" "[I" ∈ wsX4_init := List.mem_of_getElem? (i := 11) rfl
theorem hX4_init_X4 : ∀ w ∈ wsX40, w ∈ wsX4_init := fun w h => List.mem_cons_of_mem _ (List.mem_append_right _ h)
theorem kX4_combine_1 : Cond.fieldLink RX4 58 "ParityRules$Verdict" "restSet" "I" ∈ wsX4_combine := List.mem_of_getElem? (i := 1) rfl
theorem kX4_combine_2 : Cond.fieldLink RX4 65 "ParityRules$Verdict" "restSum" "I" ∈ wsX4_combine := List.mem_of_getElem? (i := 2) rfl
theorem kX4_combine_3 : Cond.fieldLink RX4 68 "ParityRules$Verdict" "restReason" "I" ∈ wsX4_combine := List.mem_of_getElem? (i := 3) rfl
theorem kX4_combine_4 : Cond.fieldLink RX4 21 "ParityRules$Verdict" "stepSets" "[I" ∈ wsX4_combine := List.mem_of_getElem? (i := 4) rfl
theorem kX4_combine_5 : Cond.fieldLink RX4 24 "ParityRules$Verdict" "stepSums" "[I" ∈ wsX4_combine := List.mem_of_getElem? (i := 5) rfl
theorem kX4_combine_6 : Cond.fieldLink RX4 27 "ParityRules$Verdict" "stepReasons" "[I" ∈ wsX4_combine := List.mem_of_getElem? (i := 6) rfl
theorem hX4_combine_X4 : ∀ w ∈ wsX40, w ∈ wsX4_combine := fun w h => List.mem_cons_of_mem _ (List.mem_append_right _ h)
theorem kX4_stateOf_1 : Cond.fieldLink RX4 58 "ParityRules$Verdict" "restSet" "I" ∈ wsX4_stateOf := List.mem_of_getElem? (i := 1) rfl
theorem kX4_stateOf_2 : Cond.fieldLink RX4 65 "ParityRules$Verdict" "restSum" "I" ∈ wsX4_stateOf := List.mem_of_getElem? (i := 2) rfl
theorem kX4_stateOf_6 : Cond.initialized RX4 ∈ wsX4_stateOf := List.mem_of_getElem? (i := 6) rfl
theorem kX4_stateOf_8 : Cond.fieldLink RX4 68 "ParityRules$Verdict" "restReason" "I" ∈ wsX4_stateOf := List.mem_of_getElem? (i := 8) rfl
theorem kX4_stateOf_9 : Cond.fieldLink RX4 21 "ParityRules$Verdict" "stepSets" "[I" ∈ wsX4_stateOf := List.mem_of_getElem? (i := 9) rfl
theorem kX4_stateOf_10 : Cond.fieldLink RX4 24 "ParityRules$Verdict" "stepSums" "[I" ∈ wsX4_stateOf := List.mem_of_getElem? (i := 10) rfl
theorem kX4_stateOf_11 : Cond.fieldLink RX4 27 "ParityRules$Verdict" "stepReasons" "[I" ∈ wsX4_stateOf := List.mem_of_getElem? (i := 11) rfl
theorem hX4_stateOf_X4 : ∀ w ∈ wsX40, w ∈ wsX4_stateOf := fun w h => List.mem_cons_of_mem _ (List.mem_append_right _ h)
theorem kX4_judgeNext_1 : Cond.fieldLink RX4 58 "ParityRules$Verdict" "restSet" "I" ∈ wsX4_judgeNext := List.mem_of_getElem? (i := 1) rfl
theorem kX4_judgeNext_2 : Cond.fieldLink RX4 21 "ParityRules$Verdict" "stepSets" "[I" ∈ wsX4_judgeNext := List.mem_of_getElem? (i := 2) rfl
theorem kX4_judgeNext_3 : Cond.fieldLink RX4 24 "ParityRules$Verdict" "stepSums" "[I" ∈ wsX4_judgeNext := List.mem_of_getElem? (i := 3) rfl
theorem kX4_judgeNext_4 : Cond.fieldLink RX4 65 "ParityRules$Verdict" "restSum" "I" ∈ wsX4_judgeNext := List.mem_of_getElem? (i := 4) rfl
theorem kX4_judgeNext_5 : Cond.fieldLink RX4 27 "ParityRules$Verdict" "stepReasons" "[I" ∈ wsX4_judgeNext := List.mem_of_getElem? (i := 5) rfl
theorem kX4_judgeNext_6 : Cond.fieldLink RX4 68 "ParityRules$Verdict" "restReason" "I" ∈ wsX4_judgeNext := List.mem_of_getElem? (i := 6) rfl
theorem kX4_judgeNext_7 : Cond.fieldLink RX4 40 "ParityRules$Verdict" "many" "I" ∈ wsX4_judgeNext := List.mem_of_getElem? (i := 7) rfl
theorem kX4_judgeNext_8 : Cond.fieldLink RX4 9 "ParityRules$Verdict" "states" "[I" ∈ wsX4_judgeNext := List.mem_of_getElem? (i := 8) rfl
theorem kX4_judgeNext_9 : Cond.fieldLink RX4 15 "ParityRules$Verdict" "reasons" "[I" ∈ wsX4_judgeNext := List.mem_of_getElem? (i := 9) rfl
theorem kX4_judgeNext_10 : Cond.fieldLink RX4 18 "ParityRules$Verdict" "tally" "[I" ∈ wsX4_judgeNext := List.mem_of_getElem? (i := 10) rfl
theorem kX4_judgeNext_14 : Cond.initialized RX4 ∈ wsX4_judgeNext := List.mem_of_getElem? (i := 14) rfl
theorem kX4_judgeNext_20 : Cond.static yX5_lowestBit ∈ wsX4_judgeNext := List.mem_of_getElem? (i := 20) rfl
theorem kX4_judgeNext_21 : Cond.initialized RX5 ∈ wsX4_judgeNext := List.mem_of_getElem? (i := 21) rfl
theorem kX4_judgeNext_24 : Cond.static yJ6_bitCount_0f7a4 ∈ wsX4_judgeNext := List.mem_of_getElem? (i := 24) rfl
theorem kX4_judgeNext_25 : Cond.initialized RJ6 ∈ wsX4_judgeNext := List.mem_of_getElem? (i := 25) rfl
theorem hX4_judgeNext_X4 : ∀ w ∈ wsX40, w ∈ wsX4_judgeNext := fun w h => List.mem_cons_of_mem _ (List.mem_append_right _ h)
theorem kX4_judge_1 : Cond.fieldLink RX4 33 "ParityRules$Row" "choices" "I" ∈ wsX4_judge := List.mem_of_getElem? (i := 1) rfl
theorem kX4_judge_2 : Cond.fieldLink RX4 39 "ParityRules$Verdict" "choices" "I" ∈ wsX4_judge := List.mem_of_getElem? (i := 2) rfl
theorem kX4_judge_3 : Cond.fieldLink RX4 40 "ParityRules$Verdict" "many" "I" ∈ wsX4_judge := List.mem_of_getElem? (i := 3) rfl
theorem kX4_judge_4 : Cond.fieldLink RX4 18 "ParityRules$Verdict" "tally" "[I" ∈ wsX4_judge := List.mem_of_getElem? (i := 4) rfl
theorem kX4_judge_5 : Cond.fieldLink RX4 21 "ParityRules$Verdict" "stepSets" "[I" ∈ wsX4_judge := List.mem_of_getElem? (i := 5) rfl
theorem kX4_judge_6 : Cond.fieldLink RX4 43 "ParityRules$Row" "many" "I" ∈ wsX4_judge := List.mem_of_getElem? (i := 6) rfl
theorem kX4_judge_7 : Cond.fieldLink RX4 44 "ParityRules$Row" "sets" "[I" ∈ wsX4_judge := List.mem_of_getElem? (i := 7) rfl
theorem kX4_judge_8 : Cond.fieldLink RX4 47 "ParityRules$Row" "sums" "[I" ∈ wsX4_judge := List.mem_of_getElem? (i := 8) rfl
theorem kX4_judge_12 : Cond.initialized RX4 ∈ wsX4_judge := List.mem_of_getElem? (i := 12) rfl
theorem kX4_judge_14 : Cond.fieldLink RX4 58 "ParityRules$Verdict" "restSet" "I" ∈ wsX4_judge := List.mem_of_getElem? (i := 14) rfl
theorem kX4_judge_15 : Cond.fieldLink RX4 24 "ParityRules$Verdict" "stepSums" "[I" ∈ wsX4_judge := List.mem_of_getElem? (i := 15) rfl
theorem kX4_judge_16 : Cond.fieldLink RX4 65 "ParityRules$Verdict" "restSum" "I" ∈ wsX4_judge := List.mem_of_getElem? (i := 16) rfl
theorem kX4_judge_17 : Cond.fieldLink RX4 27 "ParityRules$Verdict" "stepReasons" "[I" ∈ wsX4_judge := List.mem_of_getElem? (i := 17) rfl
theorem kX4_judge_18 : Cond.fieldLink RX4 68 "ParityRules$Verdict" "restReason" "I" ∈ wsX4_judge := List.mem_of_getElem? (i := 18) rfl
theorem kX4_judge_19 : Cond.fieldLink RX4 9 "ParityRules$Verdict" "states" "[I" ∈ wsX4_judge := List.mem_of_getElem? (i := 19) rfl
theorem kX4_judge_20 : Cond.fieldLink RX4 15 "ParityRules$Verdict" "reasons" "[I" ∈ wsX4_judge := List.mem_of_getElem? (i := 20) rfl
theorem kX4_judge_29 : Cond.static yX5_lowestBit ∈ wsX4_judge := List.mem_of_getElem? (i := 29) rfl
theorem kX4_judge_30 : Cond.initialized RX5 ∈ wsX4_judge := List.mem_of_getElem? (i := 30) rfl
theorem kX4_judge_33 : Cond.static yJ6_bitCount_0f7a4 ∈ wsX4_judge := List.mem_of_getElem? (i := 33) rfl
theorem kX4_judge_34 : Cond.initialized RJ6 ∈ wsX4_judge := List.mem_of_getElem? (i := 34) rfl
theorem hX4_judge_X3 : ∀ w ∈ wsX30, w ∈ wsX4_judge := fun w h => List.mem_cons_of_mem _ (List.mem_append_left _ (List.mem_append_right _ h))
theorem hX4_judge_X4 : ∀ w ∈ wsX40, w ∈ wsX4_judge := fun w h => List.mem_cons_of_mem _ (List.mem_append_right _ h)
theorem kX4_sumOf_1 : Cond.fieldLink RX4 58 "ParityRules$Verdict" "restSet" "I" ∈ wsX4_sumOf := List.mem_of_getElem? (i := 1) rfl
theorem kX4_sumOf_2 : Cond.fieldLink RX4 65 "ParityRules$Verdict" "restSum" "I" ∈ wsX4_sumOf := List.mem_of_getElem? (i := 2) rfl
theorem kX4_sumOf_6 : Cond.initialized RX4 ∈ wsX4_sumOf := List.mem_of_getElem? (i := 6) rfl
theorem kX4_sumOf_8 : Cond.fieldLink RX4 68 "ParityRules$Verdict" "restReason" "I" ∈ wsX4_sumOf := List.mem_of_getElem? (i := 8) rfl
theorem kX4_sumOf_9 : Cond.fieldLink RX4 21 "ParityRules$Verdict" "stepSets" "[I" ∈ wsX4_sumOf := List.mem_of_getElem? (i := 9) rfl
theorem kX4_sumOf_10 : Cond.fieldLink RX4 24 "ParityRules$Verdict" "stepSums" "[I" ∈ wsX4_sumOf := List.mem_of_getElem? (i := 10) rfl
theorem kX4_sumOf_11 : Cond.fieldLink RX4 27 "ParityRules$Verdict" "stepReasons" "[I" ∈ wsX4_sumOf := List.mem_of_getElem? (i := 11) rfl
theorem hX4_sumOf_X4 : ∀ w ∈ wsX40, w ∈ wsX4_sumOf := fun w h => List.mem_cons_of_mem _ (List.mem_append_right _ h)
theorem kX4_reasonsWith_1 : Cond.fieldLink RX4 40 "ParityRules$Verdict" "many" "I" ∈ wsX4_reasonsWith := List.mem_of_getElem? (i := 1) rfl
theorem kX4_reasonsWith_2 : Cond.fieldLink RX4 15 "ParityRules$Verdict" "reasons" "[I" ∈ wsX4_reasonsWith := List.mem_of_getElem? (i := 2) rfl
theorem hX4_reasonsWith_X4 : ∀ w ∈ wsX40, w ∈ wsX4_reasonsWith := fun w h => List.mem_cons_of_mem _ (List.mem_append_right _ h)
theorem kX4_settled_1 : Cond.fieldLink RX4 39 "ParityRules$Verdict" "choices" "I" ∈ wsX4_settled := List.mem_of_getElem? (i := 1) rfl
theorem kX4_settled_5 : Cond.initialized RX4 ∈ wsX4_settled := List.mem_of_getElem? (i := 5) rfl
theorem kX4_settled_7 : Cond.fieldLink RX4 58 "ParityRules$Verdict" "restSet" "I" ∈ wsX4_settled := List.mem_of_getElem? (i := 7) rfl
theorem kX4_settled_8 : Cond.fieldLink RX4 65 "ParityRules$Verdict" "restSum" "I" ∈ wsX4_settled := List.mem_of_getElem? (i := 8) rfl
theorem kX4_settled_13 : Cond.fieldLink RX4 68 "ParityRules$Verdict" "restReason" "I" ∈ wsX4_settled := List.mem_of_getElem? (i := 13) rfl
theorem kX4_settled_14 : Cond.fieldLink RX4 21 "ParityRules$Verdict" "stepSets" "[I" ∈ wsX4_settled := List.mem_of_getElem? (i := 14) rfl
theorem kX4_settled_15 : Cond.fieldLink RX4 24 "ParityRules$Verdict" "stepSums" "[I" ∈ wsX4_settled := List.mem_of_getElem? (i := 15) rfl
theorem kX4_settled_16 : Cond.fieldLink RX4 27 "ParityRules$Verdict" "stepReasons" "[I" ∈ wsX4_settled := List.mem_of_getElem? (i := 16) rfl
theorem hX4_settled_X4 : ∀ w ∈ wsX40, w ∈ wsX4_settled := fun w h => List.mem_cons_of_mem _ (List.mem_append_right _ h)
theorem kX4_boundTo_1 : Cond.fieldLink RX4 39 "ParityRules$Verdict" "choices" "I" ∈ wsX4_boundTo := List.mem_of_getElem? (i := 1) rfl
theorem kX4_boundTo_5 : Cond.initialized RX4 ∈ wsX4_boundTo := List.mem_of_getElem? (i := 5) rfl
theorem kX4_boundTo_7 : Cond.fieldLink RX4 58 "ParityRules$Verdict" "restSet" "I" ∈ wsX4_boundTo := List.mem_of_getElem? (i := 7) rfl
theorem kX4_boundTo_8 : Cond.fieldLink RX4 65 "ParityRules$Verdict" "restSum" "I" ∈ wsX4_boundTo := List.mem_of_getElem? (i := 8) rfl
theorem kX4_boundTo_13 : Cond.fieldLink RX4 68 "ParityRules$Verdict" "restReason" "I" ∈ wsX4_boundTo := List.mem_of_getElem? (i := 13) rfl
theorem kX4_boundTo_14 : Cond.fieldLink RX4 21 "ParityRules$Verdict" "stepSets" "[I" ∈ wsX4_boundTo := List.mem_of_getElem? (i := 14) rfl
theorem kX4_boundTo_15 : Cond.fieldLink RX4 24 "ParityRules$Verdict" "stepSums" "[I" ∈ wsX4_boundTo := List.mem_of_getElem? (i := 15) rfl
theorem kX4_boundTo_16 : Cond.fieldLink RX4 27 "ParityRules$Verdict" "stepReasons" "[I" ∈ wsX4_boundTo := List.mem_of_getElem? (i := 16) rfl
theorem hX4_boundTo_X4 : ∀ w ∈ wsX40, w ∈ wsX4_boundTo := fun w h => List.mem_cons_of_mem _ (List.mem_append_right _ h)
theorem kX4_answers_1 : Cond.fieldLink RX4 39 "ParityRules$Verdict" "choices" "I" ∈ wsX4_answers := List.mem_of_getElem? (i := 1) rfl
theorem kX4_answers_2 : Cond.fieldLink RX4 18 "ParityRules$Verdict" "tally" "[I" ∈ wsX4_answers := List.mem_of_getElem? (i := 2) rfl
theorem hX4_answers_X4 : ∀ w ∈ wsX40, w ∈ wsX4_answers := fun w h => List.mem_cons_of_mem _ (List.mem_append_right _ h)
theorem kX4_answerAt_1 : Cond.fieldLink RX4 39 "ParityRules$Verdict" "choices" "I" ∈ wsX4_answerAt := List.mem_of_getElem? (i := 1) rfl
theorem kX4_answerAt_2 : Cond.fieldLink RX4 18 "ParityRules$Verdict" "tally" "[I" ∈ wsX4_answerAt := List.mem_of_getElem? (i := 2) rfl
theorem kX4_answerAt_3 : Cond.fieldLink RX4 21 "ParityRules$Verdict" "stepSets" "[I" ∈ wsX4_answerAt := List.mem_of_getElem? (i := 3) rfl
theorem kX4_answerAt_4 : Cond.fieldLink RX4 24 "ParityRules$Verdict" "stepSums" "[I" ∈ wsX4_answerAt := List.mem_of_getElem? (i := 4) rfl
theorem kX4_answerAt_5 : Cond.static yX5_parity ∈ wsX4_answerAt := List.mem_of_getElem? (i := 5) rfl
theorem kX4_answerAt_6 : Cond.initialized RX5 ∈ wsX4_answerAt := List.mem_of_getElem? (i := 6) rfl
theorem kX4_answerAt_9 : Cond.static yJ6_bitCount_0f7a4 ∈ wsX4_answerAt := List.mem_of_getElem? (i := 9) rfl
theorem kX4_answerAt_10 : Cond.initialized RJ6 ∈ wsX4_answerAt := List.mem_of_getElem? (i := 10) rfl
theorem hX4_answerAt_X4 : ∀ w ∈ wsX40, w ∈ wsX4_answerAt := fun w h => List.mem_cons_of_mem _ (List.mem_append_right _ h)
theorem kX4_fillExchanges_1 : Cond.fieldLink RX4 39 "ParityRules$Verdict" "choices" "I" ∈ wsX4_fillExchanges := List.mem_of_getElem? (i := 1) rfl
theorem kX4_fillExchanges_2 : Cond.fieldLink RX4 18 "ParityRules$Verdict" "tally" "[I" ∈ wsX4_fillExchanges := List.mem_of_getElem? (i := 2) rfl
theorem kX4_fillExchanges_3 : Cond.fieldLink RX4 30 "ParityRules$Verdict" "exchanges" "[I" ∈ wsX4_fillExchanges := List.mem_of_getElem? (i := 3) rfl
theorem kX4_fillExchanges_7 : Cond.initialized RX4 ∈ wsX4_fillExchanges := List.mem_of_getElem? (i := 7) rfl
theorem kX4_fillExchanges_9 : Cond.fieldLink RX4 21 "ParityRules$Verdict" "stepSets" "[I" ∈ wsX4_fillExchanges := List.mem_of_getElem? (i := 9) rfl
theorem kX4_fillExchanges_10 : Cond.fieldLink RX4 24 "ParityRules$Verdict" "stepSums" "[I" ∈ wsX4_fillExchanges := List.mem_of_getElem? (i := 10) rfl
theorem kX4_fillExchanges_11 : Cond.static yX5_parity ∈ wsX4_fillExchanges := List.mem_of_getElem? (i := 11) rfl
theorem kX4_fillExchanges_12 : Cond.initialized RX5 ∈ wsX4_fillExchanges := List.mem_of_getElem? (i := 12) rfl
theorem kX4_fillExchanges_15 : Cond.static yJ6_bitCount_0f7a4 ∈ wsX4_fillExchanges := List.mem_of_getElem? (i := 15) rfl
theorem kX4_fillExchanges_16 : Cond.initialized RJ6 ∈ wsX4_fillExchanges := List.mem_of_getElem? (i := 16) rfl
theorem hX4_fillExchanges_X4 : ∀ w ∈ wsX40, w ∈ wsX4_fillExchanges := fun w h => List.mem_cons_of_mem _ (List.mem_append_right _ h)
theorem kX4_nearestTo_1 : Cond.fieldLink RX4 30 "ParityRules$Verdict" "exchanges" "[I" ∈ wsX4_nearestTo := List.mem_of_getElem? (i := 1) rfl
theorem kX4_nearestTo_5 : Cond.initialized RX4 ∈ wsX4_nearestTo := List.mem_of_getElem? (i := 5) rfl
theorem kX4_nearestTo_7 : Cond.fieldLink RX4 39 "ParityRules$Verdict" "choices" "I" ∈ wsX4_nearestTo := List.mem_of_getElem? (i := 7) rfl
theorem kX4_nearestTo_8 : Cond.fieldLink RX4 18 "ParityRules$Verdict" "tally" "[I" ∈ wsX4_nearestTo := List.mem_of_getElem? (i := 8) rfl
theorem kX4_nearestTo_13 : Cond.fieldLink RX4 21 "ParityRules$Verdict" "stepSets" "[I" ∈ wsX4_nearestTo := List.mem_of_getElem? (i := 13) rfl
theorem kX4_nearestTo_14 : Cond.fieldLink RX4 24 "ParityRules$Verdict" "stepSums" "[I" ∈ wsX4_nearestTo := List.mem_of_getElem? (i := 14) rfl
theorem kX4_nearestTo_15 : Cond.static yX5_parity ∈ wsX4_nearestTo := List.mem_of_getElem? (i := 15) rfl
theorem kX4_nearestTo_16 : Cond.initialized RX5 ∈ wsX4_nearestTo := List.mem_of_getElem? (i := 16) rfl
theorem kX4_nearestTo_19 : Cond.static yJ6_bitCount_0f7a4 ∈ wsX4_nearestTo := List.mem_of_getElem? (i := 19) rfl
theorem kX4_nearestTo_20 : Cond.initialized RJ6 ∈ wsX4_nearestTo := List.mem_of_getElem? (i := 20) rfl
theorem kX4_nearestTo_30 : Cond.static yX5_lowestBit ∈ wsX4_nearestTo := List.mem_of_getElem? (i := 30) rfl
theorem hX4_nearestTo_X4 : ∀ w ∈ wsX40, w ∈ wsX4_nearestTo := fun w h => List.mem_cons_of_mem _ (List.mem_append_right _ h)
theorem kX5_init_1 : Cond.methodLink RX5 1 objectInit ∈ wsX5_init := List.mem_of_getElem? (i := 1) rfl
theorem kX5_init_2 : Cond.instanceMethod objectInit ∈ wsX5_init := List.mem_of_getElem? (i := 2) rfl
theorem kX5_init_4 : Cond.classLink RX5 7 RX3 ∈ wsX5_init := List.mem_of_getElem? (i := 4) rfl
theorem kX5_init_5 : Cond.instantiable RX3 4 ∈ wsX5_init := List.mem_of_getElem? (i := 5) rfl
theorem kX5_init_6 : Cond.initialized RX3 ∈ wsX5_init := List.mem_of_getElem? (i := 6) rfl
theorem kX5_init_7 : Cond.fieldLink RX5 10 "ParityRules" "now" "LParityRules$Row;" ∈ wsX5_init := List.mem_of_getElem? (i := 7) rfl
theorem kX5_init_8 : Cond.classLink RX5 16 RX4 ∈ wsX5_init := List.mem_of_getElem? (i := 8) rfl
theorem kX5_init_9 : Cond.instantiable RX4 12 ∈ wsX5_init := List.mem_of_getElem? (i := 9) rfl
theorem kX5_init_10 : Cond.initialized RX4 ∈ wsX5_init := List.mem_of_getElem? (i := 10) rfl
theorem kX5_init_11 : Cond.fieldLink RX5 19 "ParityRules" "verdict" "LParityRules$Verdict;" ∈ wsX5_init := List.mem_of_getElem? (i := 11) rfl
theorem kX5_init_12 : Cond.fieldLink RX5 23 "ParityRules" "trialRow" "LParityRules$Row;" ∈ wsX5_init := List.mem_of_getElem? (i := 12) rfl
theorem kX5_init_13 : Cond.fieldLink RX5 26 "ParityRules" "trialVerdict" "LParityRules$Verdict;" ∈ wsX5_init := List.mem_of_getElem? (i := 13) rfl
theorem kX5_init_14 : Cond.arrayClass .int ∈ wsX5_init := List.mem_of_getElem? (i := 14) rfl
theorem kX5_init_15 : Cond.fieldLink RX5 29 "ParityRules" "statesBefore" "[I" ∈ wsX5_init := List.mem_of_getElem? (i := 15) rfl
theorem kX5_init_16 : Cond.classLink RX5 33 RX0 ∈ wsX5_init := List.mem_of_getElem? (i := 16) rfl
theorem kX5_init_17 : Cond.instantiable RX0 4 ∈ wsX5_init := List.mem_of_getElem? (i := 17) rfl
theorem kX5_init_18 : Cond.initialized RX0 ∈ wsX5_init := List.mem_of_getElem? (i := 18) rfl
theorem kX5_init_19 : Cond.fieldLink RX5 36 "ParityRules" "bestAnswer" "LParityRules$BestAnswer;" ∈ wsX5_init := List.mem_of_getElem? (i := 19) rfl
theorem kX5_init_20 : Cond.classLink RX5 40 RX2 ∈ wsX5_init := List.mem_of_getElem? (i := 20) rfl
theorem kX5_init_21 : Cond.instantiable RX2 6 ∈ wsX5_init := List.mem_of_getElem? (i := 21) rfl
theorem kX5_init_22 : Cond.initialized RX2 ∈ wsX5_init := List.mem_of_getElem? (i := 22) rfl
theorem kX5_init_23 : Cond.fieldLink RX5 43 "ParityRules" "pad" "LParityRules$Pad;" ∈ wsX5_init := List.mem_of_getElem? (i := 23) rfl
theorem kX5_init_24 : Cond.fieldLink RX5 47 "ParityRules" "padRules" "LParityRules$Row;" ∈ wsX5_init := List.mem_of_getElem? (i := 24) rfl
theorem kX5_init_25 : Cond.classLink RX5 50 RX1 ∈ wsX5_init := List.mem_of_getElem? (i := 25) rfl
theorem kX5_init_26 : Cond.instantiable RX1 2 ∈ wsX5_init := List.mem_of_getElem? (i := 26) rfl
theorem kX5_init_27 : Cond.initialized RX1 ∈ wsX5_init := List.mem_of_getElem? (i := 27) rfl
theorem kX5_init_28 : Cond.fieldLink RX5 53 "ParityRules" "history" "LParityRules$History;" ∈ wsX5_init := List.mem_of_getElem? (i := 28) rfl
theorem kX5_init_29 : Cond.fieldLink RX5 57 "ParityRules" "slots" "[LParityRules$Row;" ∈ wsX5_init := List.mem_of_getElem? (i := 29) rfl
theorem kX5_init_30 : Cond.arrayClass .boolean ∈ wsX5_init := List.mem_of_getElem? (i := 30) rfl
theorem kX5_init_31 : Cond.fieldLink RX5 61 "ParityRules" "saved" "[Z" ∈ wsX5_init := List.mem_of_getElem? (i := 31) rfl
theorem kX5_init_32 : Cond.instanceMethod yX3_init ∈ wsX5_init := List.mem_of_getElem? (i := 32) rfl
theorem kX5_init_38 : Cond.instanceMethod yX4_init ∈ wsX5_init := List.mem_of_getElem? (i := 38) rfl
theorem kX5_init_48 : Cond.instanceMethod yX0_init ∈ wsX5_init := List.mem_of_getElem? (i := 48) rfl
theorem kX5_init_52 : Cond.instanceMethod yX2_init ∈ wsX5_init := List.mem_of_getElem? (i := 52) rfl
theorem kX5_init_55 : Cond.arrayClass .char ∈ wsX5_init := List.mem_of_getElem? (i := 55) rfl
theorem kX5_init_58 : Cond.instanceMethod yX1_init ∈ wsX5_init := List.mem_of_getElem? (i := 58) rfl
theorem kX5_init_88 : Cond.static yX5_lowestBit ∈ wsX5_init := List.mem_of_getElem? (i := 88) rfl
theorem kX5_init_89 : Cond.initialized RX5 ∈ wsX5_init := List.mem_of_getElem? (i := 89) rfl
theorem kX5_init_92 : Cond.static yJ6_bitCount_0f7a4 ∈ wsX5_init := List.mem_of_getElem? (i := 92) rfl
theorem kX5_init_93 : Cond.initialized RJ6 ∈ wsX5_init := List.mem_of_getElem? (i := 93) rfl
theorem hX5_init_X3 : ∀ w ∈ wsX30, w ∈ wsX5_init := fun w h => List.mem_cons_of_mem _ (List.mem_append_left _ (List.mem_append_left _ (List.mem_append_left _ (List.mem_append_left _ (List.mem_append_left _ (List.mem_append_right _ h))))))
theorem hX5_init_X5 : ∀ w ∈ wsX50, w ∈ wsX5_init := fun w h => List.mem_cons_of_mem _ (List.mem_append_left _ (List.mem_append_left _ (List.mem_append_left _ (List.mem_append_left _ (List.mem_append_right _ h)))))
theorem hX5_init_X4 : ∀ w ∈ wsX40, w ∈ wsX5_init := fun w h => List.mem_cons_of_mem _ (List.mem_append_left _ (List.mem_append_left _ (List.mem_append_left _ (List.mem_append_right _ h))))
theorem hX5_init_X0 : ∀ w ∈ wsX00, w ∈ wsX5_init := fun w h => List.mem_cons_of_mem _ (List.mem_append_left _ (List.mem_append_left _ (List.mem_append_right _ h)))
theorem hX5_init_X2 : ∀ w ∈ wsX20, w ∈ wsX5_init := fun w h => List.mem_cons_of_mem _ (List.mem_append_left _ (List.mem_append_right _ h))
theorem hX5_init_X1 : ∀ w ∈ wsX10, w ∈ wsX5_init := fun w h => List.mem_cons_of_mem _ (List.mem_append_right _ h)
theorem kX5_choices_1 : Cond.fieldLink RX5 10 "ParityRules" "now" "LParityRules$Row;" ∈ wsX5_choices := List.mem_of_getElem? (i := 1) rfl
theorem kX5_choices_2 : Cond.fieldLink RX5 73 "ParityRules$Row" "choices" "I" ∈ wsX5_choices := List.mem_of_getElem? (i := 2) rfl
theorem kX5_choices_3 : Cond.fieldLink RX5 53 "ParityRules" "history" "LParityRules$History;" ∈ wsX5_choices := List.mem_of_getElem? (i := 3) rfl
theorem kX5_choices_4 : Cond.fieldLink RX5 19 "ParityRules" "verdict" "LParityRules$Verdict;" ∈ wsX5_choices := List.mem_of_getElem? (i := 4) rfl
theorem kX5_choices_8 : Cond.initialized RX3 ∈ wsX5_choices := List.mem_of_getElem? (i := 8) rfl
theorem kX5_choices_15 : Cond.initialized RX1 ∈ wsX5_choices := List.mem_of_getElem? (i := 15) rfl
theorem kX5_choices_29 : Cond.native arraycopyName ∈ wsX5_choices := List.mem_of_getElem? (i := 29) rfl
theorem kX5_choices_30 : Cond.static arraycopyName ∈ wsX5_choices := List.mem_of_getElem? (i := 30) rfl
theorem kX5_choices_31 : Cond.initialized "java/lang/System" ∈ wsX5_choices := List.mem_of_getElem? (i := 31) rfl
theorem kX5_choices_36 : Cond.initialized RX4 ∈ wsX5_choices := List.mem_of_getElem? (i := 36) rfl
theorem kX5_choices_65 : Cond.static yX5_lowestBit ∈ wsX5_choices := List.mem_of_getElem? (i := 65) rfl
theorem kX5_choices_66 : Cond.initialized RX5 ∈ wsX5_choices := List.mem_of_getElem? (i := 66) rfl
theorem kX5_choices_69 : Cond.static yJ6_bitCount_0f7a4 ∈ wsX5_choices := List.mem_of_getElem? (i := 69) rfl
theorem kX5_choices_70 : Cond.initialized RJ6 ∈ wsX5_choices := List.mem_of_getElem? (i := 70) rfl
theorem hX5_choices_X5 : ∀ w ∈ wsX50, w ∈ wsX5_choices := fun w h => List.mem_cons_of_mem _ (List.mem_append_left _ (List.mem_append_left _ (List.mem_append_left _ (List.mem_append_right _ h))))
theorem hX5_choices_X3 : ∀ w ∈ wsX30, w ∈ wsX5_choices := fun w h => List.mem_cons_of_mem _ (List.mem_append_left _ (List.mem_append_left _ (List.mem_append_right _ h)))
theorem hX5_choices_X1 : ∀ w ∈ wsX10, w ∈ wsX5_choices := fun w h => List.mem_cons_of_mem _ (List.mem_append_left _ (List.mem_append_right _ h))
theorem hX5_choices_X4 : ∀ w ∈ wsX40, w ∈ wsX5_choices := fun w h => List.mem_cons_of_mem _ (List.mem_append_right _ h)
theorem kX5_isRule_1 : Cond.fieldLink RX5 10 "ParityRules" "now" "LParityRules$Row;" ∈ wsX5_isRule := List.mem_of_getElem? (i := 1) rfl
theorem kX5_isRule_5 : Cond.initialized RX3 ∈ wsX5_isRule := List.mem_of_getElem? (i := 5) rfl
theorem hX5_isRule_X5 : ∀ w ∈ wsX50, w ∈ wsX5_isRule := fun w h => List.mem_cons_of_mem _ (List.mem_append_left _ (List.mem_append_right _ h))
theorem hX5_isRule_X3 : ∀ w ∈ wsX30, w ∈ wsX5_isRule := fun w h => List.mem_cons_of_mem _ (List.mem_append_right _ h)
theorem kX5_tell_1 : Cond.fieldLink RX5 10 "ParityRules" "now" "LParityRules$Row;" ∈ wsX5_tell := List.mem_of_getElem? (i := 1) rfl
theorem kX5_tell_2 : Cond.fieldLink RX5 84 "ParityRules$Row" "many" "I" ∈ wsX5_tell := List.mem_of_getElem? (i := 2) rfl
theorem kX5_tell_3 : Cond.fieldLink RX5 53 "ParityRules" "history" "LParityRules$History;" ∈ wsX5_tell := List.mem_of_getElem? (i := 3) rfl
theorem kX5_tell_4 : Cond.fieldLink RX5 19 "ParityRules" "verdict" "LParityRules$Verdict;" ∈ wsX5_tell := List.mem_of_getElem? (i := 4) rfl
theorem kX5_tell_5 : Cond.fieldLink RX5 91 "ParityRules$Verdict" "states" "[I" ∈ wsX5_tell := List.mem_of_getElem? (i := 5) rfl
theorem kX5_tell_9 : Cond.initialized RX5 ∈ wsX5_tell := List.mem_of_getElem? (i := 9) rfl
theorem kX5_tell_14 : Cond.initialized RX3 ∈ wsX5_tell := List.mem_of_getElem? (i := 14) rfl
theorem kX5_tell_20 : Cond.initialized RX1 ∈ wsX5_tell := List.mem_of_getElem? (i := 20) rfl
theorem kX5_tell_35 : Cond.native arraycopyName ∈ wsX5_tell := List.mem_of_getElem? (i := 35) rfl
theorem kX5_tell_36 : Cond.static arraycopyName ∈ wsX5_tell := List.mem_of_getElem? (i := 36) rfl
theorem kX5_tell_37 : Cond.initialized "java/lang/System" ∈ wsX5_tell := List.mem_of_getElem? (i := 37) rfl
theorem kX5_tell_46 : Cond.initialized RX4 ∈ wsX5_tell := List.mem_of_getElem? (i := 46) rfl
theorem kX5_tell_75 : Cond.static yX5_lowestBit ∈ wsX5_tell := List.mem_of_getElem? (i := 75) rfl
theorem kX5_tell_78 : Cond.static yJ6_bitCount_0f7a4 ∈ wsX5_tell := List.mem_of_getElem? (i := 78) rfl
theorem kX5_tell_79 : Cond.initialized RJ6 ∈ wsX5_tell := List.mem_of_getElem? (i := 79) rfl
theorem hX5_tell_X5 : ∀ w ∈ wsX50, w ∈ wsX5_tell := fun w h => List.mem_cons_of_mem _ (List.mem_append_left _ (List.mem_append_left _ (List.mem_append_left _ (List.mem_append_right _ h))))
theorem hX5_tell_X3 : ∀ w ∈ wsX30, w ∈ wsX5_tell := fun w h => List.mem_cons_of_mem _ (List.mem_append_left _ (List.mem_append_left _ (List.mem_append_right _ h)))
theorem hX5_tell_X4 : ∀ w ∈ wsX40, w ∈ wsX5_tell := fun w h => List.mem_cons_of_mem _ (List.mem_append_left _ (List.mem_append_right _ h))
theorem hX5_tell_X1 : ∀ w ∈ wsX10, w ∈ wsX5_tell := fun w h => List.mem_cons_of_mem _ (List.mem_append_right _ h)
theorem kX5_drop_1 : Cond.fieldLink RX5 10 "ParityRules" "now" "LParityRules$Row;" ∈ wsX5_drop := List.mem_of_getElem? (i := 1) rfl
theorem kX5_drop_2 : Cond.fieldLink RX5 53 "ParityRules" "history" "LParityRules$History;" ∈ wsX5_drop := List.mem_of_getElem? (i := 2) rfl
theorem kX5_drop_3 : Cond.fieldLink RX5 19 "ParityRules" "verdict" "LParityRules$Verdict;" ∈ wsX5_drop := List.mem_of_getElem? (i := 3) rfl
theorem kX5_drop_4 : Cond.fieldLink RX5 84 "ParityRules$Row" "many" "I" ∈ wsX5_drop := List.mem_of_getElem? (i := 4) rfl
theorem kX5_drop_8 : Cond.initialized RX3 ∈ wsX5_drop := List.mem_of_getElem? (i := 8) rfl
theorem kX5_drop_14 : Cond.initialized RX1 ∈ wsX5_drop := List.mem_of_getElem? (i := 14) rfl
theorem kX5_drop_29 : Cond.native arraycopyName ∈ wsX5_drop := List.mem_of_getElem? (i := 29) rfl
theorem kX5_drop_30 : Cond.static arraycopyName ∈ wsX5_drop := List.mem_of_getElem? (i := 30) rfl
theorem kX5_drop_31 : Cond.initialized "java/lang/System" ∈ wsX5_drop := List.mem_of_getElem? (i := 31) rfl
theorem kX5_drop_41 : Cond.static yX5_carry ∈ wsX5_drop := List.mem_of_getElem? (i := 41) rfl
theorem kX5_drop_42 : Cond.initialized RX5 ∈ wsX5_drop := List.mem_of_getElem? (i := 42) rfl
theorem kX5_drop_47 : Cond.initialized RX4 ∈ wsX5_drop := List.mem_of_getElem? (i := 47) rfl
theorem kX5_drop_76 : Cond.static yX5_lowestBit ∈ wsX5_drop := List.mem_of_getElem? (i := 76) rfl
theorem kX5_drop_79 : Cond.static yJ6_bitCount_0f7a4 ∈ wsX5_drop := List.mem_of_getElem? (i := 79) rfl
theorem kX5_drop_80 : Cond.initialized RJ6 ∈ wsX5_drop := List.mem_of_getElem? (i := 80) rfl
theorem hX5_drop_X5 : ∀ w ∈ wsX50, w ∈ wsX5_drop := fun w h => List.mem_cons_of_mem _ (List.mem_append_left _ (List.mem_append_left _ (List.mem_append_left _ (List.mem_append_right _ h))))
theorem hX5_drop_X3 : ∀ w ∈ wsX30, w ∈ wsX5_drop := fun w h => List.mem_cons_of_mem _ (List.mem_append_left _ (List.mem_append_left _ (List.mem_append_right _ h)))
theorem hX5_drop_X1 : ∀ w ∈ wsX10, w ∈ wsX5_drop := fun w h => List.mem_cons_of_mem _ (List.mem_append_left _ (List.mem_append_right _ h))
theorem hX5_drop_X4 : ∀ w ∈ wsX40, w ∈ wsX5_drop := fun w h => List.mem_cons_of_mem _ (List.mem_append_right _ h)
theorem kX5_move_1 : Cond.fieldLink RX5 10 "ParityRules" "now" "LParityRules$Row;" ∈ wsX5_move := List.mem_of_getElem? (i := 1) rfl
theorem kX5_move_2 : Cond.fieldLink RX5 53 "ParityRules" "history" "LParityRules$History;" ∈ wsX5_move := List.mem_of_getElem? (i := 2) rfl
theorem kX5_move_3 : Cond.fieldLink RX5 19 "ParityRules" "verdict" "LParityRules$Verdict;" ∈ wsX5_move := List.mem_of_getElem? (i := 3) rfl
theorem kX5_move_4 : Cond.fieldLink RX5 91 "ParityRules$Verdict" "states" "[I" ∈ wsX5_move := List.mem_of_getElem? (i := 4) rfl
theorem kX5_move_5 : Cond.fieldLink RX5 29 "ParityRules" "statesBefore" "[I" ∈ wsX5_move := List.mem_of_getElem? (i := 5) rfl
theorem kX5_move_6 : Cond.methodLink RX5 101 arraycopyName ∈ wsX5_move := List.mem_of_getElem? (i := 6) rfl
theorem kX5_move_7 : Cond.native arraycopyName ∈ wsX5_move := List.mem_of_getElem? (i := 7) rfl
theorem kX5_move_8 : Cond.static arraycopyName ∈ wsX5_move := List.mem_of_getElem? (i := 8) rfl
theorem kX5_move_9 : Cond.initialized "java/lang/System" ∈ wsX5_move := List.mem_of_getElem? (i := 9) rfl
theorem kX5_move_10 : Cond.fieldLink RX5 84 "ParityRules$Row" "many" "I" ∈ wsX5_move := List.mem_of_getElem? (i := 10) rfl
theorem kX5_move_14 : Cond.initialized RX3 ∈ wsX5_move := List.mem_of_getElem? (i := 14) rfl
theorem kX5_move_20 : Cond.initialized RX1 ∈ wsX5_move := List.mem_of_getElem? (i := 20) rfl
theorem kX5_move_37 : Cond.static yX5_carry ∈ wsX5_move := List.mem_of_getElem? (i := 37) rfl
theorem kX5_move_38 : Cond.initialized RX5 ∈ wsX5_move := List.mem_of_getElem? (i := 38) rfl
theorem kX5_move_47 : Cond.initialized RX4 ∈ wsX5_move := List.mem_of_getElem? (i := 47) rfl
theorem kX5_move_76 : Cond.static yX5_lowestBit ∈ wsX5_move := List.mem_of_getElem? (i := 76) rfl
theorem kX5_move_79 : Cond.static yJ6_bitCount_0f7a4 ∈ wsX5_move := List.mem_of_getElem? (i := 79) rfl
theorem kX5_move_80 : Cond.initialized RJ6 ∈ wsX5_move := List.mem_of_getElem? (i := 80) rfl
theorem hX5_move_X5 : ∀ w ∈ wsX50, w ∈ wsX5_move := fun w h => List.mem_cons_of_mem _ (List.mem_append_left _ (List.mem_append_left _ (List.mem_append_left _ (List.mem_append_right _ h))))
theorem hX5_move_X4 : ∀ w ∈ wsX40, w ∈ wsX5_move := fun w h => List.mem_cons_of_mem _ (List.mem_append_left _ (List.mem_append_left _ (List.mem_append_right _ h)))
theorem hX5_move_X3 : ∀ w ∈ wsX30, w ∈ wsX5_move := fun w h => List.mem_cons_of_mem _ (List.mem_append_left _ (List.mem_append_right _ h))
theorem hX5_move_X1 : ∀ w ∈ wsX10, w ∈ wsX5_move := fun w h => List.mem_cons_of_mem _ (List.mem_append_right _ h)
theorem kX5_turn_1 : Cond.fieldLink RX5 10 "ParityRules" "now" "LParityRules$Row;" ∈ wsX5_turn := List.mem_of_getElem? (i := 1) rfl
theorem kX5_turn_2 : Cond.fieldLink RX5 53 "ParityRules" "history" "LParityRules$History;" ∈ wsX5_turn := List.mem_of_getElem? (i := 2) rfl
theorem kX5_turn_3 : Cond.fieldLink RX5 114 "ParityRules$Row" "sums" "[I" ∈ wsX5_turn := List.mem_of_getElem? (i := 3) rfl
theorem kX5_turn_4 : Cond.fieldLink RX5 19 "ParityRules" "verdict" "LParityRules$Verdict;" ∈ wsX5_turn := List.mem_of_getElem? (i := 4) rfl
theorem kX5_turn_5 : Cond.fieldLink RX5 91 "ParityRules$Verdict" "states" "[I" ∈ wsX5_turn := List.mem_of_getElem? (i := 5) rfl
theorem kX5_turn_9 : Cond.initialized RX3 ∈ wsX5_turn := List.mem_of_getElem? (i := 9) rfl
theorem kX5_turn_15 : Cond.initialized RX1 ∈ wsX5_turn := List.mem_of_getElem? (i := 15) rfl
theorem kX5_turn_30 : Cond.native arraycopyName ∈ wsX5_turn := List.mem_of_getElem? (i := 30) rfl
theorem kX5_turn_31 : Cond.static arraycopyName ∈ wsX5_turn := List.mem_of_getElem? (i := 31) rfl
theorem kX5_turn_32 : Cond.initialized "java/lang/System" ∈ wsX5_turn := List.mem_of_getElem? (i := 32) rfl
theorem kX5_turn_37 : Cond.initialized RX4 ∈ wsX5_turn := List.mem_of_getElem? (i := 37) rfl
theorem kX5_turn_66 : Cond.static yX5_lowestBit ∈ wsX5_turn := List.mem_of_getElem? (i := 66) rfl
theorem kX5_turn_67 : Cond.initialized RX5 ∈ wsX5_turn := List.mem_of_getElem? (i := 67) rfl
theorem kX5_turn_70 : Cond.static yJ6_bitCount_0f7a4 ∈ wsX5_turn := List.mem_of_getElem? (i := 70) rfl
theorem kX5_turn_71 : Cond.initialized RJ6 ∈ wsX5_turn := List.mem_of_getElem? (i := 71) rfl
theorem hX5_turn_X5 : ∀ w ∈ wsX50, w ∈ wsX5_turn := fun w h => List.mem_cons_of_mem _ (List.mem_append_left _ (List.mem_append_left _ (List.mem_append_left _ (List.mem_append_right _ h))))
theorem hX5_turn_X3 : ∀ w ∈ wsX30, w ∈ wsX5_turn := fun w h => List.mem_cons_of_mem _ (List.mem_append_left _ (List.mem_append_left _ (List.mem_append_right _ h)))
theorem hX5_turn_X4 : ∀ w ∈ wsX40, w ∈ wsX5_turn := fun w h => List.mem_cons_of_mem _ (List.mem_append_left _ (List.mem_append_right _ h))
theorem hX5_turn_X1 : ∀ w ∈ wsX10, w ∈ wsX5_turn := fun w h => List.mem_cons_of_mem _ (List.mem_append_right _ h)
theorem kX5_rule_1 : Cond.fieldLink RX5 10 "ParityRules" "now" "LParityRules$Row;" ∈ wsX5_rule := List.mem_of_getElem? (i := 1) rfl
theorem kX5_rule_2 : Cond.fieldLink RX5 19 "ParityRules" "verdict" "LParityRules$Verdict;" ∈ wsX5_rule := List.mem_of_getElem? (i := 2) rfl
theorem kX5_rule_3 : Cond.fieldLink RX5 91 "ParityRules$Verdict" "states" "[I" ∈ wsX5_rule := List.mem_of_getElem? (i := 3) rfl
theorem kX5_rule_4 : Cond.fieldLink RX5 121 "ParityRules$Row" "sets" "[I" ∈ wsX5_rule := List.mem_of_getElem? (i := 4) rfl
theorem kX5_rule_5 : Cond.fieldLink RX5 114 "ParityRules$Row" "sums" "[I" ∈ wsX5_rule := List.mem_of_getElem? (i := 5) rfl
theorem kX5_rule_6 : Cond.fieldLink RX5 127 "ParityRules$Verdict" "reasons" "[I" ∈ wsX5_rule := List.mem_of_getElem? (i := 6) rfl
theorem kX5_rule_10 : Cond.initialized RX3 ∈ wsX5_rule := List.mem_of_getElem? (i := 10) rfl
theorem kX5_rule_16 : Cond.initialized RX4 ∈ wsX5_rule := List.mem_of_getElem? (i := 16) rfl
theorem hX5_rule_X5 : ∀ w ∈ wsX50, w ∈ wsX5_rule := fun w h => List.mem_cons_of_mem _ (List.mem_append_left _ (List.mem_append_left _ (List.mem_append_right _ h)))
theorem hX5_rule_X4 : ∀ w ∈ wsX40, w ∈ wsX5_rule := fun w h => List.mem_cons_of_mem _ (List.mem_append_left _ (List.mem_append_right _ h))
theorem hX5_rule_X3 : ∀ w ∈ wsX30, w ∈ wsX5_rule := fun w h => List.mem_cons_of_mem _ (List.mem_append_right _ h)
theorem kX5_choice_1 : Cond.fieldLink RX5 10 "ParityRules" "now" "LParityRules$Row;" ∈ wsX5_choice := List.mem_of_getElem? (i := 1) rfl
theorem kX5_choice_2 : Cond.fieldLink RX5 73 "ParityRules$Row" "choices" "I" ∈ wsX5_choice := List.mem_of_getElem? (i := 2) rfl
theorem kX5_choice_3 : Cond.fieldLink RX5 19 "ParityRules" "verdict" "LParityRules$Verdict;" ∈ wsX5_choice := List.mem_of_getElem? (i := 3) rfl
theorem kX5_choice_7 : Cond.initialized RX4 ∈ wsX5_choice := List.mem_of_getElem? (i := 7) rfl
theorem kX5_choice_22 : Cond.initialized RX3 ∈ wsX5_choice := List.mem_of_getElem? (i := 22) rfl
theorem hX5_choice_X5 : ∀ w ∈ wsX50, w ∈ wsX5_choice := fun w h => List.mem_cons_of_mem _ (List.mem_append_left _ (List.mem_append_left _ (List.mem_append_right _ h)))
theorem hX5_choice_X3 : ∀ w ∈ wsX30, w ∈ wsX5_choice := fun w h => List.mem_cons_of_mem _ (List.mem_append_left _ (List.mem_append_right _ h))
theorem hX5_choice_X4 : ∀ w ∈ wsX40, w ∈ wsX5_choice := fun w h => List.mem_cons_of_mem _ (List.mem_append_right _ h)
theorem kX5_count_1 : Cond.fieldLink RX5 10 "ParityRules" "now" "LParityRules$Row;" ∈ wsX5_count := List.mem_of_getElem? (i := 1) rfl
theorem kX5_count_2 : Cond.fieldLink RX5 84 "ParityRules$Row" "many" "I" ∈ wsX5_count := List.mem_of_getElem? (i := 2) rfl
theorem kX5_count_3 : Cond.fieldLink RX5 19 "ParityRules" "verdict" "LParityRules$Verdict;" ∈ wsX5_count := List.mem_of_getElem? (i := 3) rfl
theorem kX5_count_4 : Cond.fieldLink RX5 147 "ParityRules$Verdict" "tally" "[I" ∈ wsX5_count := List.mem_of_getElem? (i := 4) rfl
theorem kX5_count_5 : Cond.fieldLink RX5 73 "ParityRules$Row" "choices" "I" ∈ wsX5_count := List.mem_of_getElem? (i := 5) rfl
theorem kX5_count_6 : Cond.fieldLink RX5 43 "ParityRules" "pad" "LParityRules$Pad;" ∈ wsX5_count := List.mem_of_getElem? (i := 6) rfl
theorem kX5_count_7 : Cond.fieldLink RX5 124 "ParityRules$Pad" "length" "I" ∈ wsX5_count := List.mem_of_getElem? (i := 7) rfl
theorem kX5_count_8 : Cond.fieldLink RX5 53 "ParityRules" "history" "LParityRules$History;" ∈ wsX5_count := List.mem_of_getElem? (i := 8) rfl
theorem kX5_count_9 : Cond.fieldLink RX5 153 "ParityRules$History" "many" "I" ∈ wsX5_count := List.mem_of_getElem? (i := 9) rfl
theorem kX5_count_13 : Cond.initialized RX4 ∈ wsX5_count := List.mem_of_getElem? (i := 13) rfl
theorem hX5_count_X5 : ∀ w ∈ wsX50, w ∈ wsX5_count := fun w h => List.mem_cons_of_mem _ (List.mem_append_left _ (List.mem_append_left _ (List.mem_append_left _ (List.mem_append_left _ (List.mem_append_right _ h)))))
theorem hX5_count_X3 : ∀ w ∈ wsX30, w ∈ wsX5_count := fun w h => List.mem_cons_of_mem _ (List.mem_append_left _ (List.mem_append_left _ (List.mem_append_left _ (List.mem_append_right _ h))))
theorem hX5_count_X4 : ∀ w ∈ wsX40, w ∈ wsX5_count := fun w h => List.mem_cons_of_mem _ (List.mem_append_left _ (List.mem_append_left _ (List.mem_append_right _ h)))
theorem hX5_count_X2 : ∀ w ∈ wsX20, w ∈ wsX5_count := fun w h => List.mem_cons_of_mem _ (List.mem_append_left _ (List.mem_append_right _ h))
theorem hX5_count_X1 : ∀ w ∈ wsX10, w ∈ wsX5_count := fun w h => List.mem_cons_of_mem _ (List.mem_append_right _ h)
theorem kX5_answer_1 : Cond.fieldLink RX5 19 "ParityRules" "verdict" "LParityRules$Verdict;" ∈ wsX5_answer := List.mem_of_getElem? (i := 1) rfl
theorem kX5_answer_5 : Cond.initialized RX4 ∈ wsX5_answer := List.mem_of_getElem? (i := 5) rfl
theorem kX5_answer_15 : Cond.static yX5_parity ∈ wsX5_answer := List.mem_of_getElem? (i := 15) rfl
theorem kX5_answer_16 : Cond.initialized RX5 ∈ wsX5_answer := List.mem_of_getElem? (i := 16) rfl
theorem kX5_answer_19 : Cond.static yJ6_bitCount_0f7a4 ∈ wsX5_answer := List.mem_of_getElem? (i := 19) rfl
theorem kX5_answer_20 : Cond.initialized RJ6 ∈ wsX5_answer := List.mem_of_getElem? (i := 20) rfl
theorem hX5_answer_X5 : ∀ w ∈ wsX50, w ∈ wsX5_answer := fun w h => List.mem_cons_of_mem _ (List.mem_append_left _ (List.mem_append_right _ h))
theorem hX5_answer_X4 : ∀ w ∈ wsX40, w ∈ wsX5_answer := fun w h => List.mem_cons_of_mem _ (List.mem_append_right _ h)
theorem kX5_known_1 : Cond.fieldLink RX5 10 "ParityRules" "now" "LParityRules$Row;" ∈ wsX5_known := List.mem_of_getElem? (i := 1) rfl
theorem kX5_known_2 : Cond.fieldLink RX5 19 "ParityRules" "verdict" "LParityRules$Verdict;" ∈ wsX5_known := List.mem_of_getElem? (i := 2) rfl
theorem kX5_known_6 : Cond.initialized RX3 ∈ wsX5_known := List.mem_of_getElem? (i := 6) rfl
theorem kX5_known_12 : Cond.initialized RX4 ∈ wsX5_known := List.mem_of_getElem? (i := 12) rfl
theorem hX5_known_X5 : ∀ w ∈ wsX50, w ∈ wsX5_known := fun w h => List.mem_cons_of_mem _ (List.mem_append_left _ (List.mem_append_left _ (List.mem_append_right _ h)))
theorem hX5_known_X3 : ∀ w ∈ wsX30, w ∈ wsX5_known := fun w h => List.mem_cons_of_mem _ (List.mem_append_left _ (List.mem_append_right _ h))
theorem hX5_known_X4 : ∀ w ∈ wsX40, w ∈ wsX5_known := fun w h => List.mem_cons_of_mem _ (List.mem_append_right _ h)
theorem kX5_nearest_1 : Cond.fieldLink RX5 10 "ParityRules" "now" "LParityRules$Row;" ∈ wsX5_nearest := List.mem_of_getElem? (i := 1) rfl
theorem kX5_nearest_2 : Cond.fieldLink RX5 19 "ParityRules" "verdict" "LParityRules$Verdict;" ∈ wsX5_nearest := List.mem_of_getElem? (i := 2) rfl
theorem kX5_nearest_6 : Cond.initialized RX3 ∈ wsX5_nearest := List.mem_of_getElem? (i := 6) rfl
theorem kX5_nearest_12 : Cond.initialized RX4 ∈ wsX5_nearest := List.mem_of_getElem? (i := 12) rfl
theorem kX5_nearest_27 : Cond.static yX5_parity ∈ wsX5_nearest := List.mem_of_getElem? (i := 27) rfl
theorem kX5_nearest_28 : Cond.initialized RX5 ∈ wsX5_nearest := List.mem_of_getElem? (i := 28) rfl
theorem kX5_nearest_31 : Cond.static yJ6_bitCount_0f7a4 ∈ wsX5_nearest := List.mem_of_getElem? (i := 31) rfl
theorem kX5_nearest_32 : Cond.initialized RJ6 ∈ wsX5_nearest := List.mem_of_getElem? (i := 32) rfl
theorem kX5_nearest_42 : Cond.static yX5_lowestBit ∈ wsX5_nearest := List.mem_of_getElem? (i := 42) rfl
theorem hX5_nearest_X5 : ∀ w ∈ wsX50, w ∈ wsX5_nearest := fun w h => List.mem_cons_of_mem _ (List.mem_append_left _ (List.mem_append_left _ (List.mem_append_right _ h)))
theorem hX5_nearest_X3 : ∀ w ∈ wsX30, w ∈ wsX5_nearest := fun w h => List.mem_cons_of_mem _ (List.mem_append_left _ (List.mem_append_right _ h))
theorem hX5_nearest_X4 : ∀ w ∈ wsX40, w ∈ wsX5_nearest := fun w h => List.mem_cons_of_mem _ (List.mem_append_right _ h)
theorem kX5_best_1 : Cond.fieldLink RX5 36 "ParityRules" "bestAnswer" "LParityRules$BestAnswer;" ∈ wsX5_best := List.mem_of_getElem? (i := 1) rfl
theorem kX5_best_2 : Cond.fieldLink RX5 10 "ParityRules" "now" "LParityRules$Row;" ∈ wsX5_best := List.mem_of_getElem? (i := 2) rfl
theorem kX5_best_3 : Cond.fieldLink RX5 171 "ParityRules$BestAnswer" "lowest" "I" ∈ wsX5_best := List.mem_of_getElem? (i := 3) rfl
theorem kX5_best_4 : Cond.fieldLink RX5 174 "ParityRules$BestAnswer" "broken" "I" ∈ wsX5_best := List.mem_of_getElem? (i := 4) rfl
theorem kX5_best_5 : Cond.fieldLink RX5 177 "ParityRules$BestAnswer" "asGood" "I" ∈ wsX5_best := List.mem_of_getElem? (i := 5) rfl
theorem kX5_best_9 : Cond.initialized RX0 ∈ wsX5_best := List.mem_of_getElem? (i := 9) rfl
theorem kX5_best_22 : Cond.static yX5_parity ∈ wsX5_best := List.mem_of_getElem? (i := 22) rfl
theorem kX5_best_23 : Cond.initialized RX5 ∈ wsX5_best := List.mem_of_getElem? (i := 23) rfl
theorem kX5_best_26 : Cond.static yJ6_bitCount_0f7a4 ∈ wsX5_best := List.mem_of_getElem? (i := 26) rfl
theorem kX5_best_27 : Cond.initialized RJ6 ∈ wsX5_best := List.mem_of_getElem? (i := 27) rfl
theorem kX5_best_33 : Cond.static yX0_brokenByNone ∈ wsX5_best := List.mem_of_getElem? (i := 33) rfl
theorem kX5_best_37 : Cond.static yX5_lowestBit ∈ wsX5_best := List.mem_of_getElem? (i := 37) rfl
theorem hX5_best_X5 : ∀ w ∈ wsX50, w ∈ wsX5_best := fun w h => List.mem_cons_of_mem _ (List.mem_append_left _ (List.mem_append_left _ (List.mem_append_right _ h)))
theorem hX5_best_X0 : ∀ w ∈ wsX00, w ∈ wsX5_best := fun w h => List.mem_cons_of_mem _ (List.mem_append_left _ (List.mem_append_right _ h))
theorem hX5_best_X3 : ∀ w ∈ wsX30, w ∈ wsX5_best := fun w h => List.mem_cons_of_mem _ (List.mem_append_right _ h)
theorem kX5_ifDropped_1 : Cond.fieldLink RX5 10 "ParityRules" "now" "LParityRules$Row;" ∈ wsX5_ifDropped := List.mem_of_getElem? (i := 1) rfl
theorem kX5_ifDropped_2 : Cond.fieldLink RX5 23 "ParityRules" "trialRow" "LParityRules$Row;" ∈ wsX5_ifDropped := List.mem_of_getElem? (i := 2) rfl
theorem kX5_ifDropped_3 : Cond.fieldLink RX5 26 "ParityRules" "trialVerdict" "LParityRules$Verdict;" ∈ wsX5_ifDropped := List.mem_of_getElem? (i := 3) rfl
theorem kX5_ifDropped_7 : Cond.initialized RX3 ∈ wsX5_ifDropped := List.mem_of_getElem? (i := 7) rfl
theorem kX5_ifDropped_17 : Cond.native arraycopyName ∈ wsX5_ifDropped := List.mem_of_getElem? (i := 17) rfl
theorem kX5_ifDropped_18 : Cond.static arraycopyName ∈ wsX5_ifDropped := List.mem_of_getElem? (i := 18) rfl
theorem kX5_ifDropped_19 : Cond.initialized "java/lang/System" ∈ wsX5_ifDropped := List.mem_of_getElem? (i := 19) rfl
theorem kX5_ifDropped_29 : Cond.static yX5_carry ∈ wsX5_ifDropped := List.mem_of_getElem? (i := 29) rfl
theorem kX5_ifDropped_30 : Cond.initialized RX5 ∈ wsX5_ifDropped := List.mem_of_getElem? (i := 30) rfl
theorem kX5_ifDropped_35 : Cond.initialized RX4 ∈ wsX5_ifDropped := List.mem_of_getElem? (i := 35) rfl
theorem kX5_ifDropped_64 : Cond.static yX5_lowestBit ∈ wsX5_ifDropped := List.mem_of_getElem? (i := 64) rfl
theorem kX5_ifDropped_67 : Cond.static yJ6_bitCount_0f7a4 ∈ wsX5_ifDropped := List.mem_of_getElem? (i := 67) rfl
theorem kX5_ifDropped_68 : Cond.initialized RJ6 ∈ wsX5_ifDropped := List.mem_of_getElem? (i := 68) rfl
theorem hX5_ifDropped_X5 : ∀ w ∈ wsX50, w ∈ wsX5_ifDropped := fun w h => List.mem_cons_of_mem _ (List.mem_append_left _ (List.mem_append_left _ (List.mem_append_right _ h)))
theorem hX5_ifDropped_X3 : ∀ w ∈ wsX30, w ∈ wsX5_ifDropped := fun w h => List.mem_cons_of_mem _ (List.mem_append_left _ (List.mem_append_right _ h))
theorem hX5_ifDropped_X4 : ∀ w ∈ wsX40, w ∈ wsX5_ifDropped := fun w h => List.mem_cons_of_mem _ (List.mem_append_right _ h)
theorem kX5_ifMoved_1 : Cond.fieldLink RX5 10 "ParityRules" "now" "LParityRules$Row;" ∈ wsX5_ifMoved := List.mem_of_getElem? (i := 1) rfl
theorem kX5_ifMoved_2 : Cond.fieldLink RX5 23 "ParityRules" "trialRow" "LParityRules$Row;" ∈ wsX5_ifMoved := List.mem_of_getElem? (i := 2) rfl
theorem kX5_ifMoved_3 : Cond.fieldLink RX5 26 "ParityRules" "trialVerdict" "LParityRules$Verdict;" ∈ wsX5_ifMoved := List.mem_of_getElem? (i := 3) rfl
theorem kX5_ifMoved_4 : Cond.fieldLink RX5 147 "ParityRules$Verdict" "tally" "[I" ∈ wsX5_ifMoved := List.mem_of_getElem? (i := 4) rfl
theorem kX5_ifMoved_8 : Cond.initialized RX3 ∈ wsX5_ifMoved := List.mem_of_getElem? (i := 8) rfl
theorem kX5_ifMoved_18 : Cond.native arraycopyName ∈ wsX5_ifMoved := List.mem_of_getElem? (i := 18) rfl
theorem kX5_ifMoved_19 : Cond.static arraycopyName ∈ wsX5_ifMoved := List.mem_of_getElem? (i := 19) rfl
theorem kX5_ifMoved_20 : Cond.initialized "java/lang/System" ∈ wsX5_ifMoved := List.mem_of_getElem? (i := 20) rfl
theorem kX5_ifMoved_26 : Cond.static yX5_carry ∈ wsX5_ifMoved := List.mem_of_getElem? (i := 26) rfl
theorem kX5_ifMoved_27 : Cond.initialized RX5 ∈ wsX5_ifMoved := List.mem_of_getElem? (i := 27) rfl
theorem kX5_ifMoved_32 : Cond.initialized RX4 ∈ wsX5_ifMoved := List.mem_of_getElem? (i := 32) rfl
theorem kX5_ifMoved_61 : Cond.static yX5_lowestBit ∈ wsX5_ifMoved := List.mem_of_getElem? (i := 61) rfl
theorem kX5_ifMoved_64 : Cond.static yJ6_bitCount_0f7a4 ∈ wsX5_ifMoved := List.mem_of_getElem? (i := 64) rfl
theorem kX5_ifMoved_65 : Cond.initialized RJ6 ∈ wsX5_ifMoved := List.mem_of_getElem? (i := 65) rfl
theorem hX5_ifMoved_X5 : ∀ w ∈ wsX50, w ∈ wsX5_ifMoved := fun w h => List.mem_cons_of_mem _ (List.mem_append_left _ (List.mem_append_left _ (List.mem_append_right _ h)))
theorem hX5_ifMoved_X4 : ∀ w ∈ wsX40, w ∈ wsX5_ifMoved := fun w h => List.mem_cons_of_mem _ (List.mem_append_left _ (List.mem_append_right _ h))
theorem hX5_ifMoved_X3 : ∀ w ∈ wsX30, w ∈ wsX5_ifMoved := fun w h => List.mem_cons_of_mem _ (List.mem_append_right _ h)
theorem kX5_undo_1 : Cond.fieldLink RX5 53 "ParityRules" "history" "LParityRules$History;" ∈ wsX5_undo := List.mem_of_getElem? (i := 1) rfl
theorem kX5_undo_2 : Cond.fieldLink RX5 153 "ParityRules$History" "many" "I" ∈ wsX5_undo := List.mem_of_getElem? (i := 2) rfl
theorem kX5_undo_3 : Cond.fieldLink RX5 10 "ParityRules" "now" "LParityRules$Row;" ∈ wsX5_undo := List.mem_of_getElem? (i := 3) rfl
theorem kX5_undo_4 : Cond.fieldLink RX5 19 "ParityRules" "verdict" "LParityRules$Verdict;" ∈ wsX5_undo := List.mem_of_getElem? (i := 4) rfl
theorem kX5_undo_8 : Cond.initialized RX1 ∈ wsX5_undo := List.mem_of_getElem? (i := 8) rfl
theorem kX5_undo_15 : Cond.initialized RX3 ∈ wsX5_undo := List.mem_of_getElem? (i := 15) rfl
theorem kX5_undo_21 : Cond.native arraycopyName ∈ wsX5_undo := List.mem_of_getElem? (i := 21) rfl
theorem kX5_undo_22 : Cond.static arraycopyName ∈ wsX5_undo := List.mem_of_getElem? (i := 22) rfl
theorem kX5_undo_23 : Cond.initialized "java/lang/System" ∈ wsX5_undo := List.mem_of_getElem? (i := 23) rfl
theorem kX5_undo_28 : Cond.initialized RX4 ∈ wsX5_undo := List.mem_of_getElem? (i := 28) rfl
theorem kX5_undo_57 : Cond.static yX5_lowestBit ∈ wsX5_undo := List.mem_of_getElem? (i := 57) rfl
theorem kX5_undo_58 : Cond.initialized RX5 ∈ wsX5_undo := List.mem_of_getElem? (i := 58) rfl
theorem kX5_undo_61 : Cond.static yJ6_bitCount_0f7a4 ∈ wsX5_undo := List.mem_of_getElem? (i := 61) rfl
theorem kX5_undo_62 : Cond.initialized RJ6 ∈ wsX5_undo := List.mem_of_getElem? (i := 62) rfl
theorem hX5_undo_X5 : ∀ w ∈ wsX50, w ∈ wsX5_undo := fun w h => List.mem_cons_of_mem _ (List.mem_append_left _ (List.mem_append_left _ (List.mem_append_left _ (List.mem_append_right _ h))))
theorem hX5_undo_X1 : ∀ w ∈ wsX10, w ∈ wsX5_undo := fun w h => List.mem_cons_of_mem _ (List.mem_append_left _ (List.mem_append_left _ (List.mem_append_right _ h)))
theorem hX5_undo_X3 : ∀ w ∈ wsX30, w ∈ wsX5_undo := fun w h => List.mem_cons_of_mem _ (List.mem_append_left _ (List.mem_append_right _ h))
theorem hX5_undo_X4 : ∀ w ∈ wsX40, w ∈ wsX5_undo := fun w h => List.mem_cons_of_mem _ (List.mem_append_right _ h)
theorem eX0_init : yX0_init.cls = RX0 ∧ yX0_init.cls ≠ "java/lang/invoke/MethodHandle" ∧ yX0_init.cls ≠ "java/lang/invoke/VarHandle" ∧ (parseMethodDescriptor yX0_init.desc).map (fun d => d.parameters.length) = some 0 := ⟨rfl, by decide +kernel, by decide +kernel, by decide +kernel⟩
theorem eX0_find : yX0_find.cls = RX0 ∧ yX0_find.cls ≠ "java/lang/invoke/MethodHandle" ∧ yX0_find.cls ≠ "java/lang/invoke/VarHandle" ∧ (parseMethodDescriptor yX0_find.desc).map (fun d => d.parameters.length) = some 1 := ⟨rfl, by decide +kernel, by decide +kernel, by decide +kernel⟩
theorem eX0_brokenByNone : yX0_brokenByNone.cls = RX0 ∧ yX0_brokenByNone.cls ≠ "java/lang/invoke/MethodHandle" ∧ yX0_brokenByNone.cls ≠ "java/lang/invoke/VarHandle" ∧ (parseMethodDescriptor yX0_brokenByNone.desc).map (fun d => d.parameters.length) = some 1 := ⟨rfl, by decide +kernel, by decide +kernel, by decide +kernel⟩
theorem eX0_fillExchanges : yX0_fillExchanges.cls = RX0 ∧ yX0_fillExchanges.cls ≠ "java/lang/invoke/MethodHandle" ∧ yX0_fillExchanges.cls ≠ "java/lang/invoke/VarHandle" ∧ (parseMethodDescriptor yX0_fillExchanges.desc).map (fun d => d.parameters.length) = some 1 := ⟨rfl, by decide +kernel, by decide +kernel, by decide +kernel⟩
theorem eX1_init : yX1_init.cls = RX1 ∧ yX1_init.cls ≠ "java/lang/invoke/MethodHandle" ∧ yX1_init.cls ≠ "java/lang/invoke/VarHandle" ∧ (parseMethodDescriptor yX1_init.desc).map (fun d => d.parameters.length) = some 0 := ⟨rfl, by decide +kernel, by decide +kernel, by decide +kernel⟩
theorem eX1_remember : yX1_remember.cls = RX1 ∧ yX1_remember.cls ≠ "java/lang/invoke/MethodHandle" ∧ yX1_remember.cls ≠ "java/lang/invoke/VarHandle" ∧ (parseMethodDescriptor yX1_remember.desc).map (fun d => d.parameters.length) = some 1 := ⟨rfl, by decide +kernel, by decide +kernel, by decide +kernel⟩
theorem eX1_dropOldest : yX1_dropOldest.cls = RX1 ∧ yX1_dropOldest.cls ≠ "java/lang/invoke/MethodHandle" ∧ yX1_dropOldest.cls ≠ "java/lang/invoke/VarHandle" ∧ (parseMethodDescriptor yX1_dropOldest.desc).map (fun d => d.parameters.length) = some 0 := ⟨rfl, by decide +kernel, by decide +kernel, by decide +kernel⟩
theorem eX1_giveBack : yX1_giveBack.cls = RX1 ∧ yX1_giveBack.cls ≠ "java/lang/invoke/MethodHandle" ∧ yX1_giveBack.cls ≠ "java/lang/invoke/VarHandle" ∧ (parseMethodDescriptor yX1_giveBack.desc).map (fun d => d.parameters.length) = some 1 := ⟨rfl, by decide +kernel, by decide +kernel, by decide +kernel⟩
theorem eX2_init : yX2_init.cls = RX2 ∧ yX2_init.cls ≠ "java/lang/invoke/MethodHandle" ∧ yX2_init.cls ≠ "java/lang/invoke/VarHandle" ∧ (parseMethodDescriptor yX2_init.desc).map (fun d => d.parameters.length) = some 0 := ⟨rfl, by decide +kernel, by decide +kernel, by decide +kernel⟩
theorem eX3_init : yX3_init.cls = RX3 ∧ yX3_init.cls ≠ "java/lang/invoke/MethodHandle" ∧ yX3_init.cls ≠ "java/lang/invoke/VarHandle" ∧ (parseMethodDescriptor yX3_init.desc).map (fun d => d.parameters.length) = some 0 := ⟨rfl, by decide +kernel, by decide +kernel, by decide +kernel⟩
theorem eX3_hasPlace : yX3_hasPlace.cls = RX3 ∧ yX3_hasPlace.cls ≠ "java/lang/invoke/MethodHandle" ∧ yX3_hasPlace.cls ≠ "java/lang/invoke/VarHandle" ∧ (parseMethodDescriptor yX3_hasPlace.desc).map (fun d => d.parameters.length) = some 1 := ⟨rfl, by decide +kernel, by decide +kernel, by decide +kernel⟩
theorem eX3_hasSet : yX3_hasSet.cls = RX3 ∧ yX3_hasSet.cls ≠ "java/lang/invoke/MethodHandle" ∧ yX3_hasSet.cls ≠ "java/lang/invoke/VarHandle" ∧ (parseMethodDescriptor yX3_hasSet.desc).map (fun d => d.parameters.length) = some 1 := ⟨rfl, by decide +kernel, by decide +kernel, by decide +kernel⟩
theorem eX3_setsStayBelow : yX3_setsStayBelow.cls = RX3 ∧ yX3_setsStayBelow.cls ≠ "java/lang/invoke/MethodHandle" ∧ yX3_setsStayBelow.cls ≠ "java/lang/invoke/VarHandle" ∧ (parseMethodDescriptor yX3_setsStayBelow.desc).map (fun d => d.parameters.length) = some 1 := ⟨rfl, by decide +kernel, by decide +kernel, by decide +kernel⟩
theorem eX3_rulesWith : yX3_rulesWith.cls = RX3 ∧ yX3_rulesWith.cls ≠ "java/lang/invoke/MethodHandle" ∧ yX3_rulesWith.cls ≠ "java/lang/invoke/VarHandle" ∧ (parseMethodDescriptor yX3_rulesWith.desc).map (fun d => d.parameters.length) = some 1 := ⟨rfl, by decide +kernel, by decide +kernel, by decide +kernel⟩
theorem eX3_become : yX3_become.cls = RX3 ∧ yX3_become.cls ≠ "java/lang/invoke/MethodHandle" ∧ yX3_become.cls ≠ "java/lang/invoke/VarHandle" ∧ (parseMethodDescriptor yX3_become.desc).map (fun d => d.parameters.length) = some 1 := ⟨rfl, by decide +kernel, by decide +kernel, by decide +kernel⟩
theorem eX3_append : yX3_append.cls = RX3 ∧ yX3_append.cls ≠ "java/lang/invoke/MethodHandle" ∧ yX3_append.cls ≠ "java/lang/invoke/VarHandle" ∧ (parseMethodDescriptor yX3_append.desc).map (fun d => d.parameters.length) = some 2 := ⟨rfl, by decide +kernel, by decide +kernel, by decide +kernel⟩
theorem eX3_carryRule : yX3_carryRule.cls = RX3 ∧ yX3_carryRule.cls ≠ "java/lang/invoke/MethodHandle" ∧ yX3_carryRule.cls ≠ "java/lang/invoke/VarHandle" ∧ (parseMethodDescriptor yX3_carryRule.desc).map (fun d => d.parameters.length) = some 2 := ⟨rfl, by decide +kernel, by decide +kernel, by decide +kernel⟩
theorem eX3_takeOut : yX3_takeOut.cls = RX3 ∧ yX3_takeOut.cls ≠ "java/lang/invoke/MethodHandle" ∧ yX3_takeOut.cls ≠ "java/lang/invoke/VarHandle" ∧ (parseMethodDescriptor yX3_takeOut.desc).map (fun d => d.parameters.length) = some 1 := ⟨rfl, by decide +kernel, by decide +kernel, by decide +kernel⟩
theorem eX4_init : yX4_init.cls = RX4 ∧ yX4_init.cls ≠ "java/lang/invoke/MethodHandle" ∧ yX4_init.cls ≠ "java/lang/invoke/VarHandle" ∧ (parseMethodDescriptor yX4_init.desc).map (fun d => d.parameters.length) = some 0 := ⟨rfl, by decide +kernel, by decide +kernel, by decide +kernel⟩
theorem eX4_judge : yX4_judge.cls = RX4 ∧ yX4_judge.cls ≠ "java/lang/invoke/MethodHandle" ∧ yX4_judge.cls ≠ "java/lang/invoke/VarHandle" ∧ (parseMethodDescriptor yX4_judge.desc).map (fun d => d.parameters.length) = some 1 := ⟨rfl, by decide +kernel, by decide +kernel, by decide +kernel⟩
theorem eX4_judgeNext : yX4_judgeNext.cls = RX4 ∧ yX4_judgeNext.cls ≠ "java/lang/invoke/MethodHandle" ∧ yX4_judgeNext.cls ≠ "java/lang/invoke/VarHandle" ∧ (parseMethodDescriptor yX4_judgeNext.desc).map (fun d => d.parameters.length) = some 2 := ⟨rfl, by decide +kernel, by decide +kernel, by decide +kernel⟩
theorem eX4_stateOf : yX4_stateOf.cls = RX4 ∧ yX4_stateOf.cls ≠ "java/lang/invoke/MethodHandle" ∧ yX4_stateOf.cls ≠ "java/lang/invoke/VarHandle" ∧ (parseMethodDescriptor yX4_stateOf.desc).map (fun d => d.parameters.length) = some 2 := ⟨rfl, by decide +kernel, by decide +kernel, by decide +kernel⟩
theorem eX4_sumOf : yX4_sumOf.cls = RX4 ∧ yX4_sumOf.cls ≠ "java/lang/invoke/MethodHandle" ∧ yX4_sumOf.cls ≠ "java/lang/invoke/VarHandle" ∧ (parseMethodDescriptor yX4_sumOf.desc).map (fun d => d.parameters.length) = some 1 := ⟨rfl, by decide +kernel, by decide +kernel, by decide +kernel⟩
theorem eX4_combine : yX4_combine.cls = RX4 ∧ yX4_combine.cls ≠ "java/lang/invoke/MethodHandle" ∧ yX4_combine.cls ≠ "java/lang/invoke/VarHandle" ∧ (parseMethodDescriptor yX4_combine.desc).map (fun d => d.parameters.length) = some 2 := ⟨rfl, by decide +kernel, by decide +kernel, by decide +kernel⟩
theorem eX4_reasonsWith : yX4_reasonsWith.cls = RX4 ∧ yX4_reasonsWith.cls ≠ "java/lang/invoke/MethodHandle" ∧ yX4_reasonsWith.cls ≠ "java/lang/invoke/VarHandle" ∧ (parseMethodDescriptor yX4_reasonsWith.desc).map (fun d => d.parameters.length) = some 1 := ⟨rfl, by decide +kernel, by decide +kernel, by decide +kernel⟩
theorem eX4_settled : yX4_settled.cls = RX4 ∧ yX4_settled.cls ≠ "java/lang/invoke/MethodHandle" ∧ yX4_settled.cls ≠ "java/lang/invoke/VarHandle" ∧ (parseMethodDescriptor yX4_settled.desc).map (fun d => d.parameters.length) = some 0 := ⟨rfl, by decide +kernel, by decide +kernel, by decide +kernel⟩
theorem eX4_boundTo : yX4_boundTo.cls = RX4 ∧ yX4_boundTo.cls ≠ "java/lang/invoke/MethodHandle" ∧ yX4_boundTo.cls ≠ "java/lang/invoke/VarHandle" ∧ (parseMethodDescriptor yX4_boundTo.desc).map (fun d => d.parameters.length) = some 1 := ⟨rfl, by decide +kernel, by decide +kernel, by decide +kernel⟩
theorem eX4_answers : yX4_answers.cls = RX4 ∧ yX4_answers.cls ≠ "java/lang/invoke/MethodHandle" ∧ yX4_answers.cls ≠ "java/lang/invoke/VarHandle" ∧ (parseMethodDescriptor yX4_answers.desc).map (fun d => d.parameters.length) = some 0 := ⟨rfl, by decide +kernel, by decide +kernel, by decide +kernel⟩
theorem eX4_answerAt : yX4_answerAt.cls = RX4 ∧ yX4_answerAt.cls ≠ "java/lang/invoke/MethodHandle" ∧ yX4_answerAt.cls ≠ "java/lang/invoke/VarHandle" ∧ (parseMethodDescriptor yX4_answerAt.desc).map (fun d => d.parameters.length) = some 1 := ⟨rfl, by decide +kernel, by decide +kernel, by decide +kernel⟩
theorem eX4_nearestTo : yX4_nearestTo.cls = RX4 ∧ yX4_nearestTo.cls ≠ "java/lang/invoke/MethodHandle" ∧ yX4_nearestTo.cls ≠ "java/lang/invoke/VarHandle" ∧ (parseMethodDescriptor yX4_nearestTo.desc).map (fun d => d.parameters.length) = some 1 := ⟨rfl, by decide +kernel, by decide +kernel, by decide +kernel⟩
theorem eX4_fillExchanges : yX4_fillExchanges.cls = RX4 ∧ yX4_fillExchanges.cls ≠ "java/lang/invoke/MethodHandle" ∧ yX4_fillExchanges.cls ≠ "java/lang/invoke/VarHandle" ∧ (parseMethodDescriptor yX4_fillExchanges.desc).map (fun d => d.parameters.length) = some 0 := ⟨rfl, by decide +kernel, by decide +kernel, by decide +kernel⟩
theorem eX5_init : yX5_init.cls = RX5 ∧ yX5_init.cls ≠ "java/lang/invoke/MethodHandle" ∧ yX5_init.cls ≠ "java/lang/invoke/VarHandle" ∧ (parseMethodDescriptor yX5_init.desc).map (fun d => d.parameters.length) = some 0 := ⟨rfl, by decide +kernel, by decide +kernel, by decide +kernel⟩
theorem eX5_choices : yX5_choices.cls = RX5 ∧ yX5_choices.cls ≠ "java/lang/invoke/MethodHandle" ∧ yX5_choices.cls ≠ "java/lang/invoke/VarHandle" ∧ (parseMethodDescriptor yX5_choices.desc).map (fun d => d.parameters.length) = some 1 := ⟨rfl, by decide +kernel, by decide +kernel, by decide +kernel⟩
theorem eX5_tell : yX5_tell.cls = RX5 ∧ yX5_tell.cls ≠ "java/lang/invoke/MethodHandle" ∧ yX5_tell.cls ≠ "java/lang/invoke/VarHandle" ∧ (parseMethodDescriptor yX5_tell.desc).map (fun d => d.parameters.length) = some 2 := ⟨rfl, by decide +kernel, by decide +kernel, by decide +kernel⟩
theorem eX5_drop : yX5_drop.cls = RX5 ∧ yX5_drop.cls ≠ "java/lang/invoke/MethodHandle" ∧ yX5_drop.cls ≠ "java/lang/invoke/VarHandle" ∧ (parseMethodDescriptor yX5_drop.desc).map (fun d => d.parameters.length) = some 1 := ⟨rfl, by decide +kernel, by decide +kernel, by decide +kernel⟩
theorem eX5_move : yX5_move.cls = RX5 ∧ yX5_move.cls ≠ "java/lang/invoke/MethodHandle" ∧ yX5_move.cls ≠ "java/lang/invoke/VarHandle" ∧ (parseMethodDescriptor yX5_move.desc).map (fun d => d.parameters.length) = some 2 := ⟨rfl, by decide +kernel, by decide +kernel, by decide +kernel⟩
theorem eX5_turn : yX5_turn.cls = RX5 ∧ yX5_turn.cls ≠ "java/lang/invoke/MethodHandle" ∧ yX5_turn.cls ≠ "java/lang/invoke/VarHandle" ∧ (parseMethodDescriptor yX5_turn.desc).map (fun d => d.parameters.length) = some 1 := ⟨rfl, by decide +kernel, by decide +kernel, by decide +kernel⟩
theorem eX5_rule : yX5_rule.cls = RX5 ∧ yX5_rule.cls ≠ "java/lang/invoke/MethodHandle" ∧ yX5_rule.cls ≠ "java/lang/invoke/VarHandle" ∧ (parseMethodDescriptor yX5_rule.desc).map (fun d => d.parameters.length) = some 2 := ⟨rfl, by decide +kernel, by decide +kernel, by decide +kernel⟩
theorem eX5_choice : yX5_choice.cls = RX5 ∧ yX5_choice.cls ≠ "java/lang/invoke/MethodHandle" ∧ yX5_choice.cls ≠ "java/lang/invoke/VarHandle" ∧ (parseMethodDescriptor yX5_choice.desc).map (fun d => d.parameters.length) = some 2 := ⟨rfl, by decide +kernel, by decide +kernel, by decide +kernel⟩
theorem eX5_count : yX5_count.cls = RX5 ∧ yX5_count.cls ≠ "java/lang/invoke/MethodHandle" ∧ yX5_count.cls ≠ "java/lang/invoke/VarHandle" ∧ (parseMethodDescriptor yX5_count.desc).map (fun d => d.parameters.length) = some 1 := ⟨rfl, by decide +kernel, by decide +kernel, by decide +kernel⟩
theorem eX5_answer : yX5_answer.cls = RX5 ∧ yX5_answer.cls ≠ "java/lang/invoke/MethodHandle" ∧ yX5_answer.cls ≠ "java/lang/invoke/VarHandle" ∧ (parseMethodDescriptor yX5_answer.desc).map (fun d => d.parameters.length) = some 1 := ⟨rfl, by decide +kernel, by decide +kernel, by decide +kernel⟩
theorem eX5_known : yX5_known.cls = RX5 ∧ yX5_known.cls ≠ "java/lang/invoke/MethodHandle" ∧ yX5_known.cls ≠ "java/lang/invoke/VarHandle" ∧ (parseMethodDescriptor yX5_known.desc).map (fun d => d.parameters.length) = some 1 := ⟨rfl, by decide +kernel, by decide +kernel, by decide +kernel⟩
theorem eX5_nearest : yX5_nearest.cls = RX5 ∧ yX5_nearest.cls ≠ "java/lang/invoke/MethodHandle" ∧ yX5_nearest.cls ≠ "java/lang/invoke/VarHandle" ∧ (parseMethodDescriptor yX5_nearest.desc).map (fun d => d.parameters.length) = some 2 := ⟨rfl, by decide +kernel, by decide +kernel, by decide +kernel⟩
theorem eX5_best : yX5_best.cls = RX5 ∧ yX5_best.cls ≠ "java/lang/invoke/MethodHandle" ∧ yX5_best.cls ≠ "java/lang/invoke/VarHandle" ∧ (parseMethodDescriptor yX5_best.desc).map (fun d => d.parameters.length) = some 1 := ⟨rfl, by decide +kernel, by decide +kernel, by decide +kernel⟩
theorem eX5_ifDropped : yX5_ifDropped.cls = RX5 ∧ yX5_ifDropped.cls ≠ "java/lang/invoke/MethodHandle" ∧ yX5_ifDropped.cls ≠ "java/lang/invoke/VarHandle" ∧ (parseMethodDescriptor yX5_ifDropped.desc).map (fun d => d.parameters.length) = some 1 := ⟨rfl, by decide +kernel, by decide +kernel, by decide +kernel⟩
theorem eX5_ifMoved : yX5_ifMoved.cls = RX5 ∧ yX5_ifMoved.cls ≠ "java/lang/invoke/MethodHandle" ∧ yX5_ifMoved.cls ≠ "java/lang/invoke/VarHandle" ∧ (parseMethodDescriptor yX5_ifMoved.desc).map (fun d => d.parameters.length) = some 2 := ⟨rfl, by decide +kernel, by decide +kernel, by decide +kernel⟩
theorem eX5_undo : yX5_undo.cls = RX5 ∧ yX5_undo.cls ≠ "java/lang/invoke/MethodHandle" ∧ yX5_undo.cls ≠ "java/lang/invoke/VarHandle" ∧ (parseMethodDescriptor yX5_undo.desc).map (fun d => d.parameters.length) = some 0 := ⟨rfl, by decide +kernel, by decide +kernel, by decide +kernel⟩
theorem eX5_isRule : yX5_isRule.cls = RX5 ∧ yX5_isRule.cls ≠ "java/lang/invoke/MethodHandle" ∧ yX5_isRule.cls ≠ "java/lang/invoke/VarHandle" ∧ (parseMethodDescriptor yX5_isRule.desc).map (fun d => d.parameters.length) = some 2 := ⟨rfl, by decide +kernel, by decide +kernel, by decide +kernel⟩
theorem eX5_parity : yX5_parity.cls = RX5 ∧ yX5_parity.cls ≠ "java/lang/invoke/MethodHandle" ∧ yX5_parity.cls ≠ "java/lang/invoke/VarHandle" ∧ (parseMethodDescriptor yX5_parity.desc).map (fun d => d.parameters.length) = some 1 := ⟨rfl, by decide +kernel, by decide +kernel, by decide +kernel⟩
theorem eX5_lowestBit : yX5_lowestBit.cls = RX5 ∧ yX5_lowestBit.cls ≠ "java/lang/invoke/MethodHandle" ∧ yX5_lowestBit.cls ≠ "java/lang/invoke/VarHandle" ∧ (parseMethodDescriptor yX5_lowestBit.desc).map (fun d => d.parameters.length) = some 1 := ⟨rfl, by decide +kernel, by decide +kernel, by decide +kernel⟩
theorem eX5_carry : yX5_carry.cls = RX5 ∧ yX5_carry.cls ≠ "java/lang/invoke/MethodHandle" ∧ yX5_carry.cls ≠ "java/lang/invoke/VarHandle" ∧ (parseMethodDescriptor yX5_carry.desc).map (fun d => d.parameters.length) = some 3 := ⟨rfl, by decide +kernel, by decide +kernel, by decide +kernel⟩
theorem eJ6_bitCount_0f7a4 : yJ6_bitCount_0f7a4.cls = RJ6 ∧ yJ6_bitCount_0f7a4.cls ≠ "java/lang/invoke/MethodHandle" ∧ yJ6_bitCount_0f7a4.cls ≠ "java/lang/invoke/VarHandle" ∧ (parseMethodDescriptor yJ6_bitCount_0f7a4.desc).map (fun d => d.parameters.length) = some 1 := ⟨rfl, by decide +kernel, by decide +kernel, by decide +kernel⟩
