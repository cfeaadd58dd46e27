theorem tb_1 : ∀ w ∈ tables_1_1, w ∈ lw_tbl := fun _ h => List.mem_append_right _ (List.mem_append_left _ h)
theorem tb_2 : ∀ w ∈ tables_1_2, w ∈ lw_tbl := fun _ h => List.mem_append_right _ (List.mem_append_right _ (List.mem_append_left _ h))
theorem tb_3 : ∀ w ∈ tables_1_3, w ∈ lw_tbl := fun _ h => List.mem_append_right _ (List.mem_append_right _ (List.mem_append_right _ (List.mem_append_left _ h)))
theorem tb_4 : ∀ w ∈ tables_1_4, w ∈ lw_tbl := fun _ h => List.mem_append_right _ (List.mem_append_right _ (List.mem_append_right _ (List.mem_append_right _ h)))
theorem tb_p : ∀ w ∈ k2_sels lw_privs, w ∈ lw_tbl := fun _ h => List.mem_append_left _ h
set_option maxRecDepth 100000 in
theorem tw_1_0 : (Cond.classLink RL 7 RX7) ∈ lw_tbl := tb_1 _ (List.mem_of_getElem? (i := 12) rfl)
set_option maxRecDepth 100000 in
theorem tw_1_1 : (Cond.instantiable RX7 18) ∈ lw_tbl := tb_1 _ (List.mem_of_getElem? (i := 13) rfl)
set_option maxRecDepth 100000 in
theorem tw_1_2 : (Cond.initialized RX7) ∈ lw_tbl := tb_1 _ (List.mem_of_getElem? (i := 1) rfl)
set_option maxRecDepth 100000 in
theorem tw_1_3 : (Cond.classLink RL 18 RX8) ∈ lw_tbl := tb_3 _ (List.mem_of_getElem? (i := 86) rfl)
set_option maxRecDepth 100000 in
theorem tw_1_4 : (Cond.instantiable RX8 38) ∈ lw_tbl := tb_3 _ (List.mem_of_getElem? (i := 87) rfl)
set_option maxRecDepth 100000 in
theorem tw_1_5 : (Cond.initialized RX8) ∈ lw_tbl := tb_1 _ (List.mem_of_getElem? (i := 10) rfl)
set_option maxRecDepth 100000 in
theorem tw_1_6 : (Cond.constantLong RL 26 (4294967295)) ∈ lw_tbl := tb_4 _ (List.mem_of_getElem? (i := 104) rfl)
set_option maxRecDepth 100000 in
theorem tw_1_7 : (Cond.methodLink RL 9 yL_cell) ∈ lw_tbl := tb_3 _ (List.mem_of_getElem? (i := 83) rfl)
set_option maxRecDepth 100000 in
theorem tw_1_8 : (Cond.static yL_cell) ∈ lw_tbl := tb_3 _ (List.mem_of_getElem? (i := 84) rfl)
set_option maxRecDepth 100000 in
theorem tw_1_9 : (Cond.initialized RL) ∈ lw_tbl := tb_1 _ (List.mem_of_getElem? (i := 0) rfl)
set_option maxRecDepth 100000 in
theorem tw_1_10 : (Cond.code yL_cell cL_cell 2 (some .int)) ∈ lw_tbl := tb_3 _ (List.mem_of_getElem? (i := 85) rfl)
set_option maxRecDepth 100000 in
theorem tw_1_11 : (Cond.methodLink RL 15 yX7_init) ∈ lw_tbl := tb_1 _ (List.mem_of_getElem? (i := 14) rfl)
set_option maxRecDepth 100000 in
theorem tw_1_12 : (Cond.instanceMethod yX7_init) ∈ lw_tbl := tb_1 _ (List.mem_of_getElem? (i := 15) rfl)
set_option maxRecDepth 100000 in
theorem tw_1_13 : (Cond.code yX7_init cX7_init 3 none) ∈ lw_tbl := tb_1 _ (List.mem_of_getElem? (i := 16) rfl)
set_option maxRecDepth 100000 in
theorem tw_1_14 : (Cond.methodLink RX7 1 objectInit) ∈ lw_tbl := tb_1 _ (List.mem_of_getElem? (i := 17) rfl)
set_option maxRecDepth 100000 in
theorem tw_1_15 : (Cond.instanceMethod objectInit) ∈ lw_tbl := tb_1 _ (List.mem_of_getElem? (i := 18) rfl)
set_option maxRecDepth 100000 in
theorem tw_1_16 : (Cond.code objectInit ⟨#[0xb1]⟩ 1 none) ∈ lw_tbl := tb_1 _ (List.mem_of_getElem? (i := 19) rfl)
set_option maxRecDepth 100000 in
theorem tw_1_17 : (Cond.fieldLink RX7 7 "OutsideAsks" "FIRST_SETTINGS" "[I") ∈ lw_tbl := tb_1 _ (List.mem_of_getElem? (i := 20) rfl)
set_option maxRecDepth 100000 in
theorem tw_1_18 : (Cond.methodLink RX7 13 ⟨"[I", "clone", "()Ljava/lang/Object;"⟩) ∈ lw_tbl := tb_1 _ (List.mem_of_getElem? (i := 22) rfl)
set_option maxRecDepth 100000 in
theorem tw_1_19 : (Cond.sameMethod "[I" "java/lang/Object" "clone" "()Ljava/lang/Object;") ∈ lw_tbl := tb_1 _ (List.mem_of_getElem? (i := 23) rfl)
set_option maxRecDepth 100000 in
theorem tw_1_20 : (Cond.native ⟨"java/lang/Object", "clone", "()Ljava/lang/Object;"⟩) ∈ lw_tbl := tb_1 _ (List.mem_of_getElem? (i := 24) rfl)
set_option maxRecDepth 100000 in
theorem tw_1_21 : (Cond.instanceMethod ⟨"java/lang/Object", "clone", "()Ljava/lang/Object;"⟩) ∈ lw_tbl := tb_1 _ (List.mem_of_getElem? (i := 25) rfl)
set_option maxRecDepth 100000 in
theorem tw_1_22 : (Cond.selects "[I" ⟨"[I", "clone", "()Ljava/lang/Object;"⟩ ⟨"java/lang/Object", "clone", "()Ljava/lang/Object;"⟩) ∈ lw_tbl := tb_1 _ (List.mem_of_getElem? (i := 26) rfl)
set_option maxRecDepth 100000 in
theorem tw_1_23 : (Cond.classLink RX7 14 "[I") ∈ lw_tbl := tb_1 _ (List.mem_of_getElem? (i := 28) rfl)
theorem tr_1 : ∀ w ∈ wsL_law_r1, w ∈ lw_tbl := List.forall_mem_cons.mpr ⟨tw_1_0, List.forall_mem_cons.mpr ⟨tw_1_1, List.forall_mem_cons.mpr ⟨tw_1_2, List.forall_mem_cons.mpr ⟨tw_1_3, List.forall_mem_cons.mpr ⟨tw_1_4, List.forall_mem_cons.mpr ⟨tw_1_5, List.forall_mem_cons.mpr ⟨tw_1_6, List.forall_mem_cons.mpr ⟨tw_1_7, List.forall_mem_cons.mpr ⟨tw_1_8, List.forall_mem_cons.mpr ⟨tw_1_9, List.forall_mem_cons.mpr ⟨tw_1_10, List.forall_mem_cons.mpr ⟨tw_1_11, List.forall_mem_cons.mpr ⟨tw_1_12, List.forall_mem_cons.mpr ⟨tw_1_13, List.forall_mem_cons.mpr ⟨tw_1_14, List.forall_mem_cons.mpr ⟨tw_1_15, List.forall_mem_cons.mpr ⟨tw_1_16, List.forall_mem_cons.mpr ⟨tw_1_17, List.forall_mem_cons.mpr ⟨tw_1_18, List.forall_mem_cons.mpr ⟨tw_1_19, List.forall_mem_cons.mpr ⟨tw_1_20, List.forall_mem_cons.mpr ⟨tw_1_21, List.forall_mem_cons.mpr ⟨tw_1_22, List.forall_mem_cons.mpr ⟨tw_1_23, fun _ h => absurd h List.not_mem_nil⟩⟩⟩⟩⟩⟩⟩⟩⟩⟩⟩⟩⟩⟩⟩⟩⟩⟩⟩⟩⟩⟩⟩⟩
set_option maxRecDepth 100000 in
theorem tw_2_0 : (Cond.fieldLink RX7 18 "OutsideAsks" "settings" "[I") ∈ lw_tbl := tb_1 _ (List.mem_of_getElem? (i := 177) rfl)
set_option maxRecDepth 100000 in
theorem tw_2_1 : (Cond.classLink RX7 21 RX0) ∈ lw_tbl := tb_1 _ (List.mem_of_getElem? (i := 29) rfl)
set_option maxRecDepth 100000 in
theorem tw_2_2 : (Cond.instantiable RX0 4) ∈ lw_tbl := tb_1 _ (List.mem_of_getElem? (i := 30) rfl)
set_option maxRecDepth 100000 in
theorem tw_2_3 : (Cond.initialized RX0) ∈ lw_tbl := tb_1 _ (List.mem_of_getElem? (i := 2) rfl)
set_option maxRecDepth 100000 in
theorem tw_2_4 : (Cond.fieldLink RX7 24 "OutsideAsks" "items" "LOutsideAsks$Items;") ∈ lw_tbl := tb_1 _ (List.mem_of_getElem? (i := 178) rfl)
set_option maxRecDepth 100000 in
theorem tw_2_5 : (Cond.classLink RX7 28 RX4) ∈ lw_tbl := tb_1 _ (List.mem_of_getElem? (i := 51) rfl)
set_option maxRecDepth 100000 in
theorem tw_2_6 : (Cond.instantiable RX4 8) ∈ lw_tbl := tb_1 _ (List.mem_of_getElem? (i := 52) rfl)
set_option maxRecDepth 100000 in
theorem tw_2_7 : (Cond.initialized RX4) ∈ lw_tbl := tb_1 _ (List.mem_of_getElem? (i := 3) rfl)
set_option maxRecDepth 100000 in
theorem tw_2_8 : (Cond.fieldLink RX7 31 "OutsideAsks" "live" "LOutsideAsks$Progress;") ∈ lw_tbl := tb_1 _ (List.mem_of_getElem? (i := 179) rfl)
set_option maxRecDepth 100000 in
theorem tw_2_9 : (Cond.fieldLink RX7 35 "OutsideAsks" "saved" "LOutsideAsks$Progress;") ∈ lw_tbl := tb_1 _ (List.mem_of_getElem? (i := 180) rfl)
set_option maxRecDepth 100000 in
theorem tw_2_10 : (Cond.classLink RX7 38 RX3) ∈ lw_tbl := tb_1 _ (List.mem_of_getElem? (i := 86) rfl)
set_option maxRecDepth 100000 in
theorem tw_2_11 : (Cond.instantiable RX3 2) ∈ lw_tbl := tb_1 _ (List.mem_of_getElem? (i := 87) rfl)
set_option maxRecDepth 100000 in
theorem tw_2_12 : (Cond.initialized RX3) ∈ lw_tbl := tb_1 _ (List.mem_of_getElem? (i := 4) rfl)
set_option maxRecDepth 100000 in
theorem tw_2_13 : (Cond.fieldLink RX7 41 "OutsideAsks" "outLog" "LOutsideAsks$OutLog;") ∈ lw_tbl := tb_1 _ (List.mem_of_getElem? (i := 181) rfl)
set_option maxRecDepth 100000 in
theorem tw_2_14 : (Cond.classLink RX7 45 RX5) ∈ lw_tbl := tb_1 _ (List.mem_of_getElem? (i := 99) rfl)
set_option maxRecDepth 100000 in
theorem tw_2_15 : (Cond.instantiable RX5 2) ∈ lw_tbl := tb_1 _ (List.mem_of_getElem? (i := 100) rfl)
set_option maxRecDepth 100000 in
theorem tw_2_16 : (Cond.initialized RX5) ∈ lw_tbl := tb_1 _ (List.mem_of_getElem? (i := 5) rfl)
set_option maxRecDepth 100000 in
theorem tw_2_17 : (Cond.fieldLink RX7 48 "OutsideAsks" "working" "LOutsideAsks$RowList;") ∈ lw_tbl := tb_1 _ (List.mem_of_getElem? (i := 182) rfl)
set_option maxRecDepth 100000 in
theorem tw_2_18 : (Cond.fieldLink RX7 52 "OutsideAsks" "queue" "LOutsideAsks$RowList;") ∈ lw_tbl := tb_1 _ (List.mem_of_getElem? (i := 183) rfl)
set_option maxRecDepth 100000 in
theorem tw_2_19 : (Cond.fieldLink RX7 55 "OutsideAsks" "overdue" "LOutsideAsks$RowList;") ∈ lw_tbl := tb_1 _ (List.mem_of_getElem? (i := 184) rfl)
set_option maxRecDepth 100000 in
theorem tw_2_20 : (Cond.classLink RX7 58 RX2) ∈ lw_tbl := tb_1 _ (List.mem_of_getElem? (i := 113) rfl)
set_option maxRecDepth 100000 in
theorem tw_2_21 : (Cond.instantiable RX2 4) ∈ lw_tbl := tb_1 _ (List.mem_of_getElem? (i := 114) rfl)
set_option maxRecDepth 100000 in
theorem tw_2_22 : (Cond.initialized RX2) ∈ lw_tbl := tb_1 _ (List.mem_of_getElem? (i := 6) rfl)
set_option maxRecDepth 100000 in
theorem tw_2_23 : (Cond.fieldLink RX7 61 "OutsideAsks" "asks" "LOutsideAsks$Line;") ∈ lw_tbl := tb_1 _ (List.mem_of_getElem? (i := 185) rfl)
theorem tr_2 : ∀ w ∈ wsL_law_r2, w ∈ lw_tbl := List.forall_mem_cons.mpr ⟨tw_2_0, List.forall_mem_cons.mpr ⟨tw_2_1, List.forall_mem_cons.mpr ⟨tw_2_2, List.forall_mem_cons.mpr ⟨tw_2_3, List.forall_mem_cons.mpr ⟨tw_2_4, List.forall_mem_cons.mpr ⟨tw_2_5, List.forall_mem_cons.mpr ⟨tw_2_6, List.forall_mem_cons.mpr ⟨tw_2_7, List.forall_mem_cons.mpr ⟨tw_2_8, List.forall_mem_cons.mpr ⟨tw_2_9, List.forall_mem_cons.mpr ⟨tw_2_10, List.forall_mem_cons.mpr ⟨tw_2_11, List.forall_mem_cons.mpr ⟨tw_2_12, List.forall_mem_cons.mpr ⟨tw_2_13, List.forall_mem_cons.mpr ⟨tw_2_14, List.forall_mem_cons.mpr ⟨tw_2_15, List.forall_mem_cons.mpr ⟨tw_2_16, List.forall_mem_cons.mpr ⟨tw_2_17, List.forall_mem_cons.mpr ⟨tw_2_18, List.forall_mem_cons.mpr ⟨tw_2_19, List.forall_mem_cons.mpr ⟨tw_2_20, List.forall_mem_cons.mpr ⟨tw_2_21, List.forall_mem_cons.mpr ⟨tw_2_22, List.forall_mem_cons.mpr ⟨tw_2_23, fun _ h => absurd h List.not_mem_nil⟩⟩⟩⟩⟩⟩⟩⟩⟩⟩⟩⟩⟩⟩⟩⟩⟩⟩⟩⟩⟩⟩⟩⟩
set_option maxRecDepth 100000 in
theorem tw_3_0 : (Cond.fieldLink RX7 65 "OutsideAsks" "answers" "LOutsideAsks$Line;") ∈ lw_tbl := tb_1 _ (List.mem_of_getElem? (i := 186) rfl)
set_option maxRecDepth 100000 in
theorem tw_3_1 : (Cond.classLink RX7 68 RX6) ∈ lw_tbl := tb_1 _ (List.mem_of_getElem? (i := 133) rfl)
set_option maxRecDepth 100000 in
theorem tw_3_2 : (Cond.instantiable RX6 3) ∈ lw_tbl := tb_1 _ (List.mem_of_getElem? (i := 134) rfl)
set_option maxRecDepth 100000 in
theorem tw_3_3 : (Cond.initialized RX6) ∈ lw_tbl := tb_1 _ (List.mem_of_getElem? (i := 7) rfl)
set_option maxRecDepth 100000 in
theorem tw_3_4 : (Cond.fieldLink RX7 71 "OutsideAsks" "service" "LOutsideAsks$Service;") ∈ lw_tbl := tb_1 _ (List.mem_of_getElem? (i := 187) rfl)
set_option maxRecDepth 100000 in
theorem tw_3_5 : (Cond.classLink RX7 75 RX1) ∈ lw_tbl := tb_1 _ (List.mem_of_getElem? (i := 149) rfl)
set_option maxRecDepth 100000 in
theorem tw_3_6 : (Cond.instantiable RX1 4) ∈ lw_tbl := tb_1 _ (List.mem_of_getElem? (i := 150) rfl)
set_option maxRecDepth 100000 in
theorem tw_3_7 : (Cond.initialized RX1) ∈ lw_tbl := tb_1 _ (List.mem_of_getElem? (i := 8) rfl)
set_option maxRecDepth 100000 in
theorem tw_3_8 : (Cond.fieldLink RX7 78 "OutsideAsks" "keptAnswers" "LOutsideAsks$KeptAnswers;") ∈ lw_tbl := tb_1 _ (List.mem_of_getElem? (i := 188) rfl)
set_option maxRecDepth 100000 in
theorem tw_3_9 : (Cond.fieldLink RX7 82 "OutsideAsks" "now" "I") ∈ lw_tbl := tb_1 _ (List.mem_of_getElem? (i := 189) rfl)
set_option maxRecDepth 100000 in
theorem tw_3_10 : (Cond.fieldLink RX7 86 "OutsideAsks" "sentNow" "I") ∈ lw_tbl := tb_1 _ (List.mem_of_getElem? (i := 190) rfl)
set_option maxRecDepth 100000 in
theorem tw_3_11 : (Cond.fieldLink RX7 89 "OutsideAsks" "sentInAll" "I") ∈ lw_tbl := tb_1 _ (List.mem_of_getElem? (i := 191) rfl)
set_option maxRecDepth 100000 in
theorem tw_3_12 : (Cond.fieldLink RX7 92 "OutsideAsks" "restarts" "I") ∈ lw_tbl := tb_1 _ (List.mem_of_getElem? (i := 192) rfl)
set_option maxRecDepth 100000 in
theorem tw_3_13 : (Cond.methodLink RX7 95 Lib.Math.min.name) ∈ lw_tbl := tb_1 _ (List.mem_of_getElem? (i := 169) rfl)
set_option maxRecDepth 100000 in
theorem tw_3_14 : (Cond.static Lib.Math.min.name) ∈ lw_tbl := tb_1 _ (List.mem_of_getElem? (i := 170) rfl)
set_option maxRecDepth 100000 in
theorem tw_3_15 : (Cond.initialized "java/lang/Math") ∈ lw_tbl := tb_1 _ (List.mem_of_getElem? (i := 9) rfl)
set_option maxRecDepth 100000 in
theorem tw_3_16 : (Cond.code Lib.Math.min.name Lib.Math.min.code 2 (some .int)) ∈ lw_tbl := tb_1 _ (List.mem_of_getElem? (i := 171) rfl)
set_option maxRecDepth 100000 in
theorem tw_3_17 : (Cond.methodLink RX7 101 Lib.Math.max.name) ∈ lw_tbl := tb_1 _ (List.mem_of_getElem? (i := 172) rfl)
set_option maxRecDepth 100000 in
theorem tw_3_18 : (Cond.static Lib.Math.max.name) ∈ lw_tbl := tb_1 _ (List.mem_of_getElem? (i := 173) rfl)
set_option maxRecDepth 100000 in
theorem tw_3_19 : (Cond.code Lib.Math.max.name Lib.Math.max.code 2 (some .int)) ∈ lw_tbl := tb_1 _ (List.mem_of_getElem? (i := 174) rfl)
set_option maxRecDepth 100000 in
theorem tw_3_20 : (Cond.fieldLink RX7 104 "OutsideAsks" "most" "I") ∈ lw_tbl := tb_1 _ (List.mem_of_getElem? (i := 175) rfl)
set_option maxRecDepth 100000 in
theorem tw_3_21 : (Cond.fieldLink RX7 107 "OutsideAsks" "ordered" "Z") ∈ lw_tbl := tb_1 _ (List.mem_of_getElem? (i := 176) rfl)
set_option maxRecDepth 100000 in
theorem tw_3_22 : (Cond.instanceMethod yX0_init) ∈ lw_tbl := tb_1 _ (List.mem_of_getElem? (i := 32) rfl)
set_option maxRecDepth 100000 in
theorem tw_3_23 : (Cond.code yX0_init cX0_init 1 none) ∈ lw_tbl := tb_1 _ (List.mem_of_getElem? (i := 33) rfl)
theorem tr_3 : ∀ w ∈ wsL_law_r3, w ∈ lw_tbl := List.forall_mem_cons.mpr ⟨tw_3_0, List.forall_mem_cons.mpr ⟨tw_3_1, List.forall_mem_cons.mpr ⟨tw_3_2, List.forall_mem_cons.mpr ⟨tw_3_3, List.forall_mem_cons.mpr ⟨tw_3_4, List.forall_mem_cons.mpr ⟨tw_3_5, List.forall_mem_cons.mpr ⟨tw_3_6, List.forall_mem_cons.mpr ⟨tw_3_7, List.forall_mem_cons.mpr ⟨tw_3_8, List.forall_mem_cons.mpr ⟨tw_3_9, List.forall_mem_cons.mpr ⟨tw_3_10, List.forall_mem_cons.mpr ⟨tw_3_11, List.forall_mem_cons.mpr ⟨tw_3_12, List.forall_mem_cons.mpr ⟨tw_3_13, List.forall_mem_cons.mpr ⟨tw_3_14, List.forall_mem_cons.mpr ⟨tw_3_15, List.forall_mem_cons.mpr ⟨tw_3_16, List.forall_mem_cons.mpr ⟨tw_3_17, List.forall_mem_cons.mpr ⟨tw_3_18, List.forall_mem_cons.mpr ⟨tw_3_19, List.forall_mem_cons.mpr ⟨tw_3_20, List.forall_mem_cons.mpr ⟨tw_3_21, List.forall_mem_cons.mpr ⟨tw_3_22, List.forall_mem_cons.mpr ⟨tw_3_23, fun _ h => absurd h List.not_mem_nil⟩⟩⟩⟩⟩⟩⟩⟩⟩⟩⟩⟩⟩⟩⟩⟩⟩⟩⟩⟩⟩⟩⟩⟩
set_option maxRecDepth 100000 in
theorem tw_4_0 : (Cond.methodLink RX0 3 objectInit) ∈ lw_tbl := tb_1 _ (List.mem_of_getElem? (i := 34) rfl)
set_option maxRecDepth 100000 in
theorem tw_4_1 : (Cond.arrayClass .long) ∈ lw_tbl := tb_1 _ (List.mem_of_getElem? (i := 49) rfl)
set_option maxRecDepth 100000 in
theorem tw_4_2 : (Cond.fieldLink RX0 9 "OutsideAsks$Items" "keys" "[J") ∈ lw_tbl := tb_1 _ (List.mem_of_getElem? (i := 35) rfl)
set_option maxRecDepth 100000 in
theorem tw_4_3 : (Cond.fieldLink RX0 15 "OutsideAsks$Items" "values" "[J") ∈ lw_tbl := tb_1 _ (List.mem_of_getElem? (i := 36) rfl)
set_option maxRecDepth 100000 in
theorem tw_4_4 : (Cond.arrayClass .boolean) ∈ lw_tbl := tb_1 _ (List.mem_of_getElem? (i := 50) rfl)
set_option maxRecDepth 100000 in
theorem tw_4_5 : (Cond.fieldLink RX0 18 "OutsideAsks$Items" "marks" "[Z") ∈ lw_tbl := tb_1 _ (List.mem_of_getElem? (i := 37) rfl)
set_option maxRecDepth 100000 in
theorem tw_4_6 : (Cond.arrayClass .int) ∈ lw_tbl := tb_1 _ (List.mem_of_getElem? (i := 48) rfl)
set_option maxRecDepth 100000 in
theorem tw_4_7 : (Cond.fieldLink RX0 22 "OutsideAsks$Items" "dues" "[I") ∈ lw_tbl := tb_1 _ (List.mem_of_getElem? (i := 38) rfl)
set_option maxRecDepth 100000 in
theorem tw_4_8 : (Cond.instanceMethod yX4_init) ∈ lw_tbl := tb_1 _ (List.mem_of_getElem? (i := 54) rfl)
set_option maxRecDepth 100000 in
theorem tw_4_9 : (Cond.code yX4_init cX4_init 1 none) ∈ lw_tbl := tb_1 _ (List.mem_of_getElem? (i := 55) rfl)
set_option maxRecDepth 100000 in
theorem tw_4_10 : (Cond.methodLink RX4 3 objectInit) ∈ lw_tbl := tb_1 _ (List.mem_of_getElem? (i := 56) rfl)
set_option maxRecDepth 100000 in
theorem tw_4_11 : (Cond.fieldLink RX4 9 "OutsideAsks$Progress" "states" "[I") ∈ lw_tbl := tb_1 _ (List.mem_of_getElem? (i := 57) rfl)
set_option maxRecDepth 100000 in
theorem tw_4_12 : (Cond.fieldLink RX4 15 "OutsideAsks$Progress" "results" "[I") ∈ lw_tbl := tb_1 _ (List.mem_of_getElem? (i := 58) rfl)
set_option maxRecDepth 100000 in
theorem tw_4_13 : (Cond.fieldLink RX4 18 "OutsideAsks$Progress" "tries" "[I") ∈ lw_tbl := tb_1 _ (List.mem_of_getElem? (i := 59) rfl)
set_option maxRecDepth 100000 in
theorem tw_4_14 : (Cond.fieldLink RX4 21 "OutsideAsks$Progress" "settledValues" "[J") ∈ lw_tbl := tb_1 _ (List.mem_of_getElem? (i := 60) rfl)
set_option maxRecDepth 100000 in
theorem tw_4_15 : (Cond.fieldLink RX4 25 "OutsideAsks$Progress" "items" "I") ∈ lw_tbl := tb_1 _ (List.mem_of_getElem? (i := 61) rfl)
set_option maxRecDepth 100000 in
theorem tw_4_16 : (Cond.fieldLink RX4 29 "OutsideAsks$Progress" "outs" "I") ∈ lw_tbl := tb_1 _ (List.mem_of_getElem? (i := 63) rfl)
set_option maxRecDepth 100000 in
theorem tw_4_17 : (Cond.fieldLink RX4 32 "OutsideAsks$Progress" "waiting" "I") ∈ lw_tbl := tb_1 _ (List.mem_of_getElem? (i := 65) rfl)
set_option maxRecDepth 100000 in
theorem tw_4_18 : (Cond.fieldLink RX4 35 "OutsideAsks$Progress" "settled" "I") ∈ lw_tbl := tb_1 _ (List.mem_of_getElem? (i := 67) rfl)
set_option maxRecDepth 100000 in
theorem tw_4_19 : (Cond.instanceMethod yX3_init) ∈ lw_tbl := tb_1 _ (List.mem_of_getElem? (i := 89) rfl)
set_option maxRecDepth 100000 in
theorem tw_4_20 : (Cond.code yX3_init cX3_init 1 none) ∈ lw_tbl := tb_1 _ (List.mem_of_getElem? (i := 90) rfl)
set_option maxRecDepth 100000 in
theorem tw_4_21 : (Cond.methodLink RX3 3 objectInit) ∈ lw_tbl := tb_1 _ (List.mem_of_getElem? (i := 91) rfl)
set_option maxRecDepth 100000 in
theorem tw_4_22 : (Cond.fieldLink RX3 9 "OutsideAsks$OutLog" "items" "[I") ∈ lw_tbl := tb_1 _ (List.mem_of_getElem? (i := 92) rfl)
set_option maxRecDepth 100000 in
theorem tw_4_23 : (Cond.fieldLink RX3 15 "OutsideAsks$OutLog" "ticks" "[I") ∈ lw_tbl := tb_1 _ (List.mem_of_getElem? (i := 93) rfl)
theorem tr_4 : ∀ w ∈ wsL_law_r4, w ∈ lw_tbl := List.forall_mem_cons.mpr ⟨tw_4_0, List.forall_mem_cons.mpr ⟨tw_4_1, List.forall_mem_cons.mpr ⟨tw_4_2, List.forall_mem_cons.mpr ⟨tw_4_3, List.forall_mem_cons.mpr ⟨tw_4_4, List.forall_mem_cons.mpr ⟨tw_4_5, List.forall_mem_cons.mpr ⟨tw_4_6, List.forall_mem_cons.mpr ⟨tw_4_7, List.forall_mem_cons.mpr ⟨tw_4_8, List.forall_mem_cons.mpr ⟨tw_4_9, List.forall_mem_cons.mpr ⟨tw_4_10, List.forall_mem_cons.mpr ⟨tw_4_11, List.forall_mem_cons.mpr ⟨tw_4_12, List.forall_mem_cons.mpr ⟨tw_4_13, List.forall_mem_cons.mpr ⟨tw_4_14, List.forall_mem_cons.mpr ⟨tw_4_15, List.forall_mem_cons.mpr ⟨tw_4_16, List.forall_mem_cons.mpr ⟨tw_4_17, List.forall_mem_cons.mpr ⟨tw_4_18, List.forall_mem_cons.mpr ⟨tw_4_19, List.forall_mem_cons.mpr ⟨tw_4_20, List.forall_mem_cons.mpr ⟨tw_4_21, List.forall_mem_cons.mpr ⟨tw_4_22, List.forall_mem_cons.mpr ⟨tw_4_23, fun _ h => absurd h List.not_mem_nil⟩⟩⟩⟩⟩⟩⟩⟩⟩⟩⟩⟩⟩⟩⟩⟩⟩⟩⟩⟩⟩⟩⟩⟩
set_option maxRecDepth 100000 in
theorem tw_5_0 : (Cond.instanceMethod yX5_init) ∈ lw_tbl := tb_1 _ (List.mem_of_getElem? (i := 102) rfl)
set_option maxRecDepth 100000 in
theorem tw_5_1 : (Cond.code yX5_init cX5_init 1 none) ∈ lw_tbl := tb_1 _ (List.mem_of_getElem? (i := 103) rfl)
set_option maxRecDepth 100000 in
theorem tw_5_2 : (Cond.methodLink RX5 3 objectInit) ∈ lw_tbl := tb_1 _ (List.mem_of_getElem? (i := 104) rfl)
set_option maxRecDepth 100000 in
theorem tw_5_3 : (Cond.fieldLink RX5 9 "OutsideAsks$RowList" "rows" "[I") ∈ lw_tbl := tb_1 _ (List.mem_of_getElem? (i := 105) rfl)
set_option maxRecDepth 100000 in
theorem tw_5_4 : (Cond.fieldLink RX5 15 "OutsideAsks$RowList" "size" "I") ∈ lw_tbl := tb_1 _ (List.mem_of_getElem? (i := 106) rfl)
set_option maxRecDepth 100000 in
theorem tw_5_5 : (Cond.instanceMethod yX2_init) ∈ lw_tbl := tb_1 _ (List.mem_of_getElem? (i := 116) rfl)
set_option maxRecDepth 100000 in
theorem tw_5_6 : (Cond.code yX2_init cX2_init 1 none) ∈ lw_tbl := tb_1 _ (List.mem_of_getElem? (i := 117) rfl)
set_option maxRecDepth 100000 in
theorem tw_5_7 : (Cond.methodLink RX2 3 objectInit) ∈ lw_tbl := tb_1 _ (List.mem_of_getElem? (i := 118) rfl)
set_option maxRecDepth 100000 in
theorem tw_5_8 : (Cond.fieldLink RX2 9 "OutsideAsks$Line" "rows" "[I") ∈ lw_tbl := tb_1 _ (List.mem_of_getElem? (i := 119) rfl)
set_option maxRecDepth 100000 in
theorem tw_5_9 : (Cond.fieldLink RX2 15 "OutsideAsks$Line" "causes" "[I") ∈ lw_tbl := tb_1 _ (List.mem_of_getElem? (i := 120) rfl)
set_option maxRecDepth 100000 in
theorem tw_5_10 : (Cond.fieldLink RX2 18 "OutsideAsks$Line" "values" "[J") ∈ lw_tbl := tb_1 _ (List.mem_of_getElem? (i := 121) rfl)
set_option maxRecDepth 100000 in
theorem tw_5_11 : (Cond.fieldLink RX2 22 "OutsideAsks$Line" "size" "I") ∈ lw_tbl := tb_1 _ (List.mem_of_getElem? (i := 122) rfl)
set_option maxRecDepth 100000 in
theorem tw_5_12 : (Cond.instanceMethod yX6_init) ∈ lw_tbl := tb_1 _ (List.mem_of_getElem? (i := 136) rfl)
set_option maxRecDepth 100000 in
theorem tw_5_13 : (Cond.code yX6_init cX6_init 1 none) ∈ lw_tbl := tb_1 _ (List.mem_of_getElem? (i := 137) rfl)
set_option maxRecDepth 100000 in
theorem tw_5_14 : (Cond.methodLink RX6 3 objectInit) ∈ lw_tbl := tb_1 _ (List.mem_of_getElem? (i := 138) rfl)
set_option maxRecDepth 100000 in
theorem tw_5_15 : (Cond.fieldLink RX6 9 "OutsideAsks$Service" "keys" "[J") ∈ lw_tbl := tb_1 _ (List.mem_of_getElem? (i := 139) rfl)
set_option maxRecDepth 100000 in
theorem tw_5_16 : (Cond.fieldLink RX6 15 "OutsideAsks$Service" "acts" "[I") ∈ lw_tbl := tb_1 _ (List.mem_of_getElem? (i := 140) rfl)
set_option maxRecDepth 100000 in
theorem tw_5_17 : (Cond.fieldLink RX6 19 "OutsideAsks$Service" "latestAnswers" "[J") ∈ lw_tbl := tb_1 _ (List.mem_of_getElem? (i := 141) rfl)
set_option maxRecDepth 100000 in
theorem tw_5_18 : (Cond.instanceMethod yX1_init) ∈ lw_tbl := tb_1 _ (List.mem_of_getElem? (i := 152) rfl)
set_option maxRecDepth 100000 in
theorem tw_5_19 : (Cond.code yX1_init cX1_init 1 none) ∈ lw_tbl := tb_1 _ (List.mem_of_getElem? (i := 153) rfl)
set_option maxRecDepth 100000 in
theorem tw_5_20 : (Cond.methodLink RX1 3 objectInit) ∈ lw_tbl := tb_1 _ (List.mem_of_getElem? (i := 154) rfl)
set_option maxRecDepth 100000 in
theorem tw_5_21 : (Cond.fieldLink RX1 9 "OutsideAsks$KeptAnswers" "keys" "[J") ∈ lw_tbl := tb_1 _ (List.mem_of_getElem? (i := 155) rfl)
set_option maxRecDepth 100000 in
theorem tw_5_22 : (Cond.fieldLink RX1 15 "OutsideAsks$KeptAnswers" "values" "[J") ∈ lw_tbl := tb_1 _ (List.mem_of_getElem? (i := 156) rfl)
set_option maxRecDepth 100000 in
theorem tw_5_23 : (Cond.fieldLink RX1 18 "OutsideAsks$KeptAnswers" "ends" "[I") ∈ lw_tbl := tb_1 _ (List.mem_of_getElem? (i := 157) rfl)
theorem tr_5 : ∀ w ∈ wsL_law_r5, w ∈ lw_tbl := List.forall_mem_cons.mpr ⟨tw_5_0, List.forall_mem_cons.mpr ⟨tw_5_1, List.forall_mem_cons.mpr ⟨tw_5_2, List.forall_mem_cons.mpr ⟨tw_5_3, List.forall_mem_cons.mpr ⟨tw_5_4, List.forall_mem_cons.mpr ⟨tw_5_5, List.forall_mem_cons.mpr ⟨tw_5_6, List.forall_mem_cons.mpr ⟨tw_5_7, List.forall_mem_cons.mpr ⟨tw_5_8, List.forall_mem_cons.mpr ⟨tw_5_9, List.forall_mem_cons.mpr ⟨tw_5_10, List.forall_mem_cons.mpr ⟨tw_5_11, List.forall_mem_cons.mpr ⟨tw_5_12, List.forall_mem_cons.mpr ⟨tw_5_13, List.forall_mem_cons.mpr ⟨tw_5_14, List.forall_mem_cons.mpr ⟨tw_5_15, List.forall_mem_cons.mpr ⟨tw_5_16, List.forall_mem_cons.mpr ⟨tw_5_17, List.forall_mem_cons.mpr ⟨tw_5_18, List.forall_mem_cons.mpr ⟨tw_5_19, List.forall_mem_cons.mpr ⟨tw_5_20, List.forall_mem_cons.mpr ⟨tw_5_21, List.forall_mem_cons.mpr ⟨tw_5_22, List.forall_mem_cons.mpr ⟨tw_5_23, fun _ h => absurd h List.not_mem_nil⟩⟩⟩⟩⟩⟩⟩⟩⟩⟩⟩⟩⟩⟩⟩⟩⟩⟩⟩⟩⟩⟩⟩⟩
set_option maxRecDepth 100000 in
theorem tw_6_0 : (Cond.fieldLink RX1 22 "OutsideAsks$KeptAnswers" "size" "I") ∈ lw_tbl := tb_1 _ (List.mem_of_getElem? (i := 158) rfl)
set_option maxRecDepth 100000 in
theorem tw_6_1 : (Cond.methodLink RL 20 yX8_init) ∈ lw_tbl := tb_3 _ (List.mem_of_getElem? (i := 88) rfl)
set_option maxRecDepth 100000 in
theorem tw_6_2 : (Cond.instanceMethod yX8_init) ∈ lw_tbl := tb_3 _ (List.mem_of_getElem? (i := 89) rfl)
set_option maxRecDepth 100000 in
theorem tw_6_3 : (Cond.code yX8_init cX8_init 3 none) ∈ lw_tbl := tb_3 _ (List.mem_of_getElem? (i := 90) rfl)
set_option maxRecDepth 100000 in
theorem tw_6_4 : (Cond.methodLink RX8 1 objectInit) ∈ lw_tbl := tb_3 _ (List.mem_of_getElem? (i := 91) rfl)
set_option maxRecDepth 100000 in
theorem tw_6_5 : (Cond.fieldLink RX8 7 "OutsideAsksModel" "settings" "[I") ∈ lw_tbl := tb_3 _ (List.mem_of_getElem? (i := 95) rfl)
set_option maxRecDepth 100000 in
theorem tw_6_6 : (Cond.fieldLink RX8 13 "OutsideAsksModel" "isMark" "[Z") ∈ lw_tbl := tb_3 _ (List.mem_of_getElem? (i := 97) rfl)
set_option maxRecDepth 100000 in
theorem tw_6_7 : (Cond.fieldLink RX8 17 "OutsideAsksModel" "key" "[J") ∈ lw_tbl := tb_3 _ (List.mem_of_getElem? (i := 98) rfl)
set_option maxRecDepth 100000 in
theorem tw_6_8 : (Cond.fieldLink RX8 21 "OutsideAsksModel" "worth" "[J") ∈ lw_tbl := tb_3 _ (List.mem_of_getElem? (i := 99) rfl)
set_option maxRecDepth 100000 in
theorem tw_6_9 : (Cond.fieldLink RX8 24 "OutsideAsksModel" "state" "[I") ∈ lw_tbl := tb_3 _ (List.mem_of_getElem? (i := 100) rfl)
set_option maxRecDepth 100000 in
theorem tw_6_10 : (Cond.fieldLink RX8 27 "OutsideAsksModel" "result" "[I") ∈ lw_tbl := tb_3 _ (List.mem_of_getElem? (i := 101) rfl)
set_option maxRecDepth 100000 in
theorem tw_6_11 : (Cond.fieldLink RX8 30 "OutsideAsksModel" "told" "[J") ∈ lw_tbl := tb_3 _ (List.mem_of_getElem? (i := 102) rfl)
set_option maxRecDepth 100000 in
theorem tw_6_12 : (Cond.fieldLink RX8 33 "OutsideAsksModel" "tries" "[I") ∈ lw_tbl := tb_3 _ (List.mem_of_getElem? (i := 103) rfl)
set_option maxRecDepth 100000 in
theorem tw_6_13 : (Cond.fieldLink RX8 36 "OutsideAsksModel" "due" "[I") ∈ lw_tbl := tb_3 _ (List.mem_of_getElem? (i := 104) rfl)
set_option maxRecDepth 100000 in
theorem tw_6_14 : (Cond.fieldLink RX8 39 "OutsideAsksModel" "queue" "[I") ∈ lw_tbl := tb_3 _ (List.mem_of_getElem? (i := 105) rfl)
set_option maxRecDepth 100000 in
theorem tw_6_15 : (Cond.fieldLink RX8 42 "OutsideAsksModel" "outItem" "[I") ∈ lw_tbl := tb_3 _ (List.mem_of_getElem? (i := 109) rfl)
set_option maxRecDepth 100000 in
theorem tw_6_16 : (Cond.fieldLink RX8 45 "OutsideAsksModel" "outTick" "[I") ∈ lw_tbl := tb_3 _ (List.mem_of_getElem? (i := 110) rfl)
set_option maxRecDepth 100000 in
theorem tw_6_17 : (Cond.fieldLink RX8 48 "OutsideAsksModel" "under" "[I") ∈ lw_tbl := tb_3 _ (List.mem_of_getElem? (i := 112) rfl)
set_option maxRecDepth 100000 in
theorem tw_6_18 : (Cond.fieldLink RX8 51 "OutsideAsksModel" "cause" "[I") ∈ lw_tbl := tb_3 _ (List.mem_of_getElem? (i := 113) rfl)
set_option maxRecDepth 100000 in
theorem tw_6_19 : (Cond.fieldLink RX8 54 "OutsideAsksModel" "brings" "[J") ∈ lw_tbl := tb_3 _ (List.mem_of_getElem? (i := 114) rfl)
set_option maxRecDepth 100000 in
theorem tw_6_20 : (Cond.fieldLink RX8 57 "OutsideAsksModel" "length" "[I") ∈ lw_tbl := tb_3 _ (List.mem_of_getElem? (i := 115) rfl)
set_option maxRecDepth 100000 in
theorem tw_6_21 : (Cond.fieldLink RX8 60 "OutsideAsksModel" "acted" "[I") ∈ lw_tbl := tb_3 _ (List.mem_of_getElem? (i := 116) rfl)
set_option maxRecDepth 100000 in
theorem tw_6_22 : (Cond.fieldLink RX8 63 "OutsideAsksModel" "isAnswered" "[Z") ∈ lw_tbl := tb_3 _ (List.mem_of_getElem? (i := 117) rfl)
set_option maxRecDepth 100000 in
theorem tw_6_23 : (Cond.fieldLink RX8 66 "OutsideAsksModel" "answered" "[J") ∈ lw_tbl := tb_3 _ (List.mem_of_getElem? (i := 118) rfl)
theorem tr_6 : ∀ w ∈ wsL_law_r6, w ∈ lw_tbl := List.forall_mem_cons.mpr ⟨tw_6_0, List.forall_mem_cons.mpr ⟨tw_6_1, List.forall_mem_cons.mpr ⟨tw_6_2, List.forall_mem_cons.mpr ⟨tw_6_3, List.forall_mem_cons.mpr ⟨tw_6_4, List.forall_mem_cons.mpr ⟨tw_6_5, List.forall_mem_cons.mpr ⟨tw_6_6, List.forall_mem_cons.mpr ⟨tw_6_7, List.forall_mem_cons.mpr ⟨tw_6_8, List.forall_mem_cons.mpr ⟨tw_6_9, List.forall_mem_cons.mpr ⟨tw_6_10, List.forall_mem_cons.mpr ⟨tw_6_11, List.forall_mem_cons.mpr ⟨tw_6_12, List.forall_mem_cons.mpr ⟨tw_6_13, List.forall_mem_cons.mpr ⟨tw_6_14, List.forall_mem_cons.mpr ⟨tw_6_15, List.forall_mem_cons.mpr ⟨tw_6_16, List.forall_mem_cons.mpr ⟨tw_6_17, List.forall_mem_cons.mpr ⟨tw_6_18, List.forall_mem_cons.mpr ⟨tw_6_19, List.forall_mem_cons.mpr ⟨tw_6_20, List.forall_mem_cons.mpr ⟨tw_6_21, List.forall_mem_cons.mpr ⟨tw_6_22, List.forall_mem_cons.mpr ⟨tw_6_23, fun _ h => absurd h List.not_mem_nil⟩⟩⟩⟩⟩⟩⟩⟩⟩⟩⟩⟩⟩⟩⟩⟩⟩⟩⟩⟩⟩⟩⟩⟩
set_option maxRecDepth 100000 in
theorem tw_7_0 : (Cond.fieldLink RX8 69 "OutsideAsksModel" "keptKey" "[J") ∈ lw_tbl := tb_3 _ (List.mem_of_getElem? (i := 119) rfl)
set_option maxRecDepth 100000 in
theorem tw_7_1 : (Cond.fieldLink RX8 72 "OutsideAsksModel" "keptValue" "[J") ∈ lw_tbl := tb_3 _ (List.mem_of_getElem? (i := 120) rfl)
set_option maxRecDepth 100000 in
theorem tw_7_2 : (Cond.fieldLink RX8 75 "OutsideAsksModel" "keptEnd" "[I") ∈ lw_tbl := tb_3 _ (List.mem_of_getElem? (i := 121) rfl)
set_option maxRecDepth 100000 in
theorem tw_7_3 : (Cond.fieldLink RX8 78 "OutsideAsksModel" "savedState" "[I") ∈ lw_tbl := tb_3 _ (List.mem_of_getElem? (i := 125) rfl)
set_option maxRecDepth 100000 in
theorem tw_7_4 : (Cond.fieldLink RX8 81 "OutsideAsksModel" "savedResult" "[I") ∈ lw_tbl := tb_3 _ (List.mem_of_getElem? (i := 126) rfl)
set_option maxRecDepth 100000 in
theorem tw_7_5 : (Cond.fieldLink RX8 84 "OutsideAsksModel" "savedTold" "[J") ∈ lw_tbl := tb_3 _ (List.mem_of_getElem? (i := 127) rfl)
set_option maxRecDepth 100000 in
theorem tw_7_6 : (Cond.fieldLink RX8 87 "OutsideAsksModel" "savedTries" "[I") ∈ lw_tbl := tb_3 _ (List.mem_of_getElem? (i := 128) rfl)
set_option maxRecDepth 100000 in
theorem tw_7_7 : (Cond.fieldLink RX8 90 "OutsideAsksModel" "most" "I") ∈ lw_tbl := tb_3 _ (List.mem_of_getElem? (i := 92) rfl)
set_option maxRecDepth 100000 in
theorem tw_7_8 : (Cond.fieldLink RX8 94 "OutsideAsksModel" "isOrdered" "Z") ∈ lw_tbl := tb_3 _ (List.mem_of_getElem? (i := 93) rfl)
set_option maxRecDepth 100000 in
theorem tw_7_9 : (Cond.methodLink RL 21 yX7_set) ∈ lw_tbl := tb_1 _ (List.mem_of_getElem? (i := 230) rfl)
set_option maxRecDepth 100000 in
theorem tw_7_10 : (Cond.instanceMethod yX7_set) ∈ lw_tbl := tb_1 _ (List.mem_of_getElem? (i := 231) rfl)
set_option maxRecDepth 100000 in
theorem tw_7_11 : (Cond.selects RX7 yX7_set yX7_set) ∈ lw_tbl := tb_1 _ (List.mem_of_getElem? (i := 232) rfl)
set_option maxRecDepth 100000 in
theorem tw_7_12 : (Cond.code yX7_set cX7_set 4 (some .int)) ∈ lw_tbl := tb_1 _ (List.mem_of_getElem? (i := 233) rfl)
set_option maxRecDepth 100000 in
theorem tw_7_13 : (Cond.fieldLink RX7 111 "OutsideAsks" "LEAST_SETTINGS" "[I") ∈ lw_tbl := tb_1 _ (List.mem_of_getElem? (i := 234) rfl)
set_option maxRecDepth 100000 in
theorem tw_7_14 : (Cond.fieldLink RX7 114 "OutsideAsks" "GREATEST_SETTINGS" "[I") ∈ lw_tbl := tb_1 _ (List.mem_of_getElem? (i := 236) rfl)
set_option maxRecDepth 100000 in
theorem tw_7_15 : (Cond.methodLink RX7 117 yX7_goOn) ∈ lw_tbl := tb_1 _ (List.mem_of_getElem? (i := 238) rfl)
set_option maxRecDepth 100000 in
theorem tw_7_16 : (Cond.instanceMethod yX7_goOn) ∈ lw_tbl := tb_2 _ (List.mem_of_getElem? (i := 0) rfl)
set_option maxRecDepth 100000 in
theorem tw_7_17 : (Cond.selects RX7 yX7_goOn yX7_goOn) ∈ lw_tbl := tb_p _ (List.mem_of_getElem? (i := 0) (by first | rfl | decide +kernel))
set_option maxRecDepth 100000 in
theorem tw_7_18 : (Cond.code yX7_goOn cX7_goOn 1 none) ∈ lw_tbl := tb_2 _ (List.mem_of_getElem? (i := 1) rfl)
set_option maxRecDepth 100000 in
theorem tw_7_19 : (Cond.methodLink RX7 245 yX7_startWaitingRows) ∈ lw_tbl := tb_2 _ (List.mem_of_getElem? (i := 2) rfl)
set_option maxRecDepth 100000 in
theorem tw_7_20 : (Cond.instanceMethod yX7_startWaitingRows) ∈ lw_tbl := tb_2 _ (List.mem_of_getElem? (i := 4) rfl)
set_option maxRecDepth 100000 in
theorem tw_7_21 : (Cond.selects RX7 yX7_startWaitingRows yX7_startWaitingRows) ∈ lw_tbl := tb_p _ (List.mem_of_getElem? (i := 1) (by first | rfl | decide +kernel))
set_option maxRecDepth 100000 in
theorem tw_7_22 : (Cond.code yX7_startWaitingRows cX7_startWaitingRows 2 none) ∈ lw_tbl := tb_2 _ (List.mem_of_getElem? (i := 5) rfl)
set_option maxRecDepth 100000 in
theorem tw_7_23 : (Cond.methodLink RX7 178 yX4_stateOf) ∈ lw_tbl := tb_2 _ (List.mem_of_getElem? (i := 6) rfl)
theorem tr_7 : ∀ w ∈ wsL_law_r7, w ∈ lw_tbl := List.forall_mem_cons.mpr ⟨tw_7_0, List.forall_mem_cons.mpr ⟨tw_7_1, List.forall_mem_cons.mpr ⟨tw_7_2, List.forall_mem_cons.mpr ⟨tw_7_3, List.forall_mem_cons.mpr ⟨tw_7_4, List.forall_mem_cons.mpr ⟨tw_7_5, List.forall_mem_cons.mpr ⟨tw_7_6, List.forall_mem_cons.mpr ⟨tw_7_7, List.forall_mem_cons.mpr ⟨tw_7_8, List.forall_mem_cons.mpr ⟨tw_7_9, List.forall_mem_cons.mpr ⟨tw_7_10, List.forall_mem_cons.mpr ⟨tw_7_11, List.forall_mem_cons.mpr ⟨tw_7_12, List.forall_mem_cons.mpr ⟨tw_7_13, List.forall_mem_cons.mpr ⟨tw_7_14, List.forall_mem_cons.mpr ⟨tw_7_15, List.forall_mem_cons.mpr ⟨tw_7_16, List.forall_mem_cons.mpr ⟨tw_7_17, List.forall_mem_cons.mpr ⟨tw_7_18, List.forall_mem_cons.mpr ⟨tw_7_19, List.forall_mem_cons.mpr ⟨tw_7_20, List.forall_mem_cons.mpr ⟨tw_7_21, List.forall_mem_cons.mpr ⟨tw_7_22, List.forall_mem_cons.mpr ⟨tw_7_23, fun _ h => absurd h List.not_mem_nil⟩⟩⟩⟩⟩⟩⟩⟩⟩⟩⟩⟩⟩⟩⟩⟩⟩⟩⟩⟩⟩⟩⟩⟩
set_option maxRecDepth 100000 in
theorem tw_8_0 : (Cond.instanceMethod yX4_stateOf) ∈ lw_tbl := tb_2 _ (List.mem_of_getElem? (i := 7) rfl)
set_option maxRecDepth 100000 in
theorem tw_8_1 : (Cond.selects RX4 yX4_stateOf yX4_stateOf) ∈ lw_tbl := tb_2 _ (List.mem_of_getElem? (i := 8) rfl)
set_option maxRecDepth 100000 in
theorem tw_8_2 : (Cond.code yX4_stateOf cX4_stateOf 2 (some .int)) ∈ lw_tbl := tb_2 _ (List.mem_of_getElem? (i := 9) rfl)
set_option maxRecDepth 100000 in
theorem tw_8_3 : (Cond.methodLink RX4 38 yX4_hasItem) ∈ lw_tbl := tb_2 _ (List.mem_of_getElem? (i := 10) rfl)
set_option maxRecDepth 100000 in
theorem tw_8_4 : (Cond.instanceMethod yX4_hasItem) ∈ lw_tbl := tb_2 _ (List.mem_of_getElem? (i := 11) rfl)
set_option maxRecDepth 100000 in
theorem tw_8_5 : (Cond.selects RX4 yX4_hasItem yX4_hasItem) ∈ lw_tbl := tb_2 _ (List.mem_of_getElem? (i := 12) rfl)
set_option maxRecDepth 100000 in
theorem tw_8_6 : (Cond.code yX4_hasItem cX4_hasItem 2 (some .boolean)) ∈ lw_tbl := tb_2 _ (List.mem_of_getElem? (i := 13) rfl)
set_option maxRecDepth 100000 in
theorem tw_8_7 : (Cond.methodLink RX7 254 yX7_startRow) ∈ lw_tbl := tb_2 _ (List.mem_of_getElem? (i := 14) rfl)
set_option maxRecDepth 100000 in
theorem tw_8_8 : (Cond.instanceMethod yX7_startRow) ∈ lw_tbl := tb_2 _ (List.mem_of_getElem? (i := 16) rfl)
set_option maxRecDepth 100000 in
theorem tw_8_9 : (Cond.selects RX7 yX7_startRow yX7_startRow) ∈ lw_tbl := tb_p _ (List.mem_of_getElem? (i := 2) (by first | rfl | decide +kernel))
set_option maxRecDepth 100000 in
theorem tw_8_10 : (Cond.code yX7_startRow cX7_startRow 4 none) ∈ lw_tbl := tb_2 _ (List.mem_of_getElem? (i := 17) rfl)
set_option maxRecDepth 100000 in
theorem tw_8_11 : (Cond.methodLink RX7 151 yX0_keyOf) ∈ lw_tbl := tb_2 _ (List.mem_of_getElem? (i := 18) rfl)
set_option maxRecDepth 100000 in
theorem tw_8_12 : (Cond.instanceMethod yX0_keyOf) ∈ lw_tbl := tb_2 _ (List.mem_of_getElem? (i := 19) rfl)
set_option maxRecDepth 100000 in
theorem tw_8_13 : (Cond.selects RX0 yX0_keyOf yX0_keyOf) ∈ lw_tbl := tb_2 _ (List.mem_of_getElem? (i := 20) rfl)
set_option maxRecDepth 100000 in
theorem tw_8_14 : (Cond.code yX0_keyOf cX0_keyOf 2 (some .long)) ∈ lw_tbl := tb_2 _ (List.mem_of_getElem? (i := 21) rfl)
set_option maxRecDepth 100000 in
theorem tw_8_15 : (Cond.methodLink RX0 26 yX0_mayHave) ∈ lw_tbl := tb_2 _ (List.mem_of_getElem? (i := 22) rfl)
set_option maxRecDepth 100000 in
theorem tw_8_16 : (Cond.instanceMethod yX0_mayHave) ∈ lw_tbl := tb_2 _ (List.mem_of_getElem? (i := 24) rfl)
set_option maxRecDepth 100000 in
theorem tw_8_17 : (Cond.selects RX0 yX0_mayHave yX0_mayHave) ∈ lw_tbl := tb_p _ (List.mem_of_getElem? (i := 3) (by first | rfl | decide +kernel))
set_option maxRecDepth 100000 in
theorem tw_8_18 : (Cond.code yX0_mayHave cX0_mayHave 2 (some .boolean)) ∈ lw_tbl := tb_2 _ (List.mem_of_getElem? (i := 25) rfl)
set_option maxRecDepth 100000 in
theorem tw_8_19 : (Cond.methodLink RX7 221 yX1_endOf) ∈ lw_tbl := tb_2 _ (List.mem_of_getElem? (i := 26) rfl)
set_option maxRecDepth 100000 in
theorem tw_8_20 : (Cond.instanceMethod yX1_endOf) ∈ lw_tbl := tb_2 _ (List.mem_of_getElem? (i := 27) rfl)
set_option maxRecDepth 100000 in
theorem tw_8_21 : (Cond.selects RX1 yX1_endOf yX1_endOf) ∈ lw_tbl := tb_2 _ (List.mem_of_getElem? (i := 28) rfl)
set_option maxRecDepth 100000 in
theorem tw_8_22 : (Cond.code yX1_endOf cX1_endOf 4 (some .int)) ∈ lw_tbl := tb_2 _ (List.mem_of_getElem? (i := 29) rfl)
set_option maxRecDepth 100000 in
theorem tw_8_23 : (Cond.methodLink RX1 26 yX1_find) ∈ lw_tbl := tb_2 _ (List.mem_of_getElem? (i := 30) rfl)
theorem tr_8 : ∀ w ∈ wsL_law_r8, w ∈ lw_tbl := List.forall_mem_cons.mpr ⟨tw_8_0, List.forall_mem_cons.mpr ⟨tw_8_1, List.forall_mem_cons.mpr ⟨tw_8_2, List.forall_mem_cons.mpr ⟨tw_8_3, List.forall_mem_cons.mpr ⟨tw_8_4, List.forall_mem_cons.mpr ⟨tw_8_5, List.forall_mem_cons.mpr ⟨tw_8_6, List.forall_mem_cons.mpr ⟨tw_8_7, List.forall_mem_cons.mpr ⟨tw_8_8, List.forall_mem_cons.mpr ⟨tw_8_9, List.forall_mem_cons.mpr ⟨tw_8_10, List.forall_mem_cons.mpr ⟨tw_8_11, List.forall_mem_cons.mpr ⟨tw_8_12, List.forall_mem_cons.mpr ⟨tw_8_13, List.forall_mem_cons.mpr ⟨tw_8_14, List.forall_mem_cons.mpr ⟨tw_8_15, List.forall_mem_cons.mpr ⟨tw_8_16, List.forall_mem_cons.mpr ⟨tw_8_17, List.forall_mem_cons.mpr ⟨tw_8_18, List.forall_mem_cons.mpr ⟨tw_8_19, List.forall_mem_cons.mpr ⟨tw_8_20, List.forall_mem_cons.mpr ⟨tw_8_21, List.forall_mem_cons.mpr ⟨tw_8_22, List.forall_mem_cons.mpr ⟨tw_8_23, fun _ h => absurd h List.not_mem_nil⟩⟩⟩⟩⟩⟩⟩⟩⟩⟩⟩⟩⟩⟩⟩⟩⟩⟩⟩⟩⟩⟩⟩⟩
set_option maxRecDepth 100000 in
theorem tw_9_0 : (Cond.instanceMethod yX1_find) ∈ lw_tbl := tb_2 _ (List.mem_of_getElem? (i := 32) rfl)
set_option maxRecDepth 100000 in
theorem tw_9_1 : (Cond.selects RX1 yX1_find yX1_find) ∈ lw_tbl := tb_p _ (List.mem_of_getElem? (i := 4) (by first | rfl | decide +kernel))
set_option maxRecDepth 100000 in
theorem tw_9_2 : (Cond.code yX1_find cX1_find 4 (some .int)) ∈ lw_tbl := tb_2 _ (List.mem_of_getElem? (i := 33) rfl)
set_option maxRecDepth 100000 in
theorem tw_9_3 : (Cond.methodLink RX7 257 yX1_valueOf) ∈ lw_tbl := tb_2 _ (List.mem_of_getElem? (i := 34) rfl)
set_option maxRecDepth 100000 in
theorem tw_9_4 : (Cond.instanceMethod yX1_valueOf) ∈ lw_tbl := tb_2 _ (List.mem_of_getElem? (i := 35) rfl)
set_option maxRecDepth 100000 in
theorem tw_9_5 : (Cond.selects RX1 yX1_valueOf yX1_valueOf) ∈ lw_tbl := tb_2 _ (List.mem_of_getElem? (i := 36) rfl)
set_option maxRecDepth 100000 in
theorem tw_9_6 : (Cond.code yX1_valueOf cX1_valueOf 4 (some .long)) ∈ lw_tbl := tb_2 _ (List.mem_of_getElem? (i := 37) rfl)
set_option maxRecDepth 100000 in
theorem tw_9_7 : (Cond.methodLink RX7 260 yX4_settleRow) ∈ lw_tbl := tb_2 _ (List.mem_of_getElem? (i := 38) rfl)
set_option maxRecDepth 100000 in
theorem tw_9_8 : (Cond.instanceMethod yX4_settleRow) ∈ lw_tbl := tb_2 _ (List.mem_of_getElem? (i := 39) rfl)
set_option maxRecDepth 100000 in
theorem tw_9_9 : (Cond.selects RX4 yX4_settleRow yX4_settleRow) ∈ lw_tbl := tb_2 _ (List.mem_of_getElem? (i := 40) rfl)
set_option maxRecDepth 100000 in
theorem tw_9_10 : (Cond.code yX4_settleRow cX4_settleRow 5 none) ∈ lw_tbl := tb_2 _ (List.mem_of_getElem? (i := 41) rfl)
set_option maxRecDepth 100000 in
theorem tw_9_11 : (Cond.methodLink RX7 263 yX4_startTrying) ∈ lw_tbl := tb_2 _ (List.mem_of_getElem? (i := 42) rfl)
set_option maxRecDepth 100000 in
theorem tw_9_12 : (Cond.instanceMethod yX4_startTrying) ∈ lw_tbl := tb_2 _ (List.mem_of_getElem? (i := 43) rfl)
set_option maxRecDepth 100000 in
theorem tw_9_13 : (Cond.selects RX4 yX4_startTrying yX4_startTrying) ∈ lw_tbl := tb_2 _ (List.mem_of_getElem? (i := 44) rfl)
set_option maxRecDepth 100000 in
theorem tw_9_14 : (Cond.code yX4_startTrying cX4_startTrying 2 none) ∈ lw_tbl := tb_2 _ (List.mem_of_getElem? (i := 45) rfl)
set_option maxRecDepth 100000 in
theorem tw_9_15 : (Cond.methodLink RX7 266 yX5_append) ∈ lw_tbl := tb_2 _ (List.mem_of_getElem? (i := 46) rfl)
set_option maxRecDepth 100000 in
theorem tw_9_16 : (Cond.instanceMethod yX5_append) ∈ lw_tbl := tb_2 _ (List.mem_of_getElem? (i := 47) rfl)
set_option maxRecDepth 100000 in
theorem tw_9_17 : (Cond.selects RX5 yX5_append yX5_append) ∈ lw_tbl := tb_2 _ (List.mem_of_getElem? (i := 48) rfl)
set_option maxRecDepth 100000 in
theorem tw_9_18 : (Cond.code yX5_append cX5_append 2 none) ∈ lw_tbl := tb_2 _ (List.mem_of_getElem? (i := 49) rfl)
set_option maxRecDepth 100000 in
theorem tw_9_19 : (Cond.methodLink RX7 248 yX7_sendQueuedAsks) ∈ lw_tbl := tb_2 _ (List.mem_of_getElem? (i := 50) rfl)
set_option maxRecDepth 100000 in
theorem tw_9_20 : (Cond.instanceMethod yX7_sendQueuedAsks) ∈ lw_tbl := tb_2 _ (List.mem_of_getElem? (i := 52) rfl)
set_option maxRecDepth 100000 in
theorem tw_9_21 : (Cond.selects RX7 yX7_sendQueuedAsks yX7_sendQueuedAsks) ∈ lw_tbl := tb_p _ (List.mem_of_getElem? (i := 5) (by first | rfl | decide +kernel))
set_option maxRecDepth 100000 in
theorem tw_9_22 : (Cond.code yX7_sendQueuedAsks cX7_sendQueuedAsks 2 none) ∈ lw_tbl := tb_2 _ (List.mem_of_getElem? (i := 53) rfl)
set_option maxRecDepth 100000 in
theorem tw_9_23 : (Cond.methodLink RX7 269 yX5_at) ∈ lw_tbl := tb_2 _ (List.mem_of_getElem? (i := 54) rfl)
theorem tr_9 : ∀ w ∈ wsL_law_r9, w ∈ lw_tbl := List.forall_mem_cons.mpr ⟨tw_9_0, List.forall_mem_cons.mpr ⟨tw_9_1, List.forall_mem_cons.mpr ⟨tw_9_2, List.forall_mem_cons.mpr ⟨tw_9_3, List.forall_mem_cons.mpr ⟨tw_9_4, List.forall_mem_cons.mpr ⟨tw_9_5, List.forall_mem_cons.mpr ⟨tw_9_6, List.forall_mem_cons.mpr ⟨tw_9_7, List.forall_mem_cons.mpr ⟨tw_9_8, List.forall_mem_cons.mpr ⟨tw_9_9, List.forall_mem_cons.mpr ⟨tw_9_10, List.forall_mem_cons.mpr ⟨tw_9_11, List.forall_mem_cons.mpr ⟨tw_9_12, List.forall_mem_cons.mpr ⟨tw_9_13, List.forall_mem_cons.mpr ⟨tw_9_14, List.forall_mem_cons.mpr ⟨tw_9_15, List.forall_mem_cons.mpr ⟨tw_9_16, List.forall_mem_cons.mpr ⟨tw_9_17, List.forall_mem_cons.mpr ⟨tw_9_18, List.forall_mem_cons.mpr ⟨tw_9_19, List.forall_mem_cons.mpr ⟨tw_9_20, List.forall_mem_cons.mpr ⟨tw_9_21, List.forall_mem_cons.mpr ⟨tw_9_22, List.forall_mem_cons.mpr ⟨tw_9_23, fun _ h => absurd h List.not_mem_nil⟩⟩⟩⟩⟩⟩⟩⟩⟩⟩⟩⟩⟩⟩⟩⟩⟩⟩⟩⟩⟩⟩⟩⟩
set_option maxRecDepth 100000 in
theorem tw_10_0 : (Cond.instanceMethod yX5_at) ∈ lw_tbl := tb_2 _ (List.mem_of_getElem? (i := 55) rfl)
set_option maxRecDepth 100000 in
theorem tw_10_1 : (Cond.selects RX5 yX5_at yX5_at) ∈ lw_tbl := tb_2 _ (List.mem_of_getElem? (i := 56) rfl)
set_option maxRecDepth 100000 in
theorem tw_10_2 : (Cond.code yX5_at cX5_at 2 (some .int)) ∈ lw_tbl := tb_2 _ (List.mem_of_getElem? (i := 57) rfl)
set_option maxRecDepth 100000 in
theorem tw_10_3 : (Cond.methodLink RX7 272 yX5_removeAt) ∈ lw_tbl := tb_2 _ (List.mem_of_getElem? (i := 58) rfl)
set_option maxRecDepth 100000 in
theorem tw_10_4 : (Cond.instanceMethod yX5_removeAt) ∈ lw_tbl := tb_2 _ (List.mem_of_getElem? (i := 59) rfl)
set_option maxRecDepth 100000 in
theorem tw_10_5 : (Cond.selects RX5 yX5_removeAt yX5_removeAt) ∈ lw_tbl := tb_2 _ (List.mem_of_getElem? (i := 60) rfl)
set_option maxRecDepth 100000 in
theorem tw_10_6 : (Cond.code yX5_removeAt cX5_removeAt 3 none) ∈ lw_tbl := tb_2 _ (List.mem_of_getElem? (i := 61) rfl)
set_option maxRecDepth 100000 in
theorem tw_10_7 : (Cond.methodLink RX5 19 arraycopyName) ∈ lw_tbl := tb_2 _ (List.mem_of_getElem? (i := 62) rfl)
set_option maxRecDepth 100000 in
theorem tw_10_8 : (Cond.native arraycopyName) ∈ lw_tbl := tb_2 _ (List.mem_of_getElem? (i := 64) rfl)
set_option maxRecDepth 100000 in
theorem tw_10_9 : (Cond.static arraycopyName) ∈ lw_tbl := tb_2 _ (List.mem_of_getElem? (i := 63) rfl)
set_option maxRecDepth 100000 in
theorem tw_10_10 : (Cond.initialized "java/lang/System") ∈ lw_tbl := tb_1 _ (List.mem_of_getElem? (i := 11) rfl)
set_option maxRecDepth 100000 in
theorem tw_10_11 : (Cond.methodLink RX7 273 yX0_setDue) ∈ lw_tbl := tb_2 _ (List.mem_of_getElem? (i := 65) rfl)
set_option maxRecDepth 100000 in
theorem tw_10_12 : (Cond.instanceMethod yX0_setDue) ∈ lw_tbl := tb_2 _ (List.mem_of_getElem? (i := 66) rfl)
set_option maxRecDepth 100000 in
theorem tw_10_13 : (Cond.selects RX0 yX0_setDue yX0_setDue) ∈ lw_tbl := tb_2 _ (List.mem_of_getElem? (i := 67) rfl)
set_option maxRecDepth 100000 in
theorem tw_10_14 : (Cond.code yX0_setDue cX0_setDue 3 none) ∈ lw_tbl := tb_2 _ (List.mem_of_getElem? (i := 68) rfl)
set_option maxRecDepth 100000 in
theorem tw_10_15 : (Cond.methodLink RX7 165 yX2_setOut) ∈ lw_tbl := tb_2 _ (List.mem_of_getElem? (i := 69) rfl)
set_option maxRecDepth 100000 in
theorem tw_10_16 : (Cond.instanceMethod yX2_setOut) ∈ lw_tbl := tb_2 _ (List.mem_of_getElem? (i := 70) rfl)
set_option maxRecDepth 100000 in
theorem tw_10_17 : (Cond.selects RX2 yX2_setOut yX2_setOut) ∈ lw_tbl := tb_2 _ (List.mem_of_getElem? (i := 71) rfl)
set_option maxRecDepth 100000 in
theorem tw_10_18 : (Cond.code yX2_setOut cX2_setOut 5 none) ∈ lw_tbl := tb_2 _ (List.mem_of_getElem? (i := 72) rfl)
set_option maxRecDepth 100000 in
theorem tw_10_19 : (Cond.methodLink RX7 251 yX7_letItemsOut) ∈ lw_tbl := tb_2 _ (List.mem_of_getElem? (i := 73) rfl)
set_option maxRecDepth 100000 in
theorem tw_10_20 : (Cond.instanceMethod yX7_letItemsOut) ∈ lw_tbl := tb_2 _ (List.mem_of_getElem? (i := 75) rfl)
set_option maxRecDepth 100000 in
theorem tw_10_21 : (Cond.selects RX7 yX7_letItemsOut yX7_letItemsOut) ∈ lw_tbl := tb_p _ (List.mem_of_getElem? (i := 6) (by first | rfl | decide +kernel))
set_option maxRecDepth 100000 in
theorem tw_10_22 : (Cond.code yX7_letItemsOut cX7_letItemsOut 4 none) ∈ lw_tbl := tb_2 _ (List.mem_of_getElem? (i := 76) rfl)
set_option maxRecDepth 100000 in
theorem tw_10_23 : (Cond.methodLink RX7 211 yX0_isMark) ∈ lw_tbl := tb_2 _ (List.mem_of_getElem? (i := 77) rfl)
theorem tr_10 : ∀ w ∈ wsL_law_r10, w ∈ lw_tbl := List.forall_mem_cons.mpr ⟨tw_10_0, List.forall_mem_cons.mpr ⟨tw_10_1, List.forall_mem_cons.mpr ⟨tw_10_2, List.forall_mem_cons.mpr ⟨tw_10_3, List.forall_mem_cons.mpr ⟨tw_10_4, List.forall_mem_cons.mpr ⟨tw_10_5, List.forall_mem_cons.mpr ⟨tw_10_6, List.forall_mem_cons.mpr ⟨tw_10_7, List.forall_mem_cons.mpr ⟨tw_10_8, List.forall_mem_cons.mpr ⟨tw_10_9, List.forall_mem_cons.mpr ⟨tw_10_10, List.forall_mem_cons.mpr ⟨tw_10_11, List.forall_mem_cons.mpr ⟨tw_10_12, List.forall_mem_cons.mpr ⟨tw_10_13, List.forall_mem_cons.mpr ⟨tw_10_14, List.forall_mem_cons.mpr ⟨tw_10_15, List.forall_mem_cons.mpr ⟨tw_10_16, List.forall_mem_cons.mpr ⟨tw_10_17, List.forall_mem_cons.mpr ⟨tw_10_18, List.forall_mem_cons.mpr ⟨tw_10_19, List.forall_mem_cons.mpr ⟨tw_10_20, List.forall_mem_cons.mpr ⟨tw_10_21, List.forall_mem_cons.mpr ⟨tw_10_22, List.forall_mem_cons.mpr ⟨tw_10_23, fun _ h => absurd h List.not_mem_nil⟩⟩⟩⟩⟩⟩⟩⟩⟩⟩⟩⟩⟩⟩⟩⟩⟩⟩⟩⟩⟩⟩⟩⟩
set_option maxRecDepth 100000 in
theorem tw_11_0 : (Cond.instanceMethod yX0_isMark) ∈ lw_tbl := tb_2 _ (List.mem_of_getElem? (i := 78) rfl)
set_option maxRecDepth 100000 in
theorem tw_11_1 : (Cond.selects RX0 yX0_isMark yX0_isMark) ∈ lw_tbl := tb_2 _ (List.mem_of_getElem? (i := 79) rfl)
set_option maxRecDepth 100000 in
theorem tw_11_2 : (Cond.code yX0_isMark cX0_isMark 2 (some .boolean)) ∈ lw_tbl := tb_2 _ (List.mem_of_getElem? (i := 80) rfl)
set_option maxRecDepth 100000 in
theorem tw_11_3 : (Cond.methodLink RX7 277 yX3_write) ∈ lw_tbl := tb_2 _ (List.mem_of_getElem? (i := 81) rfl)
set_option maxRecDepth 100000 in
theorem tw_11_4 : (Cond.instanceMethod yX3_write) ∈ lw_tbl := tb_2 _ (List.mem_of_getElem? (i := 82) rfl)
set_option maxRecDepth 100000 in
theorem tw_11_5 : (Cond.selects RX3 yX3_write yX3_write) ∈ lw_tbl := tb_2 _ (List.mem_of_getElem? (i := 83) rfl)
set_option maxRecDepth 100000 in
theorem tw_11_6 : (Cond.code yX3_write cX3_write 4 none) ∈ lw_tbl := tb_2 _ (List.mem_of_getElem? (i := 84) rfl)
set_option maxRecDepth 100000 in
theorem tw_11_7 : (Cond.methodLink RX7 281 yX4_goOut) ∈ lw_tbl := tb_2 _ (List.mem_of_getElem? (i := 85) rfl)
set_option maxRecDepth 100000 in
theorem tw_11_8 : (Cond.instanceMethod yX4_goOut) ∈ lw_tbl := tb_2 _ (List.mem_of_getElem? (i := 86) rfl)
set_option maxRecDepth 100000 in
theorem tw_11_9 : (Cond.selects RX4 yX4_goOut yX4_goOut) ∈ lw_tbl := tb_2 _ (List.mem_of_getElem? (i := 87) rfl)
set_option maxRecDepth 100000 in
theorem tw_11_10 : (Cond.code yX4_goOut cX4_goOut 2 none) ∈ lw_tbl := tb_2 _ (List.mem_of_getElem? (i := 88) rfl)
set_option maxRecDepth 100000 in
theorem tw_11_11 : (Cond.methodLink RL 25 yX8_set) ∈ lw_tbl := tb_3 _ (List.mem_of_getElem? (i := 207) rfl)
set_option maxRecDepth 100000 in
theorem tw_11_12 : (Cond.instanceMethod yX8_set) ∈ lw_tbl := tb_3 _ (List.mem_of_getElem? (i := 208) rfl)
set_option maxRecDepth 100000 in
theorem tw_11_13 : (Cond.selects RX8 yX8_set yX8_set) ∈ lw_tbl := tb_3 _ (List.mem_of_getElem? (i := 209) rfl)
set_option maxRecDepth 100000 in
theorem tw_11_14 : (Cond.code yX8_set cX8_set 6 (some .int)) ∈ lw_tbl := tb_3 _ (List.mem_of_getElem? (i := 210) rfl)
set_option maxRecDepth 100000 in
theorem tw_11_15 : (Cond.methodLink RX8 149 yX8_goOn) ∈ lw_tbl := tb_3 _ (List.mem_of_getElem? (i := 211) rfl)
set_option maxRecDepth 100000 in
theorem tw_11_16 : (Cond.instanceMethod yX8_goOn) ∈ lw_tbl := tb_3 _ (List.mem_of_getElem? (i := 213) rfl)
set_option maxRecDepth 100000 in
theorem tw_11_17 : (Cond.selects RX8 yX8_goOn yX8_goOn) ∈ lw_tbl := tb_p _ (List.mem_of_getElem? (i := 21) (by first | rfl | decide +kernel))
set_option maxRecDepth 100000 in
theorem tw_11_18 : (Cond.code yX8_goOn cX8_goOn 3 none) ∈ lw_tbl := tb_3 _ (List.mem_of_getElem? (i := 214) rfl)
set_option maxRecDepth 100000 in
theorem tw_11_19 : (Cond.fieldLink RX8 125 "OutsideAsksModel" "now" "I") ∈ lw_tbl := tb_3 _ (List.mem_of_getElem? (i := 94) rfl)
set_option maxRecDepth 100000 in
theorem tw_11_20 : (Cond.fieldLink RX8 108 "OutsideAsksModel" "queued" "I") ∈ lw_tbl := tb_3 _ (List.mem_of_getElem? (i := 106) rfl)
set_option maxRecDepth 100000 in
theorem tw_11_21 : (Cond.fieldLink RX8 132 "OutsideAsksModel" "sentNow" "I") ∈ lw_tbl := tb_3 _ (List.mem_of_getElem? (i := 107) rfl)
set_option maxRecDepth 100000 in
theorem tw_11_22 : (Cond.fieldLink RX8 135 "OutsideAsksModel" "sentAll" "I") ∈ lw_tbl := tb_3 _ (List.mem_of_getElem? (i := 108) rfl)
set_option maxRecDepth 100000 in
theorem tw_11_23 : (Cond.fieldLink RX8 146 "OutsideAsksModel" "outs" "I") ∈ lw_tbl := tb_3 _ (List.mem_of_getElem? (i := 111) rfl)
theorem tr_11 : ∀ w ∈ wsL_law_r11, w ∈ lw_tbl := List.forall_mem_cons.mpr ⟨tw_11_0, List.forall_mem_cons.mpr ⟨tw_11_1, List.forall_mem_cons.mpr ⟨tw_11_2, List.forall_mem_cons.mpr ⟨tw_11_3, List.forall_mem_cons.mpr ⟨tw_11_4, List.forall_mem_cons.mpr ⟨tw_11_5, List.forall_mem_cons.mpr ⟨tw_11_6, List.forall_mem_cons.mpr ⟨tw_11_7, List.forall_mem_cons.mpr ⟨tw_11_8, List.forall_mem_cons.mpr ⟨tw_11_9, List.forall_mem_cons.mpr ⟨tw_11_10, List.forall_mem_cons.mpr ⟨tw_11_11, List.forall_mem_cons.mpr ⟨tw_11_12, List.forall_mem_cons.mpr ⟨tw_11_13, List.forall_mem_cons.mpr ⟨tw_11_14, List.forall_mem_cons.mpr ⟨tw_11_15, List.forall_mem_cons.mpr ⟨tw_11_16, List.forall_mem_cons.mpr ⟨tw_11_17, List.forall_mem_cons.mpr ⟨tw_11_18, List.forall_mem_cons.mpr ⟨tw_11_19, List.forall_mem_cons.mpr ⟨tw_11_20, List.forall_mem_cons.mpr ⟨tw_11_21, List.forall_mem_cons.mpr ⟨tw_11_22, List.forall_mem_cons.mpr ⟨tw_11_23, fun _ h => absurd h List.not_mem_nil⟩⟩⟩⟩⟩⟩⟩⟩⟩⟩⟩⟩⟩⟩⟩⟩⟩⟩⟩⟩⟩⟩⟩⟩
set_option maxRecDepth 100000 in
theorem tw_12_0 : (Cond.methodLink RX8 115 yX8_countOf) ∈ lw_tbl := tb_3 _ (List.mem_of_getElem? (i := 215) rfl)
set_option maxRecDepth 100000 in
theorem tw_12_1 : (Cond.instanceMethod yX8_countOf) ∈ lw_tbl := tb_3 _ (List.mem_of_getElem? (i := 217) rfl)
set_option maxRecDepth 100000 in
theorem tw_12_2 : (Cond.selects RX8 yX8_countOf yX8_countOf) ∈ lw_tbl := tb_p _ (List.mem_of_getElem? (i := 22) (by first | rfl | decide +kernel))
set_option maxRecDepth 100000 in
theorem tw_12_3 : (Cond.code yX8_countOf cX8_countOf 4 (some .int)) ∈ lw_tbl := tb_3 _ (List.mem_of_getElem? (i := 218) rfl)
set_option maxRecDepth 100000 in
theorem tw_12_4 : (Cond.fieldLink RX8 98 "OutsideAsksModel" "items" "I") ∈ lw_tbl := tb_3 _ (List.mem_of_getElem? (i := 96) rfl)
set_option maxRecDepth 100000 in
theorem tw_12_5 : (Cond.methodLink RX8 118 yX8_first) ∈ lw_tbl := tb_3 _ (List.mem_of_getElem? (i := 219) rfl)
set_option maxRecDepth 100000 in
theorem tw_12_6 : (Cond.instanceMethod yX8_first) ∈ lw_tbl := tb_3 _ (List.mem_of_getElem? (i := 221) rfl)
set_option maxRecDepth 100000 in
theorem tw_12_7 : (Cond.selects RX8 yX8_first yX8_first) ∈ lw_tbl := tb_p _ (List.mem_of_getElem? (i := 23) (by first | rfl | decide +kernel))
set_option maxRecDepth 100000 in
theorem tw_12_8 : (Cond.code yX8_first cX8_first 3 (some .int)) ∈ lw_tbl := tb_3 _ (List.mem_of_getElem? (i := 222) rfl)
set_option maxRecDepth 100000 in
theorem tw_12_9 : (Cond.methodLink RX8 121 yX8_keptFor) ∈ lw_tbl := tb_3 _ (List.mem_of_getElem? (i := 223) rfl)
set_option maxRecDepth 100000 in
theorem tw_12_10 : (Cond.instanceMethod yX8_keptFor) ∈ lw_tbl := tb_3 _ (List.mem_of_getElem? (i := 225) rfl)
set_option maxRecDepth 100000 in
theorem tw_12_11 : (Cond.selects RX8 yX8_keptFor yX8_keptFor) ∈ lw_tbl := tb_p _ (List.mem_of_getElem? (i := 24) (by first | rfl | decide +kernel))
set_option maxRecDepth 100000 in
theorem tw_12_12 : (Cond.code yX8_keptFor cX8_keptFor 4 (some .int)) ∈ lw_tbl := tb_3 _ (List.mem_of_getElem? (i := 226) rfl)
set_option maxRecDepth 100000 in
theorem tw_12_13 : (Cond.fieldLink RX8 101 "OutsideAsksModel" "keeps" "I") ∈ lw_tbl := tb_3 _ (List.mem_of_getElem? (i := 122) rfl)
set_option maxRecDepth 100000 in
theorem tw_12_14 : (Cond.methodLink RX8 128 yX8_settle) ∈ lw_tbl := tb_3 _ (List.mem_of_getElem? (i := 227) rfl)
set_option maxRecDepth 100000 in
theorem tw_12_15 : (Cond.instanceMethod yX8_settle) ∈ lw_tbl := tb_3 _ (List.mem_of_getElem? (i := 229) rfl)
set_option maxRecDepth 100000 in
theorem tw_12_16 : (Cond.selects RX8 yX8_settle yX8_settle) ∈ lw_tbl := tb_p _ (List.mem_of_getElem? (i := 25) (by first | rfl | decide +kernel))
set_option maxRecDepth 100000 in
theorem tw_12_17 : (Cond.code yX8_settle cX8_settle 5 none) ∈ lw_tbl := tb_3 _ (List.mem_of_getElem? (i := 230) rfl)
set_option maxRecDepth 100000 in
theorem tw_12_18 : (Cond.methodLink RX8 104 yX8_leave) ∈ lw_tbl := tb_3 _ (List.mem_of_getElem? (i := 231) rfl)
set_option maxRecDepth 100000 in
theorem tw_12_19 : (Cond.instanceMethod yX8_leave) ∈ lw_tbl := tb_3 _ (List.mem_of_getElem? (i := 233) rfl)
set_option maxRecDepth 100000 in
theorem tw_12_20 : (Cond.selects RX8 yX8_leave yX8_leave) ∈ lw_tbl := tb_p _ (List.mem_of_getElem? (i := 26) (by first | rfl | decide +kernel))
set_option maxRecDepth 100000 in
theorem tw_12_21 : (Cond.code yX8_leave cX8_leave 4 none) ∈ lw_tbl := tb_3 _ (List.mem_of_getElem? (i := 234) rfl)
set_option maxRecDepth 100000 in
theorem tw_12_22 : (Cond.methodLink RX8 111 yX8_placeInQueue) ∈ lw_tbl := tb_3 _ (List.mem_of_getElem? (i := 235) rfl)
set_option maxRecDepth 100000 in
theorem tw_12_23 : (Cond.instanceMethod yX8_placeInQueue) ∈ lw_tbl := tb_3 _ (List.mem_of_getElem? (i := 237) rfl)
theorem tr_12 : ∀ w ∈ wsL_law_r12, w ∈ lw_tbl := List.forall_mem_cons.mpr ⟨tw_12_0, List.forall_mem_cons.mpr ⟨tw_12_1, List.forall_mem_cons.mpr ⟨tw_12_2, List.forall_mem_cons.mpr ⟨tw_12_3, List.forall_mem_cons.mpr ⟨tw_12_4, List.forall_mem_cons.mpr ⟨tw_12_5, List.forall_mem_cons.mpr ⟨tw_12_6, List.forall_mem_cons.mpr ⟨tw_12_7, List.forall_mem_cons.mpr ⟨tw_12_8, List.forall_mem_cons.mpr ⟨tw_12_9, List.forall_mem_cons.mpr ⟨tw_12_10, List.forall_mem_cons.mpr ⟨tw_12_11, List.forall_mem_cons.mpr ⟨tw_12_12, List.forall_mem_cons.mpr ⟨tw_12_13, List.forall_mem_cons.mpr ⟨tw_12_14, List.forall_mem_cons.mpr ⟨tw_12_15, List.forall_mem_cons.mpr ⟨tw_12_16, List.forall_mem_cons.mpr ⟨tw_12_17, List.forall_mem_cons.mpr ⟨tw_12_18, List.forall_mem_cons.mpr ⟨tw_12_19, List.forall_mem_cons.mpr ⟨tw_12_20, List.forall_mem_cons.mpr ⟨tw_12_21, List.forall_mem_cons.mpr ⟨tw_12_22, List.forall_mem_cons.mpr ⟨tw_12_23, fun _ h => absurd h List.not_mem_nil⟩⟩⟩⟩⟩⟩⟩⟩⟩⟩⟩⟩⟩⟩⟩⟩⟩⟩⟩⟩⟩⟩⟩⟩
set_option maxRecDepth 100000 in
theorem tw_13_0 : (Cond.selects RX8 yX8_placeInQueue yX8_placeInQueue) ∈ lw_tbl := tb_p _ (List.mem_of_getElem? (i := 27) (by first | rfl | decide +kernel))
set_option maxRecDepth 100000 in
theorem tw_13_1 : (Cond.code yX8_placeInQueue cX8_placeInQueue 3 (some .int)) ∈ lw_tbl := tb_3 _ (List.mem_of_getElem? (i := 238) rfl)
set_option maxRecDepth 100000 in
theorem tw_13_2 : (Cond.methodLink RX8 138 yX8_send) ∈ lw_tbl := tb_3 _ (List.mem_of_getElem? (i := 239) rfl)
set_option maxRecDepth 100000 in
theorem tw_13_3 : (Cond.instanceMethod yX8_send) ∈ lw_tbl := tb_4 _ (List.mem_of_getElem? (i := 1) rfl)
set_option maxRecDepth 100000 in
theorem tw_13_4 : (Cond.selects RX8 yX8_send yX8_send) ∈ lw_tbl := tb_p _ (List.mem_of_getElem? (i := 28) (by first | rfl | decide +kernel))
set_option maxRecDepth 100000 in
theorem tw_13_5 : (Cond.code yX8_send cX8_send 7 none) ∈ lw_tbl := tb_4 _ (List.mem_of_getElem? (i := 2) rfl)
set_option maxRecDepth 100000 in
theorem tw_13_6 : (Cond.methodLink RX8 142 yX8_nextOut) ∈ lw_tbl := tb_4 _ (List.mem_of_getElem? (i := 3) rfl)
set_option maxRecDepth 100000 in
theorem tw_13_7 : (Cond.instanceMethod yX8_nextOut) ∈ lw_tbl := tb_4 _ (List.mem_of_getElem? (i := 5) rfl)
set_option maxRecDepth 100000 in
theorem tw_13_8 : (Cond.selects RX8 yX8_nextOut yX8_nextOut) ∈ lw_tbl := tb_p _ (List.mem_of_getElem? (i := 29) (by first | rfl | decide +kernel))
set_option maxRecDepth 100000 in
theorem tw_13_9 : (Cond.code yX8_nextOut cX8_nextOut 6 (some .int)) ∈ lw_tbl := tb_4 _ (List.mem_of_getElem? (i := 6) rfl)
set_option maxRecDepth 100000 in
theorem tw_13_10 : (Cond.methodLink RL 28 yX7_row) ∈ lw_tbl := tb_2 _ (List.mem_of_getElem? (i := 89) rfl)
set_option maxRecDepth 100000 in
theorem tw_13_11 : (Cond.instanceMethod yX7_row) ∈ lw_tbl := tb_2 _ (List.mem_of_getElem? (i := 90) rfl)
set_option maxRecDepth 100000 in
theorem tw_13_12 : (Cond.selects RX7 yX7_row yX7_row) ∈ lw_tbl := tb_2 _ (List.mem_of_getElem? (i := 91) rfl)
set_option maxRecDepth 100000 in
theorem tw_13_13 : (Cond.code yX7_row cX7_row 6 (some .int)) ∈ lw_tbl := tb_2 _ (List.mem_of_getElem? (i := 92) rfl)
set_option maxRecDepth 100000 in
theorem tw_13_14 : (Cond.methodLink RX7 122 yX0_noteRow) ∈ lw_tbl := tb_2 _ (List.mem_of_getElem? (i := 93) rfl)
set_option maxRecDepth 100000 in
theorem tw_13_15 : (Cond.instanceMethod yX0_noteRow) ∈ lw_tbl := tb_2 _ (List.mem_of_getElem? (i := 94) rfl)
set_option maxRecDepth 100000 in
theorem tw_13_16 : (Cond.selects RX0 yX0_noteRow yX0_noteRow) ∈ lw_tbl := tb_2 _ (List.mem_of_getElem? (i := 95) rfl)
set_option maxRecDepth 100000 in
theorem tw_13_17 : (Cond.code yX0_noteRow cX0_noteRow 6 none) ∈ lw_tbl := tb_2 _ (List.mem_of_getElem? (i := 96) rfl)
set_option maxRecDepth 100000 in
theorem tw_13_18 : (Cond.methodLink RX7 126 yX4_addRow) ∈ lw_tbl := tb_2 _ (List.mem_of_getElem? (i := 97) rfl)
set_option maxRecDepth 100000 in
theorem tw_13_19 : (Cond.instanceMethod yX4_addRow) ∈ lw_tbl := tb_2 _ (List.mem_of_getElem? (i := 98) rfl)
set_option maxRecDepth 100000 in
theorem tw_13_20 : (Cond.selects RX4 yX4_addRow yX4_addRow) ∈ lw_tbl := tb_2 _ (List.mem_of_getElem? (i := 99) rfl)
set_option maxRecDepth 100000 in
theorem tw_13_21 : (Cond.code yX4_addRow cX4_addRow 1 none) ∈ lw_tbl := tb_2 _ (List.mem_of_getElem? (i := 100) rfl)
set_option maxRecDepth 100000 in
theorem tw_13_22 : (Cond.methodLink RL 32 yX8_row) ∈ lw_tbl := tb_4 _ (List.mem_of_getElem? (i := 7) rfl)
set_option maxRecDepth 100000 in
theorem tw_13_23 : (Cond.instanceMethod yX8_row) ∈ lw_tbl := tb_4 _ (List.mem_of_getElem? (i := 8) rfl)
theorem tr_13 : ∀ w ∈ wsL_law_r13, w ∈ lw_tbl := List.forall_mem_cons.mpr ⟨tw_13_0, List.forall_mem_cons.mpr ⟨tw_13_1, List.forall_mem_cons.mpr ⟨tw_13_2, List.forall_mem_cons.mpr ⟨tw_13_3, List.forall_mem_cons.mpr ⟨tw_13_4, List.forall_mem_cons.mpr ⟨tw_13_5, List.forall_mem_cons.mpr ⟨tw_13_6, List.forall_mem_cons.mpr ⟨tw_13_7, List.forall_mem_cons.mpr ⟨tw_13_8, List.forall_mem_cons.mpr ⟨tw_13_9, List.forall_mem_cons.mpr ⟨tw_13_10, List.forall_mem_cons.mpr ⟨tw_13_11, List.forall_mem_cons.mpr ⟨tw_13_12, List.forall_mem_cons.mpr ⟨tw_13_13, List.forall_mem_cons.mpr ⟨tw_13_14, List.forall_mem_cons.mpr ⟨tw_13_15, List.forall_mem_cons.mpr ⟨tw_13_16, List.forall_mem_cons.mpr ⟨tw_13_17, List.forall_mem_cons.mpr ⟨tw_13_18, List.forall_mem_cons.mpr ⟨tw_13_19, List.forall_mem_cons.mpr ⟨tw_13_20, List.forall_mem_cons.mpr ⟨tw_13_21, List.forall_mem_cons.mpr ⟨tw_13_22, List.forall_mem_cons.mpr ⟨tw_13_23, fun _ h => absurd h List.not_mem_nil⟩⟩⟩⟩⟩⟩⟩⟩⟩⟩⟩⟩⟩⟩⟩⟩⟩⟩⟩⟩⟩⟩⟩⟩
set_option maxRecDepth 100000 in
theorem tw_14_0 : (Cond.selects RX8 yX8_row yX8_row) ∈ lw_tbl := tb_4 _ (List.mem_of_getElem? (i := 9) rfl)
set_option maxRecDepth 100000 in
theorem tw_14_1 : (Cond.code yX8_row cX8_row 5 (some .int)) ∈ lw_tbl := tb_4 _ (List.mem_of_getElem? (i := 10) rfl)
set_option maxRecDepth 100000 in
theorem tw_14_2 : (Cond.methodLink RX8 152 yX8_come) ∈ lw_tbl := tb_4 _ (List.mem_of_getElem? (i := 11) rfl)
set_option maxRecDepth 100000 in
theorem tw_14_3 : (Cond.instanceMethod yX8_come) ∈ lw_tbl := tb_4 _ (List.mem_of_getElem? (i := 13) rfl)
set_option maxRecDepth 100000 in
theorem tw_14_4 : (Cond.selects RX8 yX8_come yX8_come) ∈ lw_tbl := tb_p _ (List.mem_of_getElem? (i := 30) (by first | rfl | decide +kernel))
set_option maxRecDepth 100000 in
theorem tw_14_5 : (Cond.code yX8_come cX8_come 7 (some .int)) ∈ lw_tbl := tb_4 _ (List.mem_of_getElem? (i := 14) rfl)
set_option maxRecDepth 100000 in
theorem tw_14_6 : (Cond.methodLink RL 33 yX7_mark) ∈ lw_tbl := tb_2 _ (List.mem_of_getElem? (i := 101) rfl)
set_option maxRecDepth 100000 in
theorem tw_14_7 : (Cond.instanceMethod yX7_mark) ∈ lw_tbl := tb_2 _ (List.mem_of_getElem? (i := 102) rfl)
set_option maxRecDepth 100000 in
theorem tw_14_8 : (Cond.selects RX7 yX7_mark yX7_mark) ∈ lw_tbl := tb_2 _ (List.mem_of_getElem? (i := 103) rfl)
set_option maxRecDepth 100000 in
theorem tw_14_9 : (Cond.code yX7_mark cX7_mark 2 (some .int)) ∈ lw_tbl := tb_2 _ (List.mem_of_getElem? (i := 104) rfl)
set_option maxRecDepth 100000 in
theorem tw_14_10 : (Cond.methodLink RX7 129 yX0_noteMark) ∈ lw_tbl := tb_2 _ (List.mem_of_getElem? (i := 105) rfl)
set_option maxRecDepth 100000 in
theorem tw_14_11 : (Cond.instanceMethod yX0_noteMark) ∈ lw_tbl := tb_2 _ (List.mem_of_getElem? (i := 106) rfl)
set_option maxRecDepth 100000 in
theorem tw_14_12 : (Cond.selects RX0 yX0_noteMark yX0_noteMark) ∈ lw_tbl := tb_2 _ (List.mem_of_getElem? (i := 107) rfl)
set_option maxRecDepth 100000 in
theorem tw_14_13 : (Cond.code yX0_noteMark cX0_noteMark 2 none) ∈ lw_tbl := tb_2 _ (List.mem_of_getElem? (i := 108) rfl)
set_option maxRecDepth 100000 in
theorem tw_14_14 : (Cond.methodLink RX7 133 yX4_addMark) ∈ lw_tbl := tb_2 _ (List.mem_of_getElem? (i := 109) rfl)
set_option maxRecDepth 100000 in
theorem tw_14_15 : (Cond.instanceMethod yX4_addMark) ∈ lw_tbl := tb_2 _ (List.mem_of_getElem? (i := 110) rfl)
set_option maxRecDepth 100000 in
theorem tw_14_16 : (Cond.selects RX4 yX4_addMark yX4_addMark) ∈ lw_tbl := tb_2 _ (List.mem_of_getElem? (i := 111) rfl)
set_option maxRecDepth 100000 in
theorem tw_14_17 : (Cond.code yX4_addMark cX4_addMark 1 none) ∈ lw_tbl := tb_2 _ (List.mem_of_getElem? (i := 112) rfl)
set_option maxRecDepth 100000 in
theorem tw_14_18 : (Cond.methodLink RL 37 yX8_mark) ∈ lw_tbl := tb_4 _ (List.mem_of_getElem? (i := 15) rfl)
set_option maxRecDepth 100000 in
theorem tw_14_19 : (Cond.instanceMethod yX8_mark) ∈ lw_tbl := tb_4 _ (List.mem_of_getElem? (i := 16) rfl)
set_option maxRecDepth 100000 in
theorem tw_14_20 : (Cond.selects RX8 yX8_mark yX8_mark) ∈ lw_tbl := tb_4 _ (List.mem_of_getElem? (i := 17) rfl)
set_option maxRecDepth 100000 in
theorem tw_14_21 : (Cond.code yX8_mark cX8_mark 1 (some .int)) ∈ lw_tbl := tb_4 _ (List.mem_of_getElem? (i := 18) rfl)
set_option maxRecDepth 100000 in
theorem tw_14_22 : (Cond.methodLink RL 38 yX7_tick) ∈ lw_tbl := tb_2 _ (List.mem_of_getElem? (i := 113) rfl)
set_option maxRecDepth 100000 in
theorem tw_14_23 : (Cond.instanceMethod yX7_tick) ∈ lw_tbl := tb_2 _ (List.mem_of_getElem? (i := 114) rfl)
theorem tr_14 : ∀ w ∈ wsL_law_r14, w ∈ lw_tbl := List.forall_mem_cons.mpr ⟨tw_14_0, List.forall_mem_cons.mpr ⟨tw_14_1, List.forall_mem_cons.mpr ⟨tw_14_2, List.forall_mem_cons.mpr ⟨tw_14_3, List.forall_mem_cons.mpr ⟨tw_14_4, List.forall_mem_cons.mpr ⟨tw_14_5, List.forall_mem_cons.mpr ⟨tw_14_6, List.forall_mem_cons.mpr ⟨tw_14_7, List.forall_mem_cons.mpr ⟨tw_14_8, List.forall_mem_cons.mpr ⟨tw_14_9, List.forall_mem_cons.mpr ⟨tw_14_10, List.forall_mem_cons.mpr ⟨tw_14_11, List.forall_mem_cons.mpr ⟨tw_14_12, List.forall_mem_cons.mpr ⟨tw_14_13, List.forall_mem_cons.mpr ⟨tw_14_14, List.forall_mem_cons.mpr ⟨tw_14_15, List.forall_mem_cons.mpr ⟨tw_14_16, List.forall_mem_cons.mpr ⟨tw_14_17, List.forall_mem_cons.mpr ⟨tw_14_18, List.forall_mem_cons.mpr ⟨tw_14_19, List.forall_mem_cons.mpr ⟨tw_14_20, List.forall_mem_cons.mpr ⟨tw_14_21, List.forall_mem_cons.mpr ⟨tw_14_22, List.forall_mem_cons.mpr ⟨tw_14_23, fun _ h => absurd h List.not_mem_nil⟩⟩⟩⟩⟩⟩⟩⟩⟩⟩⟩⟩⟩⟩⟩⟩⟩⟩⟩⟩⟩⟩⟩⟩
set_option maxRecDepth 100000 in
theorem tw_15_0 : (Cond.selects RX7 yX7_tick yX7_tick) ∈ lw_tbl := tb_2 _ (List.mem_of_getElem? (i := 115) rfl)
set_option maxRecDepth 100000 in
theorem tw_15_1 : (Cond.code yX7_tick cX7_tick 3 (some .int)) ∈ lw_tbl := tb_2 _ (List.mem_of_getElem? (i := 116) rfl)
set_option maxRecDepth 100000 in
theorem tw_15_2 : (Cond.constant RX7 136 (1000000)) ∈ lw_tbl := tb_2 _ (List.mem_of_getElem? (i := 117) rfl)
set_option maxRecDepth 100000 in
theorem tw_15_3 : (Cond.methodLink RX7 137 yX7_passTick) ∈ lw_tbl := tb_2 _ (List.mem_of_getElem? (i := 118) rfl)
set_option maxRecDepth 100000 in
theorem tw_15_4 : (Cond.instanceMethod yX7_passTick) ∈ lw_tbl := tb_2 _ (List.mem_of_getElem? (i := 120) rfl)
set_option maxRecDepth 100000 in
theorem tw_15_5 : (Cond.selects RX7 yX7_passTick yX7_passTick) ∈ lw_tbl := tb_p _ (List.mem_of_getElem? (i := 7) (by first | rfl | decide +kernel))
set_option maxRecDepth 100000 in
theorem tw_15_6 : (Cond.code yX7_passTick cX7_passTick 2 none) ∈ lw_tbl := tb_2 _ (List.mem_of_getElem? (i := 121) rfl)
set_option maxRecDepth 100000 in
theorem tw_15_7 : (Cond.methodLink RX7 284 yX7_findOverdue) ∈ lw_tbl := tb_2 _ (List.mem_of_getElem? (i := 122) rfl)
set_option maxRecDepth 100000 in
theorem tw_15_8 : (Cond.instanceMethod yX7_findOverdue) ∈ lw_tbl := tb_2 _ (List.mem_of_getElem? (i := 124) rfl)
set_option maxRecDepth 100000 in
theorem tw_15_9 : (Cond.selects RX7 yX7_findOverdue yX7_findOverdue) ∈ lw_tbl := tb_p _ (List.mem_of_getElem? (i := 8) (by first | rfl | decide +kernel))
set_option maxRecDepth 100000 in
theorem tw_15_10 : (Cond.code yX7_findOverdue cX7_findOverdue 3 none) ∈ lw_tbl := tb_2 _ (List.mem_of_getElem? (i := 125) rfl)
set_option maxRecDepth 100000 in
theorem tw_15_11 : (Cond.methodLink RX7 290 yX5_clear) ∈ lw_tbl := tb_2 _ (List.mem_of_getElem? (i := 126) rfl)
set_option maxRecDepth 100000 in
theorem tw_15_12 : (Cond.instanceMethod yX5_clear) ∈ lw_tbl := tb_2 _ (List.mem_of_getElem? (i := 127) rfl)
set_option maxRecDepth 100000 in
theorem tw_15_13 : (Cond.selects RX5 yX5_clear yX5_clear) ∈ lw_tbl := tb_2 _ (List.mem_of_getElem? (i := 128) rfl)
set_option maxRecDepth 100000 in
theorem tw_15_14 : (Cond.code yX5_clear cX5_clear 1 none) ∈ lw_tbl := tb_2 _ (List.mem_of_getElem? (i := 129) rfl)
set_option maxRecDepth 100000 in
theorem tw_15_15 : (Cond.methodLink RX7 293 yX0_dueOf) ∈ lw_tbl := tb_2 _ (List.mem_of_getElem? (i := 130) rfl)
set_option maxRecDepth 100000 in
theorem tw_15_16 : (Cond.instanceMethod yX0_dueOf) ∈ lw_tbl := tb_2 _ (List.mem_of_getElem? (i := 131) rfl)
set_option maxRecDepth 100000 in
theorem tw_15_17 : (Cond.selects RX0 yX0_dueOf yX0_dueOf) ∈ lw_tbl := tb_2 _ (List.mem_of_getElem? (i := 132) rfl)
set_option maxRecDepth 100000 in
theorem tw_15_18 : (Cond.code yX0_dueOf cX0_dueOf 2 (some .int)) ∈ lw_tbl := tb_2 _ (List.mem_of_getElem? (i := 133) rfl)
set_option maxRecDepth 100000 in
theorem tw_15_19 : (Cond.methodLink RX7 214 yX5_find) ∈ lw_tbl := tb_2 _ (List.mem_of_getElem? (i := 134) rfl)
set_option maxRecDepth 100000 in
theorem tw_15_20 : (Cond.instanceMethod yX5_find) ∈ lw_tbl := tb_2 _ (List.mem_of_getElem? (i := 135) rfl)
set_option maxRecDepth 100000 in
theorem tw_15_21 : (Cond.selects RX5 yX5_find yX5_find) ∈ lw_tbl := tb_2 _ (List.mem_of_getElem? (i := 136) rfl)
set_option maxRecDepth 100000 in
theorem tw_15_22 : (Cond.code yX5_find cX5_find 3 (some .int)) ∈ lw_tbl := tb_2 _ (List.mem_of_getElem? (i := 137) rfl)
set_option maxRecDepth 100000 in
theorem tw_15_23 : (Cond.methodLink RX7 287 yX7_tryAgain) ∈ lw_tbl := tb_2 _ (List.mem_of_getElem? (i := 138) rfl)
theorem tr_15 : ∀ w ∈ wsL_law_r15, w ∈ lw_tbl := List.forall_mem_cons.mpr ⟨tw_15_0, List.forall_mem_cons.mpr ⟨tw_15_1, List.forall_mem_cons.mpr ⟨tw_15_2, List.forall_mem_cons.mpr ⟨tw_15_3, List.forall_mem_cons.mpr ⟨tw_15_4, List.forall_mem_cons.mpr ⟨tw_15_5, List.forall_mem_cons.mpr ⟨tw_15_6, List.forall_mem_cons.mpr ⟨tw_15_7, List.forall_mem_cons.mpr ⟨tw_15_8, List.forall_mem_cons.mpr ⟨tw_15_9, List.forall_mem_cons.mpr ⟨tw_15_10, List.forall_mem_cons.mpr ⟨tw_15_11, List.forall_mem_cons.mpr ⟨tw_15_12, List.forall_mem_cons.mpr ⟨tw_15_13, List.forall_mem_cons.mpr ⟨tw_15_14, List.forall_mem_cons.mpr ⟨tw_15_15, List.forall_mem_cons.mpr ⟨tw_15_16, List.forall_mem_cons.mpr ⟨tw_15_17, List.forall_mem_cons.mpr ⟨tw_15_18, List.forall_mem_cons.mpr ⟨tw_15_19, List.forall_mem_cons.mpr ⟨tw_15_20, List.forall_mem_cons.mpr ⟨tw_15_21, List.forall_mem_cons.mpr ⟨tw_15_22, List.forall_mem_cons.mpr ⟨tw_15_23, fun _ h => absurd h List.not_mem_nil⟩⟩⟩⟩⟩⟩⟩⟩⟩⟩⟩⟩⟩⟩⟩⟩⟩⟩⟩⟩⟩⟩⟩⟩
set_option maxRecDepth 100000 in
theorem tw_16_0 : (Cond.instanceMethod yX7_tryAgain) ∈ lw_tbl := tb_2 _ (List.mem_of_getElem? (i := 140) rfl)
set_option maxRecDepth 100000 in
theorem tw_16_1 : (Cond.selects RX7 yX7_tryAgain yX7_tryAgain) ∈ lw_tbl := tb_p _ (List.mem_of_getElem? (i := 9) (by first | rfl | decide +kernel))
set_option maxRecDepth 100000 in
theorem tw_16_2 : (Cond.code yX7_tryAgain cX7_tryAgain 5 (some .boolean)) ∈ lw_tbl := tb_2 _ (List.mem_of_getElem? (i := 141) rfl)
set_option maxRecDepth 100000 in
theorem tw_16_3 : (Cond.methodLink RX7 208 yX4_triesOf) ∈ lw_tbl := tb_2 _ (List.mem_of_getElem? (i := 142) rfl)
set_option maxRecDepth 100000 in
theorem tw_16_4 : (Cond.instanceMethod yX4_triesOf) ∈ lw_tbl := tb_2 _ (List.mem_of_getElem? (i := 143) rfl)
set_option maxRecDepth 100000 in
theorem tw_16_5 : (Cond.selects RX4 yX4_triesOf yX4_triesOf) ∈ lw_tbl := tb_2 _ (List.mem_of_getElem? (i := 144) rfl)
set_option maxRecDepth 100000 in
theorem tw_16_6 : (Cond.code yX4_triesOf cX4_triesOf 2 (some .int)) ∈ lw_tbl := tb_2 _ (List.mem_of_getElem? (i := 145) rfl)
set_option maxRecDepth 100000 in
theorem tw_16_7 : (Cond.methodLink RX7 296 yX7_settle) ∈ lw_tbl := tb_2 _ (List.mem_of_getElem? (i := 146) rfl)
set_option maxRecDepth 100000 in
theorem tw_16_8 : (Cond.instanceMethod yX7_settle) ∈ lw_tbl := tb_2 _ (List.mem_of_getElem? (i := 148) rfl)
set_option maxRecDepth 100000 in
theorem tw_16_9 : (Cond.selects RX7 yX7_settle yX7_settle) ∈ lw_tbl := tb_p _ (List.mem_of_getElem? (i := 10) (by first | rfl | decide +kernel))
set_option maxRecDepth 100000 in
theorem tw_16_10 : (Cond.code yX7_settle cX7_settle 5 none) ∈ lw_tbl := tb_2 _ (List.mem_of_getElem? (i := 149) rfl)
set_option maxRecDepth 100000 in
theorem tw_16_11 : (Cond.methodLink RX7 299 yX4_addTry) ∈ lw_tbl := tb_2 _ (List.mem_of_getElem? (i := 150) rfl)
set_option maxRecDepth 100000 in
theorem tw_16_12 : (Cond.instanceMethod yX4_addTry) ∈ lw_tbl := tb_2 _ (List.mem_of_getElem? (i := 151) rfl)
set_option maxRecDepth 100000 in
theorem tw_16_13 : (Cond.selects RX4 yX4_addTry yX4_addTry) ∈ lw_tbl := tb_2 _ (List.mem_of_getElem? (i := 152) rfl)
set_option maxRecDepth 100000 in
theorem tw_16_14 : (Cond.code yX4_addTry cX4_addTry 2 none) ∈ lw_tbl := tb_2 _ (List.mem_of_getElem? (i := 153) rfl)
set_option maxRecDepth 100000 in
theorem tw_16_15 : (Cond.methodLink RL 42 yX8_tick) ∈ lw_tbl := tb_4 _ (List.mem_of_getElem? (i := 19) rfl)
set_option maxRecDepth 100000 in
theorem tw_16_16 : (Cond.instanceMethod yX8_tick) ∈ lw_tbl := tb_4 _ (List.mem_of_getElem? (i := 20) rfl)
set_option maxRecDepth 100000 in
theorem tw_16_17 : (Cond.selects RX8 yX8_tick yX8_tick) ∈ lw_tbl := tb_4 _ (List.mem_of_getElem? (i := 21) rfl)
set_option maxRecDepth 100000 in
theorem tw_16_18 : (Cond.code yX8_tick cX8_tick 4 (some .int)) ∈ lw_tbl := tb_4 _ (List.mem_of_getElem? (i := 22) rfl)
set_option maxRecDepth 100000 in
theorem tw_16_19 : (Cond.constant RX8 156 (1000000)) ∈ lw_tbl := tb_4 _ (List.mem_of_getElem? (i := 23) rfl)
set_option maxRecDepth 100000 in
theorem tw_16_20 : (Cond.methodLink RX8 157 yX8_again) ∈ lw_tbl := tb_4 _ (List.mem_of_getElem? (i := 24) rfl)
set_option maxRecDepth 100000 in
theorem tw_16_21 : (Cond.instanceMethod yX8_again) ∈ lw_tbl := tb_4 _ (List.mem_of_getElem? (i := 26) rfl)
set_option maxRecDepth 100000 in
theorem tw_16_22 : (Cond.selects RX8 yX8_again yX8_again) ∈ lw_tbl := tb_p _ (List.mem_of_getElem? (i := 31) (by first | rfl | decide +kernel))
set_option maxRecDepth 100000 in
theorem tw_16_23 : (Cond.code yX8_again cX8_again 2 (some .boolean)) ∈ lw_tbl := tb_4 _ (List.mem_of_getElem? (i := 27) rfl)
theorem tr_16 : ∀ w ∈ wsL_law_r16, w ∈ lw_tbl := List.forall_mem_cons.mpr ⟨tw_16_0, List.forall_mem_cons.mpr ⟨tw_16_1, List.forall_mem_cons.mpr ⟨tw_16_2, List.forall_mem_cons.mpr ⟨tw_16_3, List.forall_mem_cons.mpr ⟨tw_16_4, List.forall_mem_cons.mpr ⟨tw_16_5, List.forall_mem_cons.mpr ⟨tw_16_6, List.forall_mem_cons.mpr ⟨tw_16_7, List.forall_mem_cons.mpr ⟨tw_16_8, List.forall_mem_cons.mpr ⟨tw_16_9, List.forall_mem_cons.mpr ⟨tw_16_10, List.forall_mem_cons.mpr ⟨tw_16_11, List.forall_mem_cons.mpr ⟨tw_16_12, List.forall_mem_cons.mpr ⟨tw_16_13, List.forall_mem_cons.mpr ⟨tw_16_14, List.forall_mem_cons.mpr ⟨tw_16_15, List.forall_mem_cons.mpr ⟨tw_16_16, List.forall_mem_cons.mpr ⟨tw_16_17, List.forall_mem_cons.mpr ⟨tw_16_18, List.forall_mem_cons.mpr ⟨tw_16_19, List.forall_mem_cons.mpr ⟨tw_16_20, List.forall_mem_cons.mpr ⟨tw_16_21, List.forall_mem_cons.mpr ⟨tw_16_22, List.forall_mem_cons.mpr ⟨tw_16_23, fun _ h => absurd h List.not_mem_nil⟩⟩⟩⟩⟩⟩⟩⟩⟩⟩⟩⟩⟩⟩⟩⟩⟩⟩⟩⟩⟩⟩⟩⟩
set_option maxRecDepth 100000 in
theorem tw_17_0 : (Cond.methodLink RL 43 yX7_serve) ∈ lw_tbl := tb_2 _ (List.mem_of_getElem? (i := 154) rfl)
set_option maxRecDepth 100000 in
theorem tw_17_1 : (Cond.instanceMethod yX7_serve) ∈ lw_tbl := tb_2 _ (List.mem_of_getElem? (i := 155) rfl)
set_option maxRecDepth 100000 in
theorem tw_17_2 : (Cond.selects RX7 yX7_serve yX7_serve) ∈ lw_tbl := tb_2 _ (List.mem_of_getElem? (i := 156) rfl)
set_option maxRecDepth 100000 in
theorem tw_17_3 : (Cond.code yX7_serve cX7_serve 5 (some .int)) ∈ lw_tbl := tb_2 _ (List.mem_of_getElem? (i := 157) rfl)
set_option maxRecDepth 100000 in
theorem tw_17_4 : (Cond.methodLink RX7 140 yX2_has) ∈ lw_tbl := tb_2 _ (List.mem_of_getElem? (i := 158) rfl)
set_option maxRecDepth 100000 in
theorem tw_17_5 : (Cond.instanceMethod yX2_has) ∈ lw_tbl := tb_2 _ (List.mem_of_getElem? (i := 159) rfl)
set_option maxRecDepth 100000 in
theorem tw_17_6 : (Cond.selects RX2 yX2_has yX2_has) ∈ lw_tbl := tb_2 _ (List.mem_of_getElem? (i := 160) rfl)
set_option maxRecDepth 100000 in
theorem tw_17_7 : (Cond.code yX2_has cX2_has 2 (some .boolean)) ∈ lw_tbl := tb_2 _ (List.mem_of_getElem? (i := 161) rfl)
set_option maxRecDepth 100000 in
theorem tw_17_8 : (Cond.methodLink RX7 144 yX2_rowAt) ∈ lw_tbl := tb_2 _ (List.mem_of_getElem? (i := 162) rfl)
set_option maxRecDepth 100000 in
theorem tw_17_9 : (Cond.instanceMethod yX2_rowAt) ∈ lw_tbl := tb_2 _ (List.mem_of_getElem? (i := 163) rfl)
set_option maxRecDepth 100000 in
theorem tw_17_10 : (Cond.selects RX2 yX2_rowAt yX2_rowAt) ∈ lw_tbl := tb_2 _ (List.mem_of_getElem? (i := 164) rfl)
set_option maxRecDepth 100000 in
theorem tw_17_11 : (Cond.code yX2_rowAt cX2_rowAt 2 (some .int)) ∈ lw_tbl := tb_2 _ (List.mem_of_getElem? (i := 165) rfl)
set_option maxRecDepth 100000 in
theorem tw_17_12 : (Cond.methodLink RX2 26 yX2_has) ∈ lw_tbl := tb_2 _ (List.mem_of_getElem? (i := 166) rfl)
set_option maxRecDepth 100000 in
theorem tw_17_13 : (Cond.methodLink RX7 148 yX2_removeAt) ∈ lw_tbl := tb_2 _ (List.mem_of_getElem? (i := 167) rfl)
set_option maxRecDepth 100000 in
theorem tw_17_14 : (Cond.instanceMethod yX2_removeAt) ∈ lw_tbl := tb_2 _ (List.mem_of_getElem? (i := 168) rfl)
set_option maxRecDepth 100000 in
theorem tw_17_15 : (Cond.selects RX2 yX2_removeAt yX2_removeAt) ∈ lw_tbl := tb_2 _ (List.mem_of_getElem? (i := 169) rfl)
set_option maxRecDepth 100000 in
theorem tw_17_16 : (Cond.code yX2_removeAt cX2_removeAt 3 none) ∈ lw_tbl := tb_2 _ (List.mem_of_getElem? (i := 170) rfl)
set_option maxRecDepth 100000 in
theorem tw_17_17 : (Cond.methodLink RX2 30 arraycopyName) ∈ lw_tbl := tb_2 _ (List.mem_of_getElem? (i := 171) rfl)
set_option maxRecDepth 100000 in
theorem tw_17_18 : (Cond.methodLink RX7 155 yX0_valueOf) ∈ lw_tbl := tb_2 _ (List.mem_of_getElem? (i := 172) rfl)
set_option maxRecDepth 100000 in
theorem tw_17_19 : (Cond.instanceMethod yX0_valueOf) ∈ lw_tbl := tb_2 _ (List.mem_of_getElem? (i := 173) rfl)
set_option maxRecDepth 100000 in
theorem tw_17_20 : (Cond.selects RX0 yX0_valueOf yX0_valueOf) ∈ lw_tbl := tb_2 _ (List.mem_of_getElem? (i := 174) rfl)
set_option maxRecDepth 100000 in
theorem tw_17_21 : (Cond.code yX0_valueOf cX0_valueOf 2 (some .long)) ∈ lw_tbl := tb_2 _ (List.mem_of_getElem? (i := 175) rfl)
set_option maxRecDepth 100000 in
theorem tw_17_22 : (Cond.methodLink RX7 158 yX6_takeAsk) ∈ lw_tbl := tb_2 _ (List.mem_of_getElem? (i := 176) rfl)
set_option maxRecDepth 100000 in
theorem tw_17_23 : (Cond.instanceMethod yX6_takeAsk) ∈ lw_tbl := tb_2 _ (List.mem_of_getElem? (i := 177) rfl)
theorem tr_17 : ∀ w ∈ wsL_law_r17, w ∈ lw_tbl := List.forall_mem_cons.mpr ⟨tw_17_0, List.forall_mem_cons.mpr ⟨tw_17_1, List.forall_mem_cons.mpr ⟨tw_17_2, List.forall_mem_cons.mpr ⟨tw_17_3, List.forall_mem_cons.mpr ⟨tw_17_4, List.forall_mem_cons.mpr ⟨tw_17_5, List.forall_mem_cons.mpr ⟨tw_17_6, List.forall_mem_cons.mpr ⟨tw_17_7, List.forall_mem_cons.mpr ⟨tw_17_8, List.forall_mem_cons.mpr ⟨tw_17_9, List.forall_mem_cons.mpr ⟨tw_17_10, List.forall_mem_cons.mpr ⟨tw_17_11, List.forall_mem_cons.mpr ⟨tw_17_12, List.forall_mem_cons.mpr ⟨tw_17_13, List.forall_mem_cons.mpr ⟨tw_17_14, List.forall_mem_cons.mpr ⟨tw_17_15, List.forall_mem_cons.mpr ⟨tw_17_16, List.forall_mem_cons.mpr ⟨tw_17_17, List.forall_mem_cons.mpr ⟨tw_17_18, List.forall_mem_cons.mpr ⟨tw_17_19, List.forall_mem_cons.mpr ⟨tw_17_20, List.forall_mem_cons.mpr ⟨tw_17_21, List.forall_mem_cons.mpr ⟨tw_17_22, List.forall_mem_cons.mpr ⟨tw_17_23, fun _ h => absurd h List.not_mem_nil⟩⟩⟩⟩⟩⟩⟩⟩⟩⟩⟩⟩⟩⟩⟩⟩⟩⟩⟩⟩⟩⟩⟩⟩
set_option maxRecDepth 100000 in
theorem tw_18_0 : (Cond.selects RX6 yX6_takeAsk yX6_takeAsk) ∈ lw_tbl := tb_2 _ (List.mem_of_getElem? (i := 178) rfl)
set_option maxRecDepth 100000 in
theorem tw_18_1 : (Cond.code yX6_takeAsk cX6_takeAsk 7 (some .boolean)) ∈ lw_tbl := tb_2 _ (List.mem_of_getElem? (i := 179) rfl)
set_option maxRecDepth 100000 in
theorem tw_18_2 : (Cond.methodLink RX6 22 yX6_countOf) ∈ lw_tbl := tb_2 _ (List.mem_of_getElem? (i := 180) rfl)
set_option maxRecDepth 100000 in
theorem tw_18_3 : (Cond.instanceMethod yX6_countOf) ∈ lw_tbl := tb_2 _ (List.mem_of_getElem? (i := 181) rfl)
set_option maxRecDepth 100000 in
theorem tw_18_4 : (Cond.selects RX6 yX6_countOf yX6_countOf) ∈ lw_tbl := tb_2 _ (List.mem_of_getElem? (i := 182) rfl)
set_option maxRecDepth 100000 in
theorem tw_18_5 : (Cond.code yX6_countOf cX6_countOf 5 (some .int)) ∈ lw_tbl := tb_2 _ (List.mem_of_getElem? (i := 183) rfl)
set_option maxRecDepth 100000 in
theorem tw_18_6 : (Cond.methodLink RX7 162 yX6_answerTo) ∈ lw_tbl := tb_2 _ (List.mem_of_getElem? (i := 184) rfl)
set_option maxRecDepth 100000 in
theorem tw_18_7 : (Cond.instanceMethod yX6_answerTo) ∈ lw_tbl := tb_2 _ (List.mem_of_getElem? (i := 185) rfl)
set_option maxRecDepth 100000 in
theorem tw_18_8 : (Cond.selects RX6 yX6_answerTo yX6_answerTo) ∈ lw_tbl := tb_2 _ (List.mem_of_getElem? (i := 186) rfl)
set_option maxRecDepth 100000 in
theorem tw_18_9 : (Cond.code yX6_answerTo cX6_answerTo 2 (some .long)) ∈ lw_tbl := tb_2 _ (List.mem_of_getElem? (i := 187) rfl)
set_option maxRecDepth 100000 in
theorem tw_18_10 : (Cond.methodLink RL 46 yX8_serve) ∈ lw_tbl := tb_4 _ (List.mem_of_getElem? (i := 28) rfl)
set_option maxRecDepth 100000 in
theorem tw_18_11 : (Cond.instanceMethod yX8_serve) ∈ lw_tbl := tb_4 _ (List.mem_of_getElem? (i := 29) rfl)
set_option maxRecDepth 100000 in
theorem tw_18_12 : (Cond.selects RX8 yX8_serve yX8_serve) ∈ lw_tbl := tb_4 _ (List.mem_of_getElem? (i := 30) rfl)
set_option maxRecDepth 100000 in
theorem tw_18_13 : (Cond.code yX8_serve cX8_serve 5 (some .int)) ∈ lw_tbl := tb_4 _ (List.mem_of_getElem? (i := 31) rfl)
set_option maxRecDepth 100000 in
theorem tw_18_14 : (Cond.methodLink RX8 161 yX8_isUnder) ∈ lw_tbl := tb_4 _ (List.mem_of_getElem? (i := 32) rfl)
set_option maxRecDepth 100000 in
theorem tw_18_15 : (Cond.instanceMethod yX8_isUnder) ∈ lw_tbl := tb_4 _ (List.mem_of_getElem? (i := 34) rfl)
set_option maxRecDepth 100000 in
theorem tw_18_16 : (Cond.selects RX8 yX8_isUnder yX8_isUnder) ∈ lw_tbl := tb_p _ (List.mem_of_getElem? (i := 32) (by first | rfl | decide +kernel))
set_option maxRecDepth 100000 in
theorem tw_18_17 : (Cond.code yX8_isUnder cX8_isUnder 3 (some .boolean)) ∈ lw_tbl := tb_4 _ (List.mem_of_getElem? (i := 35) rfl)
set_option maxRecDepth 100000 in
theorem tw_18_18 : (Cond.methodLink RX8 165 yX8_take) ∈ lw_tbl := tb_4 _ (List.mem_of_getElem? (i := 36) rfl)
set_option maxRecDepth 100000 in
theorem tw_18_19 : (Cond.instanceMethod yX8_take) ∈ lw_tbl := tb_4 _ (List.mem_of_getElem? (i := 38) rfl)
set_option maxRecDepth 100000 in
theorem tw_18_20 : (Cond.selects RX8 yX8_take yX8_take) ∈ lw_tbl := tb_p _ (List.mem_of_getElem? (i := 33) (by first | rfl | decide +kernel))
set_option maxRecDepth 100000 in
theorem tw_18_21 : (Cond.code yX8_take cX8_take 4 none) ∈ lw_tbl := tb_4 _ (List.mem_of_getElem? (i := 39) rfl)
set_option maxRecDepth 100000 in
theorem tw_18_22 : (Cond.methodLink RX8 169 yX8_keyAt) ∈ lw_tbl := tb_4 _ (List.mem_of_getElem? (i := 40) rfl)
set_option maxRecDepth 100000 in
theorem tw_18_23 : (Cond.instanceMethod yX8_keyAt) ∈ lw_tbl := tb_4 _ (List.mem_of_getElem? (i := 42) rfl)
theorem tr_18 : ∀ w ∈ wsL_law_r18, w ∈ lw_tbl := List.forall_mem_cons.mpr ⟨tw_18_0, List.forall_mem_cons.mpr ⟨tw_18_1, List.forall_mem_cons.mpr ⟨tw_18_2, List.forall_mem_cons.mpr ⟨tw_18_3, List.forall_mem_cons.mpr ⟨tw_18_4, List.forall_mem_cons.mpr ⟨tw_18_5, List.forall_mem_cons.mpr ⟨tw_18_6, List.forall_mem_cons.mpr ⟨tw_18_7, List.forall_mem_cons.mpr ⟨tw_18_8, List.forall_mem_cons.mpr ⟨tw_18_9, List.forall_mem_cons.mpr ⟨tw_18_10, List.forall_mem_cons.mpr ⟨tw_18_11, List.forall_mem_cons.mpr ⟨tw_18_12, List.forall_mem_cons.mpr ⟨tw_18_13, List.forall_mem_cons.mpr ⟨tw_18_14, List.forall_mem_cons.mpr ⟨tw_18_15, List.forall_mem_cons.mpr ⟨tw_18_16, List.forall_mem_cons.mpr ⟨tw_18_17, List.forall_mem_cons.mpr ⟨tw_18_18, List.forall_mem_cons.mpr ⟨tw_18_19, List.forall_mem_cons.mpr ⟨tw_18_20, List.forall_mem_cons.mpr ⟨tw_18_21, List.forall_mem_cons.mpr ⟨tw_18_22, List.forall_mem_cons.mpr ⟨tw_18_23, fun _ h => absurd h List.not_mem_nil⟩⟩⟩⟩⟩⟩⟩⟩⟩⟩⟩⟩⟩⟩⟩⟩⟩⟩⟩⟩⟩⟩⟩⟩
set_option maxRecDepth 100000 in
theorem tw_19_0 : (Cond.selects RX8 yX8_keyAt yX8_keyAt) ∈ lw_tbl := tb_p _ (List.mem_of_getElem? (i := 34) (by first | rfl | decide +kernel))
set_option maxRecDepth 100000 in
theorem tw_19_1 : (Cond.code yX8_keyAt cX8_keyAt 4 (some .int)) ∈ lw_tbl := tb_4 _ (List.mem_of_getElem? (i := 43) rfl)
set_option maxRecDepth 100000 in
theorem tw_19_2 : (Cond.methodLink RL 47 yX7_refuse) ∈ lw_tbl := tb_2 _ (List.mem_of_getElem? (i := 188) rfl)
set_option maxRecDepth 100000 in
theorem tw_19_3 : (Cond.instanceMethod yX7_refuse) ∈ lw_tbl := tb_2 _ (List.mem_of_getElem? (i := 189) rfl)
set_option maxRecDepth 100000 in
theorem tw_19_4 : (Cond.selects RX7 yX7_refuse yX7_refuse) ∈ lw_tbl := tb_2 _ (List.mem_of_getElem? (i := 190) rfl)
set_option maxRecDepth 100000 in
theorem tw_19_5 : (Cond.code yX7_refuse cX7_refuse 4 (some .int)) ∈ lw_tbl := tb_2 _ (List.mem_of_getElem? (i := 191) rfl)
set_option maxRecDepth 100000 in
theorem tw_19_6 : (Cond.methodLink RX7 169 yX7_isCause) ∈ lw_tbl := tb_2 _ (List.mem_of_getElem? (i := 192) rfl)
set_option maxRecDepth 100000 in
theorem tw_19_7 : (Cond.instanceMethod yX7_isCause) ∈ lw_tbl := tb_2 _ (List.mem_of_getElem? (i := 194) rfl)
set_option maxRecDepth 100000 in
theorem tw_19_8 : (Cond.selects RX7 yX7_isCause yX7_isCause) ∈ lw_tbl := tb_p _ (List.mem_of_getElem? (i := 11) (by first | rfl | decide +kernel))
set_option maxRecDepth 100000 in
theorem tw_19_9 : (Cond.code yX7_isCause cX7_isCause 2 (some .boolean)) ∈ lw_tbl := tb_2 _ (List.mem_of_getElem? (i := 195) rfl)
set_option maxRecDepth 100000 in
theorem tw_19_10 : (Cond.methodLink RL 50 yX8_refuse) ∈ lw_tbl := tb_4 _ (List.mem_of_getElem? (i := 44) rfl)
set_option maxRecDepth 100000 in
theorem tw_19_11 : (Cond.instanceMethod yX8_refuse) ∈ lw_tbl := tb_4 _ (List.mem_of_getElem? (i := 45) rfl)
set_option maxRecDepth 100000 in
theorem tw_19_12 : (Cond.selects RX8 yX8_refuse yX8_refuse) ∈ lw_tbl := tb_4 _ (List.mem_of_getElem? (i := 46) rfl)
set_option maxRecDepth 100000 in
theorem tw_19_13 : (Cond.code yX8_refuse cX8_refuse 4 (some .int)) ∈ lw_tbl := tb_4 _ (List.mem_of_getElem? (i := 47) rfl)
set_option maxRecDepth 100000 in
theorem tw_19_14 : (Cond.methodLink RL 51 yX7_arrive) ∈ lw_tbl := tb_2 _ (List.mem_of_getElem? (i := 196) rfl)
set_option maxRecDepth 100000 in
theorem tw_19_15 : (Cond.instanceMethod yX7_arrive) ∈ lw_tbl := tb_2 _ (List.mem_of_getElem? (i := 197) rfl)
set_option maxRecDepth 100000 in
theorem tw_19_16 : (Cond.selects RX7 yX7_arrive yX7_arrive) ∈ lw_tbl := tb_2 _ (List.mem_of_getElem? (i := 198) rfl)
set_option maxRecDepth 100000 in
theorem tw_19_17 : (Cond.code yX7_arrive cX7_arrive 7 (some .int)) ∈ lw_tbl := tb_2 _ (List.mem_of_getElem? (i := 199) rfl)
set_option maxRecDepth 100000 in
theorem tw_19_18 : (Cond.methodLink RX7 172 yX2_causeAt) ∈ lw_tbl := tb_2 _ (List.mem_of_getElem? (i := 200) rfl)
set_option maxRecDepth 100000 in
theorem tw_19_19 : (Cond.instanceMethod yX2_causeAt) ∈ lw_tbl := tb_2 _ (List.mem_of_getElem? (i := 201) rfl)
set_option maxRecDepth 100000 in
theorem tw_19_20 : (Cond.selects RX2 yX2_causeAt yX2_causeAt) ∈ lw_tbl := tb_2 _ (List.mem_of_getElem? (i := 202) rfl)
set_option maxRecDepth 100000 in
theorem tw_19_21 : (Cond.code yX2_causeAt cX2_causeAt 2 (some .int)) ∈ lw_tbl := tb_2 _ (List.mem_of_getElem? (i := 203) rfl)
set_option maxRecDepth 100000 in
theorem tw_19_22 : (Cond.methodLink RX7 175 yX2_valueAt) ∈ lw_tbl := tb_2 _ (List.mem_of_getElem? (i := 204) rfl)
set_option maxRecDepth 100000 in
theorem tw_19_23 : (Cond.instanceMethod yX2_valueAt) ∈ lw_tbl := tb_2 _ (List.mem_of_getElem? (i := 205) rfl)
theorem tr_19 : ∀ w ∈ wsL_law_r19, w ∈ lw_tbl := List.forall_mem_cons.mpr ⟨tw_19_0, List.forall_mem_cons.mpr ⟨tw_19_1, List.forall_mem_cons.mpr ⟨tw_19_2, List.forall_mem_cons.mpr ⟨tw_19_3, List.forall_mem_cons.mpr ⟨tw_19_4, List.forall_mem_cons.mpr ⟨tw_19_5, List.forall_mem_cons.mpr ⟨tw_19_6, List.forall_mem_cons.mpr ⟨tw_19_7, List.forall_mem_cons.mpr ⟨tw_19_8, List.forall_mem_cons.mpr ⟨tw_19_9, List.forall_mem_cons.mpr ⟨tw_19_10, List.forall_mem_cons.mpr ⟨tw_19_11, List.forall_mem_cons.mpr ⟨tw_19_12, List.forall_mem_cons.mpr ⟨tw_19_13, List.forall_mem_cons.mpr ⟨tw_19_14, List.forall_mem_cons.mpr ⟨tw_19_15, List.forall_mem_cons.mpr ⟨tw_19_16, List.forall_mem_cons.mpr ⟨tw_19_17, List.forall_mem_cons.mpr ⟨tw_19_18, List.forall_mem_cons.mpr ⟨tw_19_19, List.forall_mem_cons.mpr ⟨tw_19_20, List.forall_mem_cons.mpr ⟨tw_19_21, List.forall_mem_cons.mpr ⟨tw_19_22, List.forall_mem_cons.mpr ⟨tw_19_23, fun _ h => absurd h List.not_mem_nil⟩⟩⟩⟩⟩⟩⟩⟩⟩⟩⟩⟩⟩⟩⟩⟩⟩⟩⟩⟩⟩⟩⟩⟩
set_option maxRecDepth 100000 in
theorem tw_20_0 : (Cond.selects RX2 yX2_valueAt yX2_valueAt) ∈ lw_tbl := tb_2 _ (List.mem_of_getElem? (i := 206) rfl)
set_option maxRecDepth 100000 in
theorem tw_20_1 : (Cond.code yX2_valueAt cX2_valueAt 2 (some .long)) ∈ lw_tbl := tb_2 _ (List.mem_of_getElem? (i := 207) rfl)
set_option maxRecDepth 100000 in
theorem tw_20_2 : (Cond.methodLink RX7 181 yX7_takeAnswer) ∈ lw_tbl := tb_2 _ (List.mem_of_getElem? (i := 208) rfl)
set_option maxRecDepth 100000 in
theorem tw_20_3 : (Cond.instanceMethod yX7_takeAnswer) ∈ lw_tbl := tb_2 _ (List.mem_of_getElem? (i := 210) rfl)
set_option maxRecDepth 100000 in
theorem tw_20_4 : (Cond.selects RX7 yX7_takeAnswer yX7_takeAnswer) ∈ lw_tbl := tb_p _ (List.mem_of_getElem? (i := 12) (by first | rfl | decide +kernel))
set_option maxRecDepth 100000 in
theorem tw_20_5 : (Cond.code yX7_takeAnswer cX7_takeAnswer 5 (some .boolean)) ∈ lw_tbl := tb_2 _ (List.mem_of_getElem? (i := 211) rfl)
set_option maxRecDepth 100000 in
theorem tw_20_6 : (Cond.methodLink RX7 302 yX7_takeCause) ∈ lw_tbl := tb_2 _ (List.mem_of_getElem? (i := 212) rfl)
set_option maxRecDepth 100000 in
theorem tw_20_7 : (Cond.instanceMethod yX7_takeCause) ∈ lw_tbl := tb_2 _ (List.mem_of_getElem? (i := 214) rfl)
set_option maxRecDepth 100000 in
theorem tw_20_8 : (Cond.selects RX7 yX7_takeCause yX7_takeCause) ∈ lw_tbl := tb_p _ (List.mem_of_getElem? (i := 13) (by first | rfl | decide +kernel))
set_option maxRecDepth 100000 in
theorem tw_20_9 : (Cond.code yX7_takeCause cX7_takeCause 4 (some .boolean)) ∈ lw_tbl := tb_2 _ (List.mem_of_getElem? (i := 215) rfl)
set_option maxRecDepth 100000 in
theorem tw_20_10 : (Cond.methodLink RX7 310 yX7_ruleOf) ∈ lw_tbl := tb_2 _ (List.mem_of_getElem? (i := 216) rfl)
set_option maxRecDepth 100000 in
theorem tw_20_11 : (Cond.instanceMethod yX7_ruleOf) ∈ lw_tbl := tb_2 _ (List.mem_of_getElem? (i := 218) rfl)
set_option maxRecDepth 100000 in
theorem tw_20_12 : (Cond.selects RX7 yX7_ruleOf yX7_ruleOf) ∈ lw_tbl := tb_p _ (List.mem_of_getElem? (i := 14) (by first | rfl | decide +kernel))
set_option maxRecDepth 100000 in
theorem tw_20_13 : (Cond.code yX7_ruleOf cX7_ruleOf 2 (some .int)) ∈ lw_tbl := tb_2 _ (List.mem_of_getElem? (i := 219) rfl)
set_option maxRecDepth 100000 in
theorem tw_20_14 : (Cond.methodLink RX7 306 yX1_keep) ∈ lw_tbl := tb_2 _ (List.mem_of_getElem? (i := 220) rfl)
set_option maxRecDepth 100000 in
theorem tw_20_15 : (Cond.instanceMethod yX1_keep) ∈ lw_tbl := tb_2 _ (List.mem_of_getElem? (i := 221) rfl)
set_option maxRecDepth 100000 in
theorem tw_20_16 : (Cond.selects RX1 yX1_keep yX1_keep) ∈ lw_tbl := tb_2 _ (List.mem_of_getElem? (i := 222) rfl)
set_option maxRecDepth 100000 in
theorem tw_20_17 : (Cond.code yX1_keep cX1_keep 7 none) ∈ lw_tbl := tb_2 _ (List.mem_of_getElem? (i := 223) rfl)
set_option maxRecDepth 100000 in
theorem tw_20_18 : (Cond.methodLink RX1 30 yX1_placeFor) ∈ lw_tbl := tb_2 _ (List.mem_of_getElem? (i := 224) rfl)
set_option maxRecDepth 100000 in
theorem tw_20_19 : (Cond.instanceMethod yX1_placeFor) ∈ lw_tbl := tb_2 _ (List.mem_of_getElem? (i := 226) rfl)
set_option maxRecDepth 100000 in
theorem tw_20_20 : (Cond.selects RX1 yX1_placeFor yX1_placeFor) ∈ lw_tbl := tb_p _ (List.mem_of_getElem? (i := 15) (by first | rfl | decide +kernel))
set_option maxRecDepth 100000 in
theorem tw_20_21 : (Cond.code yX1_placeFor cX1_placeFor 4 (some .int)) ∈ lw_tbl := tb_2 _ (List.mem_of_getElem? (i := 227) rfl)
set_option maxRecDepth 100000 in
theorem tw_20_22 : (Cond.methodLink RX1 33 yX1_firstToGo) ∈ lw_tbl := tb_2 _ (List.mem_of_getElem? (i := 228) rfl)
set_option maxRecDepth 100000 in
theorem tw_20_23 : (Cond.instanceMethod yX1_firstToGo) ∈ lw_tbl := tb_2 _ (List.mem_of_getElem? (i := 230) rfl)
theorem tr_20 : ∀ w ∈ wsL_law_r20, w ∈ lw_tbl := List.forall_mem_cons.mpr ⟨tw_20_0, List.forall_mem_cons.mpr ⟨tw_20_1, List.forall_mem_cons.mpr ⟨tw_20_2, List.forall_mem_cons.mpr ⟨tw_20_3, List.forall_mem_cons.mpr ⟨tw_20_4, List.forall_mem_cons.mpr ⟨tw_20_5, List.forall_mem_cons.mpr ⟨tw_20_6, List.forall_mem_cons.mpr ⟨tw_20_7, List.forall_mem_cons.mpr ⟨tw_20_8, List.forall_mem_cons.mpr ⟨tw_20_9, List.forall_mem_cons.mpr ⟨tw_20_10, List.forall_mem_cons.mpr ⟨tw_20_11, List.forall_mem_cons.mpr ⟨tw_20_12, List.forall_mem_cons.mpr ⟨tw_20_13, List.forall_mem_cons.mpr ⟨tw_20_14, List.forall_mem_cons.mpr ⟨tw_20_15, List.forall_mem_cons.mpr ⟨tw_20_16, List.forall_mem_cons.mpr ⟨tw_20_17, List.forall_mem_cons.mpr ⟨tw_20_18, List.forall_mem_cons.mpr ⟨tw_20_19, List.forall_mem_cons.mpr ⟨tw_20_20, List.forall_mem_cons.mpr ⟨tw_20_21, List.forall_mem_cons.mpr ⟨tw_20_22, List.forall_mem_cons.mpr ⟨tw_20_23, fun _ h => absurd h List.not_mem_nil⟩⟩⟩⟩⟩⟩⟩⟩⟩⟩⟩⟩⟩⟩⟩⟩⟩⟩⟩⟩⟩⟩⟩⟩
set_option maxRecDepth 100000 in
theorem tw_21_0 : (Cond.selects RX1 yX1_firstToGo yX1_firstToGo) ∈ lw_tbl := tb_p _ (List.mem_of_getElem? (i := 16) (by first | rfl | decide +kernel))
set_option maxRecDepth 100000 in
theorem tw_21_1 : (Cond.code yX1_firstToGo cX1_firstToGo 4 (some .int)) ∈ lw_tbl := tb_2 _ (List.mem_of_getElem? (i := 231) rfl)
set_option maxRecDepth 100000 in
theorem tw_21_2 : (Cond.methodLink RL 54 yX8_arrive) ∈ lw_tbl := tb_4 _ (List.mem_of_getElem? (i := 48) rfl)
set_option maxRecDepth 100000 in
theorem tw_21_3 : (Cond.instanceMethod yX8_arrive) ∈ lw_tbl := tb_4 _ (List.mem_of_getElem? (i := 49) rfl)
set_option maxRecDepth 100000 in
theorem tw_21_4 : (Cond.selects RX8 yX8_arrive yX8_arrive) ∈ lw_tbl := tb_4 _ (List.mem_of_getElem? (i := 50) rfl)
set_option maxRecDepth 100000 in
theorem tw_21_5 : (Cond.code yX8_arrive cX8_arrive 9 (some .int)) ∈ lw_tbl := tb_4 _ (List.mem_of_getElem? (i := 51) rfl)
set_option maxRecDepth 100000 in
theorem tw_21_6 : (Cond.methodLink RX8 172 yX8_keep) ∈ lw_tbl := tb_4 _ (List.mem_of_getElem? (i := 52) rfl)
set_option maxRecDepth 100000 in
theorem tw_21_7 : (Cond.instanceMethod yX8_keep) ∈ lw_tbl := tb_4 _ (List.mem_of_getElem? (i := 54) rfl)
set_option maxRecDepth 100000 in
theorem tw_21_8 : (Cond.selects RX8 yX8_keep yX8_keep) ∈ lw_tbl := tb_p _ (List.mem_of_getElem? (i := 35) (by first | rfl | decide +kernel))
set_option maxRecDepth 100000 in
theorem tw_21_9 : (Cond.code yX8_keep cX8_keep 7 none) ∈ lw_tbl := tb_4 _ (List.mem_of_getElem? (i := 55) rfl)
set_option maxRecDepth 100000 in
theorem tw_21_10 : (Cond.methodLink RL 55 yX7_lose) ∈ lw_tbl := tb_2 _ (List.mem_of_getElem? (i := 232) rfl)
set_option maxRecDepth 100000 in
theorem tw_21_11 : (Cond.instanceMethod yX7_lose) ∈ lw_tbl := tb_2 _ (List.mem_of_getElem? (i := 233) rfl)
set_option maxRecDepth 100000 in
theorem tw_21_12 : (Cond.selects RX7 yX7_lose yX7_lose) ∈ lw_tbl := tb_2 _ (List.mem_of_getElem? (i := 234) rfl)
set_option maxRecDepth 100000 in
theorem tw_21_13 : (Cond.code yX7_lose cX7_lose 4 (some .int)) ∈ lw_tbl := tb_2 _ (List.mem_of_getElem? (i := 235) rfl)
set_option maxRecDepth 100000 in
theorem tw_21_14 : (Cond.methodLink RX7 185 yX7_lineOf) ∈ lw_tbl := tb_2 _ (List.mem_of_getElem? (i := 236) rfl)
set_option maxRecDepth 100000 in
theorem tw_21_15 : (Cond.instanceMethod yX7_lineOf) ∈ lw_tbl := tb_2 _ (List.mem_of_getElem? (i := 238) rfl)
set_option maxRecDepth 100000 in
theorem tw_21_16 : (Cond.selects RX7 yX7_lineOf yX7_lineOf) ∈ lw_tbl := tb_p _ (List.mem_of_getElem? (i := 17) (by first | rfl | decide +kernel))
set_option maxRecDepth 100000 in
theorem tw_21_17 : (Cond.code yX7_lineOf cX7_lineOf 2 (some (.object "OutsideAsks$Line"))) ∈ lw_tbl := tb_2 _ (List.mem_of_getElem? (i := 239) rfl)
set_option maxRecDepth 100000 in
theorem tw_21_18 : (Cond.methodLink RL 58 yX8_lose) ∈ lw_tbl := tb_4 _ (List.mem_of_getElem? (i := 56) rfl)
set_option maxRecDepth 100000 in
theorem tw_21_19 : (Cond.instanceMethod yX8_lose) ∈ lw_tbl := tb_4 _ (List.mem_of_getElem? (i := 57) rfl)
set_option maxRecDepth 100000 in
theorem tw_21_20 : (Cond.selects RX8 yX8_lose yX8_lose) ∈ lw_tbl := tb_4 _ (List.mem_of_getElem? (i := 58) rfl)
set_option maxRecDepth 100000 in
theorem tw_21_21 : (Cond.code yX8_lose cX8_lose 3 (some .int)) ∈ lw_tbl := tb_4 _ (List.mem_of_getElem? (i := 59) rfl)
set_option maxRecDepth 100000 in
theorem tw_21_22 : (Cond.methodLink RL 59 yX7_twice) ∈ lw_tbl := tb_3 _ (List.mem_of_getElem? (i := 0) rfl)
set_option maxRecDepth 100000 in
theorem tw_21_23 : (Cond.instanceMethod yX7_twice) ∈ lw_tbl := tb_3 _ (List.mem_of_getElem? (i := 1) rfl)
theorem tr_21 : ∀ w ∈ wsL_law_r21, w ∈ lw_tbl := List.forall_mem_cons.mpr ⟨tw_21_0, List.forall_mem_cons.mpr ⟨tw_21_1, List.forall_mem_cons.mpr ⟨tw_21_2, List.forall_mem_cons.mpr ⟨tw_21_3, List.forall_mem_cons.mpr ⟨tw_21_4, List.forall_mem_cons.mpr ⟨tw_21_5, List.forall_mem_cons.mpr ⟨tw_21_6, List.forall_mem_cons.mpr ⟨tw_21_7, List.forall_mem_cons.mpr ⟨tw_21_8, List.forall_mem_cons.mpr ⟨tw_21_9, List.forall_mem_cons.mpr ⟨tw_21_10, List.forall_mem_cons.mpr ⟨tw_21_11, List.forall_mem_cons.mpr ⟨tw_21_12, List.forall_mem_cons.mpr ⟨tw_21_13, List.forall_mem_cons.mpr ⟨tw_21_14, List.forall_mem_cons.mpr ⟨tw_21_15, List.forall_mem_cons.mpr ⟨tw_21_16, List.forall_mem_cons.mpr ⟨tw_21_17, List.forall_mem_cons.mpr ⟨tw_21_18, List.forall_mem_cons.mpr ⟨tw_21_19, List.forall_mem_cons.mpr ⟨tw_21_20, List.forall_mem_cons.mpr ⟨tw_21_21, List.forall_mem_cons.mpr ⟨tw_21_22, List.forall_mem_cons.mpr ⟨tw_21_23, fun _ h => absurd h List.not_mem_nil⟩⟩⟩⟩⟩⟩⟩⟩⟩⟩⟩⟩⟩⟩⟩⟩⟩⟩⟩⟩⟩⟩⟩⟩
set_option maxRecDepth 100000 in
theorem tw_22_0 : (Cond.selects RX7 yX7_twice yX7_twice) ∈ lw_tbl := tb_3 _ (List.mem_of_getElem? (i := 2) rfl)
set_option maxRecDepth 100000 in
theorem tw_22_1 : (Cond.code yX7_twice cX7_twice 4 (some .int)) ∈ lw_tbl := tb_3 _ (List.mem_of_getElem? (i := 3) rfl)
set_option maxRecDepth 100000 in
theorem tw_22_2 : (Cond.methodLink RL 62 yX8_twice) ∈ lw_tbl := tb_4 _ (List.mem_of_getElem? (i := 60) rfl)
set_option maxRecDepth 100000 in
theorem tw_22_3 : (Cond.instanceMethod yX8_twice) ∈ lw_tbl := tb_4 _ (List.mem_of_getElem? (i := 61) rfl)
set_option maxRecDepth 100000 in
theorem tw_22_4 : (Cond.selects RX8 yX8_twice yX8_twice) ∈ lw_tbl := tb_4 _ (List.mem_of_getElem? (i := 62) rfl)
set_option maxRecDepth 100000 in
theorem tw_22_5 : (Cond.code yX8_twice cX8_twice 4 (some .int)) ∈ lw_tbl := tb_4 _ (List.mem_of_getElem? (i := 63) rfl)
set_option maxRecDepth 100000 in
theorem tw_22_6 : (Cond.methodLink RL 63 yX7_under) ∈ lw_tbl := tb_3 _ (List.mem_of_getElem? (i := 4) rfl)
set_option maxRecDepth 100000 in
theorem tw_22_7 : (Cond.instanceMethod yX7_under) ∈ lw_tbl := tb_3 _ (List.mem_of_getElem? (i := 5) rfl)
set_option maxRecDepth 100000 in
theorem tw_22_8 : (Cond.selects RX7 yX7_under yX7_under) ∈ lw_tbl := tb_3 _ (List.mem_of_getElem? (i := 6) rfl)
set_option maxRecDepth 100000 in
theorem tw_22_9 : (Cond.code yX7_under cX7_under 4 (some .int)) ∈ lw_tbl := tb_3 _ (List.mem_of_getElem? (i := 7) rfl)
set_option maxRecDepth 100000 in
theorem tw_22_10 : (Cond.methodLink RL 66 yX8_under) ∈ lw_tbl := tb_4 _ (List.mem_of_getElem? (i := 64) rfl)
set_option maxRecDepth 100000 in
theorem tw_22_11 : (Cond.instanceMethod yX8_under) ∈ lw_tbl := tb_4 _ (List.mem_of_getElem? (i := 65) rfl)
set_option maxRecDepth 100000 in
theorem tw_22_12 : (Cond.selects RX8 yX8_under yX8_under) ∈ lw_tbl := tb_4 _ (List.mem_of_getElem? (i := 66) rfl)
set_option maxRecDepth 100000 in
theorem tw_22_13 : (Cond.code yX8_under cX8_under 3 (some .int)) ∈ lw_tbl := tb_4 _ (List.mem_of_getElem? (i := 67) rfl)
set_option maxRecDepth 100000 in
theorem tw_22_14 : (Cond.methodLink RL 67 yX7_out) ∈ lw_tbl := tb_3 _ (List.mem_of_getElem? (i := 8) rfl)
set_option maxRecDepth 100000 in
theorem tw_22_15 : (Cond.instanceMethod yX7_out) ∈ lw_tbl := tb_3 _ (List.mem_of_getElem? (i := 9) rfl)
set_option maxRecDepth 100000 in
theorem tw_22_16 : (Cond.selects RX7 yX7_out yX7_out) ∈ lw_tbl := tb_3 _ (List.mem_of_getElem? (i := 10) rfl)
set_option maxRecDepth 100000 in
theorem tw_22_17 : (Cond.code yX7_out cX7_out 3 (some .int)) ∈ lw_tbl := tb_3 _ (List.mem_of_getElem? (i := 11) rfl)
set_option maxRecDepth 100000 in
theorem tw_22_18 : (Cond.methodLink RX7 195 yX3_itemAt) ∈ lw_tbl := tb_3 _ (List.mem_of_getElem? (i := 12) rfl)
set_option maxRecDepth 100000 in
theorem tw_22_19 : (Cond.instanceMethod yX3_itemAt) ∈ lw_tbl := tb_3 _ (List.mem_of_getElem? (i := 13) rfl)
set_option maxRecDepth 100000 in
theorem tw_22_20 : (Cond.selects RX3 yX3_itemAt yX3_itemAt) ∈ lw_tbl := tb_3 _ (List.mem_of_getElem? (i := 14) rfl)
set_option maxRecDepth 100000 in
theorem tw_22_21 : (Cond.code yX3_itemAt cX3_itemAt 2 (some .int)) ∈ lw_tbl := tb_3 _ (List.mem_of_getElem? (i := 15) rfl)
set_option maxRecDepth 100000 in
theorem tw_22_22 : (Cond.methodLink RX7 198 yX4_resultOf) ∈ lw_tbl := tb_3 _ (List.mem_of_getElem? (i := 16) rfl)
set_option maxRecDepth 100000 in
theorem tw_22_23 : (Cond.instanceMethod yX4_resultOf) ∈ lw_tbl := tb_3 _ (List.mem_of_getElem? (i := 17) rfl)
theorem tr_22 : ∀ w ∈ wsL_law_r22, w ∈ lw_tbl := List.forall_mem_cons.mpr ⟨tw_22_0, List.forall_mem_cons.mpr ⟨tw_22_1, List.forall_mem_cons.mpr ⟨tw_22_2, List.forall_mem_cons.mpr ⟨tw_22_3, List.forall_mem_cons.mpr ⟨tw_22_4, List.forall_mem_cons.mpr ⟨tw_22_5, List.forall_mem_cons.mpr ⟨tw_22_6, List.forall_mem_cons.mpr ⟨tw_22_7, List.forall_mem_cons.mpr ⟨tw_22_8, List.forall_mem_cons.mpr ⟨tw_22_9, List.forall_mem_cons.mpr ⟨tw_22_10, List.forall_mem_cons.mpr ⟨tw_22_11, List.forall_mem_cons.mpr ⟨tw_22_12, List.forall_mem_cons.mpr ⟨tw_22_13, List.forall_mem_cons.mpr ⟨tw_22_14, List.forall_mem_cons.mpr ⟨tw_22_15, List.forall_mem_cons.mpr ⟨tw_22_16, List.forall_mem_cons.mpr ⟨tw_22_17, List.forall_mem_cons.mpr ⟨tw_22_18, List.forall_mem_cons.mpr ⟨tw_22_19, List.forall_mem_cons.mpr ⟨tw_22_20, List.forall_mem_cons.mpr ⟨tw_22_21, List.forall_mem_cons.mpr ⟨tw_22_22, List.forall_mem_cons.mpr ⟨tw_22_23, fun _ h => absurd h List.not_mem_nil⟩⟩⟩⟩⟩⟩⟩⟩⟩⟩⟩⟩⟩⟩⟩⟩⟩⟩⟩⟩⟩⟩⟩⟩
set_option maxRecDepth 100000 in
theorem tw_23_0 : (Cond.selects RX4 yX4_resultOf yX4_resultOf) ∈ lw_tbl := tb_3 _ (List.mem_of_getElem? (i := 18) rfl)
set_option maxRecDepth 100000 in
theorem tw_23_1 : (Cond.code yX4_resultOf cX4_resultOf 2 (some .int)) ∈ lw_tbl := tb_3 _ (List.mem_of_getElem? (i := 19) rfl)
set_option maxRecDepth 100000 in
theorem tw_23_2 : (Cond.methodLink RX7 201 yX3_tickAt) ∈ lw_tbl := tb_3 _ (List.mem_of_getElem? (i := 20) rfl)
set_option maxRecDepth 100000 in
theorem tw_23_3 : (Cond.instanceMethod yX3_tickAt) ∈ lw_tbl := tb_3 _ (List.mem_of_getElem? (i := 21) rfl)
set_option maxRecDepth 100000 in
theorem tw_23_4 : (Cond.selects RX3 yX3_tickAt yX3_tickAt) ∈ lw_tbl := tb_3 _ (List.mem_of_getElem? (i := 22) rfl)
set_option maxRecDepth 100000 in
theorem tw_23_5 : (Cond.code yX3_tickAt cX3_tickAt 2 (some .int)) ∈ lw_tbl := tb_3 _ (List.mem_of_getElem? (i := 23) rfl)
set_option maxRecDepth 100000 in
theorem tw_23_6 : (Cond.methodLink RL 70 yX8_out) ∈ lw_tbl := tb_4 _ (List.mem_of_getElem? (i := 68) rfl)
set_option maxRecDepth 100000 in
theorem tw_23_7 : (Cond.instanceMethod yX8_out) ∈ lw_tbl := tb_4 _ (List.mem_of_getElem? (i := 69) rfl)
set_option maxRecDepth 100000 in
theorem tw_23_8 : (Cond.selects RX8 yX8_out yX8_out) ∈ lw_tbl := tb_4 _ (List.mem_of_getElem? (i := 70) rfl)
set_option maxRecDepth 100000 in
theorem tw_23_9 : (Cond.code yX8_out cX8_out 3 (some .int)) ∈ lw_tbl := tb_4 _ (List.mem_of_getElem? (i := 71) rfl)
set_option maxRecDepth 100000 in
theorem tw_23_10 : (Cond.methodLink RL 71 yX7_value) ∈ lw_tbl := tb_3 _ (List.mem_of_getElem? (i := 24) rfl)
set_option maxRecDepth 100000 in
theorem tw_23_11 : (Cond.instanceMethod yX7_value) ∈ lw_tbl := tb_3 _ (List.mem_of_getElem? (i := 25) rfl)
set_option maxRecDepth 100000 in
theorem tw_23_12 : (Cond.selects RX7 yX7_value yX7_value) ∈ lw_tbl := tb_3 _ (List.mem_of_getElem? (i := 26) rfl)
set_option maxRecDepth 100000 in
theorem tw_23_13 : (Cond.code yX7_value cX7_value 2 (some .long)) ∈ lw_tbl := tb_3 _ (List.mem_of_getElem? (i := 27) rfl)
set_option maxRecDepth 100000 in
theorem tw_23_14 : (Cond.methodLink RX7 204 yX4_valueOf) ∈ lw_tbl := tb_3 _ (List.mem_of_getElem? (i := 28) rfl)
set_option maxRecDepth 100000 in
theorem tw_23_15 : (Cond.instanceMethod yX4_valueOf) ∈ lw_tbl := tb_3 _ (List.mem_of_getElem? (i := 29) rfl)
set_option maxRecDepth 100000 in
theorem tw_23_16 : (Cond.selects RX4 yX4_valueOf yX4_valueOf) ∈ lw_tbl := tb_3 _ (List.mem_of_getElem? (i := 30) rfl)
set_option maxRecDepth 100000 in
theorem tw_23_17 : (Cond.code yX4_valueOf cX4_valueOf 2 (some .long)) ∈ lw_tbl := tb_3 _ (List.mem_of_getElem? (i := 31) rfl)
set_option maxRecDepth 100000 in
theorem tw_23_18 : (Cond.methodLink RL 75 yX8_value) ∈ lw_tbl := tb_4 _ (List.mem_of_getElem? (i := 72) rfl)
set_option maxRecDepth 100000 in
theorem tw_23_19 : (Cond.instanceMethod yX8_value) ∈ lw_tbl := tb_4 _ (List.mem_of_getElem? (i := 73) rfl)
set_option maxRecDepth 100000 in
theorem tw_23_20 : (Cond.selects RX8 yX8_value yX8_value) ∈ lw_tbl := tb_4 _ (List.mem_of_getElem? (i := 74) rfl)
set_option maxRecDepth 100000 in
theorem tw_23_21 : (Cond.code yX8_value cX8_value 2 (some .long)) ∈ lw_tbl := tb_4 _ (List.mem_of_getElem? (i := 75) rfl)
set_option maxRecDepth 100000 in
theorem tw_23_22 : (Cond.methodLink RX8 176 yX8_isItem) ∈ lw_tbl := tb_4 _ (List.mem_of_getElem? (i := 76) rfl)
set_option maxRecDepth 100000 in
theorem tw_23_23 : (Cond.instanceMethod yX8_isItem) ∈ lw_tbl := tb_4 _ (List.mem_of_getElem? (i := 78) rfl)
theorem tr_23 : ∀ w ∈ wsL_law_r23, w ∈ lw_tbl := List.forall_mem_cons.mpr ⟨tw_23_0, List.forall_mem_cons.mpr ⟨tw_23_1, List.forall_mem_cons.mpr ⟨tw_23_2, List.forall_mem_cons.mpr ⟨tw_23_3, List.forall_mem_cons.mpr ⟨tw_23_4, List.forall_mem_cons.mpr ⟨tw_23_5, List.forall_mem_cons.mpr ⟨tw_23_6, List.forall_mem_cons.mpr ⟨tw_23_7, List.forall_mem_cons.mpr ⟨tw_23_8, List.forall_mem_cons.mpr ⟨tw_23_9, List.forall_mem_cons.mpr ⟨tw_23_10, List.forall_mem_cons.mpr ⟨tw_23_11, List.forall_mem_cons.mpr ⟨tw_23_12, List.forall_mem_cons.mpr ⟨tw_23_13, List.forall_mem_cons.mpr ⟨tw_23_14, List.forall_mem_cons.mpr ⟨tw_23_15, List.forall_mem_cons.mpr ⟨tw_23_16, List.forall_mem_cons.mpr ⟨tw_23_17, List.forall_mem_cons.mpr ⟨tw_23_18, List.forall_mem_cons.mpr ⟨tw_23_19, List.forall_mem_cons.mpr ⟨tw_23_20, List.forall_mem_cons.mpr ⟨tw_23_21, List.forall_mem_cons.mpr ⟨tw_23_22, List.forall_mem_cons.mpr ⟨tw_23_23, fun _ h => absurd h List.not_mem_nil⟩⟩⟩⟩⟩⟩⟩⟩⟩⟩⟩⟩⟩⟩⟩⟩⟩⟩⟩⟩⟩⟩⟩⟩
set_option maxRecDepth 100000 in
theorem tw_24_0 : (Cond.selects RX8 yX8_isItem yX8_isItem) ∈ lw_tbl := tb_p _ (List.mem_of_getElem? (i := 36) (by first | rfl | decide +kernel))
set_option maxRecDepth 100000 in
theorem tw_24_1 : (Cond.code yX8_isItem cX8_isItem 2 (some .boolean)) ∈ lw_tbl := tb_4 _ (List.mem_of_getElem? (i := 79) rfl)
set_option maxRecDepth 100000 in
theorem tw_24_2 : (Cond.methodLink RL 76 yX7_item) ∈ lw_tbl := tb_3 _ (List.mem_of_getElem? (i := 32) rfl)
set_option maxRecDepth 100000 in
theorem tw_24_3 : (Cond.instanceMethod yX7_item) ∈ lw_tbl := tb_3 _ (List.mem_of_getElem? (i := 33) rfl)
set_option maxRecDepth 100000 in
theorem tw_24_4 : (Cond.selects RX7 yX7_item yX7_item) ∈ lw_tbl := tb_3 _ (List.mem_of_getElem? (i := 34) rfl)
set_option maxRecDepth 100000 in
theorem tw_24_5 : (Cond.code yX7_item cX7_item 3 (some .int)) ∈ lw_tbl := tb_3 _ (List.mem_of_getElem? (i := 35) rfl)
set_option maxRecDepth 100000 in
theorem tw_24_6 : (Cond.methodLink RX7 205 yX4_hasItem) ∈ lw_tbl := tb_3 _ (List.mem_of_getElem? (i := 36) rfl)
set_option maxRecDepth 100000 in
theorem tw_24_7 : (Cond.methodLink RL 79 yX8_item) ∈ lw_tbl := tb_4 _ (List.mem_of_getElem? (i := 80) rfl)
set_option maxRecDepth 100000 in
theorem tw_24_8 : (Cond.instanceMethod yX8_item) ∈ lw_tbl := tb_4 _ (List.mem_of_getElem? (i := 81) rfl)
set_option maxRecDepth 100000 in
theorem tw_24_9 : (Cond.selects RX8 yX8_item yX8_item) ∈ lw_tbl := tb_4 _ (List.mem_of_getElem? (i := 82) rfl)
set_option maxRecDepth 100000 in
theorem tw_24_10 : (Cond.code yX8_item cX8_item 3 (some .int)) ∈ lw_tbl := tb_4 _ (List.mem_of_getElem? (i := 83) rfl)
set_option maxRecDepth 100000 in
theorem tw_24_11 : (Cond.methodLink RL 80 yX7_count) ∈ lw_tbl := tb_3 _ (List.mem_of_getElem? (i := 37) rfl)
set_option maxRecDepth 100000 in
theorem tw_24_12 : (Cond.instanceMethod yX7_count) ∈ lw_tbl := tb_3 _ (List.mem_of_getElem? (i := 38) rfl)
set_option maxRecDepth 100000 in
theorem tw_24_13 : (Cond.selects RX7 yX7_count yX7_count) ∈ lw_tbl := tb_3 _ (List.mem_of_getElem? (i := 39) rfl)
set_option maxRecDepth 100000 in
theorem tw_24_14 : (Cond.code yX7_count cX7_count 3 (some .int)) ∈ lw_tbl := tb_3 _ (List.mem_of_getElem? (i := 40) rfl)
set_option maxRecDepth 100000 in
theorem tw_24_15 : (Cond.methodLink RX7 217 yX6_countOf) ∈ lw_tbl := tb_3 _ (List.mem_of_getElem? (i := 41) rfl)
set_option maxRecDepth 100000 in
theorem tw_24_16 : (Cond.methodLink RL 84 yX8_count) ∈ lw_tbl := tb_4 _ (List.mem_of_getElem? (i := 84) rfl)
set_option maxRecDepth 100000 in
theorem tw_24_17 : (Cond.instanceMethod yX8_count) ∈ lw_tbl := tb_4 _ (List.mem_of_getElem? (i := 85) rfl)
set_option maxRecDepth 100000 in
theorem tw_24_18 : (Cond.selects RX8 yX8_count yX8_count) ∈ lw_tbl := tb_4 _ (List.mem_of_getElem? (i := 86) rfl)
set_option maxRecDepth 100000 in
theorem tw_24_19 : (Cond.code yX8_count cX8_count 4 (some .int)) ∈ lw_tbl := tb_4 _ (List.mem_of_getElem? (i := 87) rfl)
set_option maxRecDepth 100000 in
theorem tw_24_20 : (Cond.methodLink RL 85 yX7_kept) ∈ lw_tbl := tb_3 _ (List.mem_of_getElem? (i := 42) rfl)
set_option maxRecDepth 100000 in
theorem tw_24_21 : (Cond.instanceMethod yX7_kept) ∈ lw_tbl := tb_3 _ (List.mem_of_getElem? (i := 43) rfl)
set_option maxRecDepth 100000 in
theorem tw_24_22 : (Cond.selects RX7 yX7_kept yX7_kept) ∈ lw_tbl := tb_3 _ (List.mem_of_getElem? (i := 44) rfl)
set_option maxRecDepth 100000 in
theorem tw_24_23 : (Cond.code yX7_kept cX7_kept 3 (some .int)) ∈ lw_tbl := tb_3 _ (List.mem_of_getElem? (i := 45) rfl)
theorem tr_24 : ∀ w ∈ wsL_law_r24, w ∈ lw_tbl := List.forall_mem_cons.mpr ⟨tw_24_0, List.forall_mem_cons.mpr ⟨tw_24_1, List.forall_mem_cons.mpr ⟨tw_24_2, List.forall_mem_cons.mpr ⟨tw_24_3, List.forall_mem_cons.mpr ⟨tw_24_4, List.forall_mem_cons.mpr ⟨tw_24_5, List.forall_mem_cons.mpr ⟨tw_24_6, List.forall_mem_cons.mpr ⟨tw_24_7, List.forall_mem_cons.mpr ⟨tw_24_8, List.forall_mem_cons.mpr ⟨tw_24_9, List.forall_mem_cons.mpr ⟨tw_24_10, List.forall_mem_cons.mpr ⟨tw_24_11, List.forall_mem_cons.mpr ⟨tw_24_12, List.forall_mem_cons.mpr ⟨tw_24_13, List.forall_mem_cons.mpr ⟨tw_24_14, List.forall_mem_cons.mpr ⟨tw_24_15, List.forall_mem_cons.mpr ⟨tw_24_16, List.forall_mem_cons.mpr ⟨tw_24_17, List.forall_mem_cons.mpr ⟨tw_24_18, List.forall_mem_cons.mpr ⟨tw_24_19, List.forall_mem_cons.mpr ⟨tw_24_20, List.forall_mem_cons.mpr ⟨tw_24_21, List.forall_mem_cons.mpr ⟨tw_24_22, List.forall_mem_cons.mpr ⟨tw_24_23, fun _ h => absurd h List.not_mem_nil⟩⟩⟩⟩⟩⟩⟩⟩⟩⟩⟩⟩⟩⟩⟩⟩⟩⟩⟩⟩⟩⟩⟩⟩
set_option maxRecDepth 100000 in
theorem tw_25_0 : (Cond.methodLink RL 88 yX8_kept) ∈ lw_tbl := tb_4 _ (List.mem_of_getElem? (i := 88) rfl)
set_option maxRecDepth 100000 in
theorem tw_25_1 : (Cond.instanceMethod yX8_kept) ∈ lw_tbl := tb_4 _ (List.mem_of_getElem? (i := 89) rfl)
set_option maxRecDepth 100000 in
theorem tw_25_2 : (Cond.selects RX8 yX8_kept yX8_kept) ∈ lw_tbl := tb_4 _ (List.mem_of_getElem? (i := 90) rfl)
set_option maxRecDepth 100000 in
theorem tw_25_3 : (Cond.code yX8_kept cX8_kept 4 (some .int)) ∈ lw_tbl := tb_4 _ (List.mem_of_getElem? (i := 91) rfl)
set_option maxRecDepth 100000 in
theorem tw_25_4 : (Cond.methodLink RL 89 yX7_save) ∈ lw_tbl := tb_3 _ (List.mem_of_getElem? (i := 46) rfl)
set_option maxRecDepth 100000 in
theorem tw_25_5 : (Cond.instanceMethod yX7_save) ∈ lw_tbl := tb_3 _ (List.mem_of_getElem? (i := 47) rfl)
set_option maxRecDepth 100000 in
theorem tw_25_6 : (Cond.selects RX7 yX7_save yX7_save) ∈ lw_tbl := tb_3 _ (List.mem_of_getElem? (i := 48) rfl)
set_option maxRecDepth 100000 in
theorem tw_25_7 : (Cond.code yX7_save cX7_save 1 (some .int)) ∈ lw_tbl := tb_3 _ (List.mem_of_getElem? (i := 49) rfl)
set_option maxRecDepth 100000 in
theorem tw_25_8 : (Cond.methodLink RX7 224 yX4_copyFrom) ∈ lw_tbl := tb_3 _ (List.mem_of_getElem? (i := 50) rfl)
set_option maxRecDepth 100000 in
theorem tw_25_9 : (Cond.instanceMethod yX4_copyFrom) ∈ lw_tbl := tb_3 _ (List.mem_of_getElem? (i := 51) rfl)
set_option maxRecDepth 100000 in
theorem tw_25_10 : (Cond.selects RX4 yX4_copyFrom yX4_copyFrom) ∈ lw_tbl := tb_3 _ (List.mem_of_getElem? (i := 52) rfl)
set_option maxRecDepth 100000 in
theorem tw_25_11 : (Cond.code yX4_copyFrom cX4_copyFrom 2 none) ∈ lw_tbl := tb_3 _ (List.mem_of_getElem? (i := 53) rfl)
set_option maxRecDepth 100000 in
theorem tw_25_12 : (Cond.methodLink RX4 42 yX4_copyItems) ∈ lw_tbl := tb_3 _ (List.mem_of_getElem? (i := 54) rfl)
set_option maxRecDepth 100000 in
theorem tw_25_13 : (Cond.instanceMethod yX4_copyItems) ∈ lw_tbl := tb_3 _ (List.mem_of_getElem? (i := 56) rfl)
set_option maxRecDepth 100000 in
theorem tw_25_14 : (Cond.selects RX4 yX4_copyItems yX4_copyItems) ∈ lw_tbl := tb_p _ (List.mem_of_getElem? (i := 18) (by first | rfl | decide +kernel))
set_option maxRecDepth 100000 in
theorem tw_25_15 : (Cond.code yX4_copyItems cX4_copyItems 2 none) ∈ lw_tbl := tb_3 _ (List.mem_of_getElem? (i := 57) rfl)
set_option maxRecDepth 100000 in
theorem tw_25_16 : (Cond.methodLink RX4 50 arraycopyName) ∈ lw_tbl := tb_3 _ (List.mem_of_getElem? (i := 58) rfl)
set_option maxRecDepth 100000 in
theorem tw_25_17 : (Cond.methodLink RL 92 yX8_save) ∈ lw_tbl := tb_4 _ (List.mem_of_getElem? (i := 92) rfl)
set_option maxRecDepth 100000 in
theorem tw_25_18 : (Cond.instanceMethod yX8_save) ∈ lw_tbl := tb_4 _ (List.mem_of_getElem? (i := 93) rfl)
set_option maxRecDepth 100000 in
theorem tw_25_19 : (Cond.selects RX8 yX8_save yX8_save) ∈ lw_tbl := tb_4 _ (List.mem_of_getElem? (i := 94) rfl)
set_option maxRecDepth 100000 in
theorem tw_25_20 : (Cond.code yX8_save cX8_save 3 (some .int)) ∈ lw_tbl := tb_4 _ (List.mem_of_getElem? (i := 95) rfl)
set_option maxRecDepth 100000 in
theorem tw_25_21 : (Cond.fieldLink RX8 179 "OutsideAsksModel" "savedItems" "I") ∈ lw_tbl := tb_3 _ (List.mem_of_getElem? (i := 123) rfl)
set_option maxRecDepth 100000 in
theorem tw_25_22 : (Cond.fieldLink RX8 182 "OutsideAsksModel" "savedOuts" "I") ∈ lw_tbl := tb_3 _ (List.mem_of_getElem? (i := 124) rfl)
set_option maxRecDepth 100000 in
theorem tw_25_23 : (Cond.methodLink RL 93 yX7_restart) ∈ lw_tbl := tb_3 _ (List.mem_of_getElem? (i := 59) rfl)
theorem tr_25 : ∀ w ∈ wsL_law_r25, w ∈ lw_tbl := List.forall_mem_cons.mpr ⟨tw_25_0, List.forall_mem_cons.mpr ⟨tw_25_1, List.forall_mem_cons.mpr ⟨tw_25_2, List.forall_mem_cons.mpr ⟨tw_25_3, List.forall_mem_cons.mpr ⟨tw_25_4, List.forall_mem_cons.mpr ⟨tw_25_5, List.forall_mem_cons.mpr ⟨tw_25_6, List.forall_mem_cons.mpr ⟨tw_25_7, List.forall_mem_cons.mpr ⟨tw_25_8, List.forall_mem_cons.mpr ⟨tw_25_9, List.forall_mem_cons.mpr ⟨tw_25_10, List.forall_mem_cons.mpr ⟨tw_25_11, List.forall_mem_cons.mpr ⟨tw_25_12, List.forall_mem_cons.mpr ⟨tw_25_13, List.forall_mem_cons.mpr ⟨tw_25_14, List.forall_mem_cons.mpr ⟨tw_25_15, List.forall_mem_cons.mpr ⟨tw_25_16, List.forall_mem_cons.mpr ⟨tw_25_17, List.forall_mem_cons.mpr ⟨tw_25_18, List.forall_mem_cons.mpr ⟨tw_25_19, List.forall_mem_cons.mpr ⟨tw_25_20, List.forall_mem_cons.mpr ⟨tw_25_21, List.forall_mem_cons.mpr ⟨tw_25_22, List.forall_mem_cons.mpr ⟨tw_25_23, fun _ h => absurd h List.not_mem_nil⟩⟩⟩⟩⟩⟩⟩⟩⟩⟩⟩⟩⟩⟩⟩⟩⟩⟩⟩⟩⟩⟩⟩⟩
set_option maxRecDepth 100000 in
theorem tw_26_0 : (Cond.instanceMethod yX7_restart) ∈ lw_tbl := tb_3 _ (List.mem_of_getElem? (i := 60) rfl)
set_option maxRecDepth 100000 in
theorem tw_26_1 : (Cond.selects RX7 yX7_restart yX7_restart) ∈ lw_tbl := tb_3 _ (List.mem_of_getElem? (i := 61) rfl)
set_option maxRecDepth 100000 in
theorem tw_26_2 : (Cond.code yX7_restart cX7_restart 1 (some .int)) ∈ lw_tbl := tb_3 _ (List.mem_of_getElem? (i := 62) rfl)
set_option maxRecDepth 100000 in
theorem tw_26_3 : (Cond.methodLink RX7 235 yX4_goBackTo) ∈ lw_tbl := tb_3 _ (List.mem_of_getElem? (i := 63) rfl)
set_option maxRecDepth 100000 in
theorem tw_26_4 : (Cond.instanceMethod yX4_goBackTo) ∈ lw_tbl := tb_3 _ (List.mem_of_getElem? (i := 64) rfl)
set_option maxRecDepth 100000 in
theorem tw_26_5 : (Cond.selects RX4 yX4_goBackTo yX4_goBackTo) ∈ lw_tbl := tb_3 _ (List.mem_of_getElem? (i := 65) rfl)
set_option maxRecDepth 100000 in
theorem tw_26_6 : (Cond.code yX4_goBackTo cX4_goBackTo 3 none) ∈ lw_tbl := tb_3 _ (List.mem_of_getElem? (i := 66) rfl)
set_option maxRecDepth 100000 in
theorem tw_26_7 : (Cond.methodLink RX4 46 yX4_becomeGone) ∈ lw_tbl := tb_3 _ (List.mem_of_getElem? (i := 67) rfl)
set_option maxRecDepth 100000 in
theorem tw_26_8 : (Cond.instanceMethod yX4_becomeGone) ∈ lw_tbl := tb_3 _ (List.mem_of_getElem? (i := 69) rfl)
set_option maxRecDepth 100000 in
theorem tw_26_9 : (Cond.selects RX4 yX4_becomeGone yX4_becomeGone) ∈ lw_tbl := tb_p _ (List.mem_of_getElem? (i := 19) (by first | rfl | decide +kernel))
set_option maxRecDepth 100000 in
theorem tw_26_10 : (Cond.code yX4_becomeGone cX4_becomeGone 2 none) ∈ lw_tbl := tb_3 _ (List.mem_of_getElem? (i := 70) rfl)
set_option maxRecDepth 100000 in
theorem tw_26_11 : (Cond.methodLink RX7 238 yX1_forgetAll) ∈ lw_tbl := tb_3 _ (List.mem_of_getElem? (i := 71) rfl)
set_option maxRecDepth 100000 in
theorem tw_26_12 : (Cond.instanceMethod yX1_forgetAll) ∈ lw_tbl := tb_3 _ (List.mem_of_getElem? (i := 72) rfl)
set_option maxRecDepth 100000 in
theorem tw_26_13 : (Cond.selects RX1 yX1_forgetAll yX1_forgetAll) ∈ lw_tbl := tb_3 _ (List.mem_of_getElem? (i := 73) rfl)
set_option maxRecDepth 100000 in
theorem tw_26_14 : (Cond.code yX1_forgetAll cX1_forgetAll 1 none) ∈ lw_tbl := tb_3 _ (List.mem_of_getElem? (i := 74) rfl)
set_option maxRecDepth 100000 in
theorem tw_26_15 : (Cond.methodLink RX7 241 yX7_askAgainAllWorking) ∈ lw_tbl := tb_3 _ (List.mem_of_getElem? (i := 75) rfl)
set_option maxRecDepth 100000 in
theorem tw_26_16 : (Cond.instanceMethod yX7_askAgainAllWorking) ∈ lw_tbl := tb_3 _ (List.mem_of_getElem? (i := 77) rfl)
set_option maxRecDepth 100000 in
theorem tw_26_17 : (Cond.selects RX7 yX7_askAgainAllWorking yX7_askAgainAllWorking) ∈ lw_tbl := tb_p _ (List.mem_of_getElem? (i := 20) (by first | rfl | decide +kernel))
set_option maxRecDepth 100000 in
theorem tw_26_18 : (Cond.code yX7_askAgainAllWorking cX7_askAgainAllWorking 2 none) ∈ lw_tbl := tb_3 _ (List.mem_of_getElem? (i := 78) rfl)
set_option maxRecDepth 100000 in
theorem tw_26_19 : (Cond.methodLink RL 96 yX8_restart) ∈ lw_tbl := tb_4 _ (List.mem_of_getElem? (i := 96) rfl)
set_option maxRecDepth 100000 in
theorem tw_26_20 : (Cond.instanceMethod yX8_restart) ∈ lw_tbl := tb_4 _ (List.mem_of_getElem? (i := 97) rfl)
set_option maxRecDepth 100000 in
theorem tw_26_21 : (Cond.selects RX8 yX8_restart yX8_restart) ∈ lw_tbl := tb_4 _ (List.mem_of_getElem? (i := 98) rfl)
set_option maxRecDepth 100000 in
theorem tw_26_22 : (Cond.code yX8_restart cX8_restart 2 (some .int)) ∈ lw_tbl := tb_4 _ (List.mem_of_getElem? (i := 99) rfl)
set_option maxRecDepth 100000 in
theorem tw_26_23 : (Cond.fieldLink RX8 185 "OutsideAsksModel" "restarts" "I") ∈ lw_tbl := tb_3 _ (List.mem_of_getElem? (i := 129) rfl)
theorem tr_26 : ∀ w ∈ wsL_law_r26, w ∈ lw_tbl := List.forall_mem_cons.mpr ⟨tw_26_0, List.forall_mem_cons.mpr ⟨tw_26_1, List.forall_mem_cons.mpr ⟨tw_26_2, List.forall_mem_cons.mpr ⟨tw_26_3, List.forall_mem_cons.mpr ⟨tw_26_4, List.forall_mem_cons.mpr ⟨tw_26_5, List.forall_mem_cons.mpr ⟨tw_26_6, List.forall_mem_cons.mpr ⟨tw_26_7, List.forall_mem_cons.mpr ⟨tw_26_8, List.forall_mem_cons.mpr ⟨tw_26_9, List.forall_mem_cons.mpr ⟨tw_26_10, List.forall_mem_cons.mpr ⟨tw_26_11, List.forall_mem_cons.mpr ⟨tw_26_12, List.forall_mem_cons.mpr ⟨tw_26_13, List.forall_mem_cons.mpr ⟨tw_26_14, List.forall_mem_cons.mpr ⟨tw_26_15, List.forall_mem_cons.mpr ⟨tw_26_16, List.forall_mem_cons.mpr ⟨tw_26_17, List.forall_mem_cons.mpr ⟨tw_26_18, List.forall_mem_cons.mpr ⟨tw_26_19, List.forall_mem_cons.mpr ⟨tw_26_20, List.forall_mem_cons.mpr ⟨tw_26_21, List.forall_mem_cons.mpr ⟨tw_26_22, List.forall_mem_cons.mpr ⟨tw_26_23, fun _ h => absurd h List.not_mem_nil⟩⟩⟩⟩⟩⟩⟩⟩⟩⟩⟩⟩⟩⟩⟩⟩⟩⟩⟩⟩⟩⟩⟩⟩
set_option maxRecDepth 100000 in
theorem tw_27_0 : (Cond.methodLink RL 97 yX7_told) ∈ lw_tbl := tb_3 _ (List.mem_of_getElem? (i := 79) rfl)
set_option maxRecDepth 100000 in
theorem tw_27_1 : (Cond.instanceMethod yX7_told) ∈ lw_tbl := tb_3 _ (List.mem_of_getElem? (i := 80) rfl)
set_option maxRecDepth 100000 in
theorem tw_27_2 : (Cond.selects RX7 yX7_told yX7_told) ∈ lw_tbl := tb_3 _ (List.mem_of_getElem? (i := 81) rfl)
set_option maxRecDepth 100000 in
theorem tw_27_3 : (Cond.code yX7_told cX7_told 2 (some .int)) ∈ lw_tbl := tb_3 _ (List.mem_of_getElem? (i := 82) rfl)
set_option maxRecDepth 100000 in
theorem tw_27_4 : (Cond.methodLink RL 100 yX8_told) ∈ lw_tbl := tb_4 _ (List.mem_of_getElem? (i := 100) rfl)
set_option maxRecDepth 100000 in
theorem tw_27_5 : (Cond.instanceMethod yX8_told) ∈ lw_tbl := tb_4 _ (List.mem_of_getElem? (i := 101) rfl)
set_option maxRecDepth 100000 in
theorem tw_27_6 : (Cond.selects RX8 yX8_told yX8_told) ∈ lw_tbl := tb_4 _ (List.mem_of_getElem? (i := 102) rfl)
set_option maxRecDepth 100000 in
theorem tw_27_7 : (Cond.code yX8_told cX8_told 2 (some .int)) ∈ lw_tbl := tb_4 _ (List.mem_of_getElem? (i := 103) rfl)
theorem tr_27 : ∀ w ∈ wsL_law_r27, w ∈ lw_tbl := List.forall_mem_cons.mpr ⟨tw_27_0, List.forall_mem_cons.mpr ⟨tw_27_1, List.forall_mem_cons.mpr ⟨tw_27_2, List.forall_mem_cons.mpr ⟨tw_27_3, List.forall_mem_cons.mpr ⟨tw_27_4, List.forall_mem_cons.mpr ⟨tw_27_5, List.forall_mem_cons.mpr ⟨tw_27_6, List.forall_mem_cons.mpr ⟨tw_27_7, fun _ h => absurd h List.not_mem_nil⟩⟩⟩⟩⟩⟩⟩⟩
set_option maxRecDepth 100000 in
theorem tf_X0_0 : u_lay RX0 TX0 0 ∈ lw_tbl := tb_1 _ (List.mem_of_getElem? (i := 39) rfl)
set_option maxRecDepth 100000 in
theorem tf_X0_1 : u_lay RX0 TX0 1 ∈ lw_tbl := tb_1 _ (List.mem_of_getElem? (i := 41) rfl)
set_option maxRecDepth 100000 in
theorem tf_X0_2 : u_lay RX0 TX0 2 ∈ lw_tbl := tb_1 _ (List.mem_of_getElem? (i := 43) rfl)
set_option maxRecDepth 100000 in
theorem tf_X0_3 : u_lay RX0 TX0 3 ∈ lw_tbl := tb_1 _ (List.mem_of_getElem? (i := 45) rfl)
theorem tF_X0 : ∀ w ∈ wsX00, w ∈ lw_tbl := by
  intro w hw
  obtain ⟨k, hk, rfl⟩ := List.mem_map.mp hw
  have hk := List.mem_range.mp hk
  match k, hk with
  | 0, _ => exact tf_X0_0
  | 1, _ => exact tf_X0_1
  | 2, _ => exact tf_X0_2
  | 3, _ => exact tf_X0_3
  | n + 4, h => exact absurd h (by omega)
set_option maxRecDepth 100000 in
theorem tf_X1_0 : u_lay RX1 TX1 0 ∈ lw_tbl := tb_1 _ (List.mem_of_getElem? (i := 160) rfl)
set_option maxRecDepth 100000 in
theorem tf_X1_1 : u_lay RX1 TX1 1 ∈ lw_tbl := tb_1 _ (List.mem_of_getElem? (i := 162) rfl)
set_option maxRecDepth 100000 in
theorem tf_X1_2 : u_lay RX1 TX1 2 ∈ lw_tbl := tb_1 _ (List.mem_of_getElem? (i := 164) rfl)
set_option maxRecDepth 100000 in
theorem tf_X1_3 : u_lay RX1 TX1 3 ∈ lw_tbl := tb_1 _ (List.mem_of_getElem? (i := 166) rfl)
theorem tF_X1 : ∀ w ∈ wsX10, w ∈ lw_tbl := by
  intro w hw
  obtain ⟨k, hk, rfl⟩ := List.mem_map.mp hw
  have hk := List.mem_range.mp hk
  match k, hk with
  | 0, _ => exact tf_X1_0
  | 1, _ => exact tf_X1_1
  | 2, _ => exact tf_X1_2
  | 3, _ => exact tf_X1_3
  | n + 4, h => exact absurd h (by omega)
set_option maxRecDepth 100000 in
theorem tf_X2_0 : u_lay RX2 TX2 0 ∈ lw_tbl := tb_1 _ (List.mem_of_getElem? (i := 124) rfl)
set_option maxRecDepth 100000 in
theorem tf_X2_1 : u_lay RX2 TX2 1 ∈ lw_tbl := tb_1 _ (List.mem_of_getElem? (i := 126) rfl)
set_option maxRecDepth 100000 in
theorem tf_X2_2 : u_lay RX2 TX2 2 ∈ lw_tbl := tb_1 _ (List.mem_of_getElem? (i := 128) rfl)
set_option maxRecDepth 100000 in
theorem tf_X2_3 : u_lay RX2 TX2 3 ∈ lw_tbl := tb_1 _ (List.mem_of_getElem? (i := 130) rfl)
theorem tF_X2 : ∀ w ∈ wsX20, w ∈ lw_tbl := by
  intro w hw
  obtain ⟨k, hk, rfl⟩ := List.mem_map.mp hw
  have hk := List.mem_range.mp hk
  match k, hk with
  | 0, _ => exact tf_X2_0
  | 1, _ => exact tf_X2_1
  | 2, _ => exact tf_X2_2
  | 3, _ => exact tf_X2_3
  | n + 4, h => exact absurd h (by omega)
set_option maxRecDepth 100000 in
theorem tf_X3_0 : u_lay RX3 TX3 0 ∈ lw_tbl := tb_1 _ (List.mem_of_getElem? (i := 94) rfl)
set_option maxRecDepth 100000 in
theorem tf_X3_1 : u_lay RX3 TX3 1 ∈ lw_tbl := tb_1 _ (List.mem_of_getElem? (i := 96) rfl)
theorem tF_X3 : ∀ w ∈ wsX30, w ∈ lw_tbl := by
  intro w hw
  obtain ⟨k, hk, rfl⟩ := List.mem_map.mp hw
  have hk := List.mem_range.mp hk
  match k, hk with
  | 0, _ => exact tf_X3_0
  | 1, _ => exact tf_X3_1
  | n + 2, h => exact absurd h (by omega)
set_option maxRecDepth 100000 in
theorem tf_X4_0 : u_lay RX4 TX4 0 ∈ lw_tbl := tb_1 _ (List.mem_of_getElem? (i := 69) rfl)
set_option maxRecDepth 100000 in
theorem tf_X4_1 : u_lay RX4 TX4 1 ∈ lw_tbl := tb_1 _ (List.mem_of_getElem? (i := 71) rfl)
set_option maxRecDepth 100000 in
theorem tf_X4_2 : u_lay RX4 TX4 2 ∈ lw_tbl := tb_1 _ (List.mem_of_getElem? (i := 73) rfl)
set_option maxRecDepth 100000 in
theorem tf_X4_3 : u_lay RX4 TX4 3 ∈ lw_tbl := tb_1 _ (List.mem_of_getElem? (i := 75) rfl)
set_option maxRecDepth 100000 in
theorem tf_X4_4 : u_lay RX4 TX4 4 ∈ lw_tbl := tb_1 _ (List.mem_of_getElem? (i := 77) rfl)
set_option maxRecDepth 100000 in
theorem tf_X4_5 : u_lay RX4 TX4 5 ∈ lw_tbl := tb_1 _ (List.mem_of_getElem? (i := 79) rfl)
set_option maxRecDepth 100000 in
theorem tf_X4_6 : u_lay RX4 TX4 6 ∈ lw_tbl := tb_1 _ (List.mem_of_getElem? (i := 81) rfl)
set_option maxRecDepth 100000 in
theorem tf_X4_7 : u_lay RX4 TX4 7 ∈ lw_tbl := tb_1 _ (List.mem_of_getElem? (i := 83) rfl)
theorem tF_X4 : ∀ w ∈ wsX40, w ∈ lw_tbl := by
  intro w hw
  obtain ⟨k, hk, rfl⟩ := List.mem_map.mp hw
  have hk := List.mem_range.mp hk
  match k, hk with
  | 0, _ => exact tf_X4_0
  | 1, _ => exact tf_X4_1
  | 2, _ => exact tf_X4_2
  | 3, _ => exact tf_X4_3
  | 4, _ => exact tf_X4_4
  | 5, _ => exact tf_X4_5
  | 6, _ => exact tf_X4_6
  | 7, _ => exact tf_X4_7
  | n + 8, h => exact absurd h (by omega)
set_option maxRecDepth 100000 in
theorem tf_X5_0 : u_lay RX5 TX5 0 ∈ lw_tbl := tb_1 _ (List.mem_of_getElem? (i := 108) rfl)
set_option maxRecDepth 100000 in
theorem tf_X5_1 : u_lay RX5 TX5 1 ∈ lw_tbl := tb_1 _ (List.mem_of_getElem? (i := 110) rfl)
theorem tF_X5 : ∀ w ∈ wsX50, w ∈ lw_tbl := by
  intro w hw
  obtain ⟨k, hk, rfl⟩ := List.mem_map.mp hw
  have hk := List.mem_range.mp hk
  match k, hk with
  | 0, _ => exact tf_X5_0
  | 1, _ => exact tf_X5_1
  | n + 2, h => exact absurd h (by omega)
set_option maxRecDepth 100000 in
theorem tf_X6_0 : u_lay RX6 TX6 0 ∈ lw_tbl := tb_1 _ (List.mem_of_getElem? (i := 142) rfl)
set_option maxRecDepth 100000 in
theorem tf_X6_1 : u_lay RX6 TX6 1 ∈ lw_tbl := tb_1 _ (List.mem_of_getElem? (i := 144) rfl)
set_option maxRecDepth 100000 in
theorem tf_X6_2 : u_lay RX6 TX6 2 ∈ lw_tbl := tb_1 _ (List.mem_of_getElem? (i := 146) rfl)
theorem tF_X6 : ∀ w ∈ wsX60, w ∈ lw_tbl := by
  intro w hw
  obtain ⟨k, hk, rfl⟩ := List.mem_map.mp hw
  have hk := List.mem_range.mp hk
  match k, hk with
  | 0, _ => exact tf_X6_0
  | 1, _ => exact tf_X6_1
  | 2, _ => exact tf_X6_2
  | n + 3, h => exact absurd h (by omega)
set_option maxRecDepth 100000 in
theorem tf_X7_0 : u_lay RX7 TX7 0 ∈ lw_tbl := tb_1 _ (List.mem_of_getElem? (i := 193) rfl)
set_option maxRecDepth 100000 in
theorem tf_X7_1 : u_lay RX7 TX7 1 ∈ lw_tbl := tb_1 _ (List.mem_of_getElem? (i := 195) rfl)
set_option maxRecDepth 100000 in
theorem tf_X7_2 : u_lay RX7 TX7 2 ∈ lw_tbl := tb_1 _ (List.mem_of_getElem? (i := 197) rfl)
set_option maxRecDepth 100000 in
theorem tf_X7_3 : u_lay RX7 TX7 3 ∈ lw_tbl := tb_1 _ (List.mem_of_getElem? (i := 199) rfl)
set_option maxRecDepth 100000 in
theorem tf_X7_4 : u_lay RX7 TX7 4 ∈ lw_tbl := tb_1 _ (List.mem_of_getElem? (i := 201) rfl)
set_option maxRecDepth 100000 in
theorem tf_X7_5 : u_lay RX7 TX7 5 ∈ lw_tbl := tb_1 _ (List.mem_of_getElem? (i := 203) rfl)
set_option maxRecDepth 100000 in
theorem tf_X7_6 : u_lay RX7 TX7 6 ∈ lw_tbl := tb_1 _ (List.mem_of_getElem? (i := 205) rfl)
set_option maxRecDepth 100000 in
theorem tf_X7_7 : u_lay RX7 TX7 7 ∈ lw_tbl := tb_1 _ (List.mem_of_getElem? (i := 207) rfl)
set_option maxRecDepth 100000 in
theorem tf_X7_8 : u_lay RX7 TX7 8 ∈ lw_tbl := tb_1 _ (List.mem_of_getElem? (i := 209) rfl)
set_option maxRecDepth 100000 in
theorem tf_X7_9 : u_lay RX7 TX7 9 ∈ lw_tbl := tb_1 _ (List.mem_of_getElem? (i := 211) rfl)
set_option maxRecDepth 100000 in
theorem tf_X7_10 : u_lay RX7 TX7 10 ∈ lw_tbl := tb_1 _ (List.mem_of_getElem? (i := 213) rfl)
set_option maxRecDepth 100000 in
theorem tf_X7_11 : u_lay RX7 TX7 11 ∈ lw_tbl := tb_1 _ (List.mem_of_getElem? (i := 215) rfl)
set_option maxRecDepth 100000 in
theorem tf_X7_12 : u_lay RX7 TX7 12 ∈ lw_tbl := tb_1 _ (List.mem_of_getElem? (i := 217) rfl)
set_option maxRecDepth 100000 in
theorem tf_X7_13 : u_lay RX7 TX7 13 ∈ lw_tbl := tb_1 _ (List.mem_of_getElem? (i := 219) rfl)
set_option maxRecDepth 100000 in
theorem tf_X7_14 : u_lay RX7 TX7 14 ∈ lw_tbl := tb_1 _ (List.mem_of_getElem? (i := 221) rfl)
set_option maxRecDepth 100000 in
theorem tf_X7_15 : u_lay RX7 TX7 15 ∈ lw_tbl := tb_1 _ (List.mem_of_getElem? (i := 223) rfl)
set_option maxRecDepth 100000 in
theorem tf_X7_16 : u_lay RX7 TX7 16 ∈ lw_tbl := tb_1 _ (List.mem_of_getElem? (i := 225) rfl)
set_option maxRecDepth 100000 in
theorem tf_X7_17 : u_lay RX7 TX7 17 ∈ lw_tbl := tb_1 _ (List.mem_of_getElem? (i := 227) rfl)
theorem tF_X7 : ∀ w ∈ wsX70, w ∈ lw_tbl := by
  intro w hw
  obtain ⟨k, hk, rfl⟩ := List.mem_map.mp hw
  have hk := List.mem_range.mp hk
  match k, hk with
  | 0, _ => exact tf_X7_0
  | 1, _ => exact tf_X7_1
  | 2, _ => exact tf_X7_2
  | 3, _ => exact tf_X7_3
  | 4, _ => exact tf_X7_4
  | 5, _ => exact tf_X7_5
  | 6, _ => exact tf_X7_6
  | 7, _ => exact tf_X7_7
  | 8, _ => exact tf_X7_8
  | 9, _ => exact tf_X7_9
  | 10, _ => exact tf_X7_10
  | 11, _ => exact tf_X7_11
  | 12, _ => exact tf_X7_12
  | 13, _ => exact tf_X7_13
  | 14, _ => exact tf_X7_14
  | 15, _ => exact tf_X7_15
  | 16, _ => exact tf_X7_16
  | 17, _ => exact tf_X7_17
  | n + 18, h => exact absurd h (by omega)
set_option maxRecDepth 100000 in
theorem tf_X8_0 : u_lay RX8 TX8 0 ∈ lw_tbl := tb_3 _ (List.mem_of_getElem? (i := 130) rfl)
set_option maxRecDepth 100000 in
theorem tf_X8_1 : u_lay RX8 TX8 1 ∈ lw_tbl := tb_3 _ (List.mem_of_getElem? (i := 132) rfl)
set_option maxRecDepth 100000 in
theorem tf_X8_2 : u_lay RX8 TX8 2 ∈ lw_tbl := tb_3 _ (List.mem_of_getElem? (i := 134) rfl)
set_option maxRecDepth 100000 in
theorem tf_X8_3 : u_lay RX8 TX8 3 ∈ lw_tbl := tb_3 _ (List.mem_of_getElem? (i := 136) rfl)
set_option maxRecDepth 100000 in
theorem tf_X8_4 : u_lay RX8 TX8 4 ∈ lw_tbl := tb_3 _ (List.mem_of_getElem? (i := 138) rfl)
set_option maxRecDepth 100000 in
theorem tf_X8_5 : u_lay RX8 TX8 5 ∈ lw_tbl := tb_3 _ (List.mem_of_getElem? (i := 140) rfl)
set_option maxRecDepth 100000 in
theorem tf_X8_6 : u_lay RX8 TX8 6 ∈ lw_tbl := tb_3 _ (List.mem_of_getElem? (i := 142) rfl)
set_option maxRecDepth 100000 in
theorem tf_X8_7 : u_lay RX8 TX8 7 ∈ lw_tbl := tb_3 _ (List.mem_of_getElem? (i := 144) rfl)
set_option maxRecDepth 100000 in
theorem tf_X8_8 : u_lay RX8 TX8 8 ∈ lw_tbl := tb_3 _ (List.mem_of_getElem? (i := 146) rfl)
set_option maxRecDepth 100000 in
theorem tf_X8_9 : u_lay RX8 TX8 9 ∈ lw_tbl := tb_3 _ (List.mem_of_getElem? (i := 148) rfl)
set_option maxRecDepth 100000 in
theorem tf_X8_10 : u_lay RX8 TX8 10 ∈ lw_tbl := tb_3 _ (List.mem_of_getElem? (i := 150) rfl)
set_option maxRecDepth 100000 in
theorem tf_X8_11 : u_lay RX8 TX8 11 ∈ lw_tbl := tb_3 _ (List.mem_of_getElem? (i := 152) rfl)
set_option maxRecDepth 100000 in
theorem tf_X8_12 : u_lay RX8 TX8 12 ∈ lw_tbl := tb_3 _ (List.mem_of_getElem? (i := 154) rfl)
set_option maxRecDepth 100000 in
theorem tf_X8_13 : u_lay RX8 TX8 13 ∈ lw_tbl := tb_3 _ (List.mem_of_getElem? (i := 156) rfl)
set_option maxRecDepth 100000 in
theorem tf_X8_14 : u_lay RX8 TX8 14 ∈ lw_tbl := tb_3 _ (List.mem_of_getElem? (i := 158) rfl)
set_option maxRecDepth 100000 in
theorem tf_X8_15 : u_lay RX8 TX8 15 ∈ lw_tbl := tb_3 _ (List.mem_of_getElem? (i := 160) rfl)
set_option maxRecDepth 100000 in
theorem tf_X8_16 : u_lay RX8 TX8 16 ∈ lw_tbl := tb_3 _ (List.mem_of_getElem? (i := 162) rfl)
set_option maxRecDepth 100000 in
theorem tf_X8_17 : u_lay RX8 TX8 17 ∈ lw_tbl := tb_3 _ (List.mem_of_getElem? (i := 164) rfl)
set_option maxRecDepth 100000 in
theorem tf_X8_18 : u_lay RX8 TX8 18 ∈ lw_tbl := tb_3 _ (List.mem_of_getElem? (i := 166) rfl)
set_option maxRecDepth 100000 in
theorem tf_X8_19 : u_lay RX8 TX8 19 ∈ lw_tbl := tb_3 _ (List.mem_of_getElem? (i := 168) rfl)
set_option maxRecDepth 100000 in
theorem tf_X8_20 : u_lay RX8 TX8 20 ∈ lw_tbl := tb_3 _ (List.mem_of_getElem? (i := 170) rfl)
set_option maxRecDepth 100000 in
theorem tf_X8_21 : u_lay RX8 TX8 21 ∈ lw_tbl := tb_3 _ (List.mem_of_getElem? (i := 172) rfl)
set_option maxRecDepth 100000 in
theorem tf_X8_22 : u_lay RX8 TX8 22 ∈ lw_tbl := tb_3 _ (List.mem_of_getElem? (i := 174) rfl)
set_option maxRecDepth 100000 in
theorem tf_X8_23 : u_lay RX8 TX8 23 ∈ lw_tbl := tb_3 _ (List.mem_of_getElem? (i := 176) rfl)
set_option maxRecDepth 100000 in
theorem tf_X8_24 : u_lay RX8 TX8 24 ∈ lw_tbl := tb_3 _ (List.mem_of_getElem? (i := 178) rfl)
set_option maxRecDepth 100000 in
theorem tf_X8_25 : u_lay RX8 TX8 25 ∈ lw_tbl := tb_3 _ (List.mem_of_getElem? (i := 180) rfl)
set_option maxRecDepth 100000 in
theorem tf_X8_26 : u_lay RX8 TX8 26 ∈ lw_tbl := tb_3 _ (List.mem_of_getElem? (i := 182) rfl)
set_option maxRecDepth 100000 in
theorem tf_X8_27 : u_lay RX8 TX8 27 ∈ lw_tbl := tb_3 _ (List.mem_of_getElem? (i := 184) rfl)
set_option maxRecDepth 100000 in
theorem tf_X8_28 : u_lay RX8 TX8 28 ∈ lw_tbl := tb_3 _ (List.mem_of_getElem? (i := 186) rfl)
set_option maxRecDepth 100000 in
theorem tf_X8_29 : u_lay RX8 TX8 29 ∈ lw_tbl := tb_3 _ (List.mem_of_getElem? (i := 188) rfl)
set_option maxRecDepth 100000 in
theorem tf_X8_30 : u_lay RX8 TX8 30 ∈ lw_tbl := tb_3 _ (List.mem_of_getElem? (i := 190) rfl)
set_option maxRecDepth 100000 in
theorem tf_X8_31 : u_lay RX8 TX8 31 ∈ lw_tbl := tb_3 _ (List.mem_of_getElem? (i := 192) rfl)
set_option maxRecDepth 100000 in
theorem tf_X8_32 : u_lay RX8 TX8 32 ∈ lw_tbl := tb_3 _ (List.mem_of_getElem? (i := 194) rfl)
set_option maxRecDepth 100000 in
theorem tf_X8_33 : u_lay RX8 TX8 33 ∈ lw_tbl := tb_3 _ (List.mem_of_getElem? (i := 196) rfl)
set_option maxRecDepth 100000 in
theorem tf_X8_34 : u_lay RX8 TX8 34 ∈ lw_tbl := tb_3 _ (List.mem_of_getElem? (i := 198) rfl)
set_option maxRecDepth 100000 in
theorem tf_X8_35 : u_lay RX8 TX8 35 ∈ lw_tbl := tb_3 _ (List.mem_of_getElem? (i := 200) rfl)
set_option maxRecDepth 100000 in
theorem tf_X8_36 : u_lay RX8 TX8 36 ∈ lw_tbl := tb_3 _ (List.mem_of_getElem? (i := 202) rfl)
set_option maxRecDepth 100000 in
theorem tf_X8_37 : u_lay RX8 TX8 37 ∈ lw_tbl := tb_3 _ (List.mem_of_getElem? (i := 204) rfl)
theorem tF_X8 : ∀ w ∈ wsX80, w ∈ lw_tbl := by
  intro w hw
  obtain ⟨k, hk, rfl⟩ := List.mem_map.mp hw
  have hk := List.mem_range.mp hk
  match k, hk with
  | 0, _ => exact tf_X8_0
  | 1, _ => exact tf_X8_1
  | 2, _ => exact tf_X8_2
  | 3, _ => exact tf_X8_3
  | 4, _ => exact tf_X8_4
  | 5, _ => exact tf_X8_5
  | 6, _ => exact tf_X8_6
  | 7, _ => exact tf_X8_7
  | 8, _ => exact tf_X8_8
  | 9, _ => exact tf_X8_9
  | 10, _ => exact tf_X8_10
  | 11, _ => exact tf_X8_11
  | 12, _ => exact tf_X8_12
  | 13, _ => exact tf_X8_13
  | 14, _ => exact tf_X8_14
  | 15, _ => exact tf_X8_15
  | 16, _ => exact tf_X8_16
  | 17, _ => exact tf_X8_17
  | 18, _ => exact tf_X8_18
  | 19, _ => exact tf_X8_19
  | 20, _ => exact tf_X8_20
  | 21, _ => exact tf_X8_21
  | 22, _ => exact tf_X8_22
  | 23, _ => exact tf_X8_23
  | 24, _ => exact tf_X8_24
  | 25, _ => exact tf_X8_25
  | 26, _ => exact tf_X8_26
  | 27, _ => exact tf_X8_27
  | 28, _ => exact tf_X8_28
  | 29, _ => exact tf_X8_29
  | 30, _ => exact tf_X8_30
  | 31, _ => exact tf_X8_31
  | 32, _ => exact tf_X8_32
  | 33, _ => exact tf_X8_33
  | 34, _ => exact tf_X8_34
  | 35, _ => exact tf_X8_35
  | 36, _ => exact tf_X8_36
  | 37, _ => exact tf_X8_37
  | n + 38, h => exact absurd h (by omega)
theorem law_in : ∀ w ∈ wsL_law, w ∈ lw_tbl := List.forall_mem_append.mpr ⟨List.forall_mem_append.mpr ⟨List.forall_mem_append.mpr ⟨List.forall_mem_append.mpr ⟨List.forall_mem_append.mpr ⟨List.forall_mem_append.mpr ⟨List.forall_mem_append.mpr ⟨List.forall_mem_append.mpr ⟨List.forall_mem_append.mpr ⟨List.forall_mem_append.mpr ⟨List.forall_mem_append.mpr ⟨tr_1, List.forall_mem_append.mpr ⟨tr_2, List.forall_mem_append.mpr ⟨tr_3, List.forall_mem_append.mpr ⟨tr_4, List.forall_mem_append.mpr ⟨tr_5, List.forall_mem_append.mpr ⟨tr_6, List.forall_mem_append.mpr ⟨tr_7, List.forall_mem_append.mpr ⟨tr_8, List.forall_mem_append.mpr ⟨tr_9, List.forall_mem_append.mpr ⟨tr_10, List.forall_mem_append.mpr ⟨tr_11, List.forall_mem_append.mpr ⟨tr_12, List.forall_mem_append.mpr ⟨tr_13, List.forall_mem_append.mpr ⟨tr_14, List.forall_mem_append.mpr ⟨tr_15, List.forall_mem_append.mpr ⟨tr_16, List.forall_mem_append.mpr ⟨tr_17, List.forall_mem_append.mpr ⟨tr_18, List.forall_mem_append.mpr ⟨tr_19, List.forall_mem_append.mpr ⟨tr_20, List.forall_mem_append.mpr ⟨tr_21, List.forall_mem_append.mpr ⟨tr_22, List.forall_mem_append.mpr ⟨tr_23, List.forall_mem_append.mpr ⟨tr_24, List.forall_mem_append.mpr ⟨tr_25, List.forall_mem_append.mpr ⟨tr_26, tr_27⟩⟩⟩⟩⟩⟩⟩⟩⟩⟩⟩⟩⟩⟩⟩⟩⟩⟩⟩⟩⟩⟩⟩⟩⟩⟩, tF_X7⟩, tF_X8⟩, tF_X0⟩, tF_X4⟩, tF_X3⟩, tF_X5⟩, tF_X2⟩, tF_X6⟩, tF_X1⟩, fun _ h => absurd h List.not_mem_nil⟩
set_option maxRecDepth 100000 in
theorem nl_0 : (Cond.laysStatic "OutsideAsks" "FIRST_SETTINGS" "[I") ∈ lw_tbl := tb_1 _ (List.mem_of_getElem? (i := 21) rfl)
set_option maxRecDepth 100000 in
theorem nl_1 : (Cond.laysStatic "OutsideAsks" "LEAST_SETTINGS" "[I") ∈ lw_tbl := tb_1 _ (List.mem_of_getElem? (i := 235) rfl)
set_option maxRecDepth 100000 in
theorem nl_2 : (Cond.laysStatic "OutsideAsks" "GREATEST_SETTINGS" "[I") ∈ lw_tbl := tb_1 _ (List.mem_of_getElem? (i := 237) rfl)
set_option maxRecDepth 100000 in
theorem nl_3 : (Cond.castable "[I" "java/lang/Cloneable") ∈ lw_tbl := tb_1 _ (List.mem_of_getElem? (i := 27) rfl)
set_option maxRecDepth 100000 in
theorem nf_120 : (Cond.fieldLinkNest RX7 120 "OutsideAsks$Progress" "items" "I" "OutsideAsks") ∈ lw_tbl := tb_1 _ (List.mem_of_getElem? (i := 62) rfl)
set_option maxRecDepth 100000 in
theorem nf_192 : (Cond.fieldLinkNest RX7 192 "OutsideAsks$Progress" "outs" "I" "OutsideAsks") ∈ lw_tbl := tb_1 _ (List.mem_of_getElem? (i := 64) rfl)
set_option maxRecDepth 100000 in
theorem nf_228 : (Cond.fieldLinkNest RX7 228 "OutsideAsks$Progress" "waiting" "I" "OutsideAsks") ∈ lw_tbl := tb_1 _ (List.mem_of_getElem? (i := 66) rfl)
set_option maxRecDepth 100000 in
theorem nf_232 : (Cond.fieldLinkNest RX7 232 "OutsideAsks$Progress" "settled" "I" "OutsideAsks") ∈ lw_tbl := tb_1 _ (List.mem_of_getElem? (i := 68) rfl)
set_option maxRecDepth 100000 in
theorem nf_189 : (Cond.fieldLinkNest RX7 189 "OutsideAsks$Line" "size" "I" "OutsideAsks") ∈ lw_tbl := tb_1 _ (List.mem_of_getElem? (i := 123) rfl)
set_option maxRecDepth 100000 in
theorem nf_231 : (Cond.fieldLinkNest RX7 231 "OutsideAsks$RowList" "size" "I" "OutsideAsks") ∈ lw_tbl := tb_1 _ (List.mem_of_getElem? (i := 107) rfl)
set_option maxRecDepth 100000 in
theorem nf_244 : (Cond.fieldLinkNest RX7 244 "OutsideAsks$KeptAnswers" "size" "I" "OutsideAsks") ∈ lw_tbl := tb_1 _ (List.mem_of_getElem? (i := 159) rfl)
set_option maxRecDepth 100000 in
theorem nm_23 : (Cond.methodLinkNest RX7 23 yX0_init "OutsideAsks") ∈ lw_tbl := tb_1 _ (List.mem_of_getElem? (i := 31) rfl)
set_option maxRecDepth 100000 in
theorem nm_30 : (Cond.methodLinkNest RX7 30 yX4_init "OutsideAsks") ∈ lw_tbl := tb_1 _ (List.mem_of_getElem? (i := 53) rfl)
set_option maxRecDepth 100000 in
theorem nm_40 : (Cond.methodLinkNest RX7 40 yX3_init "OutsideAsks") ∈ lw_tbl := tb_1 _ (List.mem_of_getElem? (i := 88) rfl)
set_option maxRecDepth 100000 in
theorem nm_47 : (Cond.methodLinkNest RX7 47 yX5_init "OutsideAsks") ∈ lw_tbl := tb_1 _ (List.mem_of_getElem? (i := 101) rfl)
set_option maxRecDepth 100000 in
theorem nm_60 : (Cond.methodLinkNest RX7 60 yX2_init "OutsideAsks") ∈ lw_tbl := tb_1 _ (List.mem_of_getElem? (i := 115) rfl)
set_option maxRecDepth 100000 in
theorem nm_70 : (Cond.methodLinkNest RX7 70 yX6_init "OutsideAsks") ∈ lw_tbl := tb_1 _ (List.mem_of_getElem? (i := 135) rfl)
set_option maxRecDepth 100000 in
theorem nm_77 : (Cond.methodLinkNest RX7 77 yX1_init "OutsideAsks") ∈ lw_tbl := tb_1 _ (List.mem_of_getElem? (i := 151) rfl)
