/-! ===== BEGIN words of one list among another's, by their places ===== -/
theorem goodIn_r {big : List Cond} (ws : List Cond) (ps : List Nat) (hp : ws = ps.filterMap (fun i => big[i]?)) (h : ws.all goodWord = true) : GoodIn big ws := by
  intro w hw
  have h1 := List.all_eq_true.mp h w hw
  rw [hp] at hw
  obtain ⟨i, -, hi⟩ := List.mem_filterMap.mp hw
  have hm : w ∈ big := by first | exact List.mem_of_getElem? hi | exact List.getElem?_mem hi
  exact ⟨hm, good_of_word h1⟩
theorem goodIn_app {big a b : List Cond} (ha : GoodIn big a) (hb : GoodIn big b) : GoodIn big (a ++ b) := fun w h => (List.mem_append.mp h).elim (ha w) (hb w)
theorem goodIn_ca {big a b : List Cond} {c : Cond} (ha : GoodIn big (c :: a)) (hb : GoodIn big b) : GoodIn big (c :: (a ++ b)) := fun w h => (List.mem_cons.mp h).elim (fun e => ha w (List.mem_cons.mpr (Or.inl e))) (fun h => (List.mem_append.mp h).elim (fun h => ha w (List.mem_cons.mpr (Or.inr h))) (hb w))
theorem goodIn_sub {big ws : List Cond} (hm : ∀ w ∈ ws, w ∈ big) (h : ws.all goodWord = true) : GoodIn big ws := fun w hw => ⟨hm w hw, good_of_word (List.all_eq_true.mp h w hw)⟩
/-! ===== END ===== -/

/-! ===== BEGIN printed: names, fields, word lists, decode rows ===== -/
def RX0 : String := "OutsideAsks$Items"
def TX0 : u_T := fun k => match k with
  | 0 => ("OutsideAsks$Items", "keys", "[J", true)
  | 1 => ("OutsideAsks$Items", "values", "[J", true)
  | 2 => ("OutsideAsks$Items", "marks", "[Z", true)
  | _ => ("OutsideAsks$Items", "dues", "[I", true)
def tyX0 : Nat → FieldType := fun k => match k with
  | 0 => .array .long
  | 1 => .array .long
  | 2 => .array .boolean
  | _ => .array .int
abbrev wsX00 : List Cond := u_ws RX0 TX0 4
theorem nmX0 : ∀ a, a < 4 → ∀ b, b < 4 → a ≠ b → (TX0 a).2.1 ≠ (TX0 b).2.1 := by decide +kernel
theorem tyX0_ok : ∀ k, k < 4 → parseFieldDescriptor (TX0 k).2.2.1 = some (tyX0 k) := by decide +kernel
abbrev cX0_init : ByteArray := prog_2_method_1_code
def yX0_init : MethodName := ⟨RX0, "<init>", "()V"⟩
abbrev cX0_noteRow : ByteArray := prog_2_method_2_code
def yX0_noteRow : MethodName := ⟨RX0, "noteRow", "(IJJ)V"⟩
abbrev cX0_noteMark : ByteArray := prog_2_method_3_code
def yX0_noteMark : MethodName := ⟨RX0, "noteMark", "(I)V"⟩
abbrev cX0_keyOf : ByteArray := prog_2_method_4_code
def yX0_keyOf : MethodName := ⟨RX0, "keyOf", "(I)J"⟩
abbrev cX0_valueOf : ByteArray := prog_2_method_5_code
def yX0_valueOf : MethodName := ⟨RX0, "valueOf", "(I)J"⟩
abbrev cX0_isMark : ByteArray := prog_2_method_6_code
def yX0_isMark : MethodName := ⟨RX0, "isMark", "(I)Z"⟩
abbrev cX0_dueOf : ByteArray := prog_2_method_7_code
def yX0_dueOf : MethodName := ⟨RX0, "dueOf", "(I)I"⟩
abbrev cX0_setDue : ByteArray := prog_2_method_8_code
def yX0_setDue : MethodName := ⟨RX0, "setDue", "(II)V"⟩
abbrev cX0_mayHave : ByteArray := prog_2_method_9_code
def yX0_mayHave : MethodName := ⟨RX0, "mayHave", "(I)Z"⟩
def RX1 : String := "OutsideAsks$KeptAnswers"
def TX1 : u_T := fun k => match k with
  | 0 => ("OutsideAsks$KeptAnswers", "keys", "[J", true)
  | 1 => ("OutsideAsks$KeptAnswers", "values", "[J", true)
  | 2 => ("OutsideAsks$KeptAnswers", "ends", "[I", true)
  | _ => ("OutsideAsks$KeptAnswers", "size", "I", false)
def tyX1 : Nat → FieldType := fun k => match k with
  | 0 => .array .long
  | 1 => .array .long
  | 2 => .array .int
  | _ => .int
abbrev wsX10 : List Cond := u_ws RX1 TX1 4
theorem nmX1 : ∀ a, a < 4 → ∀ b, b < 4 → a ≠ b → (TX1 a).2.1 ≠ (TX1 b).2.1 := by decide +kernel
theorem tyX1_ok : ∀ k, k < 4 → parseFieldDescriptor (TX1 k).2.2.1 = some (tyX1 k) := by decide +kernel
abbrev cX1_init : ByteArray := prog_3_method_1_code
def yX1_init : MethodName := ⟨RX1, "<init>", "()V"⟩
abbrev cX1_endOf : ByteArray := prog_3_method_2_code
def yX1_endOf : MethodName := ⟨RX1, "endOf", "(J)I"⟩
abbrev cX1_valueOf : ByteArray := prog_3_method_3_code
def yX1_valueOf : MethodName := ⟨RX1, "valueOf", "(J)J"⟩
abbrev cX1_keep : ByteArray := prog_3_method_4_code
def yX1_keep : MethodName := ⟨RX1, "keep", "(JJI)V"⟩
abbrev cX1_forgetAll : ByteArray := prog_3_method_5_code
def yX1_forgetAll : MethodName := ⟨RX1, "forgetAll", "()V"⟩
abbrev cX1_placeFor : ByteArray := prog_3_method_6_code
def yX1_placeFor : MethodName := ⟨RX1, "placeFor", "(J)I"⟩
abbrev cX1_firstToGo : ByteArray := prog_3_method_7_code
def yX1_firstToGo : MethodName := ⟨RX1, "firstToGo", "()I"⟩
abbrev cX1_find : ByteArray := prog_3_method_8_code
def yX1_find : MethodName := ⟨RX1, "find", "(J)I"⟩
def RX2 : String := "OutsideAsks$Line"
def TX2 : u_T := fun k => match k with
  | 0 => ("OutsideAsks$Line", "rows", "[I", true)
  | 1 => ("OutsideAsks$Line", "causes", "[I", true)
  | 2 => ("OutsideAsks$Line", "values", "[J", true)
  | _ => ("OutsideAsks$Line", "size", "I", false)
def tyX2 : Nat → FieldType := fun k => match k with
  | 0 => .array .int
  | 1 => .array .int
  | 2 => .array .long
  | _ => .int
abbrev wsX20 : List Cond := u_ws RX2 TX2 4
theorem nmX2 : ∀ a, a < 4 → ∀ b, b < 4 → a ≠ b → (TX2 a).2.1 ≠ (TX2 b).2.1 := by decide +kernel
theorem tyX2_ok : ∀ k, k < 4 → parseFieldDescriptor (TX2 k).2.2.1 = some (tyX2 k) := by decide +kernel
abbrev cX2_init : ByteArray := prog_4_method_1_code
def yX2_init : MethodName := ⟨RX2, "<init>", "()V"⟩
abbrev cX2_has : ByteArray := prog_4_method_2_code
def yX2_has : MethodName := ⟨RX2, "has", "(I)Z"⟩
abbrev cX2_rowAt : ByteArray := prog_4_method_3_code
def yX2_rowAt : MethodName := ⟨RX2, "rowAt", "(I)I"⟩
abbrev cX2_causeAt : ByteArray := prog_4_method_4_code
def yX2_causeAt : MethodName := ⟨RX2, "causeAt", "(I)I"⟩
abbrev cX2_valueAt : ByteArray := prog_4_method_5_code
def yX2_valueAt : MethodName := ⟨RX2, "valueAt", "(I)J"⟩
abbrev cX2_setOut : ByteArray := prog_4_method_6_code
def yX2_setOut : MethodName := ⟨RX2, "setOut", "(IIJ)V"⟩
abbrev cX2_removeAt : ByteArray := prog_4_method_7_code
def yX2_removeAt : MethodName := ⟨RX2, "removeAt", "(I)V"⟩
def RX3 : String := "OutsideAsks$OutLog"
def TX3 : u_T := fun k => match k with
  | 0 => ("OutsideAsks$OutLog", "items", "[I", true)
  | _ => ("OutsideAsks$OutLog", "ticks", "[I", true)
def tyX3 : Nat → FieldType := fun k => match k with
  | 0 => .array .int
  | _ => .array .int
abbrev wsX30 : List Cond := u_ws RX3 TX3 2
theorem nmX3 : ∀ a, a < 2 → ∀ b, b < 2 → a ≠ b → (TX3 a).2.1 ≠ (TX3 b).2.1 := by decide +kernel
theorem tyX3_ok : ∀ k, k < 2 → parseFieldDescriptor (TX3 k).2.2.1 = some (tyX3 k) := by decide +kernel
abbrev cX3_init : ByteArray := prog_5_method_1_code
def yX3_init : MethodName := ⟨RX3, "<init>", "()V"⟩
abbrev cX3_write : ByteArray := prog_5_method_2_code
def yX3_write : MethodName := ⟨RX3, "write", "(III)V"⟩
abbrev cX3_itemAt : ByteArray := prog_5_method_3_code
def yX3_itemAt : MethodName := ⟨RX3, "itemAt", "(I)I"⟩
abbrev cX3_tickAt : ByteArray := prog_5_method_4_code
def yX3_tickAt : MethodName := ⟨RX3, "tickAt", "(I)I"⟩
def RX4 : String := "OutsideAsks$Progress"
def TX4 : u_T := fun k => match k with
  | 0 => ("OutsideAsks$Progress", "states", "[I", true)
  | 1 => ("OutsideAsks$Progress", "results", "[I", true)
  | 2 => ("OutsideAsks$Progress", "tries", "[I", true)
  | 3 => ("OutsideAsks$Progress", "settledValues", "[J", true)
  | 4 => ("OutsideAsks$Progress", "items", "I", false)
  | 5 => ("OutsideAsks$Progress", "outs", "I", false)
  | 6 => ("OutsideAsks$Progress", "waiting", "I", false)
  | _ => ("OutsideAsks$Progress", "settled", "I", false)
def tyX4 : Nat → FieldType := fun k => match k with
  | 0 => .array .int
  | 1 => .array .int
  | 2 => .array .int
  | 3 => .array .long
  | 4 => .int
  | 5 => .int
  | 6 => .int
  | _ => .int
abbrev wsX40 : List Cond := u_ws RX4 TX4 8
theorem nmX4 : ∀ a, a < 8 → ∀ b, b < 8 → a ≠ b → (TX4 a).2.1 ≠ (TX4 b).2.1 := by decide +kernel
theorem tyX4_ok : ∀ k, k < 8 → parseFieldDescriptor (TX4 k).2.2.1 = some (tyX4 k) := by decide +kernel
abbrev cX4_init : ByteArray := prog_6_method_1_code
def yX4_init : MethodName := ⟨RX4, "<init>", "()V"⟩
abbrev cX4_hasItem : ByteArray := prog_6_method_2_code
def yX4_hasItem : MethodName := ⟨RX4, "hasItem", "(I)Z"⟩
abbrev cX4_stateOf : ByteArray := prog_6_method_3_code
def yX4_stateOf : MethodName := ⟨RX4, "stateOf", "(I)I"⟩
abbrev cX4_resultOf : ByteArray := prog_6_method_4_code
def yX4_resultOf : MethodName := ⟨RX4, "resultOf", "(I)I"⟩
abbrev cX4_triesOf : ByteArray := prog_6_method_5_code
def yX4_triesOf : MethodName := ⟨RX4, "triesOf", "(I)I"⟩
abbrev cX4_valueOf : ByteArray := prog_6_method_6_code
def yX4_valueOf : MethodName := ⟨RX4, "valueOf", "(I)J"⟩
abbrev cX4_addRow : ByteArray := prog_6_method_7_code
def yX4_addRow : MethodName := ⟨RX4, "addRow", "()V"⟩
abbrev cX4_addMark : ByteArray := prog_6_method_8_code
def yX4_addMark : MethodName := ⟨RX4, "addMark", "()V"⟩
abbrev cX4_startTrying : ByteArray := prog_6_method_9_code
def yX4_startTrying : MethodName := ⟨RX4, "startTrying", "(I)V"⟩
abbrev cX4_addTry : ByteArray := prog_6_method_10_code
def yX4_addTry : MethodName := ⟨RX4, "addTry", "(I)V"⟩
abbrev cX4_settleRow : ByteArray := prog_6_method_11_code
def yX4_settleRow : MethodName := ⟨RX4, "settleRow", "(IIJ)V"⟩
abbrev cX4_goOut : ByteArray := prog_6_method_12_code
def yX4_goOut : MethodName := ⟨RX4, "goOut", "(I)V"⟩
abbrev cX4_copyFrom : ByteArray := prog_6_method_13_code
def yX4_copyFrom : MethodName := ⟨RX4, "copyFrom", "(LOutsideAsks$Progress;)V"⟩
abbrev cX4_goBackTo : ByteArray := prog_6_method_14_code
def yX4_goBackTo : MethodName := ⟨RX4, "goBackTo", "(LOutsideAsks$Progress;)V"⟩
abbrev cX4_becomeGone : ByteArray := prog_6_method_15_code
def yX4_becomeGone : MethodName := ⟨RX4, "becomeGone", "(I)V"⟩
abbrev cX4_copyItems : ByteArray := prog_6_method_16_code
def yX4_copyItems : MethodName := ⟨RX4, "copyItems", "(LOutsideAsks$Progress;)V"⟩
def RX5 : String := "OutsideAsks$RowList"
def TX5 : u_T := fun k => match k with
  | 0 => ("OutsideAsks$RowList", "rows", "[I", true)
  | _ => ("OutsideAsks$RowList", "size", "I", false)
def tyX5 : Nat → FieldType := fun k => match k with
  | 0 => .array .int
  | _ => .int
abbrev wsX50 : List Cond := u_ws RX5 TX5 2
theorem nmX5 : ∀ a, a < 2 → ∀ b, b < 2 → a ≠ b → (TX5 a).2.1 ≠ (TX5 b).2.1 := by decide +kernel
theorem tyX5_ok : ∀ k, k < 2 → parseFieldDescriptor (TX5 k).2.2.1 = some (tyX5 k) := by decide +kernel
abbrev cX5_init : ByteArray := prog_7_method_1_code
def yX5_init : MethodName := ⟨RX5, "<init>", "()V"⟩
abbrev cX5_at : ByteArray := prog_7_method_2_code
def yX5_at : MethodName := ⟨RX5, "at", "(I)I"⟩
abbrev cX5_find : ByteArray := prog_7_method_3_code
def yX5_find : MethodName := ⟨RX5, "find", "(I)I"⟩
abbrev cX5_append : ByteArray := prog_7_method_4_code
def yX5_append : MethodName := ⟨RX5, "append", "(I)V"⟩
abbrev cX5_removeAt : ByteArray := prog_7_method_5_code
def yX5_removeAt : MethodName := ⟨RX5, "removeAt", "(I)V"⟩
abbrev cX5_clear : ByteArray := prog_7_method_6_code
def yX5_clear : MethodName := ⟨RX5, "clear", "()V"⟩
def RX6 : String := "OutsideAsks$Service"
def TX6 : u_T := fun k => match k with
  | 0 => ("OutsideAsks$Service", "keys", "[J", true)
  | 1 => ("OutsideAsks$Service", "acts", "[I", true)
  | _ => ("OutsideAsks$Service", "latestAnswers", "[J", true)
def tyX6 : Nat → FieldType := fun k => match k with
  | 0 => .array .long
  | 1 => .array .int
  | _ => .array .long
abbrev wsX60 : List Cond := u_ws RX6 TX6 3
theorem nmX6 : ∀ a, a < 3 → ∀ b, b < 3 → a ≠ b → (TX6 a).2.1 ≠ (TX6 b).2.1 := by decide +kernel
theorem tyX6_ok : ∀ k, k < 3 → parseFieldDescriptor (TX6 k).2.2.1 = some (tyX6 k) := by decide +kernel
abbrev cX6_init : ByteArray := prog_8_method_1_code
def yX6_init : MethodName := ⟨RX6, "<init>", "()V"⟩
abbrev cX6_countOf : ByteArray := prog_8_method_2_code
def yX6_countOf : MethodName := ⟨RX6, "countOf", "(J)I"⟩
abbrev cX6_answerTo : ByteArray := prog_8_method_3_code
def yX6_answerTo : MethodName := ⟨RX6, "answerTo", "(I)J"⟩
abbrev cX6_takeAsk : ByteArray := prog_8_method_4_code
def yX6_takeAsk : MethodName := ⟨RX6, "takeAsk", "(IJJZ)Z"⟩
def RX7 : String := "OutsideAsks"
def TX7 : u_T := fun k => match k with
  | 0 => ("OutsideAsks", "most", "I", true)
  | 1 => ("OutsideAsks", "ordered", "Z", true)
  | 2 => ("OutsideAsks", "settings", "[I", true)
  | 3 => ("OutsideAsks", "items", "LOutsideAsks$Items;", true)
  | 4 => ("OutsideAsks", "live", "LOutsideAsks$Progress;", true)
  | 5 => ("OutsideAsks", "saved", "LOutsideAsks$Progress;", true)
  | 6 => ("OutsideAsks", "outLog", "LOutsideAsks$OutLog;", true)
  | 7 => ("OutsideAsks", "working", "LOutsideAsks$RowList;", true)
  | 8 => ("OutsideAsks", "queue", "LOutsideAsks$RowList;", true)
  | 9 => ("OutsideAsks", "overdue", "LOutsideAsks$RowList;", true)
  | 10 => ("OutsideAsks", "asks", "LOutsideAsks$Line;", true)
  | 11 => ("OutsideAsks", "answers", "LOutsideAsks$Line;", true)
  | 12 => ("OutsideAsks", "service", "LOutsideAsks$Service;", true)
  | 13 => ("OutsideAsks", "keptAnswers", "LOutsideAsks$KeptAnswers;", true)
  | 14 => ("OutsideAsks", "now", "I", false)
  | 15 => ("OutsideAsks", "sentNow", "I", false)
  | 16 => ("OutsideAsks", "sentInAll", "I", false)
  | _ => ("OutsideAsks", "restarts", "I", false)
def tyX7 : Nat → FieldType := fun k => match k with
  | 0 => .int
  | 1 => .boolean
  | 2 => .array .int
  | 3 => .object "OutsideAsks$Items"
  | 4 => .object "OutsideAsks$Progress"
  | 5 => .object "OutsideAsks$Progress"
  | 6 => .object "OutsideAsks$OutLog"
  | 7 => .object "OutsideAsks$RowList"
  | 8 => .object "OutsideAsks$RowList"
  | 9 => .object "OutsideAsks$RowList"
  | 10 => .object "OutsideAsks$Line"
  | 11 => .object "OutsideAsks$Line"
  | 12 => .object "OutsideAsks$Service"
  | 13 => .object "OutsideAsks$KeptAnswers"
  | 14 => .int
  | 15 => .int
  | 16 => .int
  | _ => .int
abbrev wsX70 : List Cond := u_ws RX7 TX7 18
theorem nmX7 : ∀ a, a < 18 → ∀ b, b < 18 → a ≠ b → (TX7 a).2.1 ≠ (TX7 b).2.1 := by decide +kernel
theorem tyX7_ok : ∀ k, k < 18 → parseFieldDescriptor (TX7 k).2.2.1 = some (tyX7 k) := by decide +kernel
abbrev cX7_init : ByteArray := prog_1_method_1_code
def yX7_init : MethodName := ⟨RX7, "<init>", "(II)V"⟩
abbrev cX7_set : ByteArray := prog_1_method_2_code
def yX7_set : MethodName := ⟨RX7, "set", "(II)I"⟩
abbrev cX7_row : ByteArray := prog_1_method_3_code
def yX7_row : MethodName := ⟨RX7, "row", "(JJ)I"⟩
abbrev cX7_mark : ByteArray := prog_1_method_4_code
def yX7_mark : MethodName := ⟨RX7, "mark", "()I"⟩
abbrev cX7_tick : ByteArray := prog_1_method_5_code
def yX7_tick : MethodName := ⟨RX7, "tick", "(I)I"⟩
abbrev cX7_serve : ByteArray := prog_1_method_6_code
def yX7_serve : MethodName := ⟨RX7, "serve", "(I)I"⟩
abbrev cX7_refuse : ByteArray := prog_1_method_7_code
def yX7_refuse : MethodName := ⟨RX7, "refuse", "(II)I"⟩
abbrev cX7_arrive : ByteArray := prog_1_method_8_code
def yX7_arrive : MethodName := ⟨RX7, "arrive", "(I)I"⟩
abbrev cX7_lose : ByteArray := prog_1_method_9_code
def yX7_lose : MethodName := ⟨RX7, "lose", "(II)I"⟩
abbrev cX7_twice : ByteArray := prog_1_method_10_code
def yX7_twice : MethodName := ⟨RX7, "twice", "(II)I"⟩
abbrev cX7_under : ByteArray := prog_1_method_11_code
def yX7_under : MethodName := ⟨RX7, "under", "(II)I"⟩
abbrev cX7_out : ByteArray := prog_1_method_12_code
def yX7_out : MethodName := ⟨RX7, "out", "(II)I"⟩
abbrev cX7_value : ByteArray := prog_1_method_13_code
def yX7_value : MethodName := ⟨RX7, "value", "(I)J"⟩
abbrev cX7_item : ByteArray := prog_1_method_14_code
def yX7_item : MethodName := ⟨RX7, "item", "(II)I"⟩
abbrev cX7_count : ByteArray := prog_1_method_15_code
def yX7_count : MethodName := ⟨RX7, "count", "(J)I"⟩
abbrev cX7_kept : ByteArray := prog_1_method_16_code
def yX7_kept : MethodName := ⟨RX7, "kept", "(J)I"⟩
abbrev cX7_save : ByteArray := prog_1_method_17_code
def yX7_save : MethodName := ⟨RX7, "save", "()I"⟩
abbrev cX7_restart : ByteArray := prog_1_method_18_code
def yX7_restart : MethodName := ⟨RX7, "restart", "()I"⟩
abbrev cX7_told : ByteArray := prog_1_method_19_code
def yX7_told : MethodName := ⟨RX7, "told", "(I)I"⟩
abbrev cX7_lineOf : ByteArray := prog_1_method_20_code
def yX7_lineOf : MethodName := ⟨RX7, "lineOf", "(I)LOutsideAsks$Line;"⟩
abbrev cX7_goOn : ByteArray := prog_1_method_21_code
def yX7_goOn : MethodName := ⟨RX7, "goOn", "()V"⟩
abbrev cX7_startWaitingRows : ByteArray := prog_1_method_22_code
def yX7_startWaitingRows : MethodName := ⟨RX7, "startWaitingRows", "()V"⟩
abbrev cX7_startRow : ByteArray := prog_1_method_23_code
def yX7_startRow : MethodName := ⟨RX7, "startRow", "(I)V"⟩
abbrev cX7_sendQueuedAsks : ByteArray := prog_1_method_24_code
def yX7_sendQueuedAsks : MethodName := ⟨RX7, "sendQueuedAsks", "()V"⟩
abbrev cX7_letItemsOut : ByteArray := prog_1_method_25_code
def yX7_letItemsOut : MethodName := ⟨RX7, "letItemsOut", "()V"⟩
abbrev cX7_passTick : ByteArray := prog_1_method_26_code
def yX7_passTick : MethodName := ⟨RX7, "passTick", "()V"⟩
abbrev cX7_findOverdue : ByteArray := prog_1_method_27_code
def yX7_findOverdue : MethodName := ⟨RX7, "findOverdue", "()V"⟩
abbrev cX7_tryAgain : ByteArray := prog_1_method_28_code
def yX7_tryAgain : MethodName := ⟨RX7, "tryAgain", "(IIJ)Z"⟩
abbrev cX7_takeAnswer : ByteArray := prog_1_method_29_code
def yX7_takeAnswer : MethodName := ⟨RX7, "takeAnswer", "(IIJ)Z"⟩
abbrev cX7_takeCause : ByteArray := prog_1_method_30_code
def yX7_takeCause : MethodName := ⟨RX7, "takeCause", "(II)Z"⟩
abbrev cX7_ruleOf : ByteArray := prog_1_method_31_code
def yX7_ruleOf : MethodName := ⟨RX7, "ruleOf", "(I)I"⟩
abbrev cX7_isCause : ByteArray := prog_1_method_32_code
def yX7_isCause : MethodName := ⟨RX7, "isCause", "(I)Z"⟩
abbrev cX7_settle : ByteArray := prog_1_method_33_code
def yX7_settle : MethodName := ⟨RX7, "settle", "(IIJ)V"⟩
abbrev cX7_askAgainAllWorking : ByteArray := prog_1_method_34_code
def yX7_askAgainAllWorking : MethodName := ⟨RX7, "askAgainAllWorking", "()V"⟩
def RX8 : String := "OutsideAsksModel"
def TX8 : u_T := fun k => match k with
  | 0 => ("OutsideAsksModel", "most", "I", true)
  | 1 => ("OutsideAsksModel", "isOrdered", "Z", true)
  | 2 => ("OutsideAsksModel", "now", "I", false)
  | 3 => ("OutsideAsksModel", "settings", "[I", true)
  | 4 => ("OutsideAsksModel", "items", "I", false)
  | 5 => ("OutsideAsksModel", "isMark", "[Z", true)
  | 6 => ("OutsideAsksModel", "key", "[J", true)
  | 7 => ("OutsideAsksModel", "worth", "[J", true)
  | 8 => ("OutsideAsksModel", "state", "[I", true)
  | 9 => ("OutsideAsksModel", "result", "[I", true)
  | 10 => ("OutsideAsksModel", "told", "[J", true)
  | 11 => ("OutsideAsksModel", "tries", "[I", true)
  | 12 => ("OutsideAsksModel", "due", "[I", true)
  | 13 => ("OutsideAsksModel", "queue", "[I", true)
  | 14 => ("OutsideAsksModel", "queued", "I", false)
  | 15 => ("OutsideAsksModel", "sentNow", "I", false)
  | 16 => ("OutsideAsksModel", "sentAll", "I", false)
  | 17 => ("OutsideAsksModel", "outItem", "[I", true)
  | 18 => ("OutsideAsksModel", "outTick", "[I", true)
  | 19 => ("OutsideAsksModel", "outs", "I", false)
  | 20 => ("OutsideAsksModel", "under", "[I", true)
  | 21 => ("OutsideAsksModel", "cause", "[I", true)
  | 22 => ("OutsideAsksModel", "brings", "[J", true)
  | 23 => ("OutsideAsksModel", "length", "[I", true)
  | 24 => ("OutsideAsksModel", "acted", "[I", true)
  | 25 => ("OutsideAsksModel", "isAnswered", "[Z", true)
  | 26 => ("OutsideAsksModel", "answered", "[J", true)
  | 27 => ("OutsideAsksModel", "keptKey", "[J", true)
  | 28 => ("OutsideAsksModel", "keptValue", "[J", true)
  | 29 => ("OutsideAsksModel", "keptEnd", "[I", true)
  | 30 => ("OutsideAsksModel", "keeps", "I", false)
  | 31 => ("OutsideAsksModel", "savedItems", "I", false)
  | 32 => ("OutsideAsksModel", "savedOuts", "I", false)
  | 33 => ("OutsideAsksModel", "savedState", "[I", true)
  | 34 => ("OutsideAsksModel", "savedResult", "[I", true)
  | 35 => ("OutsideAsksModel", "savedTold", "[J", true)
  | 36 => ("OutsideAsksModel", "savedTries", "[I", true)
  | _ => ("OutsideAsksModel", "restarts", "I", false)
def tyX8 : Nat → FieldType := fun k => match k with
  | 0 => .int
  | 1 => .boolean
  | 2 => .int
  | 3 => .array .int
  | 4 => .int
  | 5 => .array .boolean
  | 6 => .array .long
  | 7 => .array .long
  | 8 => .array .int
  | 9 => .array .int
  | 10 => .array .long
  | 11 => .array .int
  | 12 => .array .int
  | 13 => .array .int
  | 14 => .int
  | 15 => .int
  | 16 => .int
  | 17 => .array .int
  | 18 => .array .int
  | 19 => .int
  | 20 => .array .int
  | 21 => .array .int
  | 22 => .array .long
  | 23 => .array .int
  | 24 => .array .int
  | 25 => .array .boolean
  | 26 => .array .long
  | 27 => .array .long
  | 28 => .array .long
  | 29 => .array .int
  | 30 => .int
  | 31 => .int
  | 32 => .int
  | 33 => .array .int
  | 34 => .array .int
  | 35 => .array .long
  | 36 => .array .int
  | _ => .int
abbrev wsX80 : List Cond := u_ws RX8 TX8 38
theorem nmX8 : ∀ a, a < 38 → ∀ b, b < 38 → a ≠ b → (TX8 a).2.1 ≠ (TX8 b).2.1 := by decide +kernel
theorem tyX8_ok : ∀ k, k < 38 → parseFieldDescriptor (TX8 k).2.2.1 = some (tyX8 k) := by decide +kernel
abbrev cX8_init : ByteArray := prog_10_method_1_code
def yX8_init : MethodName := ⟨RX8, "<init>", "(II)V"⟩
abbrev cX8_countOf : ByteArray := prog_10_method_2_code
def yX8_countOf : MethodName := ⟨RX8, "countOf", "(I)I"⟩
abbrev cX8_first : ByteArray := prog_10_method_3_code
def yX8_first : MethodName := ⟨RX8, "first", "(I)I"⟩
abbrev cX8_keptFor : ByteArray := prog_10_method_4_code
def yX8_keptFor : MethodName := ⟨RX8, "keptFor", "(J)I"⟩
abbrev cX8_settle : ByteArray := prog_10_method_5_code
def yX8_settle : MethodName := ⟨RX8, "settle", "(IIJ)V"⟩
abbrev cX8_placeInQueue : ByteArray := prog_10_method_6_code
def yX8_placeInQueue : MethodName := ⟨RX8, "placeInQueue", "(I)I"⟩
abbrev cX8_leave : ByteArray := prog_10_method_7_code
def yX8_leave : MethodName := ⟨RX8, "leave", "(I)V"⟩
abbrev cX8_goOn : ByteArray := prog_10_method_8_code
def yX8_goOn : MethodName := ⟨RX8, "goOn", "()V"⟩
abbrev cX8_nextOut : ByteArray := prog_10_method_9_code
def yX8_nextOut : MethodName := ⟨RX8, "nextOut", "()I"⟩
abbrev cX8_send : ByteArray := prog_10_method_10_code
def yX8_send : MethodName := ⟨RX8, "send", "(IIIJ)V"⟩
abbrev cX8_take : ByteArray := prog_10_method_11_code
def yX8_take : MethodName := ⟨RX8, "take", "(II)V"⟩
abbrev cX8_again : ByteArray := prog_10_method_12_code
def yX8_again : MethodName := ⟨RX8, "again", "(I)Z"⟩
abbrev cX8_set : ByteArray := prog_10_method_13_code
def yX8_set : MethodName := ⟨RX8, "set", "(II)I"⟩
abbrev cX8_come : ByteArray := prog_10_method_14_code
def yX8_come : MethodName := ⟨RX8, "come", "(ZJJ)I"⟩
abbrev cX8_row : ByteArray := prog_10_method_15_code
def yX8_row : MethodName := ⟨RX8, "row", "(JJ)I"⟩
abbrev cX8_mark : ByteArray := prog_10_method_16_code
def yX8_mark : MethodName := ⟨RX8, "mark", "()I"⟩
abbrev cX8_tick : ByteArray := prog_10_method_17_code
def yX8_tick : MethodName := ⟨RX8, "tick", "(I)I"⟩
abbrev cX8_isUnder : ByteArray := prog_10_method_18_code
def yX8_isUnder : MethodName := ⟨RX8, "isUnder", "(II)Z"⟩
abbrev cX8_keyAt : ByteArray := prog_10_method_19_code
def yX8_keyAt : MethodName := ⟨RX8, "keyAt", "(J)I"⟩
abbrev cX8_serve : ByteArray := prog_10_method_20_code
def yX8_serve : MethodName := ⟨RX8, "serve", "(I)I"⟩
abbrev cX8_refuse : ByteArray := prog_10_method_21_code
def yX8_refuse : MethodName := ⟨RX8, "refuse", "(II)I"⟩
abbrev cX8_arrive : ByteArray := prog_10_method_22_code
def yX8_arrive : MethodName := ⟨RX8, "arrive", "(I)I"⟩
abbrev cX8_keep : ByteArray := prog_10_method_23_code
def yX8_keep : MethodName := ⟨RX8, "keep", "(JJ)V"⟩
abbrev cX8_lose : ByteArray := prog_10_method_24_code
def yX8_lose : MethodName := ⟨RX8, "lose", "(II)I"⟩
abbrev cX8_twice : ByteArray := prog_10_method_25_code
def yX8_twice : MethodName := ⟨RX8, "twice", "(II)I"⟩
abbrev cX8_under : ByteArray := prog_10_method_26_code
def yX8_under : MethodName := ⟨RX8, "under", "(II)I"⟩
abbrev cX8_out : ByteArray := prog_10_method_27_code
def yX8_out : MethodName := ⟨RX8, "out", "(II)I"⟩
abbrev cX8_isItem : ByteArray := prog_10_method_28_code
def yX8_isItem : MethodName := ⟨RX8, "isItem", "(I)Z"⟩
abbrev cX8_value : ByteArray := prog_10_method_29_code
def yX8_value : MethodName := ⟨RX8, "value", "(I)J"⟩
abbrev cX8_item : ByteArray := prog_10_method_30_code
def yX8_item : MethodName := ⟨RX8, "item", "(II)I"⟩
abbrev cX8_count : ByteArray := prog_10_method_31_code
def yX8_count : MethodName := ⟨RX8, "count", "(J)I"⟩
abbrev cX8_kept : ByteArray := prog_10_method_32_code
def yX8_kept : MethodName := ⟨RX8, "kept", "(J)I"⟩
abbrev cX8_save : ByteArray := prog_10_method_33_code
def yX8_save : MethodName := ⟨RX8, "save", "()I"⟩
abbrev cX8_restart : ByteArray := prog_10_method_34_code
def yX8_restart : MethodName := ⟨RX8, "restart", "()I"⟩
abbrev cX8_told : ByteArray := prog_10_method_35_code
def yX8_told : MethodName := ⟨RX8, "told", "(I)I"⟩
def RJx8e188 : String := "java/lang/Cloneable"
def TJx8e188 : u_T := fun k => match k with
  | _ => ("", "", "", false)
def tyJx8e188 : Nat → FieldType := fun k => match k with
  | _ => .int
abbrev wsJx8e1880 : List Cond := u_ws RJx8e188 TJx8e188 0
theorem nmJx8e188 : ∀ a, a < 0 → ∀ b, b < 0 → a ≠ b → (TJx8e188 a).2.1 ≠ (TJx8e188 b).2.1 := by decide +kernel
theorem tyJx8e188_ok : ∀ k, k < 0 → parseFieldDescriptor (TJx8e188 k).2.2.1 = some (tyJx8e188 k) := by decide +kernel
def RJ9 : String := "java/lang/Math"
def TJ9 : u_T := fun k => match k with
  | _ => ("", "", "", false)
def tyJ9 : Nat → FieldType := fun k => match k with
  | _ => .int
abbrev wsJ90 : List Cond := u_ws RJ9 TJ9 0
theorem nmJ9 : ∀ a, a < 0 → ∀ b, b < 0 → a ≠ b → (TJ9 a).2.1 ≠ (TJ9 b).2.1 := by decide +kernel
theorem tyJ9_ok : ∀ k, k < 0 → parseFieldDescriptor (TJ9 k).2.2.1 = some (tyJ9 k) := by decide +kernel
abbrev cJ9_max_7cf53 : ByteArray := prog_12_method_65_code
def yJ9_max_7cf53 : MethodName := ⟨RJ9, "max", "(II)I"⟩
abbrev cJ9_min_7cf53 : ByteArray := prog_12_method_69_code
def yJ9_min_7cf53 : MethodName := ⟨RJ9, "min", "(II)I"⟩
def RJ10 : String := "java/lang/System"
def TJ10 : u_T := fun k => match k with
  | _ => ("", "", "", false)
def tyJ10 : Nat → FieldType := fun k => match k with
  | _ => .int
abbrev wsJ100 : List Cond := u_ws RJ10 TJ10 0
theorem nmJ10 : ∀ a, a < 0 → ∀ b, b < 0 → a ≠ b → (TJ10 a).2.1 ≠ (TJ10 b).2.1 := by decide +kernel
theorem tyJ10_ok : ∀ k, k < 0 → parseFieldDescriptor (TJ10 k).2.2.1 = some (tyJ10 k) := by decide +kernel
def RL : String := "OutsideAsksLaw"
abbrev cL_cell : ByteArray := method_2_code
def yL_cell : MethodName := ⟨RL, "cell", "([II)I"⟩
abbrev cL_law : ByteArray := code
def yL_law : MethodName := ⟨RL, "law", "([I)Z"⟩
def wsL_law_r1 : List Cond := [Cond.classLink RL 7 RX7, Cond.instantiable RX7 18, Cond.initialized RX7, Cond.classLink RL 18 RX8, Cond.instantiable RX8 38, Cond.initialized RX8, Cond.constantLong RL 26 (4294967295), Cond.methodLink RL 9 yL_cell, Cond.static yL_cell, Cond.initialized RL, Cond.code yL_cell cL_cell 2 (some .int), Cond.methodLink RL 15 yX7_init, Cond.instanceMethod yX7_init, Cond.code yX7_init cX7_init 3 none, Cond.methodLink RX7 1 objectInit, Cond.instanceMethod objectInit, Cond.code objectInit ⟨#[0xb1]⟩ 1 none, Cond.fieldLink RX7 7 "OutsideAsks" "FIRST_SETTINGS" "[I", Cond.methodLink RX7 13 ⟨"[I", "clone", "()Ljava/lang/Object;"⟩, Cond.sameMethod "[I" "java/lang/Object" "clone" "()Ljava/lang/Object;", Cond.native ⟨"java/lang/Object", "clone", "()Ljava/lang/Object;"⟩, Cond.instanceMethod ⟨"java/lang/Object", "clone", "()Ljava/lang/Object;"⟩, Cond.selects "[I" ⟨"[I", "clone", "()Ljava/lang/Object;"⟩ ⟨"java/lang/Object", "clone", "()Ljava/lang/Object;"⟩, Cond.classLink RX7 14 "[I"]
def wsL_law_r2 : List Cond := [Cond.fieldLink RX7 18 "OutsideAsks" "settings" "[I", Cond.classLink RX7 21 RX0, Cond.instantiable RX0 4, Cond.initialized RX0, Cond.fieldLink RX7 24 "OutsideAsks" "items" "LOutsideAsks$Items;", Cond.classLink RX7 28 RX4, Cond.instantiable RX4 8, Cond.initialized RX4, Cond.fieldLink RX7 31 "OutsideAsks" "live" "LOutsideAsks$Progress;", Cond.fieldLink RX7 35 "OutsideAsks" "saved" "LOutsideAsks$Progress;", Cond.classLink RX7 38 RX3, Cond.instantiable RX3 2, Cond.initialized RX3, Cond.fieldLink RX7 41 "OutsideAsks" "outLog" "LOutsideAsks$OutLog;", Cond.classLink RX7 45 RX5, Cond.instantiable RX5 2, Cond.initialized RX5, Cond.fieldLink RX7 48 "OutsideAsks" "working" "LOutsideAsks$RowList;", Cond.fieldLink RX7 52 "OutsideAsks" "queue" "LOutsideAsks$RowList;", Cond.fieldLink RX7 55 "OutsideAsks" "overdue" "LOutsideAsks$RowList;", Cond.classLink RX7 58 RX2, Cond.instantiable RX2 4, Cond.initialized RX2, Cond.fieldLink RX7 61 "OutsideAsks" "asks" "LOutsideAsks$Line;"]
def wsL_law_r3 : List Cond := [Cond.fieldLink RX7 65 "OutsideAsks" "answers" "LOutsideAsks$Line;", Cond.classLink RX7 68 RX6, Cond.instantiable RX6 3, Cond.initialized RX6, Cond.fieldLink RX7 71 "OutsideAsks" "service" "LOutsideAsks$Service;", Cond.classLink RX7 75 RX1, Cond.instantiable RX1 4, Cond.initialized RX1, Cond.fieldLink RX7 78 "OutsideAsks" "keptAnswers" "LOutsideAsks$KeptAnswers;", Cond.fieldLink RX7 82 "OutsideAsks" "now" "I", Cond.fieldLink RX7 86 "OutsideAsks" "sentNow" "I", Cond.fieldLink RX7 89 "OutsideAsks" "sentInAll" "I", Cond.fieldLink RX7 92 "OutsideAsks" "restarts" "I", Cond.methodLink RX7 95 Lib.Math.min.name, Cond.static Lib.Math.min.name, Cond.initialized "java/lang/Math", Cond.code Lib.Math.min.name Lib.Math.min.code 2 (some .int), Cond.methodLink RX7 101 Lib.Math.max.name, Cond.static Lib.Math.max.name, Cond.code Lib.Math.max.name Lib.Math.max.code 2 (some .int), Cond.fieldLink RX7 104 "OutsideAsks" "most" "I", Cond.fieldLink RX7 107 "OutsideAsks" "ordered" "Z", Cond.instanceMethod yX0_init, Cond.code yX0_init cX0_init 1 none]
def wsL_law_r4 : List Cond := [Cond.methodLink RX0 3 objectInit, Cond.arrayClass .long, Cond.fieldLink RX0 9 "OutsideAsks$Items" "keys" "[J", Cond.fieldLink RX0 15 "OutsideAsks$Items" "values" "[J", Cond.arrayClass .boolean, Cond.fieldLink RX0 18 "OutsideAsks$Items" "marks" "[Z", Cond.arrayClass .int, Cond.fieldLink RX0 22 "OutsideAsks$Items" "dues" "[I", Cond.instanceMethod yX4_init, Cond.code yX4_init cX4_init 1 none, Cond.methodLink RX4 3 objectInit, Cond.fieldLink RX4 9 "OutsideAsks$Progress" "states" "[I", Cond.fieldLink RX4 15 "OutsideAsks$Progress" "results" "[I", Cond.fieldLink RX4 18 "OutsideAsks$Progress" "tries" "[I", Cond.fieldLink RX4 21 "OutsideAsks$Progress" "settledValues" "[J", Cond.fieldLink RX4 25 "OutsideAsks$Progress" "items" "I", Cond.fieldLink RX4 29 "OutsideAsks$Progress" "outs" "I", Cond.fieldLink RX4 32 "OutsideAsks$Progress" "waiting" "I", Cond.fieldLink RX4 35 "OutsideAsks$Progress" "settled" "I", Cond.instanceMethod yX3_init, Cond.code yX3_init cX3_init 1 none, Cond.methodLink RX3 3 objectInit, Cond.fieldLink RX3 9 "OutsideAsks$OutLog" "items" "[I", Cond.fieldLink RX3 15 "OutsideAsks$OutLog" "ticks" "[I"]
def wsL_law_r5 : List Cond := [Cond.instanceMethod yX5_init, Cond.code yX5_init cX5_init 1 none, Cond.methodLink RX5 3 objectInit, Cond.fieldLink RX5 9 "OutsideAsks$RowList" "rows" "[I", Cond.fieldLink RX5 15 "OutsideAsks$RowList" "size" "I", Cond.instanceMethod yX2_init, Cond.code yX2_init cX2_init 1 none, Cond.methodLink RX2 3 objectInit, Cond.fieldLink RX2 9 "OutsideAsks$Line" "rows" "[I", Cond.fieldLink RX2 15 "OutsideAsks$Line" "causes" "[I", Cond.fieldLink RX2 18 "OutsideAsks$Line" "values" "[J", Cond.fieldLink RX2 22 "OutsideAsks$Line" "size" "I", Cond.instanceMethod yX6_init, Cond.code yX6_init cX6_init 1 none, Cond.methodLink RX6 3 objectInit, Cond.fieldLink RX6 9 "OutsideAsks$Service" "keys" "[J", Cond.fieldLink RX6 15 "OutsideAsks$Service" "acts" "[I", Cond.fieldLink RX6 19 "OutsideAsks$Service" "latestAnswers" "[J", Cond.instanceMethod yX1_init, Cond.code yX1_init cX1_init 1 none, Cond.methodLink RX1 3 objectInit, Cond.fieldLink RX1 9 "OutsideAsks$KeptAnswers" "keys" "[J", Cond.fieldLink RX1 15 "OutsideAsks$KeptAnswers" "values" "[J", Cond.fieldLink RX1 18 "OutsideAsks$KeptAnswers" "ends" "[I"]
def wsL_law_r6 : List Cond := [Cond.fieldLink RX1 22 "OutsideAsks$KeptAnswers" "size" "I", Cond.methodLink RL 20 yX8_init, Cond.instanceMethod yX8_init, Cond.code yX8_init cX8_init 3 none, Cond.methodLink RX8 1 objectInit, Cond.fieldLink RX8 7 "OutsideAsksModel" "settings" "[I", Cond.fieldLink RX8 13 "OutsideAsksModel" "isMark" "[Z", Cond.fieldLink RX8 17 "OutsideAsksModel" "key" "[J", Cond.fieldLink RX8 21 "OutsideAsksModel" "worth" "[J", Cond.fieldLink RX8 24 "OutsideAsksModel" "state" "[I", Cond.fieldLink RX8 27 "OutsideAsksModel" "result" "[I", Cond.fieldLink RX8 30 "OutsideAsksModel" "told" "[J", Cond.fieldLink RX8 33 "OutsideAsksModel" "tries" "[I", Cond.fieldLink RX8 36 "OutsideAsksModel" "due" "[I", Cond.fieldLink RX8 39 "OutsideAsksModel" "queue" "[I", Cond.fieldLink RX8 42 "OutsideAsksModel" "outItem" "[I", Cond.fieldLink RX8 45 "OutsideAsksModel" "outTick" "[I", Cond.fieldLink RX8 48 "OutsideAsksModel" "under" "[I", Cond.fieldLink RX8 51 "OutsideAsksModel" "cause" "[I", Cond.fieldLink RX8 54 "OutsideAsksModel" "brings" "[J", Cond.fieldLink RX8 57 "OutsideAsksModel" "length" "[I", Cond.fieldLink RX8 60 "OutsideAsksModel" "acted" "[I", Cond.fieldLink RX8 63 "OutsideAsksModel" "isAnswered" "[Z", Cond.fieldLink RX8 66 "OutsideAsksModel" "answered" "[J"]
def wsL_law_r7 : List Cond := [Cond.fieldLink RX8 69 "OutsideAsksModel" "keptKey" "[J", Cond.fieldLink RX8 72 "OutsideAsksModel" "keptValue" "[J", Cond.fieldLink RX8 75 "OutsideAsksModel" "keptEnd" "[I", Cond.fieldLink RX8 78 "OutsideAsksModel" "savedState" "[I", Cond.fieldLink RX8 81 "OutsideAsksModel" "savedResult" "[I", Cond.fieldLink RX8 84 "OutsideAsksModel" "savedTold" "[J", Cond.fieldLink RX8 87 "OutsideAsksModel" "savedTries" "[I", Cond.fieldLink RX8 90 "OutsideAsksModel" "most" "I", Cond.fieldLink RX8 94 "OutsideAsksModel" "isOrdered" "Z", Cond.methodLink RL 21 yX7_set, Cond.instanceMethod yX7_set, Cond.selects RX7 yX7_set yX7_set, Cond.code yX7_set cX7_set 4 (some .int), Cond.fieldLink RX7 111 "OutsideAsks" "LEAST_SETTINGS" "[I", Cond.fieldLink RX7 114 "OutsideAsks" "GREATEST_SETTINGS" "[I", Cond.methodLink RX7 117 yX7_goOn, Cond.instanceMethod yX7_goOn, Cond.selects RX7 yX7_goOn yX7_goOn, Cond.code yX7_goOn cX7_goOn 1 none, Cond.methodLink RX7 245 yX7_startWaitingRows, Cond.instanceMethod yX7_startWaitingRows, Cond.selects RX7 yX7_startWaitingRows yX7_startWaitingRows, Cond.code yX7_startWaitingRows cX7_startWaitingRows 2 none, Cond.methodLink RX7 178 yX4_stateOf]
def wsL_law_r8 : List Cond := [Cond.instanceMethod yX4_stateOf, Cond.selects RX4 yX4_stateOf yX4_stateOf, Cond.code yX4_stateOf cX4_stateOf 2 (some .int), Cond.methodLink RX4 38 yX4_hasItem, Cond.instanceMethod yX4_hasItem, Cond.selects RX4 yX4_hasItem yX4_hasItem, Cond.code yX4_hasItem cX4_hasItem 2 (some .boolean), Cond.methodLink RX7 254 yX7_startRow, Cond.instanceMethod yX7_startRow, Cond.selects RX7 yX7_startRow yX7_startRow, Cond.code yX7_startRow cX7_startRow 4 none, Cond.methodLink RX7 151 yX0_keyOf, Cond.instanceMethod yX0_keyOf, Cond.selects RX0 yX0_keyOf yX0_keyOf, Cond.code yX0_keyOf cX0_keyOf 2 (some .long), Cond.methodLink RX0 26 yX0_mayHave, Cond.instanceMethod yX0_mayHave, Cond.selects RX0 yX0_mayHave yX0_mayHave, Cond.code yX0_mayHave cX0_mayHave 2 (some .boolean), Cond.methodLink RX7 221 yX1_endOf, Cond.instanceMethod yX1_endOf, Cond.selects RX1 yX1_endOf yX1_endOf, Cond.code yX1_endOf cX1_endOf 4 (some .int), Cond.methodLink RX1 26 yX1_find]
def wsL_law_r9 : List Cond := [Cond.instanceMethod yX1_find, Cond.selects RX1 yX1_find yX1_find, Cond.code yX1_find cX1_find 4 (some .int), Cond.methodLink RX7 257 yX1_valueOf, Cond.instanceMethod yX1_valueOf, Cond.selects RX1 yX1_valueOf yX1_valueOf, Cond.code yX1_valueOf cX1_valueOf 4 (some .long), Cond.methodLink RX7 260 yX4_settleRow, Cond.instanceMethod yX4_settleRow, Cond.selects RX4 yX4_settleRow yX4_settleRow, Cond.code yX4_settleRow cX4_settleRow 5 none, Cond.methodLink RX7 263 yX4_startTrying, Cond.instanceMethod yX4_startTrying, Cond.selects RX4 yX4_startTrying yX4_startTrying, Cond.code yX4_startTrying cX4_startTrying 2 none, Cond.methodLink RX7 266 yX5_append, Cond.instanceMethod yX5_append, Cond.selects RX5 yX5_append yX5_append, Cond.code yX5_append cX5_append 2 none, Cond.methodLink RX7 248 yX7_sendQueuedAsks, Cond.instanceMethod yX7_sendQueuedAsks, Cond.selects RX7 yX7_sendQueuedAsks yX7_sendQueuedAsks, Cond.code yX7_sendQueuedAsks cX7_sendQueuedAsks 2 none, Cond.methodLink RX7 269 yX5_at]
def wsL_law_r10 : List Cond := [Cond.instanceMethod yX5_at, Cond.selects RX5 yX5_at yX5_at, Cond.code yX5_at cX5_at 2 (some .int), Cond.methodLink RX7 272 yX5_removeAt, Cond.instanceMethod yX5_removeAt, Cond.selects RX5 yX5_removeAt yX5_removeAt, Cond.code yX5_removeAt cX5_removeAt 3 none, Cond.methodLink RX5 19 arraycopyName, Cond.native arraycopyName, Cond.static arraycopyName, Cond.initialized "java/lang/System", Cond.methodLink RX7 273 yX0_setDue, Cond.instanceMethod yX0_setDue, Cond.selects RX0 yX0_setDue yX0_setDue, Cond.code yX0_setDue cX0_setDue 3 none, Cond.methodLink RX7 165 yX2_setOut, Cond.instanceMethod yX2_setOut, Cond.selects RX2 yX2_setOut yX2_setOut, Cond.code yX2_setOut cX2_setOut 5 none, Cond.methodLink RX7 251 yX7_letItemsOut, Cond.instanceMethod yX7_letItemsOut, Cond.selects RX7 yX7_letItemsOut yX7_letItemsOut, Cond.code yX7_letItemsOut cX7_letItemsOut 4 none, Cond.methodLink RX7 211 yX0_isMark]
def wsL_law_r11 : List Cond := [Cond.instanceMethod yX0_isMark, Cond.selects RX0 yX0_isMark yX0_isMark, Cond.code yX0_isMark cX0_isMark 2 (some .boolean), Cond.methodLink RX7 277 yX3_write, Cond.instanceMethod yX3_write, Cond.selects RX3 yX3_write yX3_write, Cond.code yX3_write cX3_write 4 none, Cond.methodLink RX7 281 yX4_goOut, Cond.instanceMethod yX4_goOut, Cond.selects RX4 yX4_goOut yX4_goOut, Cond.code yX4_goOut cX4_goOut 2 none, Cond.methodLink RL 25 yX8_set, Cond.instanceMethod yX8_set, Cond.selects RX8 yX8_set yX8_set, Cond.code yX8_set cX8_set 6 (some .int), Cond.methodLink RX8 149 yX8_goOn, Cond.instanceMethod yX8_goOn, Cond.selects RX8 yX8_goOn yX8_goOn, Cond.code yX8_goOn cX8_goOn 3 none, Cond.fieldLink RX8 125 "OutsideAsksModel" "now" "I", Cond.fieldLink RX8 108 "OutsideAsksModel" "queued" "I", Cond.fieldLink RX8 132 "OutsideAsksModel" "sentNow" "I", Cond.fieldLink RX8 135 "OutsideAsksModel" "sentAll" "I", Cond.fieldLink RX8 146 "OutsideAsksModel" "outs" "I"]
def wsL_law_r12 : List Cond := [Cond.methodLink RX8 115 yX8_countOf, Cond.instanceMethod yX8_countOf, Cond.selects RX8 yX8_countOf yX8_countOf, Cond.code yX8_countOf cX8_countOf 4 (some .int), Cond.fieldLink RX8 98 "OutsideAsksModel" "items" "I", Cond.methodLink RX8 118 yX8_first, Cond.instanceMethod yX8_first, Cond.selects RX8 yX8_first yX8_first, Cond.code yX8_first cX8_first 3 (some .int), Cond.methodLink RX8 121 yX8_keptFor, Cond.instanceMethod yX8_keptFor, Cond.selects RX8 yX8_keptFor yX8_keptFor, Cond.code yX8_keptFor cX8_keptFor 4 (some .int), Cond.fieldLink RX8 101 "OutsideAsksModel" "keeps" "I", Cond.methodLink RX8 128 yX8_settle, Cond.instanceMethod yX8_settle, Cond.selects RX8 yX8_settle yX8_settle, Cond.code yX8_settle cX8_settle 5 none, Cond.methodLink RX8 104 yX8_leave, Cond.instanceMethod yX8_leave, Cond.selects RX8 yX8_leave yX8_leave, Cond.code yX8_leave cX8_leave 4 none, Cond.methodLink RX8 111 yX8_placeInQueue, Cond.instanceMethod yX8_placeInQueue]
def wsL_law_r13 : List Cond := [Cond.selects RX8 yX8_placeInQueue yX8_placeInQueue, Cond.code yX8_placeInQueue cX8_placeInQueue 3 (some .int), Cond.methodLink RX8 138 yX8_send, Cond.instanceMethod yX8_send, Cond.selects RX8 yX8_send yX8_send, Cond.code yX8_send cX8_send 7 none, Cond.methodLink RX8 142 yX8_nextOut, Cond.instanceMethod yX8_nextOut, Cond.selects RX8 yX8_nextOut yX8_nextOut, Cond.code yX8_nextOut cX8_nextOut 6 (some .int), Cond.methodLink RL 28 yX7_row, Cond.instanceMethod yX7_row, Cond.selects RX7 yX7_row yX7_row, Cond.code yX7_row cX7_row 6 (some .int), Cond.methodLink RX7 122 yX0_noteRow, Cond.instanceMethod yX0_noteRow, Cond.selects RX0 yX0_noteRow yX0_noteRow, Cond.code yX0_noteRow cX0_noteRow 6 none, Cond.methodLink RX7 126 yX4_addRow, Cond.instanceMethod yX4_addRow, Cond.selects RX4 yX4_addRow yX4_addRow, Cond.code yX4_addRow cX4_addRow 1 none, Cond.methodLink RL 32 yX8_row, Cond.instanceMethod yX8_row]
def wsL_law_r14 : List Cond := [Cond.selects RX8 yX8_row yX8_row, Cond.code yX8_row cX8_row 5 (some .int), Cond.methodLink RX8 152 yX8_come, Cond.instanceMethod yX8_come, Cond.selects RX8 yX8_come yX8_come, Cond.code yX8_come cX8_come 7 (some .int), Cond.methodLink RL 33 yX7_mark, Cond.instanceMethod yX7_mark, Cond.selects RX7 yX7_mark yX7_mark, Cond.code yX7_mark cX7_mark 2 (some .int), Cond.methodLink RX7 129 yX0_noteMark, Cond.instanceMethod yX0_noteMark, Cond.selects RX0 yX0_noteMark yX0_noteMark, Cond.code yX0_noteMark cX0_noteMark 2 none, Cond.methodLink RX7 133 yX4_addMark, Cond.instanceMethod yX4_addMark, Cond.selects RX4 yX4_addMark yX4_addMark, Cond.code yX4_addMark cX4_addMark 1 none, Cond.methodLink RL 37 yX8_mark, Cond.instanceMethod yX8_mark, Cond.selects RX8 yX8_mark yX8_mark, Cond.code yX8_mark cX8_mark 1 (some .int), Cond.methodLink RL 38 yX7_tick, Cond.instanceMethod yX7_tick]
def wsL_law_r15 : List Cond := [Cond.selects RX7 yX7_tick yX7_tick, Cond.code yX7_tick cX7_tick 3 (some .int), Cond.constant RX7 136 (1000000), Cond.methodLink RX7 137 yX7_passTick, Cond.instanceMethod yX7_passTick, Cond.selects RX7 yX7_passTick yX7_passTick, Cond.code yX7_passTick cX7_passTick 2 none, Cond.methodLink RX7 284 yX7_findOverdue, Cond.instanceMethod yX7_findOverdue, Cond.selects RX7 yX7_findOverdue yX7_findOverdue, Cond.code yX7_findOverdue cX7_findOverdue 3 none, Cond.methodLink RX7 290 yX5_clear, Cond.instanceMethod yX5_clear, Cond.selects RX5 yX5_clear yX5_clear, Cond.code yX5_clear cX5_clear 1 none, Cond.methodLink RX7 293 yX0_dueOf, Cond.instanceMethod yX0_dueOf, Cond.selects RX0 yX0_dueOf yX0_dueOf, Cond.code yX0_dueOf cX0_dueOf 2 (some .int), Cond.methodLink RX7 214 yX5_find, Cond.instanceMethod yX5_find, Cond.selects RX5 yX5_find yX5_find, Cond.code yX5_find cX5_find 3 (some .int), Cond.methodLink RX7 287 yX7_tryAgain]
def wsL_law_r16 : List Cond := [Cond.instanceMethod yX7_tryAgain, Cond.selects RX7 yX7_tryAgain yX7_tryAgain, Cond.code yX7_tryAgain cX7_tryAgain 5 (some .boolean), Cond.methodLink RX7 208 yX4_triesOf, Cond.instanceMethod yX4_triesOf, Cond.selects RX4 yX4_triesOf yX4_triesOf, Cond.code yX4_triesOf cX4_triesOf 2 (some .int), Cond.methodLink RX7 296 yX7_settle, Cond.instanceMethod yX7_settle, Cond.selects RX7 yX7_settle yX7_settle, Cond.code yX7_settle cX7_settle 5 none, Cond.methodLink RX7 299 yX4_addTry, Cond.instanceMethod yX4_addTry, Cond.selects RX4 yX4_addTry yX4_addTry, Cond.code yX4_addTry cX4_addTry 2 none, Cond.methodLink RL 42 yX8_tick, Cond.instanceMethod yX8_tick, Cond.selects RX8 yX8_tick yX8_tick, Cond.code yX8_tick cX8_tick 4 (some .int), Cond.constant RX8 156 (1000000), Cond.methodLink RX8 157 yX8_again, Cond.instanceMethod yX8_again, Cond.selects RX8 yX8_again yX8_again, Cond.code yX8_again cX8_again 2 (some .boolean)]
def wsL_law_r17 : List Cond := [Cond.methodLink RL 43 yX7_serve, Cond.instanceMethod yX7_serve, Cond.selects RX7 yX7_serve yX7_serve, Cond.code yX7_serve cX7_serve 5 (some .int), Cond.methodLink RX7 140 yX2_has, Cond.instanceMethod yX2_has, Cond.selects RX2 yX2_has yX2_has, Cond.code yX2_has cX2_has 2 (some .boolean), Cond.methodLink RX7 144 yX2_rowAt, Cond.instanceMethod yX2_rowAt, Cond.selects RX2 yX2_rowAt yX2_rowAt, Cond.code yX2_rowAt cX2_rowAt 2 (some .int), Cond.methodLink RX2 26 yX2_has, Cond.methodLink RX7 148 yX2_removeAt, Cond.instanceMethod yX2_removeAt, Cond.selects RX2 yX2_removeAt yX2_removeAt, Cond.code yX2_removeAt cX2_removeAt 3 none, Cond.methodLink RX2 30 arraycopyName, Cond.methodLink RX7 155 yX0_valueOf, Cond.instanceMethod yX0_valueOf, Cond.selects RX0 yX0_valueOf yX0_valueOf, Cond.code yX0_valueOf cX0_valueOf 2 (some .long), Cond.methodLink RX7 158 yX6_takeAsk, Cond.instanceMethod yX6_takeAsk]
def wsL_law_r18 : List Cond := [Cond.selects RX6 yX6_takeAsk yX6_takeAsk, Cond.code yX6_takeAsk cX6_takeAsk 7 (some .boolean), Cond.methodLink RX6 22 yX6_countOf, Cond.instanceMethod yX6_countOf, Cond.selects RX6 yX6_countOf yX6_countOf, Cond.code yX6_countOf cX6_countOf 5 (some .int), Cond.methodLink RX7 162 yX6_answerTo, Cond.instanceMethod yX6_answerTo, Cond.selects RX6 yX6_answerTo yX6_answerTo, Cond.code yX6_answerTo cX6_answerTo 2 (some .long), Cond.methodLink RL 46 yX8_serve, Cond.instanceMethod yX8_serve, Cond.selects RX8 yX8_serve yX8_serve, Cond.code yX8_serve cX8_serve 5 (some .int), Cond.methodLink RX8 161 yX8_isUnder, Cond.instanceMethod yX8_isUnder, Cond.selects RX8 yX8_isUnder yX8_isUnder, Cond.code yX8_isUnder cX8_isUnder 3 (some .boolean), Cond.methodLink RX8 165 yX8_take, Cond.instanceMethod yX8_take, Cond.selects RX8 yX8_take yX8_take, Cond.code yX8_take cX8_take 4 none, Cond.methodLink RX8 169 yX8_keyAt, Cond.instanceMethod yX8_keyAt]
def wsL_law_r19 : List Cond := [Cond.selects RX8 yX8_keyAt yX8_keyAt, Cond.code yX8_keyAt cX8_keyAt 4 (some .int), Cond.methodLink RL 47 yX7_refuse, Cond.instanceMethod yX7_refuse, Cond.selects RX7 yX7_refuse yX7_refuse, Cond.code yX7_refuse cX7_refuse 4 (some .int), Cond.methodLink RX7 169 yX7_isCause, Cond.instanceMethod yX7_isCause, Cond.selects RX7 yX7_isCause yX7_isCause, Cond.code yX7_isCause cX7_isCause 2 (some .boolean), Cond.methodLink RL 50 yX8_refuse, Cond.instanceMethod yX8_refuse, Cond.selects RX8 yX8_refuse yX8_refuse, Cond.code yX8_refuse cX8_refuse 4 (some .int), Cond.methodLink RL 51 yX7_arrive, Cond.instanceMethod yX7_arrive, Cond.selects RX7 yX7_arrive yX7_arrive, Cond.code yX7_arrive cX7_arrive 7 (some .int), Cond.methodLink RX7 172 yX2_causeAt, Cond.instanceMethod yX2_causeAt, Cond.selects RX2 yX2_causeAt yX2_causeAt, Cond.code yX2_causeAt cX2_causeAt 2 (some .int), Cond.methodLink RX7 175 yX2_valueAt, Cond.instanceMethod yX2_valueAt]
def wsL_law_r20 : List Cond := [Cond.selects RX2 yX2_valueAt yX2_valueAt, Cond.code yX2_valueAt cX2_valueAt 2 (some .long), Cond.methodLink RX7 181 yX7_takeAnswer, Cond.instanceMethod yX7_takeAnswer, Cond.selects RX7 yX7_takeAnswer yX7_takeAnswer, Cond.code yX7_takeAnswer cX7_takeAnswer 5 (some .boolean), Cond.methodLink RX7 302 yX7_takeCause, Cond.instanceMethod yX7_takeCause, Cond.selects RX7 yX7_takeCause yX7_takeCause, Cond.code yX7_takeCause cX7_takeCause 4 (some .boolean), Cond.methodLink RX7 310 yX7_ruleOf, Cond.instanceMethod yX7_ruleOf, Cond.selects RX7 yX7_ruleOf yX7_ruleOf, Cond.code yX7_ruleOf cX7_ruleOf 2 (some .int), Cond.methodLink RX7 306 yX1_keep, Cond.instanceMethod yX1_keep, Cond.selects RX1 yX1_keep yX1_keep, Cond.code yX1_keep cX1_keep 7 none, Cond.methodLink RX1 30 yX1_placeFor, Cond.instanceMethod yX1_placeFor, Cond.selects RX1 yX1_placeFor yX1_placeFor, Cond.code yX1_placeFor cX1_placeFor 4 (some .int), Cond.methodLink RX1 33 yX1_firstToGo, Cond.instanceMethod yX1_firstToGo]
def wsL_law_r21 : List Cond := [Cond.selects RX1 yX1_firstToGo yX1_firstToGo, Cond.code yX1_firstToGo cX1_firstToGo 4 (some .int), Cond.methodLink RL 54 yX8_arrive, Cond.instanceMethod yX8_arrive, Cond.selects RX8 yX8_arrive yX8_arrive, Cond.code yX8_arrive cX8_arrive 9 (some .int), Cond.methodLink RX8 172 yX8_keep, Cond.instanceMethod yX8_keep, Cond.selects RX8 yX8_keep yX8_keep, Cond.code yX8_keep cX8_keep 7 none, Cond.methodLink RL 55 yX7_lose, Cond.instanceMethod yX7_lose, Cond.selects RX7 yX7_lose yX7_lose, Cond.code yX7_lose cX7_lose 4 (some .int), Cond.methodLink RX7 185 yX7_lineOf, Cond.instanceMethod yX7_lineOf, Cond.selects RX7 yX7_lineOf yX7_lineOf, Cond.code yX7_lineOf cX7_lineOf 2 (some (.object "OutsideAsks$Line")), Cond.methodLink RL 58 yX8_lose, Cond.instanceMethod yX8_lose, Cond.selects RX8 yX8_lose yX8_lose, Cond.code yX8_lose cX8_lose 3 (some .int), Cond.methodLink RL 59 yX7_twice, Cond.instanceMethod yX7_twice]
def wsL_law_r22 : List Cond := [Cond.selects RX7 yX7_twice yX7_twice, Cond.code yX7_twice cX7_twice 4 (some .int), Cond.methodLink RL 62 yX8_twice, Cond.instanceMethod yX8_twice, Cond.selects RX8 yX8_twice yX8_twice, Cond.code yX8_twice cX8_twice 4 (some .int), Cond.methodLink RL 63 yX7_under, Cond.instanceMethod yX7_under, Cond.selects RX7 yX7_under yX7_under, Cond.code yX7_under cX7_under 4 (some .int), Cond.methodLink RL 66 yX8_under, Cond.instanceMethod yX8_under, Cond.selects RX8 yX8_under yX8_under, Cond.code yX8_under cX8_under 3 (some .int), Cond.methodLink RL 67 yX7_out, Cond.instanceMethod yX7_out, Cond.selects RX7 yX7_out yX7_out, Cond.code yX7_out cX7_out 3 (some .int), Cond.methodLink RX7 195 yX3_itemAt, Cond.instanceMethod yX3_itemAt, Cond.selects RX3 yX3_itemAt yX3_itemAt, Cond.code yX3_itemAt cX3_itemAt 2 (some .int), Cond.methodLink RX7 198 yX4_resultOf, Cond.instanceMethod yX4_resultOf]
def wsL_law_r23 : List Cond := [Cond.selects RX4 yX4_resultOf yX4_resultOf, Cond.code yX4_resultOf cX4_resultOf 2 (some .int), Cond.methodLink RX7 201 yX3_tickAt, Cond.instanceMethod yX3_tickAt, Cond.selects RX3 yX3_tickAt yX3_tickAt, Cond.code yX3_tickAt cX3_tickAt 2 (some .int), Cond.methodLink RL 70 yX8_out, Cond.instanceMethod yX8_out, Cond.selects RX8 yX8_out yX8_out, Cond.code yX8_out cX8_out 3 (some .int), Cond.methodLink RL 71 yX7_value, Cond.instanceMethod yX7_value, Cond.selects RX7 yX7_value yX7_value, Cond.code yX7_value cX7_value 2 (some .long), Cond.methodLink RX7 204 yX4_valueOf, Cond.instanceMethod yX4_valueOf, Cond.selects RX4 yX4_valueOf yX4_valueOf, Cond.code yX4_valueOf cX4_valueOf 2 (some .long), Cond.methodLink RL 75 yX8_value, Cond.instanceMethod yX8_value, Cond.selects RX8 yX8_value yX8_value, Cond.code yX8_value cX8_value 2 (some .long), Cond.methodLink RX8 176 yX8_isItem, Cond.instanceMethod yX8_isItem]
def wsL_law_r24 : List Cond := [Cond.selects RX8 yX8_isItem yX8_isItem, Cond.code yX8_isItem cX8_isItem 2 (some .boolean), Cond.methodLink RL 76 yX7_item, Cond.instanceMethod yX7_item, Cond.selects RX7 yX7_item yX7_item, Cond.code yX7_item cX7_item 3 (some .int), Cond.methodLink RX7 205 yX4_hasItem, Cond.methodLink RL 79 yX8_item, Cond.instanceMethod yX8_item, Cond.selects RX8 yX8_item yX8_item, Cond.code yX8_item cX8_item 3 (some .int), Cond.methodLink RL 80 yX7_count, Cond.instanceMethod yX7_count, Cond.selects RX7 yX7_count yX7_count, Cond.code yX7_count cX7_count 3 (some .int), Cond.methodLink RX7 217 yX6_countOf, Cond.methodLink RL 84 yX8_count, Cond.instanceMethod yX8_count, Cond.selects RX8 yX8_count yX8_count, Cond.code yX8_count cX8_count 4 (some .int), Cond.methodLink RL 85 yX7_kept, Cond.instanceMethod yX7_kept, Cond.selects RX7 yX7_kept yX7_kept, Cond.code yX7_kept cX7_kept 3 (some .int)]
def wsL_law_r25 : List Cond := [Cond.methodLink RL 88 yX8_kept, Cond.instanceMethod yX8_kept, Cond.selects RX8 yX8_kept yX8_kept, Cond.code yX8_kept cX8_kept 4 (some .int), Cond.methodLink RL 89 yX7_save, Cond.instanceMethod yX7_save, Cond.selects RX7 yX7_save yX7_save, Cond.code yX7_save cX7_save 1 (some .int), Cond.methodLink RX7 224 yX4_copyFrom, Cond.instanceMethod yX4_copyFrom, Cond.selects RX4 yX4_copyFrom yX4_copyFrom, Cond.code yX4_copyFrom cX4_copyFrom 2 none, Cond.methodLink RX4 42 yX4_copyItems, Cond.instanceMethod yX4_copyItems, Cond.selects RX4 yX4_copyItems yX4_copyItems, Cond.code yX4_copyItems cX4_copyItems 2 none, Cond.methodLink RX4 50 arraycopyName, Cond.methodLink RL 92 yX8_save, Cond.instanceMethod yX8_save, Cond.selects RX8 yX8_save yX8_save, Cond.code yX8_save cX8_save 3 (some .int), Cond.fieldLink RX8 179 "OutsideAsksModel" "savedItems" "I", Cond.fieldLink RX8 182 "OutsideAsksModel" "savedOuts" "I", Cond.methodLink RL 93 yX7_restart]
def wsL_law_r26 : List Cond := [Cond.instanceMethod yX7_restart, Cond.selects RX7 yX7_restart yX7_restart, Cond.code yX7_restart cX7_restart 1 (some .int), Cond.methodLink RX7 235 yX4_goBackTo, Cond.instanceMethod yX4_goBackTo, Cond.selects RX4 yX4_goBackTo yX4_goBackTo, Cond.code yX4_goBackTo cX4_goBackTo 3 none, Cond.methodLink RX4 46 yX4_becomeGone, Cond.instanceMethod yX4_becomeGone, Cond.selects RX4 yX4_becomeGone yX4_becomeGone, Cond.code yX4_becomeGone cX4_becomeGone 2 none, Cond.methodLink RX7 238 yX1_forgetAll, Cond.instanceMethod yX1_forgetAll, Cond.selects RX1 yX1_forgetAll yX1_forgetAll, Cond.code yX1_forgetAll cX1_forgetAll 1 none, Cond.methodLink RX7 241 yX7_askAgainAllWorking, Cond.instanceMethod yX7_askAgainAllWorking, Cond.selects RX7 yX7_askAgainAllWorking yX7_askAgainAllWorking, Cond.code yX7_askAgainAllWorking cX7_askAgainAllWorking 2 none, Cond.methodLink RL 96 yX8_restart, Cond.instanceMethod yX8_restart, Cond.selects RX8 yX8_restart yX8_restart, Cond.code yX8_restart cX8_restart 2 (some .int), Cond.fieldLink RX8 185 "OutsideAsksModel" "restarts" "I"]
def wsL_law_r27 : List Cond := [Cond.methodLink RL 97 yX7_told, Cond.instanceMethod yX7_told, Cond.selects RX7 yX7_told yX7_told, Cond.code yX7_told cX7_told 2 (some .int), Cond.methodLink RL 100 yX8_told, Cond.instanceMethod yX8_told, Cond.selects RX8 yX8_told yX8_told, Cond.code yX8_told cX8_told 2 (some .int)]
def wsL_law : List Cond := (wsL_law_r1 ++ (wsL_law_r2 ++ (wsL_law_r3 ++ (wsL_law_r4 ++ (wsL_law_r5 ++ (wsL_law_r6 ++ (wsL_law_r7 ++ (wsL_law_r8 ++ (wsL_law_r9 ++ (wsL_law_r10 ++ (wsL_law_r11 ++ (wsL_law_r12 ++ (wsL_law_r13 ++ (wsL_law_r14 ++ (wsL_law_r15 ++ (wsL_law_r16 ++ (wsL_law_r17 ++ (wsL_law_r18 ++ (wsL_law_r19 ++ (wsL_law_r20 ++ (wsL_law_r21 ++ (wsL_law_r22 ++ (wsL_law_r23 ++ (wsL_law_r24 ++ (wsL_law_r25 ++ (wsL_law_r26 ++ wsL_law_r27)))))))))))))))))))))))))) ++ wsX70 ++ wsX80 ++ wsX00 ++ wsX40 ++ wsX30 ++ wsX50 ++ wsX20 ++ wsX60 ++ wsX10 ++ ([] : List Cond)
theorem inlX0 : ∀ w ∈ wsX00, w ∈ wsL_law := fun _ h => List.mem_append_left _ (List.mem_append_left _ (List.mem_append_left _ (List.mem_append_left _ (List.mem_append_left _ (List.mem_append_left _ (List.mem_append_left _ (List.mem_append_right _ h)))))))
theorem inlX1 : ∀ w ∈ wsX10, w ∈ wsL_law := fun _ h => List.mem_append_left _ (List.mem_append_right _ h)
theorem inlX2 : ∀ w ∈ wsX20, w ∈ wsL_law := fun _ h => List.mem_append_left _ (List.mem_append_left _ (List.mem_append_left _ (List.mem_append_right _ h)))
theorem inlX3 : ∀ w ∈ wsX30, w ∈ wsL_law := fun _ h => List.mem_append_left _ (List.mem_append_left _ (List.mem_append_left _ (List.mem_append_left _ (List.mem_append_left _ (List.mem_append_right _ h)))))
theorem inlX4 : ∀ w ∈ wsX40, w ∈ wsL_law := fun _ h => List.mem_append_left _ (List.mem_append_left _ (List.mem_append_left _ (List.mem_append_left _ (List.mem_append_left _ (List.mem_append_left _ (List.mem_append_right _ h))))))
theorem inlX5 : ∀ w ∈ wsX50, w ∈ wsL_law := fun _ h => List.mem_append_left _ (List.mem_append_left _ (List.mem_append_left _ (List.mem_append_left _ (List.mem_append_right _ h))))
theorem inlX6 : ∀ w ∈ wsX60, w ∈ wsL_law := fun _ h => List.mem_append_left _ (List.mem_append_left _ (List.mem_append_right _ h))
theorem inlX7 : ∀ w ∈ wsX70, w ∈ wsL_law := fun _ h => List.mem_append_left _ (List.mem_append_left _ (List.mem_append_left _ (List.mem_append_left _ (List.mem_append_left _ (List.mem_append_left _ (List.mem_append_left _ (List.mem_append_left _ (List.mem_append_left _ (List.mem_append_right _ h)))))))))
theorem inlX8 : ∀ w ∈ wsX80, w ∈ wsL_law := fun _ h => List.mem_append_left _ (List.mem_append_left _ (List.mem_append_left _ (List.mem_append_left _ (List.mem_append_left _ (List.mem_append_left _ (List.mem_append_left _ (List.mem_append_left _ (List.mem_append_right _ h))))))))
abbrev vwCl : List vw_C := [(RX0, TX0, 4), (RX1, TX1, 4), (RX2, TX2, 4), (RX3, TX3, 2), (RX4, TX4, 8), (RX5, TX5, 2), (RX6, TX6, 3), (RX7, TX7, 18), (RX8, TX8, 38)]
theorem wr_1 : ∀ w ∈ wsL_law_r1, w ∈ wsL_law := fun _ h => (List.mem_append_left _ (List.mem_append_left _ (List.mem_append_left _ (List.mem_append_left _ (List.mem_append_left _ (List.mem_append_left _ (List.mem_append_left _ (List.mem_append_left _ (List.mem_append_left _ (List.mem_append_left _ (List.mem_append_left _ h)))))))))))
theorem wr_2 : ∀ w ∈ wsL_law_r2, w ∈ wsL_law := fun _ h => (List.mem_append_left _ (List.mem_append_left _ (List.mem_append_left _ (List.mem_append_left _ (List.mem_append_left _ (List.mem_append_left _ (List.mem_append_left _ (List.mem_append_left _ (List.mem_append_left _ (List.mem_append_left _ (List.mem_append_right _ (List.mem_append_left _ h))))))))))))
theorem wr_3 : ∀ w ∈ wsL_law_r3, w ∈ wsL_law := fun _ h => (List.mem_append_left _ (List.mem_append_left _ (List.mem_append_left _ (List.mem_append_left _ (List.mem_append_left _ (List.mem_append_left _ (List.mem_append_left _ (List.mem_append_left _ (List.mem_append_left _ (List.mem_append_left _ (List.mem_append_right _ (List.mem_append_right _ (List.mem_append_left _ h)))))))))))))
theorem wr_4 : ∀ w ∈ wsL_law_r4, w ∈ wsL_law := fun _ h => (List.mem_append_left _ (List.mem_append_left _ (List.mem_append_left _ (List.mem_append_left _ (List.mem_append_left _ (List.mem_append_left _ (List.mem_append_left _ (List.mem_append_left _ (List.mem_append_left _ (List.mem_append_left _ (List.mem_append_right _ (List.mem_append_right _ (List.mem_append_right _ (List.mem_append_left _ h))))))))))))))
theorem wr_5 : ∀ w ∈ wsL_law_r5, w ∈ wsL_law := fun _ h => (List.mem_append_left _ (List.mem_append_left _ (List.mem_append_left _ (List.mem_append_left _ (List.mem_append_left _ (List.mem_append_left _ (List.mem_append_left _ (List.mem_append_left _ (List.mem_append_left _ (List.mem_append_left _ (List.mem_append_right _ (List.mem_append_right _ (List.mem_append_right _ (List.mem_append_right _ (List.mem_append_left _ h)))))))))))))))
theorem wr_6 : ∀ w ∈ wsL_law_r6, w ∈ wsL_law := fun _ h => (List.mem_append_left _ (List.mem_append_left _ (List.mem_append_left _ (List.mem_append_left _ (List.mem_append_left _ (List.mem_append_left _ (List.mem_append_left _ (List.mem_append_left _ (List.mem_append_left _ (List.mem_append_left _ (List.mem_append_right _ (List.mem_append_right _ (List.mem_append_right _ (List.mem_append_right _ (List.mem_append_right _ (List.mem_append_left _ h))))))))))))))))
theorem wr_7 : ∀ w ∈ wsL_law_r7, w ∈ wsL_law := fun _ h => (List.mem_append_left _ (List.mem_append_left _ (List.mem_append_left _ (List.mem_append_left _ (List.mem_append_left _ (List.mem_append_left _ (List.mem_append_left _ (List.mem_append_left _ (List.mem_append_left _ (List.mem_append_left _ (List.mem_append_right _ (List.mem_append_right _ (List.mem_append_right _ (List.mem_append_right _ (List.mem_append_right _ (List.mem_append_right _ (List.mem_append_left _ h)))))))))))))))))
theorem wr_8 : ∀ w ∈ wsL_law_r8, w ∈ wsL_law := fun _ h => (List.mem_append_left _ (List.mem_append_left _ (List.mem_append_left _ (List.mem_append_left _ (List.mem_append_left _ (List.mem_append_left _ (List.mem_append_left _ (List.mem_append_left _ (List.mem_append_left _ (List.mem_append_left _ (List.mem_append_right _ (List.mem_append_right _ (List.mem_append_right _ (List.mem_append_right _ (List.mem_append_right _ (List.mem_append_right _ (List.mem_append_right _ (List.mem_append_left _ h))))))))))))))))))
theorem wr_9 : ∀ w ∈ wsL_law_r9, w ∈ wsL_law := fun _ h => (List.mem_append_left _ (List.mem_append_left _ (List.mem_append_left _ (List.mem_append_left _ (List.mem_append_left _ (List.mem_append_left _ (List.mem_append_left _ (List.mem_append_left _ (List.mem_append_left _ (List.mem_append_left _ (List.mem_append_right _ (List.mem_append_right _ (List.mem_append_right _ (List.mem_append_right _ (List.mem_append_right _ (List.mem_append_right _ (List.mem_append_right _ (List.mem_append_right _ (List.mem_append_left _ h)))))))))))))))))))
theorem wr_10 : ∀ w ∈ wsL_law_r10, w ∈ wsL_law := fun _ h => (List.mem_append_left _ (List.mem_append_left _ (List.mem_append_left _ (List.mem_append_left _ (List.mem_append_left _ (List.mem_append_left _ (List.mem_append_left _ (List.mem_append_left _ (List.mem_append_left _ (List.mem_append_left _ (List.mem_append_right _ (List.mem_append_right _ (List.mem_append_right _ (List.mem_append_right _ (List.mem_append_right _ (List.mem_append_right _ (List.mem_append_right _ (List.mem_append_right _ (List.mem_append_right _ (List.mem_append_left _ h))))))))))))))))))))
theorem wr_11 : ∀ w ∈ wsL_law_r11, w ∈ wsL_law := fun _ h => (List.mem_append_left _ (List.mem_append_left _ (List.mem_append_left _ (List.mem_append_left _ (List.mem_append_left _ (List.mem_append_left _ (List.mem_append_left _ (List.mem_append_left _ (List.mem_append_left _ (List.mem_append_left _ (List.mem_append_right _ (List.mem_append_right _ (List.mem_append_right _ (List.mem_append_right _ (List.mem_append_right _ (List.mem_append_right _ (List.mem_append_right _ (List.mem_append_right _ (List.mem_append_right _ (List.mem_append_right _ (List.mem_append_left _ h)))))))))))))))))))))
theorem wr_12 : ∀ w ∈ wsL_law_r12, w ∈ wsL_law := fun _ h => (List.mem_append_left _ (List.mem_append_left _ (List.mem_append_left _ (List.mem_append_left _ (List.mem_append_left _ (List.mem_append_left _ (List.mem_append_left _ (List.mem_append_left _ (List.mem_append_left _ (List.mem_append_left _ (List.mem_append_right _ (List.mem_append_right _ (List.mem_append_right _ (List.mem_append_right _ (List.mem_append_right _ (List.mem_append_right _ (List.mem_append_right _ (List.mem_append_right _ (List.mem_append_right _ (List.mem_append_right _ (List.mem_append_right _ (List.mem_append_left _ h))))))))))))))))))))))
theorem wr_13 : ∀ w ∈ wsL_law_r13, w ∈ wsL_law := fun _ h => (List.mem_append_left _ (List.mem_append_left _ (List.mem_append_left _ (List.mem_append_left _ (List.mem_append_left _ (List.mem_append_left _ (List.mem_append_left _ (List.mem_append_left _ (List.mem_append_left _ (List.mem_append_left _ (List.mem_append_right _ (List.mem_append_right _ (List.mem_append_right _ (List.mem_append_right _ (List.mem_append_right _ (List.mem_append_right _ (List.mem_append_right _ (List.mem_append_right _ (List.mem_append_right _ (List.mem_append_right _ (List.mem_append_right _ (List.mem_append_right _ (List.mem_append_left _ h)))))))))))))))))))))))
theorem wr_14 : ∀ w ∈ wsL_law_r14, w ∈ wsL_law := fun _ h => (List.mem_append_left _ (List.mem_append_left _ (List.mem_append_left _ (List.mem_append_left _ (List.mem_append_left _ (List.mem_append_left _ (List.mem_append_left _ (List.mem_append_left _ (List.mem_append_left _ (List.mem_append_left _ (List.mem_append_right _ (List.mem_append_right _ (List.mem_append_right _ (List.mem_append_right _ (List.mem_append_right _ (List.mem_append_right _ (List.mem_append_right _ (List.mem_append_right _ (List.mem_append_right _ (List.mem_append_right _ (List.mem_append_right _ (List.mem_append_right _ (List.mem_append_right _ (List.mem_append_left _ h))))))))))))))))))))))))
theorem wr_15 : ∀ w ∈ wsL_law_r15, w ∈ wsL_law := fun _ h => (List.mem_append_left _ (List.mem_append_left _ (List.mem_append_left _ (List.mem_append_left _ (List.mem_append_left _ (List.mem_append_left _ (List.mem_append_left _ (List.mem_append_left _ (List.mem_append_left _ (List.mem_append_left _ (List.mem_append_right _ (List.mem_append_right _ (List.mem_append_right _ (List.mem_append_right _ (List.mem_append_right _ (List.mem_append_right _ (List.mem_append_right _ (List.mem_append_right _ (List.mem_append_right _ (List.mem_append_right _ (List.mem_append_right _ (List.mem_append_right _ (List.mem_append_right _ (List.mem_append_right _ (List.mem_append_left _ h)))))))))))))))))))))))))
theorem wr_16 : ∀ w ∈ wsL_law_r16, w ∈ wsL_law := fun _ h => (List.mem_append_left _ (List.mem_append_left _ (List.mem_append_left _ (List.mem_append_left _ (List.mem_append_left _ (List.mem_append_left _ (List.mem_append_left _ (List.mem_append_left _ (List.mem_append_left _ (List.mem_append_left _ (List.mem_append_right _ (List.mem_append_right _ (List.mem_append_right _ (List.mem_append_right _ (List.mem_append_right _ (List.mem_append_right _ (List.mem_append_right _ (List.mem_append_right _ (List.mem_append_right _ (List.mem_append_right _ (List.mem_append_right _ (List.mem_append_right _ (List.mem_append_right _ (List.mem_append_right _ (List.mem_append_right _ (List.mem_append_left _ h))))))))))))))))))))))))))
theorem wr_17 : ∀ w ∈ wsL_law_r17, w ∈ wsL_law := fun _ h => (List.mem_append_left _ (List.mem_append_left _ (List.mem_append_left _ (List.mem_append_left _ (List.mem_append_left _ (List.mem_append_left _ (List.mem_append_left _ (List.mem_append_left _ (List.mem_append_left _ (List.mem_append_left _ (List.mem_append_right _ (List.mem_append_right _ (List.mem_append_right _ (List.mem_append_right _ (List.mem_append_right _ (List.mem_append_right _ (List.mem_append_right _ (List.mem_append_right _ (List.mem_append_right _ (List.mem_append_right _ (List.mem_append_right _ (List.mem_append_right _ (List.mem_append_right _ (List.mem_append_right _ (List.mem_append_right _ (List.mem_append_right _ (List.mem_append_left _ h)))))))))))))))))))))))))))
theorem wr_18 : ∀ w ∈ wsL_law_r18, w ∈ wsL_law := fun _ h => (List.mem_append_left _ (List.mem_append_left _ (List.mem_append_left _ (List.mem_append_left _ (List.mem_append_left _ (List.mem_append_left _ (List.mem_append_left _ (List.mem_append_left _ (List.mem_append_left _ (List.mem_append_left _ (List.mem_append_right _ (List.mem_append_right _ (List.mem_append_right _ (List.mem_append_right _ (List.mem_append_right _ (List.mem_append_right _ (List.mem_append_right _ (List.mem_append_right _ (List.mem_append_right _ (List.mem_append_right _ (List.mem_append_right _ (List.mem_append_right _ (List.mem_append_right _ (List.mem_append_right _ (List.mem_append_right _ (List.mem_append_right _ (List.mem_append_right _ (List.mem_append_left _ h))))))))))))))))))))))))))))
theorem wr_19 : ∀ w ∈ wsL_law_r19, w ∈ wsL_law := fun _ h => (List.mem_append_left _ (List.mem_append_left _ (List.mem_append_left _ (List.mem_append_left _ (List.mem_append_left _ (List.mem_append_left _ (List.mem_append_left _ (List.mem_append_left _ (List.mem_append_left _ (List.mem_append_left _ (List.mem_append_right _ (List.mem_append_right _ (List.mem_append_right _ (List.mem_append_right _ (List.mem_append_right _ (List.mem_append_right _ (List.mem_append_right _ (List.mem_append_right _ (List.mem_append_right _ (List.mem_append_right _ (List.mem_append_right _ (List.mem_append_right _ (List.mem_append_right _ (List.mem_append_right _ (List.mem_append_right _ (List.mem_append_right _ (List.mem_append_right _ (List.mem_append_right _ (List.mem_append_left _ h)))))))))))))))))))))))))))))
theorem wr_20 : ∀ w ∈ wsL_law_r20, w ∈ wsL_law := fun _ h => (List.mem_append_left _ (List.mem_append_left _ (List.mem_append_left _ (List.mem_append_left _ (List.mem_append_left _ (List.mem_append_left _ (List.mem_append_left _ (List.mem_append_left _ (List.mem_append_left _ (List.mem_append_left _ (List.mem_append_right _ (List.mem_append_right _ (List.mem_append_right _ (List.mem_append_right _ (List.mem_append_right _ (List.mem_append_right _ (List.mem_append_right _ (List.mem_append_right _ (List.mem_append_right _ (List.mem_append_right _ (List.mem_append_right _ (List.mem_append_right _ (List.mem_append_right _ (List.mem_append_right _ (List.mem_append_right _ (List.mem_append_right _ (List.mem_append_right _ (List.mem_append_right _ (List.mem_append_right _ (List.mem_append_left _ h))))))))))))))))))))))))))))))
theorem wr_21 : ∀ w ∈ wsL_law_r21, w ∈ wsL_law := fun _ h => (List.mem_append_left _ (List.mem_append_left _ (List.mem_append_left _ (List.mem_append_left _ (List.mem_append_left _ (List.mem_append_left _ (List.mem_append_left _ (List.mem_append_left _ (List.mem_append_left _ (List.mem_append_left _ (List.mem_append_right _ (List.mem_append_right _ (List.mem_append_right _ (List.mem_append_right _ (List.mem_append_right _ (List.mem_append_right _ (List.mem_append_right _ (List.mem_append_right _ (List.mem_append_right _ (List.mem_append_right _ (List.mem_append_right _ (List.mem_append_right _ (List.mem_append_right _ (List.mem_append_right _ (List.mem_append_right _ (List.mem_append_right _ (List.mem_append_right _ (List.mem_append_right _ (List.mem_append_right _ (List.mem_append_right _ (List.mem_append_left _ h)))))))))))))))))))))))))))))))
theorem wr_22 : ∀ w ∈ wsL_law_r22, w ∈ wsL_law := fun _ h => (List.mem_append_left _ (List.mem_append_left _ (List.mem_append_left _ (List.mem_append_left _ (List.mem_append_left _ (List.mem_append_left _ (List.mem_append_left _ (List.mem_append_left _ (List.mem_append_left _ (List.mem_append_left _ (List.mem_append_right _ (List.mem_append_right _ (List.mem_append_right _ (List.mem_append_right _ (List.mem_append_right _ (List.mem_append_right _ (List.mem_append_right _ (List.mem_append_right _ (List.mem_append_right _ (List.mem_append_right _ (List.mem_append_right _ (List.mem_append_right _ (List.mem_append_right _ (List.mem_append_right _ (List.mem_append_right _ (List.mem_append_right _ (List.mem_append_right _ (List.mem_append_right _ (List.mem_append_right _ (List.mem_append_right _ (List.mem_append_right _ (List.mem_append_left _ h))))))))))))))))))))))))))))))))
theorem wr_23 : ∀ w ∈ wsL_law_r23, w ∈ wsL_law := fun _ h => (List.mem_append_left _ (List.mem_append_left _ (List.mem_append_left _ (List.mem_append_left _ (List.mem_append_left _ (List.mem_append_left _ (List.mem_append_left _ (List.mem_append_left _ (List.mem_append_left _ (List.mem_append_left _ (List.mem_append_right _ (List.mem_append_right _ (List.mem_append_right _ (List.mem_append_right _ (List.mem_append_right _ (List.mem_append_right _ (List.mem_append_right _ (List.mem_append_right _ (List.mem_append_right _ (List.mem_append_right _ (List.mem_append_right _ (List.mem_append_right _ (List.mem_append_right _ (List.mem_append_right _ (List.mem_append_right _ (List.mem_append_right _ (List.mem_append_right _ (List.mem_append_right _ (List.mem_append_right _ (List.mem_append_right _ (List.mem_append_right _ (List.mem_append_right _ (List.mem_append_left _ h)))))))))))))))))))))))))))))))))
theorem wr_24 : ∀ w ∈ wsL_law_r24, w ∈ wsL_law := fun _ h => (List.mem_append_left _ (List.mem_append_left _ (List.mem_append_left _ (List.mem_append_left _ (List.mem_append_left _ (List.mem_append_left _ (List.mem_append_left _ (List.mem_append_left _ (List.mem_append_left _ (List.mem_append_left _ (List.mem_append_right _ (List.mem_append_right _ (List.mem_append_right _ (List.mem_append_right _ (List.mem_append_right _ (List.mem_append_right _ (List.mem_append_right _ (List.mem_append_right _ (List.mem_append_right _ (List.mem_append_right _ (List.mem_append_right _ (List.mem_append_right _ (List.mem_append_right _ (List.mem_append_right _ (List.mem_append_right _ (List.mem_append_right _ (List.mem_append_right _ (List.mem_append_right _ (List.mem_append_right _ (List.mem_append_right _ (List.mem_append_right _ (List.mem_append_right _ (List.mem_append_right _ (List.mem_append_left _ h))))))))))))))))))))))))))))))))))
theorem wr_25 : ∀ w ∈ wsL_law_r25, w ∈ wsL_law := fun _ h => (List.mem_append_left _ (List.mem_append_left _ (List.mem_append_left _ (List.mem_append_left _ (List.mem_append_left _ (List.mem_append_left _ (List.mem_append_left _ (List.mem_append_left _ (List.mem_append_left _ (List.mem_append_left _ (List.mem_append_right _ (List.mem_append_right _ (List.mem_append_right _ (List.mem_append_right _ (List.mem_append_right _ (List.mem_append_right _ (List.mem_append_right _ (List.mem_append_right _ (List.mem_append_right _ (List.mem_append_right _ (List.mem_append_right _ (List.mem_append_right _ (List.mem_append_right _ (List.mem_append_right _ (List.mem_append_right _ (List.mem_append_right _ (List.mem_append_right _ (List.mem_append_right _ (List.mem_append_right _ (List.mem_append_right _ (List.mem_append_right _ (List.mem_append_right _ (List.mem_append_right _ (List.mem_append_right _ (List.mem_append_left _ h)))))))))))))))))))))))))))))))))))
theorem wr_26 : ∀ w ∈ wsL_law_r26, w ∈ wsL_law := fun _ h => (List.mem_append_left _ (List.mem_append_left _ (List.mem_append_left _ (List.mem_append_left _ (List.mem_append_left _ (List.mem_append_left _ (List.mem_append_left _ (List.mem_append_left _ (List.mem_append_left _ (List.mem_append_left _ (List.mem_append_right _ (List.mem_append_right _ (List.mem_append_right _ (List.mem_append_right _ (List.mem_append_right _ (List.mem_append_right _ (List.mem_append_right _ (List.mem_append_right _ (List.mem_append_right _ (List.mem_append_right _ (List.mem_append_right _ (List.mem_append_right _ (List.mem_append_right _ (List.mem_append_right _ (List.mem_append_right _ (List.mem_append_right _ (List.mem_append_right _ (List.mem_append_right _ (List.mem_append_right _ (List.mem_append_right _ (List.mem_append_right _ (List.mem_append_right _ (List.mem_append_right _ (List.mem_append_right _ (List.mem_append_right _ (List.mem_append_left _ h))))))))))))))))))))))))))))))))))))
theorem wr_27 : ∀ w ∈ wsL_law_r27, w ∈ wsL_law := fun _ h => (List.mem_append_left _ (List.mem_append_left _ (List.mem_append_left _ (List.mem_append_left _ (List.mem_append_left _ (List.mem_append_left _ (List.mem_append_left _ (List.mem_append_left _ (List.mem_append_left _ (List.mem_append_left _ (List.mem_append_right _ (List.mem_append_right _ (List.mem_append_right _ (List.mem_append_right _ (List.mem_append_right _ (List.mem_append_right _ (List.mem_append_right _ (List.mem_append_right _ (List.mem_append_right _ (List.mem_append_right _ (List.mem_append_right _ (List.mem_append_right _ (List.mem_append_right _ (List.mem_append_right _ (List.mem_append_right _ (List.mem_append_right _ (List.mem_append_right _ (List.mem_append_right _ (List.mem_append_right _ (List.mem_append_right _ (List.mem_append_right _ (List.mem_append_right _ (List.mem_append_right _ (List.mem_append_right _ (List.mem_append_right _ (List.mem_append_right _ h))))))))))))))))))))))))))))))))))))
theorem wm_1_0 : (Cond.classLink RL 7 RX7) ∈ wsL_law := wr_1 _ (List.mem_of_getElem? (i := 0) rfl)
theorem wm_1_1 : (Cond.instantiable RX7 18) ∈ wsL_law := wr_1 _ (List.mem_of_getElem? (i := 1) rfl)
theorem wm_1_2 : (Cond.initialized RX7) ∈ wsL_law := wr_1 _ (List.mem_of_getElem? (i := 2) rfl)
theorem wm_1_3 : (Cond.classLink RL 18 RX8) ∈ wsL_law := wr_1 _ (List.mem_of_getElem? (i := 3) rfl)
theorem wm_1_4 : (Cond.instantiable RX8 38) ∈ wsL_law := wr_1 _ (List.mem_of_getElem? (i := 4) rfl)
theorem wm_1_5 : (Cond.initialized RX8) ∈ wsL_law := wr_1 _ (List.mem_of_getElem? (i := 5) rfl)
theorem wm_1_6 : (Cond.constantLong RL 26 (4294967295)) ∈ wsL_law := wr_1 _ (List.mem_of_getElem? (i := 6) rfl)
theorem wm_1_7 : (Cond.methodLink RL 9 yL_cell) ∈ wsL_law := wr_1 _ (List.mem_of_getElem? (i := 7) rfl)
theorem wm_1_8 : (Cond.static yL_cell) ∈ wsL_law := wr_1 _ (List.mem_of_getElem? (i := 8) rfl)
theorem wm_1_9 : (Cond.initialized RL) ∈ wsL_law := wr_1 _ (List.mem_of_getElem? (i := 9) rfl)
theorem wm_1_10 : (Cond.code yL_cell cL_cell 2 (some .int)) ∈ wsL_law := wr_1 _ (List.mem_of_getElem? (i := 10) rfl)
theorem wm_1_11 : (Cond.methodLink RL 15 yX7_init) ∈ wsL_law := wr_1 _ (List.mem_of_getElem? (i := 11) rfl)
theorem wm_1_12 : (Cond.instanceMethod yX7_init) ∈ wsL_law := wr_1 _ (List.mem_of_getElem? (i := 12) rfl)
theorem wm_1_13 : (Cond.code yX7_init cX7_init 3 none) ∈ wsL_law := wr_1 _ (List.mem_of_getElem? (i := 13) rfl)
theorem wm_1_14 : (Cond.methodLink RX7 1 objectInit) ∈ wsL_law := wr_1 _ (List.mem_of_getElem? (i := 14) rfl)
theorem wm_1_15 : (Cond.instanceMethod objectInit) ∈ wsL_law := wr_1 _ (List.mem_of_getElem? (i := 15) rfl)
theorem wm_1_16 : (Cond.code objectInit ⟨#[0xb1]⟩ 1 none) ∈ wsL_law := wr_1 _ (List.mem_of_getElem? (i := 16) rfl)
theorem wm_1_17 : (Cond.fieldLink RX7 7 "OutsideAsks" "FIRST_SETTINGS" "[I") ∈ wsL_law := wr_1 _ (List.mem_of_getElem? (i := 17) rfl)
theorem wm_1_18 : (Cond.methodLink RX7 13 ⟨"[I", "clone", "()Ljava/lang/Object;"⟩) ∈ wsL_law := wr_1 _ (List.mem_of_getElem? (i := 18) rfl)
theorem wm_1_19 : (Cond.sameMethod "[I" "java/lang/Object" "clone" "()Ljava/lang/Object;") ∈ wsL_law := wr_1 _ (List.mem_of_getElem? (i := 19) rfl)
theorem wm_1_20 : (Cond.native ⟨"java/lang/Object", "clone", "()Ljava/lang/Object;"⟩) ∈ wsL_law := wr_1 _ (List.mem_of_getElem? (i := 20) rfl)
theorem wm_1_21 : (Cond.instanceMethod ⟨"java/lang/Object", "clone", "()Ljava/lang/Object;"⟩) ∈ wsL_law := wr_1 _ (List.mem_of_getElem? (i := 21) rfl)
theorem wm_1_22 : (Cond.selects "[I" ⟨"[I", "clone", "()Ljava/lang/Object;"⟩ ⟨"java/lang/Object", "clone", "()Ljava/lang/Object;"⟩) ∈ wsL_law := wr_1 _ (List.mem_of_getElem? (i := 22) rfl)
theorem wm_1_23 : (Cond.classLink RX7 14 "[I") ∈ wsL_law := wr_1 _ (List.mem_of_getElem? (i := 23) rfl)
theorem wm_2_0 : (Cond.fieldLink RX7 18 "OutsideAsks" "settings" "[I") ∈ wsL_law := wr_2 _ (List.mem_of_getElem? (i := 0) rfl)
theorem wm_2_1 : (Cond.classLink RX7 21 RX0) ∈ wsL_law := wr_2 _ (List.mem_of_getElem? (i := 1) rfl)
theorem wm_2_2 : (Cond.instantiable RX0 4) ∈ wsL_law := wr_2 _ (List.mem_of_getElem? (i := 2) rfl)
theorem wm_2_3 : (Cond.initialized RX0) ∈ wsL_law := wr_2 _ (List.mem_of_getElem? (i := 3) rfl)
theorem wm_2_4 : (Cond.fieldLink RX7 24 "OutsideAsks" "items" "LOutsideAsks$Items;") ∈ wsL_law := wr_2 _ (List.mem_of_getElem? (i := 4) rfl)
theorem wm_2_5 : (Cond.classLink RX7 28 RX4) ∈ wsL_law := wr_2 _ (List.mem_of_getElem? (i := 5) rfl)
theorem wm_2_6 : (Cond.instantiable RX4 8) ∈ wsL_law := wr_2 _ (List.mem_of_getElem? (i := 6) rfl)
theorem wm_2_7 : (Cond.initialized RX4) ∈ wsL_law := wr_2 _ (List.mem_of_getElem? (i := 7) rfl)
theorem wm_2_8 : (Cond.fieldLink RX7 31 "OutsideAsks" "live" "LOutsideAsks$Progress;") ∈ wsL_law := wr_2 _ (List.mem_of_getElem? (i := 8) rfl)
theorem wm_2_9 : (Cond.fieldLink RX7 35 "OutsideAsks" "saved" "LOutsideAsks$Progress;") ∈ wsL_law := wr_2 _ (List.mem_of_getElem? (i := 9) rfl)
theorem wm_2_10 : (Cond.classLink RX7 38 RX3) ∈ wsL_law := wr_2 _ (List.mem_of_getElem? (i := 10) rfl)
theorem wm_2_11 : (Cond.instantiable RX3 2) ∈ wsL_law := wr_2 _ (List.mem_of_getElem? (i := 11) rfl)
theorem wm_2_12 : (Cond.initialized RX3) ∈ wsL_law := wr_2 _ (List.mem_of_getElem? (i := 12) rfl)
theorem wm_2_13 : (Cond.fieldLink RX7 41 "OutsideAsks" "outLog" "LOutsideAsks$OutLog;") ∈ wsL_law := wr_2 _ (List.mem_of_getElem? (i := 13) rfl)
theorem wm_2_14 : (Cond.classLink RX7 45 RX5) ∈ wsL_law := wr_2 _ (List.mem_of_getElem? (i := 14) rfl)
theorem wm_2_15 : (Cond.instantiable RX5 2) ∈ wsL_law := wr_2 _ (List.mem_of_getElem? (i := 15) rfl)
theorem wm_2_16 : (Cond.initialized RX5) ∈ wsL_law := wr_2 _ (List.mem_of_getElem? (i := 16) rfl)
theorem wm_2_17 : (Cond.fieldLink RX7 48 "OutsideAsks" "working" "LOutsideAsks$RowList;") ∈ wsL_law := wr_2 _ (List.mem_of_getElem? (i := 17) rfl)
theorem wm_2_18 : (Cond.fieldLink RX7 52 "OutsideAsks" "queue" "LOutsideAsks$RowList;") ∈ wsL_law := wr_2 _ (List.mem_of_getElem? (i := 18) rfl)
theorem wm_2_19 : (Cond.fieldLink RX7 55 "OutsideAsks" "overdue" "LOutsideAsks$RowList;") ∈ wsL_law := wr_2 _ (List.mem_of_getElem? (i := 19) rfl)
theorem wm_2_20 : (Cond.classLink RX7 58 RX2) ∈ wsL_law := wr_2 _ (List.mem_of_getElem? (i := 20) rfl)
theorem wm_2_21 : (Cond.instantiable RX2 4) ∈ wsL_law := wr_2 _ (List.mem_of_getElem? (i := 21) rfl)
theorem wm_2_22 : (Cond.initialized RX2) ∈ wsL_law := wr_2 _ (List.mem_of_getElem? (i := 22) rfl)
theorem wm_2_23 : (Cond.fieldLink RX7 61 "OutsideAsks" "asks" "LOutsideAsks$Line;") ∈ wsL_law := wr_2 _ (List.mem_of_getElem? (i := 23) rfl)
theorem wm_3_0 : (Cond.fieldLink RX7 65 "OutsideAsks" "answers" "LOutsideAsks$Line;") ∈ wsL_law := wr_3 _ (List.mem_of_getElem? (i := 0) rfl)
theorem wm_3_1 : (Cond.classLink RX7 68 RX6) ∈ wsL_law := wr_3 _ (List.mem_of_getElem? (i := 1) rfl)
theorem wm_3_2 : (Cond.instantiable RX6 3) ∈ wsL_law := wr_3 _ (List.mem_of_getElem? (i := 2) rfl)
theorem wm_3_3 : (Cond.initialized RX6) ∈ wsL_law := wr_3 _ (List.mem_of_getElem? (i := 3) rfl)
theorem wm_3_4 : (Cond.fieldLink RX7 71 "OutsideAsks" "service" "LOutsideAsks$Service;") ∈ wsL_law := wr_3 _ (List.mem_of_getElem? (i := 4) rfl)
theorem wm_3_5 : (Cond.classLink RX7 75 RX1) ∈ wsL_law := wr_3 _ (List.mem_of_getElem? (i := 5) rfl)
theorem wm_3_6 : (Cond.instantiable RX1 4) ∈ wsL_law := wr_3 _ (List.mem_of_getElem? (i := 6) rfl)
theorem wm_3_7 : (Cond.initialized RX1) ∈ wsL_law := wr_3 _ (List.mem_of_getElem? (i := 7) rfl)
theorem wm_3_8 : (Cond.fieldLink RX7 78 "OutsideAsks" "keptAnswers" "LOutsideAsks$KeptAnswers;") ∈ wsL_law := wr_3 _ (List.mem_of_getElem? (i := 8) rfl)
theorem wm_3_9 : (Cond.fieldLink RX7 82 "OutsideAsks" "now" "I") ∈ wsL_law := wr_3 _ (List.mem_of_getElem? (i := 9) rfl)
theorem wm_3_10 : (Cond.fieldLink RX7 86 "OutsideAsks" "sentNow" "I") ∈ wsL_law := wr_3 _ (List.mem_of_getElem? (i := 10) rfl)
theorem wm_3_11 : (Cond.fieldLink RX7 89 "OutsideAsks" "sentInAll" "I") ∈ wsL_law := wr_3 _ (List.mem_of_getElem? (i := 11) rfl)
theorem wm_3_12 : (Cond.fieldLink RX7 92 "OutsideAsks" "restarts" "I") ∈ wsL_law := wr_3 _ (List.mem_of_getElem? (i := 12) rfl)
theorem wm_3_13 : (Cond.methodLink RX7 95 Lib.Math.min.name) ∈ wsL_law := wr_3 _ (List.mem_of_getElem? (i := 13) rfl)
theorem wm_3_14 : (Cond.static Lib.Math.min.name) ∈ wsL_law := wr_3 _ (List.mem_of_getElem? (i := 14) rfl)
theorem wm_3_15 : (Cond.initialized "java/lang/Math") ∈ wsL_law := wr_3 _ (List.mem_of_getElem? (i := 15) rfl)
theorem wm_3_16 : (Cond.code Lib.Math.min.name Lib.Math.min.code 2 (some .int)) ∈ wsL_law := wr_3 _ (List.mem_of_getElem? (i := 16) rfl)
theorem wm_3_17 : (Cond.methodLink RX7 101 Lib.Math.max.name) ∈ wsL_law := wr_3 _ (List.mem_of_getElem? (i := 17) rfl)
theorem wm_3_18 : (Cond.static Lib.Math.max.name) ∈ wsL_law := wr_3 _ (List.mem_of_getElem? (i := 18) rfl)
theorem wm_3_19 : (Cond.code Lib.Math.max.name Lib.Math.max.code 2 (some .int)) ∈ wsL_law := wr_3 _ (List.mem_of_getElem? (i := 19) rfl)
theorem wm_3_20 : (Cond.fieldLink RX7 104 "OutsideAsks" "most" "I") ∈ wsL_law := wr_3 _ (List.mem_of_getElem? (i := 20) rfl)
theorem wm_3_21 : (Cond.fieldLink RX7 107 "OutsideAsks" "ordered" "Z") ∈ wsL_law := wr_3 _ (List.mem_of_getElem? (i := 21) rfl)
theorem wm_3_22 : (Cond.instanceMethod yX0_init) ∈ wsL_law := wr_3 _ (List.mem_of_getElem? (i := 22) rfl)
theorem wm_3_23 : (Cond.code yX0_init cX0_init 1 none) ∈ wsL_law := wr_3 _ (List.mem_of_getElem? (i := 23) rfl)
theorem wm_4_0 : (Cond.methodLink RX0 3 objectInit) ∈ wsL_law := wr_4 _ (List.mem_of_getElem? (i := 0) rfl)
theorem wm_4_1 : (Cond.arrayClass .long) ∈ wsL_law := wr_4 _ (List.mem_of_getElem? (i := 1) rfl)
theorem wm_4_2 : (Cond.fieldLink RX0 9 "OutsideAsks$Items" "keys" "[J") ∈ wsL_law := wr_4 _ (List.mem_of_getElem? (i := 2) rfl)
theorem wm_4_3 : (Cond.fieldLink RX0 15 "OutsideAsks$Items" "values" "[J") ∈ wsL_law := wr_4 _ (List.mem_of_getElem? (i := 3) rfl)
theorem wm_4_4 : (Cond.arrayClass .boolean) ∈ wsL_law := wr_4 _ (List.mem_of_getElem? (i := 4) rfl)
theorem wm_4_5 : (Cond.fieldLink RX0 18 "OutsideAsks$Items" "marks" "[Z") ∈ wsL_law := wr_4 _ (List.mem_of_getElem? (i := 5) rfl)
theorem wm_4_6 : (Cond.arrayClass .int) ∈ wsL_law := wr_4 _ (List.mem_of_getElem? (i := 6) rfl)
theorem wm_4_7 : (Cond.fieldLink RX0 22 "OutsideAsks$Items" "dues" "[I") ∈ wsL_law := wr_4 _ (List.mem_of_getElem? (i := 7) rfl)
theorem wm_4_8 : (Cond.instanceMethod yX4_init) ∈ wsL_law := wr_4 _ (List.mem_of_getElem? (i := 8) rfl)
theorem wm_4_9 : (Cond.code yX4_init cX4_init 1 none) ∈ wsL_law := wr_4 _ (List.mem_of_getElem? (i := 9) rfl)
theorem wm_4_10 : (Cond.methodLink RX4 3 objectInit) ∈ wsL_law := wr_4 _ (List.mem_of_getElem? (i := 10) rfl)
theorem wm_4_11 : (Cond.fieldLink RX4 9 "OutsideAsks$Progress" "states" "[I") ∈ wsL_law := wr_4 _ (List.mem_of_getElem? (i := 11) rfl)
theorem wm_4_12 : (Cond.fieldLink RX4 15 "OutsideAsks$Progress" "results" "[I") ∈ wsL_law := wr_4 _ (List.mem_of_getElem? (i := 12) rfl)
theorem wm_4_13 : (Cond.fieldLink RX4 18 "OutsideAsks$Progress" "tries" "[I") ∈ wsL_law := wr_4 _ (List.mem_of_getElem? (i := 13) rfl)
theorem wm_4_14 : (Cond.fieldLink RX4 21 "OutsideAsks$Progress" "settledValues" "[J") ∈ wsL_law := wr_4 _ (List.mem_of_getElem? (i := 14) rfl)
theorem wm_4_15 : (Cond.fieldLink RX4 25 "OutsideAsks$Progress" "items" "I") ∈ wsL_law := wr_4 _ (List.mem_of_getElem? (i := 15) rfl)
theorem wm_4_16 : (Cond.fieldLink RX4 29 "OutsideAsks$Progress" "outs" "I") ∈ wsL_law := wr_4 _ (List.mem_of_getElem? (i := 16) rfl)
theorem wm_4_17 : (Cond.fieldLink RX4 32 "OutsideAsks$Progress" "waiting" "I") ∈ wsL_law := wr_4 _ (List.mem_of_getElem? (i := 17) rfl)
theorem wm_4_18 : (Cond.fieldLink RX4 35 "OutsideAsks$Progress" "settled" "I") ∈ wsL_law := wr_4 _ (List.mem_of_getElem? (i := 18) rfl)
theorem wm_4_19 : (Cond.instanceMethod yX3_init) ∈ wsL_law := wr_4 _ (List.mem_of_getElem? (i := 19) rfl)
theorem wm_4_20 : (Cond.code yX3_init cX3_init 1 none) ∈ wsL_law := wr_4 _ (List.mem_of_getElem? (i := 20) rfl)
theorem wm_4_21 : (Cond.methodLink RX3 3 objectInit) ∈ wsL_law := wr_4 _ (List.mem_of_getElem? (i := 21) rfl)
theorem wm_4_22 : (Cond.fieldLink RX3 9 "OutsideAsks$OutLog" "items" "[I") ∈ wsL_law := wr_4 _ (List.mem_of_getElem? (i := 22) rfl)
theorem wm_4_23 : (Cond.fieldLink RX3 15 "OutsideAsks$OutLog" "ticks" "[I") ∈ wsL_law := wr_4 _ (List.mem_of_getElem? (i := 23) rfl)
theorem wm_5_0 : (Cond.instanceMethod yX5_init) ∈ wsL_law := wr_5 _ (List.mem_of_getElem? (i := 0) rfl)
theorem wm_5_1 : (Cond.code yX5_init cX5_init 1 none) ∈ wsL_law := wr_5 _ (List.mem_of_getElem? (i := 1) rfl)
theorem wm_5_2 : (Cond.methodLink RX5 3 objectInit) ∈ wsL_law := wr_5 _ (List.mem_of_getElem? (i := 2) rfl)
theorem wm_5_3 : (Cond.fieldLink RX5 9 "OutsideAsks$RowList" "rows" "[I") ∈ wsL_law := wr_5 _ (List.mem_of_getElem? (i := 3) rfl)
theorem wm_5_4 : (Cond.fieldLink RX5 15 "OutsideAsks$RowList" "size" "I") ∈ wsL_law := wr_5 _ (List.mem_of_getElem? (i := 4) rfl)
theorem wm_5_5 : (Cond.instanceMethod yX2_init) ∈ wsL_law := wr_5 _ (List.mem_of_getElem? (i := 5) rfl)
theorem wm_5_6 : (Cond.code yX2_init cX2_init 1 none) ∈ wsL_law := wr_5 _ (List.mem_of_getElem? (i := 6) rfl)
theorem wm_5_7 : (Cond.methodLink RX2 3 objectInit) ∈ wsL_law := wr_5 _ (List.mem_of_getElem? (i := 7) rfl)
theorem wm_5_8 : (Cond.fieldLink RX2 9 "OutsideAsks$Line" "rows" "[I") ∈ wsL_law := wr_5 _ (List.mem_of_getElem? (i := 8) rfl)
theorem wm_5_9 : (Cond.fieldLink RX2 15 "OutsideAsks$Line" "causes" "[I") ∈ wsL_law := wr_5 _ (List.mem_of_getElem? (i := 9) rfl)
theorem wm_5_10 : (Cond.fieldLink RX2 18 "OutsideAsks$Line" "values" "[J") ∈ wsL_law := wr_5 _ (List.mem_of_getElem? (i := 10) rfl)
theorem wm_5_11 : (Cond.fieldLink RX2 22 "OutsideAsks$Line" "size" "I") ∈ wsL_law := wr_5 _ (List.mem_of_getElem? (i := 11) rfl)
theorem wm_5_12 : (Cond.instanceMethod yX6_init) ∈ wsL_law := wr_5 _ (List.mem_of_getElem? (i := 12) rfl)
theorem wm_5_13 : (Cond.code yX6_init cX6_init 1 none) ∈ wsL_law := wr_5 _ (List.mem_of_getElem? (i := 13) rfl)
theorem wm_5_14 : (Cond.methodLink RX6 3 objectInit) ∈ wsL_law := wr_5 _ (List.mem_of_getElem? (i := 14) rfl)
theorem wm_5_15 : (Cond.fieldLink RX6 9 "OutsideAsks$Service" "keys" "[J") ∈ wsL_law := wr_5 _ (List.mem_of_getElem? (i := 15) rfl)
theorem wm_5_16 : (Cond.fieldLink RX6 15 "OutsideAsks$Service" "acts" "[I") ∈ wsL_law := wr_5 _ (List.mem_of_getElem? (i := 16) rfl)
theorem wm_5_17 : (Cond.fieldLink RX6 19 "OutsideAsks$Service" "latestAnswers" "[J") ∈ wsL_law := wr_5 _ (List.mem_of_getElem? (i := 17) rfl)
theorem wm_5_18 : (Cond.instanceMethod yX1_init) ∈ wsL_law := wr_5 _ (List.mem_of_getElem? (i := 18) rfl)
theorem wm_5_19 : (Cond.code yX1_init cX1_init 1 none) ∈ wsL_law := wr_5 _ (List.mem_of_getElem? (i := 19) rfl)
theorem wm_5_20 : (Cond.methodLink RX1 3 objectInit) ∈ wsL_law := wr_5 _ (List.mem_of_getElem? (i := 20) rfl)
theorem wm_5_21 : (Cond.fieldLink RX1 9 "OutsideAsks$KeptAnswers" "keys" "[J") ∈ wsL_law := wr_5 _ (List.mem_of_getElem? (i := 21) rfl)
theorem wm_5_22 : (Cond.fieldLink RX1 15 "OutsideAsks$KeptAnswers" "values" "[J") ∈ wsL_law := wr_5 _ (List.mem_of_getElem? (i := 22) rfl)
theorem wm_5_23 : (Cond.fieldLink RX1 18 "OutsideAsks$KeptAnswers" "ends" "[I") ∈ wsL_law := wr_5 _ (List.mem_of_getElem? (i := 23) rfl)
theorem wm_6_0 : (Cond.fieldLink RX1 22 "OutsideAsks$KeptAnswers" "size" "I") ∈ wsL_law := wr_6 _ (List.mem_of_getElem? (i := 0) rfl)
theorem wm_6_1 : (Cond.methodLink RL 20 yX8_init) ∈ wsL_law := wr_6 _ (List.mem_of_getElem? (i := 1) rfl)
theorem wm_6_2 : (Cond.instanceMethod yX8_init) ∈ wsL_law := wr_6 _ (List.mem_of_getElem? (i := 2) rfl)
theorem wm_6_3 : (Cond.code yX8_init cX8_init 3 none) ∈ wsL_law := wr_6 _ (List.mem_of_getElem? (i := 3) rfl)
theorem wm_6_4 : (Cond.methodLink RX8 1 objectInit) ∈ wsL_law := wr_6 _ (List.mem_of_getElem? (i := 4) rfl)
theorem wm_6_5 : (Cond.fieldLink RX8 7 "OutsideAsksModel" "settings" "[I") ∈ wsL_law := wr_6 _ (List.mem_of_getElem? (i := 5) rfl)
theorem wm_6_6 : (Cond.fieldLink RX8 13 "OutsideAsksModel" "isMark" "[Z") ∈ wsL_law := wr_6 _ (List.mem_of_getElem? (i := 6) rfl)
theorem wm_6_7 : (Cond.fieldLink RX8 17 "OutsideAsksModel" "key" "[J") ∈ wsL_law := wr_6 _ (List.mem_of_getElem? (i := 7) rfl)
theorem wm_6_8 : (Cond.fieldLink RX8 21 "OutsideAsksModel" "worth" "[J") ∈ wsL_law := wr_6 _ (List.mem_of_getElem? (i := 8) rfl)
theorem wm_6_9 : (Cond.fieldLink RX8 24 "OutsideAsksModel" "state" "[I") ∈ wsL_law := wr_6 _ (List.mem_of_getElem? (i := 9) rfl)
theorem wm_6_10 : (Cond.fieldLink RX8 27 "OutsideAsksModel" "result" "[I") ∈ wsL_law := wr_6 _ (List.mem_of_getElem? (i := 10) rfl)
theorem wm_6_11 : (Cond.fieldLink RX8 30 "OutsideAsksModel" "told" "[J") ∈ wsL_law := wr_6 _ (List.mem_of_getElem? (i := 11) rfl)
theorem wm_6_12 : (Cond.fieldLink RX8 33 "OutsideAsksModel" "tries" "[I") ∈ wsL_law := wr_6 _ (List.mem_of_getElem? (i := 12) rfl)
theorem wm_6_13 : (Cond.fieldLink RX8 36 "OutsideAsksModel" "due" "[I") ∈ wsL_law := wr_6 _ (List.mem_of_getElem? (i := 13) rfl)
theorem wm_6_14 : (Cond.fieldLink RX8 39 "OutsideAsksModel" "queue" "[I") ∈ wsL_law := wr_6 _ (List.mem_of_getElem? (i := 14) rfl)
theorem wm_6_15 : (Cond.fieldLink RX8 42 "OutsideAsksModel" "outItem" "[I") ∈ wsL_law := wr_6 _ (List.mem_of_getElem? (i := 15) rfl)
theorem wm_6_16 : (Cond.fieldLink RX8 45 "OutsideAsksModel" "outTick" "[I") ∈ wsL_law := wr_6 _ (List.mem_of_getElem? (i := 16) rfl)
theorem wm_6_17 : (Cond.fieldLink RX8 48 "OutsideAsksModel" "under" "[I") ∈ wsL_law := wr_6 _ (List.mem_of_getElem? (i := 17) rfl)
theorem wm_6_18 : (Cond.fieldLink RX8 51 "OutsideAsksModel" "cause" "[I") ∈ wsL_law := wr_6 _ (List.mem_of_getElem? (i := 18) rfl)
theorem wm_6_19 : (Cond.fieldLink RX8 54 "OutsideAsksModel" "brings" "[J") ∈ wsL_law := wr_6 _ (List.mem_of_getElem? (i := 19) rfl)
theorem wm_6_20 : (Cond.fieldLink RX8 57 "OutsideAsksModel" "length" "[I") ∈ wsL_law := wr_6 _ (List.mem_of_getElem? (i := 20) rfl)
theorem wm_6_21 : (Cond.fieldLink RX8 60 "OutsideAsksModel" "acted" "[I") ∈ wsL_law := wr_6 _ (List.mem_of_getElem? (i := 21) rfl)
theorem wm_6_22 : (Cond.fieldLink RX8 63 "OutsideAsksModel" "isAnswered" "[Z") ∈ wsL_law := wr_6 _ (List.mem_of_getElem? (i := 22) rfl)
theorem wm_6_23 : (Cond.fieldLink RX8 66 "OutsideAsksModel" "answered" "[J") ∈ wsL_law := wr_6 _ (List.mem_of_getElem? (i := 23) rfl)
theorem wm_7_0 : (Cond.fieldLink RX8 69 "OutsideAsksModel" "keptKey" "[J") ∈ wsL_law := wr_7 _ (List.mem_of_getElem? (i := 0) rfl)
theorem wm_7_1 : (Cond.fieldLink RX8 72 "OutsideAsksModel" "keptValue" "[J") ∈ wsL_law := wr_7 _ (List.mem_of_getElem? (i := 1) rfl)
theorem wm_7_2 : (Cond.fieldLink RX8 75 "OutsideAsksModel" "keptEnd" "[I") ∈ wsL_law := wr_7 _ (List.mem_of_getElem? (i := 2) rfl)
theorem wm_7_3 : (Cond.fieldLink RX8 78 "OutsideAsksModel" "savedState" "[I") ∈ wsL_law := wr_7 _ (List.mem_of_getElem? (i := 3) rfl)
theorem wm_7_4 : (Cond.fieldLink RX8 81 "OutsideAsksModel" "savedResult" "[I") ∈ wsL_law := wr_7 _ (List.mem_of_getElem? (i := 4) rfl)
theorem wm_7_5 : (Cond.fieldLink RX8 84 "OutsideAsksModel" "savedTold" "[J") ∈ wsL_law := wr_7 _ (List.mem_of_getElem? (i := 5) rfl)
theorem wm_7_6 : (Cond.fieldLink RX8 87 "OutsideAsksModel" "savedTries" "[I") ∈ wsL_law := wr_7 _ (List.mem_of_getElem? (i := 6) rfl)
theorem wm_7_7 : (Cond.fieldLink RX8 90 "OutsideAsksModel" "most" "I") ∈ wsL_law := wr_7 _ (List.mem_of_getElem? (i := 7) rfl)
theorem wm_7_8 : (Cond.fieldLink RX8 94 "OutsideAsksModel" "isOrdered" "Z") ∈ wsL_law := wr_7 _ (List.mem_of_getElem? (i := 8) rfl)
theorem wm_7_9 : (Cond.methodLink RL 21 yX7_set) ∈ wsL_law := wr_7 _ (List.mem_of_getElem? (i := 9) rfl)
theorem wm_7_10 : (Cond.instanceMethod yX7_set) ∈ wsL_law := wr_7 _ (List.mem_of_getElem? (i := 10) rfl)
theorem wm_7_11 : (Cond.selects RX7 yX7_set yX7_set) ∈ wsL_law := wr_7 _ (List.mem_of_getElem? (i := 11) rfl)
theorem wm_7_12 : (Cond.code yX7_set cX7_set 4 (some .int)) ∈ wsL_law := wr_7 _ (List.mem_of_getElem? (i := 12) rfl)
theorem wm_7_13 : (Cond.fieldLink RX7 111 "OutsideAsks" "LEAST_SETTINGS" "[I") ∈ wsL_law := wr_7 _ (List.mem_of_getElem? (i := 13) rfl)
theorem wm_7_14 : (Cond.fieldLink RX7 114 "OutsideAsks" "GREATEST_SETTINGS" "[I") ∈ wsL_law := wr_7 _ (List.mem_of_getElem? (i := 14) rfl)
theorem wm_7_15 : (Cond.methodLink RX7 117 yX7_goOn) ∈ wsL_law := wr_7 _ (List.mem_of_getElem? (i := 15) rfl)
theorem wm_7_16 : (Cond.instanceMethod yX7_goOn) ∈ wsL_law := wr_7 _ (List.mem_of_getElem? (i := 16) rfl)
theorem wm_7_17 : (Cond.selects RX7 yX7_goOn yX7_goOn) ∈ wsL_law := wr_7 _ (List.mem_of_getElem? (i := 17) rfl)
theorem wm_7_18 : (Cond.code yX7_goOn cX7_goOn 1 none) ∈ wsL_law := wr_7 _ (List.mem_of_getElem? (i := 18) rfl)
theorem wm_7_19 : (Cond.methodLink RX7 245 yX7_startWaitingRows) ∈ wsL_law := wr_7 _ (List.mem_of_getElem? (i := 19) rfl)
theorem wm_7_20 : (Cond.instanceMethod yX7_startWaitingRows) ∈ wsL_law := wr_7 _ (List.mem_of_getElem? (i := 20) rfl)
theorem wm_7_21 : (Cond.selects RX7 yX7_startWaitingRows yX7_startWaitingRows) ∈ wsL_law := wr_7 _ (List.mem_of_getElem? (i := 21) rfl)
theorem wm_7_22 : (Cond.code yX7_startWaitingRows cX7_startWaitingRows 2 none) ∈ wsL_law := wr_7 _ (List.mem_of_getElem? (i := 22) rfl)
theorem wm_7_23 : (Cond.methodLink RX7 178 yX4_stateOf) ∈ wsL_law := wr_7 _ (List.mem_of_getElem? (i := 23) rfl)
theorem wm_8_0 : (Cond.instanceMethod yX4_stateOf) ∈ wsL_law := wr_8 _ (List.mem_of_getElem? (i := 0) rfl)
theorem wm_8_1 : (Cond.selects RX4 yX4_stateOf yX4_stateOf) ∈ wsL_law := wr_8 _ (List.mem_of_getElem? (i := 1) rfl)
theorem wm_8_2 : (Cond.code yX4_stateOf cX4_stateOf 2 (some .int)) ∈ wsL_law := wr_8 _ (List.mem_of_getElem? (i := 2) rfl)
theorem wm_8_3 : (Cond.methodLink RX4 38 yX4_hasItem) ∈ wsL_law := wr_8 _ (List.mem_of_getElem? (i := 3) rfl)
theorem wm_8_4 : (Cond.instanceMethod yX4_hasItem) ∈ wsL_law := wr_8 _ (List.mem_of_getElem? (i := 4) rfl)
theorem wm_8_5 : (Cond.selects RX4 yX4_hasItem yX4_hasItem) ∈ wsL_law := wr_8 _ (List.mem_of_getElem? (i := 5) rfl)
theorem wm_8_6 : (Cond.code yX4_hasItem cX4_hasItem 2 (some .boolean)) ∈ wsL_law := wr_8 _ (List.mem_of_getElem? (i := 6) rfl)
theorem wm_8_7 : (Cond.methodLink RX7 254 yX7_startRow) ∈ wsL_law := wr_8 _ (List.mem_of_getElem? (i := 7) rfl)
theorem wm_8_8 : (Cond.instanceMethod yX7_startRow) ∈ wsL_law := wr_8 _ (List.mem_of_getElem? (i := 8) rfl)
theorem wm_8_9 : (Cond.selects RX7 yX7_startRow yX7_startRow) ∈ wsL_law := wr_8 _ (List.mem_of_getElem? (i := 9) rfl)
theorem wm_8_10 : (Cond.code yX7_startRow cX7_startRow 4 none) ∈ wsL_law := wr_8 _ (List.mem_of_getElem? (i := 10) rfl)
theorem wm_8_11 : (Cond.methodLink RX7 151 yX0_keyOf) ∈ wsL_law := wr_8 _ (List.mem_of_getElem? (i := 11) rfl)
theorem wm_8_12 : (Cond.instanceMethod yX0_keyOf) ∈ wsL_law := wr_8 _ (List.mem_of_getElem? (i := 12) rfl)
theorem wm_8_13 : (Cond.selects RX0 yX0_keyOf yX0_keyOf) ∈ wsL_law := wr_8 _ (List.mem_of_getElem? (i := 13) rfl)
theorem wm_8_14 : (Cond.code yX0_keyOf cX0_keyOf 2 (some .long)) ∈ wsL_law := wr_8 _ (List.mem_of_getElem? (i := 14) rfl)
theorem wm_8_15 : (Cond.methodLink RX0 26 yX0_mayHave) ∈ wsL_law := wr_8 _ (List.mem_of_getElem? (i := 15) rfl)
theorem wm_8_16 : (Cond.instanceMethod yX0_mayHave) ∈ wsL_law := wr_8 _ (List.mem_of_getElem? (i := 16) rfl)
theorem wm_8_17 : (Cond.selects RX0 yX0_mayHave yX0_mayHave) ∈ wsL_law := wr_8 _ (List.mem_of_getElem? (i := 17) rfl)
theorem wm_8_18 : (Cond.code yX0_mayHave cX0_mayHave 2 (some .boolean)) ∈ wsL_law := wr_8 _ (List.mem_of_getElem? (i := 18) rfl)
theorem wm_8_19 : (Cond.methodLink RX7 221 yX1_endOf) ∈ wsL_law := wr_8 _ (List.mem_of_getElem? (i := 19) rfl)
theorem wm_8_20 : (Cond.instanceMethod yX1_endOf) ∈ wsL_law := wr_8 _ (List.mem_of_getElem? (i := 20) rfl)
theorem wm_8_21 : (Cond.selects RX1 yX1_endOf yX1_endOf) ∈ wsL_law := wr_8 _ (List.mem_of_getElem? (i := 21) rfl)
theorem wm_8_22 : (Cond.code yX1_endOf cX1_endOf 4 (some .int)) ∈ wsL_law := wr_8 _ (List.mem_of_getElem? (i := 22) rfl)
theorem wm_8_23 : (Cond.methodLink RX1 26 yX1_find) ∈ wsL_law := wr_8 _ (List.mem_of_getElem? (i := 23) rfl)
theorem wm_9_0 : (Cond.instanceMethod yX1_find) ∈ wsL_law := wr_9 _ (List.mem_of_getElem? (i := 0) rfl)
theorem wm_9_1 : (Cond.selects RX1 yX1_find yX1_find) ∈ wsL_law := wr_9 _ (List.mem_of_getElem? (i := 1) rfl)
theorem wm_9_2 : (Cond.code yX1_find cX1_find 4 (some .int)) ∈ wsL_law := wr_9 _ (List.mem_of_getElem? (i := 2) rfl)
theorem wm_9_3 : (Cond.methodLink RX7 257 yX1_valueOf) ∈ wsL_law := wr_9 _ (List.mem_of_getElem? (i := 3) rfl)
theorem wm_9_4 : (Cond.instanceMethod yX1_valueOf) ∈ wsL_law := wr_9 _ (List.mem_of_getElem? (i := 4) rfl)
theorem wm_9_5 : (Cond.selects RX1 yX1_valueOf yX1_valueOf) ∈ wsL_law := wr_9 _ (List.mem_of_getElem? (i := 5) rfl)
theorem wm_9_6 : (Cond.code yX1_valueOf cX1_valueOf 4 (some .long)) ∈ wsL_law := wr_9 _ (List.mem_of_getElem? (i := 6) rfl)
theorem wm_9_7 : (Cond.methodLink RX7 260 yX4_settleRow) ∈ wsL_law := wr_9 _ (List.mem_of_getElem? (i := 7) rfl)
theorem wm_9_8 : (Cond.instanceMethod yX4_settleRow) ∈ wsL_law := wr_9 _ (List.mem_of_getElem? (i := 8) rfl)
theorem wm_9_9 : (Cond.selects RX4 yX4_settleRow yX4_settleRow) ∈ wsL_law := wr_9 _ (List.mem_of_getElem? (i := 9) rfl)
theorem wm_9_10 : (Cond.code yX4_settleRow cX4_settleRow 5 none) ∈ wsL_law := wr_9 _ (List.mem_of_getElem? (i := 10) rfl)
theorem wm_9_11 : (Cond.methodLink RX7 263 yX4_startTrying) ∈ wsL_law := wr_9 _ (List.mem_of_getElem? (i := 11) rfl)
theorem wm_9_12 : (Cond.instanceMethod yX4_startTrying) ∈ wsL_law := wr_9 _ (List.mem_of_getElem? (i := 12) rfl)
theorem wm_9_13 : (Cond.selects RX4 yX4_startTrying yX4_startTrying) ∈ wsL_law := wr_9 _ (List.mem_of_getElem? (i := 13) rfl)
theorem wm_9_14 : (Cond.code yX4_startTrying cX4_startTrying 2 none) ∈ wsL_law := wr_9 _ (List.mem_of_getElem? (i := 14) rfl)
theorem wm_9_15 : (Cond.methodLink RX7 266 yX5_append) ∈ wsL_law := wr_9 _ (List.mem_of_getElem? (i := 15) rfl)
theorem wm_9_16 : (Cond.instanceMethod yX5_append) ∈ wsL_law := wr_9 _ (List.mem_of_getElem? (i := 16) rfl)
theorem wm_9_17 : (Cond.selects RX5 yX5_append yX5_append) ∈ wsL_law := wr_9 _ (List.mem_of_getElem? (i := 17) rfl)
theorem wm_9_18 : (Cond.code yX5_append cX5_append 2 none) ∈ wsL_law := wr_9 _ (List.mem_of_getElem? (i := 18) rfl)
theorem wm_9_19 : (Cond.methodLink RX7 248 yX7_sendQueuedAsks) ∈ wsL_law := wr_9 _ (List.mem_of_getElem? (i := 19) rfl)
theorem wm_9_20 : (Cond.instanceMethod yX7_sendQueuedAsks) ∈ wsL_law := wr_9 _ (List.mem_of_getElem? (i := 20) rfl)
theorem wm_9_21 : (Cond.selects RX7 yX7_sendQueuedAsks yX7_sendQueuedAsks) ∈ wsL_law := wr_9 _ (List.mem_of_getElem? (i := 21) rfl)
theorem wm_9_22 : (Cond.code yX7_sendQueuedAsks cX7_sendQueuedAsks 2 none) ∈ wsL_law := wr_9 _ (List.mem_of_getElem? (i := 22) rfl)
theorem wm_9_23 : (Cond.methodLink RX7 269 yX5_at) ∈ wsL_law := wr_9 _ (List.mem_of_getElem? (i := 23) rfl)
theorem wm_10_0 : (Cond.instanceMethod yX5_at) ∈ wsL_law := wr_10 _ (List.mem_of_getElem? (i := 0) rfl)
theorem wm_10_1 : (Cond.selects RX5 yX5_at yX5_at) ∈ wsL_law := wr_10 _ (List.mem_of_getElem? (i := 1) rfl)
theorem wm_10_2 : (Cond.code yX5_at cX5_at 2 (some .int)) ∈ wsL_law := wr_10 _ (List.mem_of_getElem? (i := 2) rfl)
theorem wm_10_3 : (Cond.methodLink RX7 272 yX5_removeAt) ∈ wsL_law := wr_10 _ (List.mem_of_getElem? (i := 3) rfl)
theorem wm_10_4 : (Cond.instanceMethod yX5_removeAt) ∈ wsL_law := wr_10 _ (List.mem_of_getElem? (i := 4) rfl)
theorem wm_10_5 : (Cond.selects RX5 yX5_removeAt yX5_removeAt) ∈ wsL_law := wr_10 _ (List.mem_of_getElem? (i := 5) rfl)
theorem wm_10_6 : (Cond.code yX5_removeAt cX5_removeAt 3 none) ∈ wsL_law := wr_10 _ (List.mem_of_getElem? (i := 6) rfl)
theorem wm_10_7 : (Cond.methodLink RX5 19 arraycopyName) ∈ wsL_law := wr_10 _ (List.mem_of_getElem? (i := 7) rfl)
theorem wm_10_8 : (Cond.native arraycopyName) ∈ wsL_law := wr_10 _ (List.mem_of_getElem? (i := 8) rfl)
theorem wm_10_9 : (Cond.static arraycopyName) ∈ wsL_law := wr_10 _ (List.mem_of_getElem? (i := 9) rfl)
theorem wm_10_10 : (Cond.initialized "java/lang/System") ∈ wsL_law := wr_10 _ (List.mem_of_getElem? (i := 10) rfl)
theorem wm_10_11 : (Cond.methodLink RX7 273 yX0_setDue) ∈ wsL_law := wr_10 _ (List.mem_of_getElem? (i := 11) rfl)
theorem wm_10_12 : (Cond.instanceMethod yX0_setDue) ∈ wsL_law := wr_10 _ (List.mem_of_getElem? (i := 12) rfl)
theorem wm_10_13 : (Cond.selects RX0 yX0_setDue yX0_setDue) ∈ wsL_law := wr_10 _ (List.mem_of_getElem? (i := 13) rfl)
theorem wm_10_14 : (Cond.code yX0_setDue cX0_setDue 3 none) ∈ wsL_law := wr_10 _ (List.mem_of_getElem? (i := 14) rfl)
theorem wm_10_15 : (Cond.methodLink RX7 165 yX2_setOut) ∈ wsL_law := wr_10 _ (List.mem_of_getElem? (i := 15) rfl)
theorem wm_10_16 : (Cond.instanceMethod yX2_setOut) ∈ wsL_law := wr_10 _ (List.mem_of_getElem? (i := 16) rfl)
theorem wm_10_17 : (Cond.selects RX2 yX2_setOut yX2_setOut) ∈ wsL_law := wr_10 _ (List.mem_of_getElem? (i := 17) rfl)
theorem wm_10_18 : (Cond.code yX2_setOut cX2_setOut 5 none) ∈ wsL_law := wr_10 _ (List.mem_of_getElem? (i := 18) rfl)
theorem wm_10_19 : (Cond.methodLink RX7 251 yX7_letItemsOut) ∈ wsL_law := wr_10 _ (List.mem_of_getElem? (i := 19) rfl)
theorem wm_10_20 : (Cond.instanceMethod yX7_letItemsOut) ∈ wsL_law := wr_10 _ (List.mem_of_getElem? (i := 20) rfl)
theorem wm_10_21 : (Cond.selects RX7 yX7_letItemsOut yX7_letItemsOut) ∈ wsL_law := wr_10 _ (List.mem_of_getElem? (i := 21) rfl)
theorem wm_10_22 : (Cond.code yX7_letItemsOut cX7_letItemsOut 4 none) ∈ wsL_law := wr_10 _ (List.mem_of_getElem? (i := 22) rfl)
theorem wm_10_23 : (Cond.methodLink RX7 211 yX0_isMark) ∈ wsL_law := wr_10 _ (List.mem_of_getElem? (i := 23) rfl)
theorem wm_11_0 : (Cond.instanceMethod yX0_isMark) ∈ wsL_law := wr_11 _ (List.mem_of_getElem? (i := 0) rfl)
theorem wm_11_1 : (Cond.selects RX0 yX0_isMark yX0_isMark) ∈ wsL_law := wr_11 _ (List.mem_of_getElem? (i := 1) rfl)
theorem wm_11_2 : (Cond.code yX0_isMark cX0_isMark 2 (some .boolean)) ∈ wsL_law := wr_11 _ (List.mem_of_getElem? (i := 2) rfl)
theorem wm_11_3 : (Cond.methodLink RX7 277 yX3_write) ∈ wsL_law := wr_11 _ (List.mem_of_getElem? (i := 3) rfl)
theorem wm_11_4 : (Cond.instanceMethod yX3_write) ∈ wsL_law := wr_11 _ (List.mem_of_getElem? (i := 4) rfl)
theorem wm_11_5 : (Cond.selects RX3 yX3_write yX3_write) ∈ wsL_law := wr_11 _ (List.mem_of_getElem? (i := 5) rfl)
theorem wm_11_6 : (Cond.code yX3_write cX3_write 4 none) ∈ wsL_law := wr_11 _ (List.mem_of_getElem? (i := 6) rfl)
theorem wm_11_7 : (Cond.methodLink RX7 281 yX4_goOut) ∈ wsL_law := wr_11 _ (List.mem_of_getElem? (i := 7) rfl)
theorem wm_11_8 : (Cond.instanceMethod yX4_goOut) ∈ wsL_law := wr_11 _ (List.mem_of_getElem? (i := 8) rfl)
theorem wm_11_9 : (Cond.selects RX4 yX4_goOut yX4_goOut) ∈ wsL_law := wr_11 _ (List.mem_of_getElem? (i := 9) rfl)
theorem wm_11_10 : (Cond.code yX4_goOut cX4_goOut 2 none) ∈ wsL_law := wr_11 _ (List.mem_of_getElem? (i := 10) rfl)
theorem wm_11_11 : (Cond.methodLink RL 25 yX8_set) ∈ wsL_law := wr_11 _ (List.mem_of_getElem? (i := 11) rfl)
theorem wm_11_12 : (Cond.instanceMethod yX8_set) ∈ wsL_law := wr_11 _ (List.mem_of_getElem? (i := 12) rfl)
theorem wm_11_13 : (Cond.selects RX8 yX8_set yX8_set) ∈ wsL_law := wr_11 _ (List.mem_of_getElem? (i := 13) rfl)
theorem wm_11_14 : (Cond.code yX8_set cX8_set 6 (some .int)) ∈ wsL_law := wr_11 _ (List.mem_of_getElem? (i := 14) rfl)
theorem wm_11_15 : (Cond.methodLink RX8 149 yX8_goOn) ∈ wsL_law := wr_11 _ (List.mem_of_getElem? (i := 15) rfl)
theorem wm_11_16 : (Cond.instanceMethod yX8_goOn) ∈ wsL_law := wr_11 _ (List.mem_of_getElem? (i := 16) rfl)
theorem wm_11_17 : (Cond.selects RX8 yX8_goOn yX8_goOn) ∈ wsL_law := wr_11 _ (List.mem_of_getElem? (i := 17) rfl)
theorem wm_11_18 : (Cond.code yX8_goOn cX8_goOn 3 none) ∈ wsL_law := wr_11 _ (List.mem_of_getElem? (i := 18) rfl)
theorem wm_11_19 : (Cond.fieldLink RX8 125 "OutsideAsksModel" "now" "I") ∈ wsL_law := wr_11 _ (List.mem_of_getElem? (i := 19) rfl)
theorem wm_11_20 : (Cond.fieldLink RX8 108 "OutsideAsksModel" "queued" "I") ∈ wsL_law := wr_11 _ (List.mem_of_getElem? (i := 20) rfl)
theorem wm_11_21 : (Cond.fieldLink RX8 132 "OutsideAsksModel" "sentNow" "I") ∈ wsL_law := wr_11 _ (List.mem_of_getElem? (i := 21) rfl)
theorem wm_11_22 : (Cond.fieldLink RX8 135 "OutsideAsksModel" "sentAll" "I") ∈ wsL_law := wr_11 _ (List.mem_of_getElem? (i := 22) rfl)
theorem wm_11_23 : (Cond.fieldLink RX8 146 "OutsideAsksModel" "outs" "I") ∈ wsL_law := wr_11 _ (List.mem_of_getElem? (i := 23) rfl)
theorem wm_12_0 : (Cond.methodLink RX8 115 yX8_countOf) ∈ wsL_law := wr_12 _ (List.mem_of_getElem? (i := 0) rfl)
theorem wm_12_1 : (Cond.instanceMethod yX8_countOf) ∈ wsL_law := wr_12 _ (List.mem_of_getElem? (i := 1) rfl)
theorem wm_12_2 : (Cond.selects RX8 yX8_countOf yX8_countOf) ∈ wsL_law := wr_12 _ (List.mem_of_getElem? (i := 2) rfl)
theorem wm_12_3 : (Cond.code yX8_countOf cX8_countOf 4 (some .int)) ∈ wsL_law := wr_12 _ (List.mem_of_getElem? (i := 3) rfl)
theorem wm_12_4 : (Cond.fieldLink RX8 98 "OutsideAsksModel" "items" "I") ∈ wsL_law := wr_12 _ (List.mem_of_getElem? (i := 4) rfl)
theorem wm_12_5 : (Cond.methodLink RX8 118 yX8_first) ∈ wsL_law := wr_12 _ (List.mem_of_getElem? (i := 5) rfl)
theorem wm_12_6 : (Cond.instanceMethod yX8_first) ∈ wsL_law := wr_12 _ (List.mem_of_getElem? (i := 6) rfl)
theorem wm_12_7 : (Cond.selects RX8 yX8_first yX8_first) ∈ wsL_law := wr_12 _ (List.mem_of_getElem? (i := 7) rfl)
theorem wm_12_8 : (Cond.code yX8_first cX8_first 3 (some .int)) ∈ wsL_law := wr_12 _ (List.mem_of_getElem? (i := 8) rfl)
theorem wm_12_9 : (Cond.methodLink RX8 121 yX8_keptFor) ∈ wsL_law := wr_12 _ (List.mem_of_getElem? (i := 9) rfl)
theorem wm_12_10 : (Cond.instanceMethod yX8_keptFor) ∈ wsL_law := wr_12 _ (List.mem_of_getElem? (i := 10) rfl)
theorem wm_12_11 : (Cond.selects RX8 yX8_keptFor yX8_keptFor) ∈ wsL_law := wr_12 _ (List.mem_of_getElem? (i := 11) rfl)
theorem wm_12_12 : (Cond.code yX8_keptFor cX8_keptFor 4 (some .int)) ∈ wsL_law := wr_12 _ (List.mem_of_getElem? (i := 12) rfl)
theorem wm_12_13 : (Cond.fieldLink RX8 101 "OutsideAsksModel" "keeps" "I") ∈ wsL_law := wr_12 _ (List.mem_of_getElem? (i := 13) rfl)
theorem wm_12_14 : (Cond.methodLink RX8 128 yX8_settle) ∈ wsL_law := wr_12 _ (List.mem_of_getElem? (i := 14) rfl)
theorem wm_12_15 : (Cond.instanceMethod yX8_settle) ∈ wsL_law := wr_12 _ (List.mem_of_getElem? (i := 15) rfl)
theorem wm_12_16 : (Cond.selects RX8 yX8_settle yX8_settle) ∈ wsL_law := wr_12 _ (List.mem_of_getElem? (i := 16) rfl)
theorem wm_12_17 : (Cond.code yX8_settle cX8_settle 5 none) ∈ wsL_law := wr_12 _ (List.mem_of_getElem? (i := 17) rfl)
theorem wm_12_18 : (Cond.methodLink RX8 104 yX8_leave) ∈ wsL_law := wr_12 _ (List.mem_of_getElem? (i := 18) rfl)
theorem wm_12_19 : (Cond.instanceMethod yX8_leave) ∈ wsL_law := wr_12 _ (List.mem_of_getElem? (i := 19) rfl)
theorem wm_12_20 : (Cond.selects RX8 yX8_leave yX8_leave) ∈ wsL_law := wr_12 _ (List.mem_of_getElem? (i := 20) rfl)
theorem wm_12_21 : (Cond.code yX8_leave cX8_leave 4 none) ∈ wsL_law := wr_12 _ (List.mem_of_getElem? (i := 21) rfl)
theorem wm_12_22 : (Cond.methodLink RX8 111 yX8_placeInQueue) ∈ wsL_law := wr_12 _ (List.mem_of_getElem? (i := 22) rfl)
theorem wm_12_23 : (Cond.instanceMethod yX8_placeInQueue) ∈ wsL_law := wr_12 _ (List.mem_of_getElem? (i := 23) rfl)
theorem wm_13_0 : (Cond.selects RX8 yX8_placeInQueue yX8_placeInQueue) ∈ wsL_law := wr_13 _ (List.mem_of_getElem? (i := 0) rfl)
theorem wm_13_1 : (Cond.code yX8_placeInQueue cX8_placeInQueue 3 (some .int)) ∈ wsL_law := wr_13 _ (List.mem_of_getElem? (i := 1) rfl)
theorem wm_13_2 : (Cond.methodLink RX8 138 yX8_send) ∈ wsL_law := wr_13 _ (List.mem_of_getElem? (i := 2) rfl)
theorem wm_13_3 : (Cond.instanceMethod yX8_send) ∈ wsL_law := wr_13 _ (List.mem_of_getElem? (i := 3) rfl)
theorem wm_13_4 : (Cond.selects RX8 yX8_send yX8_send) ∈ wsL_law := wr_13 _ (List.mem_of_getElem? (i := 4) rfl)
theorem wm_13_5 : (Cond.code yX8_send cX8_send 7 none) ∈ wsL_law := wr_13 _ (List.mem_of_getElem? (i := 5) rfl)
theorem wm_13_6 : (Cond.methodLink RX8 142 yX8_nextOut) ∈ wsL_law := wr_13 _ (List.mem_of_getElem? (i := 6) rfl)
theorem wm_13_7 : (Cond.instanceMethod yX8_nextOut) ∈ wsL_law := wr_13 _ (List.mem_of_getElem? (i := 7) rfl)
theorem wm_13_8 : (Cond.selects RX8 yX8_nextOut yX8_nextOut) ∈ wsL_law := wr_13 _ (List.mem_of_getElem? (i := 8) rfl)
theorem wm_13_9 : (Cond.code yX8_nextOut cX8_nextOut 6 (some .int)) ∈ wsL_law := wr_13 _ (List.mem_of_getElem? (i := 9) rfl)
theorem wm_13_10 : (Cond.methodLink RL 28 yX7_row) ∈ wsL_law := wr_13 _ (List.mem_of_getElem? (i := 10) rfl)
theorem wm_13_11 : (Cond.instanceMethod yX7_row) ∈ wsL_law := wr_13 _ (List.mem_of_getElem? (i := 11) rfl)
theorem wm_13_12 : (Cond.selects RX7 yX7_row yX7_row) ∈ wsL_law := wr_13 _ (List.mem_of_getElem? (i := 12) rfl)
theorem wm_13_13 : (Cond.code yX7_row cX7_row 6 (some .int)) ∈ wsL_law := wr_13 _ (List.mem_of_getElem? (i := 13) rfl)
theorem wm_13_14 : (Cond.methodLink RX7 122 yX0_noteRow) ∈ wsL_law := wr_13 _ (List.mem_of_getElem? (i := 14) rfl)
theorem wm_13_15 : (Cond.instanceMethod yX0_noteRow) ∈ wsL_law := wr_13 _ (List.mem_of_getElem? (i := 15) rfl)
theorem wm_13_16 : (Cond.selects RX0 yX0_noteRow yX0_noteRow) ∈ wsL_law := wr_13 _ (List.mem_of_getElem? (i := 16) rfl)
theorem wm_13_17 : (Cond.code yX0_noteRow cX0_noteRow 6 none) ∈ wsL_law := wr_13 _ (List.mem_of_getElem? (i := 17) rfl)
theorem wm_13_18 : (Cond.methodLink RX7 126 yX4_addRow) ∈ wsL_law := wr_13 _ (List.mem_of_getElem? (i := 18) rfl)
theorem wm_13_19 : (Cond.instanceMethod yX4_addRow) ∈ wsL_law := wr_13 _ (List.mem_of_getElem? (i := 19) rfl)
theorem wm_13_20 : (Cond.selects RX4 yX4_addRow yX4_addRow) ∈ wsL_law := wr_13 _ (List.mem_of_getElem? (i := 20) rfl)
theorem wm_13_21 : (Cond.code yX4_addRow cX4_addRow 1 none) ∈ wsL_law := wr_13 _ (List.mem_of_getElem? (i := 21) rfl)
theorem wm_13_22 : (Cond.methodLink RL 32 yX8_row) ∈ wsL_law := wr_13 _ (List.mem_of_getElem? (i := 22) rfl)
theorem wm_13_23 : (Cond.instanceMethod yX8_row) ∈ wsL_law := wr_13 _ (List.mem_of_getElem? (i := 23) rfl)
theorem wm_14_0 : (Cond.selects RX8 yX8_row yX8_row) ∈ wsL_law := wr_14 _ (List.mem_of_getElem? (i := 0) rfl)
theorem wm_14_1 : (Cond.code yX8_row cX8_row 5 (some .int)) ∈ wsL_law := wr_14 _ (List.mem_of_getElem? (i := 1) rfl)
theorem wm_14_2 : (Cond.methodLink RX8 152 yX8_come) ∈ wsL_law := wr_14 _ (List.mem_of_getElem? (i := 2) rfl)
theorem wm_14_3 : (Cond.instanceMethod yX8_come) ∈ wsL_law := wr_14 _ (List.mem_of_getElem? (i := 3) rfl)
theorem wm_14_4 : (Cond.selects RX8 yX8_come yX8_come) ∈ wsL_law := wr_14 _ (List.mem_of_getElem? (i := 4) rfl)
theorem wm_14_5 : (Cond.code yX8_come cX8_come 7 (some .int)) ∈ wsL_law := wr_14 _ (List.mem_of_getElem? (i := 5) rfl)
theorem wm_14_6 : (Cond.methodLink RL 33 yX7_mark) ∈ wsL_law := wr_14 _ (List.mem_of_getElem? (i := 6) rfl)
theorem wm_14_7 : (Cond.instanceMethod yX7_mark) ∈ wsL_law := wr_14 _ (List.mem_of_getElem? (i := 7) rfl)
theorem wm_14_8 : (Cond.selects RX7 yX7_mark yX7_mark) ∈ wsL_law := wr_14 _ (List.mem_of_getElem? (i := 8) rfl)
theorem wm_14_9 : (Cond.code yX7_mark cX7_mark 2 (some .int)) ∈ wsL_law := wr_14 _ (List.mem_of_getElem? (i := 9) rfl)
theorem wm_14_10 : (Cond.methodLink RX7 129 yX0_noteMark) ∈ wsL_law := wr_14 _ (List.mem_of_getElem? (i := 10) rfl)
theorem wm_14_11 : (Cond.instanceMethod yX0_noteMark) ∈ wsL_law := wr_14 _ (List.mem_of_getElem? (i := 11) rfl)
theorem wm_14_12 : (Cond.selects RX0 yX0_noteMark yX0_noteMark) ∈ wsL_law := wr_14 _ (List.mem_of_getElem? (i := 12) rfl)
theorem wm_14_13 : (Cond.code yX0_noteMark cX0_noteMark 2 none) ∈ wsL_law := wr_14 _ (List.mem_of_getElem? (i := 13) rfl)
theorem wm_14_14 : (Cond.methodLink RX7 133 yX4_addMark) ∈ wsL_law := wr_14 _ (List.mem_of_getElem? (i := 14) rfl)
theorem wm_14_15 : (Cond.instanceMethod yX4_addMark) ∈ wsL_law := wr_14 _ (List.mem_of_getElem? (i := 15) rfl)
theorem wm_14_16 : (Cond.selects RX4 yX4_addMark yX4_addMark) ∈ wsL_law := wr_14 _ (List.mem_of_getElem? (i := 16) rfl)
theorem wm_14_17 : (Cond.code yX4_addMark cX4_addMark 1 none) ∈ wsL_law := wr_14 _ (List.mem_of_getElem? (i := 17) rfl)
theorem wm_14_18 : (Cond.methodLink RL 37 yX8_mark) ∈ wsL_law := wr_14 _ (List.mem_of_getElem? (i := 18) rfl)
theorem wm_14_19 : (Cond.instanceMethod yX8_mark) ∈ wsL_law := wr_14 _ (List.mem_of_getElem? (i := 19) rfl)
theorem wm_14_20 : (Cond.selects RX8 yX8_mark yX8_mark) ∈ wsL_law := wr_14 _ (List.mem_of_getElem? (i := 20) rfl)
theorem wm_14_21 : (Cond.code yX8_mark cX8_mark 1 (some .int)) ∈ wsL_law := wr_14 _ (List.mem_of_getElem? (i := 21) rfl)
theorem wm_14_22 : (Cond.methodLink RL 38 yX7_tick) ∈ wsL_law := wr_14 _ (List.mem_of_getElem? (i := 22) rfl)
theorem wm_14_23 : (Cond.instanceMethod yX7_tick) ∈ wsL_law := wr_14 _ (List.mem_of_getElem? (i := 23) rfl)
theorem wm_15_0 : (Cond.selects RX7 yX7_tick yX7_tick) ∈ wsL_law := wr_15 _ (List.mem_of_getElem? (i := 0) rfl)
theorem wm_15_1 : (Cond.code yX7_tick cX7_tick 3 (some .int)) ∈ wsL_law := wr_15 _ (List.mem_of_getElem? (i := 1) rfl)
theorem wm_15_2 : (Cond.constant RX7 136 (1000000)) ∈ wsL_law := wr_15 _ (List.mem_of_getElem? (i := 2) rfl)
theorem wm_15_3 : (Cond.methodLink RX7 137 yX7_passTick) ∈ wsL_law := wr_15 _ (List.mem_of_getElem? (i := 3) rfl)
theorem wm_15_4 : (Cond.instanceMethod yX7_passTick) ∈ wsL_law := wr_15 _ (List.mem_of_getElem? (i := 4) rfl)
theorem wm_15_5 : (Cond.selects RX7 yX7_passTick yX7_passTick) ∈ wsL_law := wr_15 _ (List.mem_of_getElem? (i := 5) rfl)
theorem wm_15_6 : (Cond.code yX7_passTick cX7_passTick 2 none) ∈ wsL_law := wr_15 _ (List.mem_of_getElem? (i := 6) rfl)
theorem wm_15_7 : (Cond.methodLink RX7 284 yX7_findOverdue) ∈ wsL_law := wr_15 _ (List.mem_of_getElem? (i := 7) rfl)
theorem wm_15_8 : (Cond.instanceMethod yX7_findOverdue) ∈ wsL_law := wr_15 _ (List.mem_of_getElem? (i := 8) rfl)
theorem wm_15_9 : (Cond.selects RX7 yX7_findOverdue yX7_findOverdue) ∈ wsL_law := wr_15 _ (List.mem_of_getElem? (i := 9) rfl)
theorem wm_15_10 : (Cond.code yX7_findOverdue cX7_findOverdue 3 none) ∈ wsL_law := wr_15 _ (List.mem_of_getElem? (i := 10) rfl)
theorem wm_15_11 : (Cond.methodLink RX7 290 yX5_clear) ∈ wsL_law := wr_15 _ (List.mem_of_getElem? (i := 11) rfl)
theorem wm_15_12 : (Cond.instanceMethod yX5_clear) ∈ wsL_law := wr_15 _ (List.mem_of_getElem? (i := 12) rfl)
theorem wm_15_13 : (Cond.selects RX5 yX5_clear yX5_clear) ∈ wsL_law := wr_15 _ (List.mem_of_getElem? (i := 13) rfl)
theorem wm_15_14 : (Cond.code yX5_clear cX5_clear 1 none) ∈ wsL_law := wr_15 _ (List.mem_of_getElem? (i := 14) rfl)
theorem wm_15_15 : (Cond.methodLink RX7 293 yX0_dueOf) ∈ wsL_law := wr_15 _ (List.mem_of_getElem? (i := 15) rfl)
theorem wm_15_16 : (Cond.instanceMethod yX0_dueOf) ∈ wsL_law := wr_15 _ (List.mem_of_getElem? (i := 16) rfl)
theorem wm_15_17 : (Cond.selects RX0 yX0_dueOf yX0_dueOf) ∈ wsL_law := wr_15 _ (List.mem_of_getElem? (i := 17) rfl)
theorem wm_15_18 : (Cond.code yX0_dueOf cX0_dueOf 2 (some .int)) ∈ wsL_law := wr_15 _ (List.mem_of_getElem? (i := 18) rfl)
theorem wm_15_19 : (Cond.methodLink RX7 214 yX5_find) ∈ wsL_law := wr_15 _ (List.mem_of_getElem? (i := 19) rfl)
theorem wm_15_20 : (Cond.instanceMethod yX5_find) ∈ wsL_law := wr_15 _ (List.mem_of_getElem? (i := 20) rfl)
theorem wm_15_21 : (Cond.selects RX5 yX5_find yX5_find) ∈ wsL_law := wr_15 _ (List.mem_of_getElem? (i := 21) rfl)
theorem wm_15_22 : (Cond.code yX5_find cX5_find 3 (some .int)) ∈ wsL_law := wr_15 _ (List.mem_of_getElem? (i := 22) rfl)
theorem wm_15_23 : (Cond.methodLink RX7 287 yX7_tryAgain) ∈ wsL_law := wr_15 _ (List.mem_of_getElem? (i := 23) rfl)
theorem wm_16_0 : (Cond.instanceMethod yX7_tryAgain) ∈ wsL_law := wr_16 _ (List.mem_of_getElem? (i := 0) rfl)
theorem wm_16_1 : (Cond.selects RX7 yX7_tryAgain yX7_tryAgain) ∈ wsL_law := wr_16 _ (List.mem_of_getElem? (i := 1) rfl)
theorem wm_16_2 : (Cond.code yX7_tryAgain cX7_tryAgain 5 (some .boolean)) ∈ wsL_law := wr_16 _ (List.mem_of_getElem? (i := 2) rfl)
theorem wm_16_3 : (Cond.methodLink RX7 208 yX4_triesOf) ∈ wsL_law := wr_16 _ (List.mem_of_getElem? (i := 3) rfl)
theorem wm_16_4 : (Cond.instanceMethod yX4_triesOf) ∈ wsL_law := wr_16 _ (List.mem_of_getElem? (i := 4) rfl)
theorem wm_16_5 : (Cond.selects RX4 yX4_triesOf yX4_triesOf) ∈ wsL_law := wr_16 _ (List.mem_of_getElem? (i := 5) rfl)
theorem wm_16_6 : (Cond.code yX4_triesOf cX4_triesOf 2 (some .int)) ∈ wsL_law := wr_16 _ (List.mem_of_getElem? (i := 6) rfl)
theorem wm_16_7 : (Cond.methodLink RX7 296 yX7_settle) ∈ wsL_law := wr_16 _ (List.mem_of_getElem? (i := 7) rfl)
theorem wm_16_8 : (Cond.instanceMethod yX7_settle) ∈ wsL_law := wr_16 _ (List.mem_of_getElem? (i := 8) rfl)
theorem wm_16_9 : (Cond.selects RX7 yX7_settle yX7_settle) ∈ wsL_law := wr_16 _ (List.mem_of_getElem? (i := 9) rfl)
theorem wm_16_10 : (Cond.code yX7_settle cX7_settle 5 none) ∈ wsL_law := wr_16 _ (List.mem_of_getElem? (i := 10) rfl)
theorem wm_16_11 : (Cond.methodLink RX7 299 yX4_addTry) ∈ wsL_law := wr_16 _ (List.mem_of_getElem? (i := 11) rfl)
theorem wm_16_12 : (Cond.instanceMethod yX4_addTry) ∈ wsL_law := wr_16 _ (List.mem_of_getElem? (i := 12) rfl)
theorem wm_16_13 : (Cond.selects RX4 yX4_addTry yX4_addTry) ∈ wsL_law := wr_16 _ (List.mem_of_getElem? (i := 13) rfl)
theorem wm_16_14 : (Cond.code yX4_addTry cX4_addTry 2 none) ∈ wsL_law := wr_16 _ (List.mem_of_getElem? (i := 14) rfl)
theorem wm_16_15 : (Cond.methodLink RL 42 yX8_tick) ∈ wsL_law := wr_16 _ (List.mem_of_getElem? (i := 15) rfl)
theorem wm_16_16 : (Cond.instanceMethod yX8_tick) ∈ wsL_law := wr_16 _ (List.mem_of_getElem? (i := 16) rfl)
theorem wm_16_17 : (Cond.selects RX8 yX8_tick yX8_tick) ∈ wsL_law := wr_16 _ (List.mem_of_getElem? (i := 17) rfl)
theorem wm_16_18 : (Cond.code yX8_tick cX8_tick 4 (some .int)) ∈ wsL_law := wr_16 _ (List.mem_of_getElem? (i := 18) rfl)
theorem wm_16_19 : (Cond.constant RX8 156 (1000000)) ∈ wsL_law := wr_16 _ (List.mem_of_getElem? (i := 19) rfl)
theorem wm_16_20 : (Cond.methodLink RX8 157 yX8_again) ∈ wsL_law := wr_16 _ (List.mem_of_getElem? (i := 20) rfl)
theorem wm_16_21 : (Cond.instanceMethod yX8_again) ∈ wsL_law := wr_16 _ (List.mem_of_getElem? (i := 21) rfl)
theorem wm_16_22 : (Cond.selects RX8 yX8_again yX8_again) ∈ wsL_law := wr_16 _ (List.mem_of_getElem? (i := 22) rfl)
theorem wm_16_23 : (Cond.code yX8_again cX8_again 2 (some .boolean)) ∈ wsL_law := wr_16 _ (List.mem_of_getElem? (i := 23) rfl)
theorem wm_17_0 : (Cond.methodLink RL 43 yX7_serve) ∈ wsL_law := wr_17 _ (List.mem_of_getElem? (i := 0) rfl)
theorem wm_17_1 : (Cond.instanceMethod yX7_serve) ∈ wsL_law := wr_17 _ (List.mem_of_getElem? (i := 1) rfl)
theorem wm_17_2 : (Cond.selects RX7 yX7_serve yX7_serve) ∈ wsL_law := wr_17 _ (List.mem_of_getElem? (i := 2) rfl)
theorem wm_17_3 : (Cond.code yX7_serve cX7_serve 5 (some .int)) ∈ wsL_law := wr_17 _ (List.mem_of_getElem? (i := 3) rfl)
theorem wm_17_4 : (Cond.methodLink RX7 140 yX2_has) ∈ wsL_law := wr_17 _ (List.mem_of_getElem? (i := 4) rfl)
theorem wm_17_5 : (Cond.instanceMethod yX2_has) ∈ wsL_law := wr_17 _ (List.mem_of_getElem? (i := 5) rfl)
theorem wm_17_6 : (Cond.selects RX2 yX2_has yX2_has) ∈ wsL_law := wr_17 _ (List.mem_of_getElem? (i := 6) rfl)
theorem wm_17_7 : (Cond.code yX2_has cX2_has 2 (some .boolean)) ∈ wsL_law := wr_17 _ (List.mem_of_getElem? (i := 7) rfl)
theorem wm_17_8 : (Cond.methodLink RX7 144 yX2_rowAt) ∈ wsL_law := wr_17 _ (List.mem_of_getElem? (i := 8) rfl)
theorem wm_17_9 : (Cond.instanceMethod yX2_rowAt) ∈ wsL_law := wr_17 _ (List.mem_of_getElem? (i := 9) rfl)
theorem wm_17_10 : (Cond.selects RX2 yX2_rowAt yX2_rowAt) ∈ wsL_law := wr_17 _ (List.mem_of_getElem? (i := 10) rfl)
theorem wm_17_11 : (Cond.code yX2_rowAt cX2_rowAt 2 (some .int)) ∈ wsL_law := wr_17 _ (List.mem_of_getElem? (i := 11) rfl)
theorem wm_17_12 : (Cond.methodLink RX2 26 yX2_has) ∈ wsL_law := wr_17 _ (List.mem_of_getElem? (i := 12) rfl)
theorem wm_17_13 : (Cond.methodLink RX7 148 yX2_removeAt) ∈ wsL_law := wr_17 _ (List.mem_of_getElem? (i := 13) rfl)
theorem wm_17_14 : (Cond.instanceMethod yX2_removeAt) ∈ wsL_law := wr_17 _ (List.mem_of_getElem? (i := 14) rfl)
theorem wm_17_15 : (Cond.selects RX2 yX2_removeAt yX2_removeAt) ∈ wsL_law := wr_17 _ (List.mem_of_getElem? (i := 15) rfl)
theorem wm_17_16 : (Cond.code yX2_removeAt cX2_removeAt 3 none) ∈ wsL_law := wr_17 _ (List.mem_of_getElem? (i := 16) rfl)
theorem wm_17_17 : (Cond.methodLink RX2 30 arraycopyName) ∈ wsL_law := wr_17 _ (List.mem_of_getElem? (i := 17) rfl)
theorem wm_17_18 : (Cond.methodLink RX7 155 yX0_valueOf) ∈ wsL_law := wr_17 _ (List.mem_of_getElem? (i := 18) rfl)
theorem wm_17_19 : (Cond.instanceMethod yX0_valueOf) ∈ wsL_law := wr_17 _ (List.mem_of_getElem? (i := 19) rfl)
theorem wm_17_20 : (Cond.selects RX0 yX0_valueOf yX0_valueOf) ∈ wsL_law := wr_17 _ (List.mem_of_getElem? (i := 20) rfl)
theorem wm_17_21 : (Cond.code yX0_valueOf cX0_valueOf 2 (some .long)) ∈ wsL_law := wr_17 _ (List.mem_of_getElem? (i := 21) rfl)
theorem wm_17_22 : (Cond.methodLink RX7 158 yX6_takeAsk) ∈ wsL_law := wr_17 _ (List.mem_of_getElem? (i := 22) rfl)
theorem wm_17_23 : (Cond.instanceMethod yX6_takeAsk) ∈ wsL_law := wr_17 _ (List.mem_of_getElem? (i := 23) rfl)
theorem wm_18_0 : (Cond.selects RX6 yX6_takeAsk yX6_takeAsk) ∈ wsL_law := wr_18 _ (List.mem_of_getElem? (i := 0) rfl)
theorem wm_18_1 : (Cond.code yX6_takeAsk cX6_takeAsk 7 (some .boolean)) ∈ wsL_law := wr_18 _ (List.mem_of_getElem? (i := 1) rfl)
theorem wm_18_2 : (Cond.methodLink RX6 22 yX6_countOf) ∈ wsL_law := wr_18 _ (List.mem_of_getElem? (i := 2) rfl)
theorem wm_18_3 : (Cond.instanceMethod yX6_countOf) ∈ wsL_law := wr_18 _ (List.mem_of_getElem? (i := 3) rfl)
theorem wm_18_4 : (Cond.selects RX6 yX6_countOf yX6_countOf) ∈ wsL_law := wr_18 _ (List.mem_of_getElem? (i := 4) rfl)
theorem wm_18_5 : (Cond.code yX6_countOf cX6_countOf 5 (some .int)) ∈ wsL_law := wr_18 _ (List.mem_of_getElem? (i := 5) rfl)
theorem wm_18_6 : (Cond.methodLink RX7 162 yX6_answerTo) ∈ wsL_law := wr_18 _ (List.mem_of_getElem? (i := 6) rfl)
theorem wm_18_7 : (Cond.instanceMethod yX6_answerTo) ∈ wsL_law := wr_18 _ (List.mem_of_getElem? (i := 7) rfl)
theorem wm_18_8 : (Cond.selects RX6 yX6_answerTo yX6_answerTo) ∈ wsL_law := wr_18 _ (List.mem_of_getElem? (i := 8) rfl)
theorem wm_18_9 : (Cond.code yX6_answerTo cX6_answerTo 2 (some .long)) ∈ wsL_law := wr_18 _ (List.mem_of_getElem? (i := 9) rfl)
theorem wm_18_10 : (Cond.methodLink RL 46 yX8_serve) ∈ wsL_law := wr_18 _ (List.mem_of_getElem? (i := 10) rfl)
theorem wm_18_11 : (Cond.instanceMethod yX8_serve) ∈ wsL_law := wr_18 _ (List.mem_of_getElem? (i := 11) rfl)
theorem wm_18_12 : (Cond.selects RX8 yX8_serve yX8_serve) ∈ wsL_law := wr_18 _ (List.mem_of_getElem? (i := 12) rfl)
theorem wm_18_13 : (Cond.code yX8_serve cX8_serve 5 (some .int)) ∈ wsL_law := wr_18 _ (List.mem_of_getElem? (i := 13) rfl)
theorem wm_18_14 : (Cond.methodLink RX8 161 yX8_isUnder) ∈ wsL_law := wr_18 _ (List.mem_of_getElem? (i := 14) rfl)
theorem wm_18_15 : (Cond.instanceMethod yX8_isUnder) ∈ wsL_law := wr_18 _ (List.mem_of_getElem? (i := 15) rfl)
theorem wm_18_16 : (Cond.selects RX8 yX8_isUnder yX8_isUnder) ∈ wsL_law := wr_18 _ (List.mem_of_getElem? (i := 16) rfl)
theorem wm_18_17 : (Cond.code yX8_isUnder cX8_isUnder 3 (some .boolean)) ∈ wsL_law := wr_18 _ (List.mem_of_getElem? (i := 17) rfl)
theorem wm_18_18 : (Cond.methodLink RX8 165 yX8_take) ∈ wsL_law := wr_18 _ (List.mem_of_getElem? (i := 18) rfl)
theorem wm_18_19 : (Cond.instanceMethod yX8_take) ∈ wsL_law := wr_18 _ (List.mem_of_getElem? (i := 19) rfl)
theorem wm_18_20 : (Cond.selects RX8 yX8_take yX8_take) ∈ wsL_law := wr_18 _ (List.mem_of_getElem? (i := 20) rfl)
theorem wm_18_21 : (Cond.code yX8_take cX8_take 4 none) ∈ wsL_law := wr_18 _ (List.mem_of_getElem? (i := 21) rfl)
theorem wm_18_22 : (Cond.methodLink RX8 169 yX8_keyAt) ∈ wsL_law := wr_18 _ (List.mem_of_getElem? (i := 22) rfl)
theorem wm_18_23 : (Cond.instanceMethod yX8_keyAt) ∈ wsL_law := wr_18 _ (List.mem_of_getElem? (i := 23) rfl)
theorem wm_19_0 : (Cond.selects RX8 yX8_keyAt yX8_keyAt) ∈ wsL_law := wr_19 _ (List.mem_of_getElem? (i := 0) rfl)
theorem wm_19_1 : (Cond.code yX8_keyAt cX8_keyAt 4 (some .int)) ∈ wsL_law := wr_19 _ (List.mem_of_getElem? (i := 1) rfl)
theorem wm_19_2 : (Cond.methodLink RL 47 yX7_refuse) ∈ wsL_law := wr_19 _ (List.mem_of_getElem? (i := 2) rfl)
theorem wm_19_3 : (Cond.instanceMethod yX7_refuse) ∈ wsL_law := wr_19 _ (List.mem_of_getElem? (i := 3) rfl)
theorem wm_19_4 : (Cond.selects RX7 yX7_refuse yX7_refuse) ∈ wsL_law := wr_19 _ (List.mem_of_getElem? (i := 4) rfl)
theorem wm_19_5 : (Cond.code yX7_refuse cX7_refuse 4 (some .int)) ∈ wsL_law := wr_19 _ (List.mem_of_getElem? (i := 5) rfl)
theorem wm_19_6 : (Cond.methodLink RX7 169 yX7_isCause) ∈ wsL_law := wr_19 _ (List.mem_of_getElem? (i := 6) rfl)
theorem wm_19_7 : (Cond.instanceMethod yX7_isCause) ∈ wsL_law := wr_19 _ (List.mem_of_getElem? (i := 7) rfl)
theorem wm_19_8 : (Cond.selects RX7 yX7_isCause yX7_isCause) ∈ wsL_law := wr_19 _ (List.mem_of_getElem? (i := 8) rfl)
theorem wm_19_9 : (Cond.code yX7_isCause cX7_isCause 2 (some .boolean)) ∈ wsL_law := wr_19 _ (List.mem_of_getElem? (i := 9) rfl)
theorem wm_19_10 : (Cond.methodLink RL 50 yX8_refuse) ∈ wsL_law := wr_19 _ (List.mem_of_getElem? (i := 10) rfl)
theorem wm_19_11 : (Cond.instanceMethod yX8_refuse) ∈ wsL_law := wr_19 _ (List.mem_of_getElem? (i := 11) rfl)
theorem wm_19_12 : (Cond.selects RX8 yX8_refuse yX8_refuse) ∈ wsL_law := wr_19 _ (List.mem_of_getElem? (i := 12) rfl)
theorem wm_19_13 : (Cond.code yX8_refuse cX8_refuse 4 (some .int)) ∈ wsL_law := wr_19 _ (List.mem_of_getElem? (i := 13) rfl)
theorem wm_19_14 : (Cond.methodLink RL 51 yX7_arrive) ∈ wsL_law := wr_19 _ (List.mem_of_getElem? (i := 14) rfl)
theorem wm_19_15 : (Cond.instanceMethod yX7_arrive) ∈ wsL_law := wr_19 _ (List.mem_of_getElem? (i := 15) rfl)
theorem wm_19_16 : (Cond.selects RX7 yX7_arrive yX7_arrive) ∈ wsL_law := wr_19 _ (List.mem_of_getElem? (i := 16) rfl)
theorem wm_19_17 : (Cond.code yX7_arrive cX7_arrive 7 (some .int)) ∈ wsL_law := wr_19 _ (List.mem_of_getElem? (i := 17) rfl)
theorem wm_19_18 : (Cond.methodLink RX7 172 yX2_causeAt) ∈ wsL_law := wr_19 _ (List.mem_of_getElem? (i := 18) rfl)
theorem wm_19_19 : (Cond.instanceMethod yX2_causeAt) ∈ wsL_law := wr_19 _ (List.mem_of_getElem? (i := 19) rfl)
theorem wm_19_20 : (Cond.selects RX2 yX2_causeAt yX2_causeAt) ∈ wsL_law := wr_19 _ (List.mem_of_getElem? (i := 20) rfl)
theorem wm_19_21 : (Cond.code yX2_causeAt cX2_causeAt 2 (some .int)) ∈ wsL_law := wr_19 _ (List.mem_of_getElem? (i := 21) rfl)
theorem wm_19_22 : (Cond.methodLink RX7 175 yX2_valueAt) ∈ wsL_law := wr_19 _ (List.mem_of_getElem? (i := 22) rfl)
theorem wm_19_23 : (Cond.instanceMethod yX2_valueAt) ∈ wsL_law := wr_19 _ (List.mem_of_getElem? (i := 23) rfl)
theorem wm_20_0 : (Cond.selects RX2 yX2_valueAt yX2_valueAt) ∈ wsL_law := wr_20 _ (List.mem_of_getElem? (i := 0) rfl)
theorem wm_20_1 : (Cond.code yX2_valueAt cX2_valueAt 2 (some .long)) ∈ wsL_law := wr_20 _ (List.mem_of_getElem? (i := 1) rfl)
theorem wm_20_2 : (Cond.methodLink RX7 181 yX7_takeAnswer) ∈ wsL_law := wr_20 _ (List.mem_of_getElem? (i := 2) rfl)
theorem wm_20_3 : (Cond.instanceMethod yX7_takeAnswer) ∈ wsL_law := wr_20 _ (List.mem_of_getElem? (i := 3) rfl)
theorem wm_20_4 : (Cond.selects RX7 yX7_takeAnswer yX7_takeAnswer) ∈ wsL_law := wr_20 _ (List.mem_of_getElem? (i := 4) rfl)
theorem wm_20_5 : (Cond.code yX7_takeAnswer cX7_takeAnswer 5 (some .boolean)) ∈ wsL_law := wr_20 _ (List.mem_of_getElem? (i := 5) rfl)
theorem wm_20_6 : (Cond.methodLink RX7 302 yX7_takeCause) ∈ wsL_law := wr_20 _ (List.mem_of_getElem? (i := 6) rfl)
theorem wm_20_7 : (Cond.instanceMethod yX7_takeCause) ∈ wsL_law := wr_20 _ (List.mem_of_getElem? (i := 7) rfl)
theorem wm_20_8 : (Cond.selects RX7 yX7_takeCause yX7_takeCause) ∈ wsL_law := wr_20 _ (List.mem_of_getElem? (i := 8) rfl)
theorem wm_20_9 : (Cond.code yX7_takeCause cX7_takeCause 4 (some .boolean)) ∈ wsL_law := wr_20 _ (List.mem_of_getElem? (i := 9) rfl)
theorem wm_20_10 : (Cond.methodLink RX7 310 yX7_ruleOf) ∈ wsL_law := wr_20 _ (List.mem_of_getElem? (i := 10) rfl)
theorem wm_20_11 : (Cond.instanceMethod yX7_ruleOf) ∈ wsL_law := wr_20 _ (List.mem_of_getElem? (i := 11) rfl)
theorem wm_20_12 : (Cond.selects RX7 yX7_ruleOf yX7_ruleOf) ∈ wsL_law := wr_20 _ (List.mem_of_getElem? (i := 12) rfl)
theorem wm_20_13 : (Cond.code yX7_ruleOf cX7_ruleOf 2 (some .int)) ∈ wsL_law := wr_20 _ (List.mem_of_getElem? (i := 13) rfl)
theorem wm_20_14 : (Cond.methodLink RX7 306 yX1_keep) ∈ wsL_law := wr_20 _ (List.mem_of_getElem? (i := 14) rfl)
theorem wm_20_15 : (Cond.instanceMethod yX1_keep) ∈ wsL_law := wr_20 _ (List.mem_of_getElem? (i := 15) rfl)
theorem wm_20_16 : (Cond.selects RX1 yX1_keep yX1_keep) ∈ wsL_law := wr_20 _ (List.mem_of_getElem? (i := 16) rfl)
theorem wm_20_17 : (Cond.code yX1_keep cX1_keep 7 none) ∈ wsL_law := wr_20 _ (List.mem_of_getElem? (i := 17) rfl)
theorem wm_20_18 : (Cond.methodLink RX1 30 yX1_placeFor) ∈ wsL_law := wr_20 _ (List.mem_of_getElem? (i := 18) rfl)
theorem wm_20_19 : (Cond.instanceMethod yX1_placeFor) ∈ wsL_law := wr_20 _ (List.mem_of_getElem? (i := 19) rfl)
theorem wm_20_20 : (Cond.selects RX1 yX1_placeFor yX1_placeFor) ∈ wsL_law := wr_20 _ (List.mem_of_getElem? (i := 20) rfl)
theorem wm_20_21 : (Cond.code yX1_placeFor cX1_placeFor 4 (some .int)) ∈ wsL_law := wr_20 _ (List.mem_of_getElem? (i := 21) rfl)
theorem wm_20_22 : (Cond.methodLink RX1 33 yX1_firstToGo) ∈ wsL_law := wr_20 _ (List.mem_of_getElem? (i := 22) rfl)
theorem wm_20_23 : (Cond.instanceMethod yX1_firstToGo) ∈ wsL_law := wr_20 _ (List.mem_of_getElem? (i := 23) rfl)
theorem wm_21_0 : (Cond.selects RX1 yX1_firstToGo yX1_firstToGo) ∈ wsL_law := wr_21 _ (List.mem_of_getElem? (i := 0) rfl)
theorem wm_21_1 : (Cond.code yX1_firstToGo cX1_firstToGo 4 (some .int)) ∈ wsL_law := wr_21 _ (List.mem_of_getElem? (i := 1) rfl)
theorem wm_21_2 : (Cond.methodLink RL 54 yX8_arrive) ∈ wsL_law := wr_21 _ (List.mem_of_getElem? (i := 2) rfl)
theorem wm_21_3 : (Cond.instanceMethod yX8_arrive) ∈ wsL_law := wr_21 _ (List.mem_of_getElem? (i := 3) rfl)
theorem wm_21_4 : (Cond.selects RX8 yX8_arrive yX8_arrive) ∈ wsL_law := wr_21 _ (List.mem_of_getElem? (i := 4) rfl)
theorem wm_21_5 : (Cond.code yX8_arrive cX8_arrive 9 (some .int)) ∈ wsL_law := wr_21 _ (List.mem_of_getElem? (i := 5) rfl)
theorem wm_21_6 : (Cond.methodLink RX8 172 yX8_keep) ∈ wsL_law := wr_21 _ (List.mem_of_getElem? (i := 6) rfl)
theorem wm_21_7 : (Cond.instanceMethod yX8_keep) ∈ wsL_law := wr_21 _ (List.mem_of_getElem? (i := 7) rfl)
theorem wm_21_8 : (Cond.selects RX8 yX8_keep yX8_keep) ∈ wsL_law := wr_21 _ (List.mem_of_getElem? (i := 8) rfl)
theorem wm_21_9 : (Cond.code yX8_keep cX8_keep 7 none) ∈ wsL_law := wr_21 _ (List.mem_of_getElem? (i := 9) rfl)
theorem wm_21_10 : (Cond.methodLink RL 55 yX7_lose) ∈ wsL_law := wr_21 _ (List.mem_of_getElem? (i := 10) rfl)
theorem wm_21_11 : (Cond.instanceMethod yX7_lose) ∈ wsL_law := wr_21 _ (List.mem_of_getElem? (i := 11) rfl)
theorem wm_21_12 : (Cond.selects RX7 yX7_lose yX7_lose) ∈ wsL_law := wr_21 _ (List.mem_of_getElem? (i := 12) rfl)
theorem wm_21_13 : (Cond.code yX7_lose cX7_lose 4 (some .int)) ∈ wsL_law := wr_21 _ (List.mem_of_getElem? (i := 13) rfl)
theorem wm_21_14 : (Cond.methodLink RX7 185 yX7_lineOf) ∈ wsL_law := wr_21 _ (List.mem_of_getElem? (i := 14) rfl)
theorem wm_21_15 : (Cond.instanceMethod yX7_lineOf) ∈ wsL_law := wr_21 _ (List.mem_of_getElem? (i := 15) rfl)
theorem wm_21_16 : (Cond.selects RX7 yX7_lineOf yX7_lineOf) ∈ wsL_law := wr_21 _ (List.mem_of_getElem? (i := 16) rfl)
theorem wm_21_17 : (Cond.code yX7_lineOf cX7_lineOf 2 (some (.object "OutsideAsks$Line"))) ∈ wsL_law := wr_21 _ (List.mem_of_getElem? (i := 17) rfl)
theorem wm_21_18 : (Cond.methodLink RL 58 yX8_lose) ∈ wsL_law := wr_21 _ (List.mem_of_getElem? (i := 18) rfl)
theorem wm_21_19 : (Cond.instanceMethod yX8_lose) ∈ wsL_law := wr_21 _ (List.mem_of_getElem? (i := 19) rfl)
theorem wm_21_20 : (Cond.selects RX8 yX8_lose yX8_lose) ∈ wsL_law := wr_21 _ (List.mem_of_getElem? (i := 20) rfl)
theorem wm_21_21 : (Cond.code yX8_lose cX8_lose 3 (some .int)) ∈ wsL_law := wr_21 _ (List.mem_of_getElem? (i := 21) rfl)
theorem wm_21_22 : (Cond.methodLink RL 59 yX7_twice) ∈ wsL_law := wr_21 _ (List.mem_of_getElem? (i := 22) rfl)
theorem wm_21_23 : (Cond.instanceMethod yX7_twice) ∈ wsL_law := wr_21 _ (List.mem_of_getElem? (i := 23) rfl)
theorem wm_22_0 : (Cond.selects RX7 yX7_twice yX7_twice) ∈ wsL_law := wr_22 _ (List.mem_of_getElem? (i := 0) rfl)
theorem wm_22_1 : (Cond.code yX7_twice cX7_twice 4 (some .int)) ∈ wsL_law := wr_22 _ (List.mem_of_getElem? (i := 1) rfl)
theorem wm_22_2 : (Cond.methodLink RL 62 yX8_twice) ∈ wsL_law := wr_22 _ (List.mem_of_getElem? (i := 2) rfl)
theorem wm_22_3 : (Cond.instanceMethod yX8_twice) ∈ wsL_law := wr_22 _ (List.mem_of_getElem? (i := 3) rfl)
theorem wm_22_4 : (Cond.selects RX8 yX8_twice yX8_twice) ∈ wsL_law := wr_22 _ (List.mem_of_getElem? (i := 4) rfl)
theorem wm_22_5 : (Cond.code yX8_twice cX8_twice 4 (some .int)) ∈ wsL_law := wr_22 _ (List.mem_of_getElem? (i := 5) rfl)
theorem wm_22_6 : (Cond.methodLink RL 63 yX7_under) ∈ wsL_law := wr_22 _ (List.mem_of_getElem? (i := 6) rfl)
theorem wm_22_7 : (Cond.instanceMethod yX7_under) ∈ wsL_law := wr_22 _ (List.mem_of_getElem? (i := 7) rfl)
theorem wm_22_8 : (Cond.selects RX7 yX7_under yX7_under) ∈ wsL_law := wr_22 _ (List.mem_of_getElem? (i := 8) rfl)
theorem wm_22_9 : (Cond.code yX7_under cX7_under 4 (some .int)) ∈ wsL_law := wr_22 _ (List.mem_of_getElem? (i := 9) rfl)
theorem wm_22_10 : (Cond.methodLink RL 66 yX8_under) ∈ wsL_law := wr_22 _ (List.mem_of_getElem? (i := 10) rfl)
theorem wm_22_11 : (Cond.instanceMethod yX8_under) ∈ wsL_law := wr_22 _ (List.mem_of_getElem? (i := 11) rfl)
theorem wm_22_12 : (Cond.selects RX8 yX8_under yX8_under) ∈ wsL_law := wr_22 _ (List.mem_of_getElem? (i := 12) rfl)
theorem wm_22_13 : (Cond.code yX8_under cX8_under 3 (some .int)) ∈ wsL_law := wr_22 _ (List.mem_of_getElem? (i := 13) rfl)
theorem wm_22_14 : (Cond.methodLink RL 67 yX7_out) ∈ wsL_law := wr_22 _ (List.mem_of_getElem? (i := 14) rfl)
theorem wm_22_15 : (Cond.instanceMethod yX7_out) ∈ wsL_law := wr_22 _ (List.mem_of_getElem? (i := 15) rfl)
theorem wm_22_16 : (Cond.selects RX7 yX7_out yX7_out) ∈ wsL_law := wr_22 _ (List.mem_of_getElem? (i := 16) rfl)
theorem wm_22_17 : (Cond.code yX7_out cX7_out 3 (some .int)) ∈ wsL_law := wr_22 _ (List.mem_of_getElem? (i := 17) rfl)
theorem wm_22_18 : (Cond.methodLink RX7 195 yX3_itemAt) ∈ wsL_law := wr_22 _ (List.mem_of_getElem? (i := 18) rfl)
theorem wm_22_19 : (Cond.instanceMethod yX3_itemAt) ∈ wsL_law := wr_22 _ (List.mem_of_getElem? (i := 19) rfl)
theorem wm_22_20 : (Cond.selects RX3 yX3_itemAt yX3_itemAt) ∈ wsL_law := wr_22 _ (List.mem_of_getElem? (i := 20) rfl)
theorem wm_22_21 : (Cond.code yX3_itemAt cX3_itemAt 2 (some .int)) ∈ wsL_law := wr_22 _ (List.mem_of_getElem? (i := 21) rfl)
theorem wm_22_22 : (Cond.methodLink RX7 198 yX4_resultOf) ∈ wsL_law := wr_22 _ (List.mem_of_getElem? (i := 22) rfl)
theorem wm_22_23 : (Cond.instanceMethod yX4_resultOf) ∈ wsL_law := wr_22 _ (List.mem_of_getElem? (i := 23) rfl)
theorem wm_23_0 : (Cond.selects RX4 yX4_resultOf yX4_resultOf) ∈ wsL_law := wr_23 _ (List.mem_of_getElem? (i := 0) rfl)
theorem wm_23_1 : (Cond.code yX4_resultOf cX4_resultOf 2 (some .int)) ∈ wsL_law := wr_23 _ (List.mem_of_getElem? (i := 1) rfl)
theorem wm_23_2 : (Cond.methodLink RX7 201 yX3_tickAt) ∈ wsL_law := wr_23 _ (List.mem_of_getElem? (i := 2) rfl)
theorem wm_23_3 : (Cond.instanceMethod yX3_tickAt) ∈ wsL_law := wr_23 _ (List.mem_of_getElem? (i := 3) rfl)
theorem wm_23_4 : (Cond.selects RX3 yX3_tickAt yX3_tickAt) ∈ wsL_law := wr_23 _ (List.mem_of_getElem? (i := 4) rfl)
theorem wm_23_5 : (Cond.code yX3_tickAt cX3_tickAt 2 (some .int)) ∈ wsL_law := wr_23 _ (List.mem_of_getElem? (i := 5) rfl)
theorem wm_23_6 : (Cond.methodLink RL 70 yX8_out) ∈ wsL_law := wr_23 _ (List.mem_of_getElem? (i := 6) rfl)
theorem wm_23_7 : (Cond.instanceMethod yX8_out) ∈ wsL_law := wr_23 _ (List.mem_of_getElem? (i := 7) rfl)
theorem wm_23_8 : (Cond.selects RX8 yX8_out yX8_out) ∈ wsL_law := wr_23 _ (List.mem_of_getElem? (i := 8) rfl)
theorem wm_23_9 : (Cond.code yX8_out cX8_out 3 (some .int)) ∈ wsL_law := wr_23 _ (List.mem_of_getElem? (i := 9) rfl)
theorem wm_23_10 : (Cond.methodLink RL 71 yX7_value) ∈ wsL_law := wr_23 _ (List.mem_of_getElem? (i := 10) rfl)
theorem wm_23_11 : (Cond.instanceMethod yX7_value) ∈ wsL_law := wr_23 _ (List.mem_of_getElem? (i := 11) rfl)
theorem wm_23_12 : (Cond.selects RX7 yX7_value yX7_value) ∈ wsL_law := wr_23 _ (List.mem_of_getElem? (i := 12) rfl)
theorem wm_23_13 : (Cond.code yX7_value cX7_value 2 (some .long)) ∈ wsL_law := wr_23 _ (List.mem_of_getElem? (i := 13) rfl)
theorem wm_23_14 : (Cond.methodLink RX7 204 yX4_valueOf) ∈ wsL_law := wr_23 _ (List.mem_of_getElem? (i := 14) rfl)
theorem wm_23_15 : (Cond.instanceMethod yX4_valueOf) ∈ wsL_law := wr_23 _ (List.mem_of_getElem? (i := 15) rfl)
theorem wm_23_16 : (Cond.selects RX4 yX4_valueOf yX4_valueOf) ∈ wsL_law := wr_23 _ (List.mem_of_getElem? (i := 16) rfl)
theorem wm_23_17 : (Cond.code yX4_valueOf cX4_valueOf 2 (some .long)) ∈ wsL_law := wr_23 _ (List.mem_of_getElem? (i := 17) rfl)
theorem wm_23_18 : (Cond.methodLink RL 75 yX8_value) ∈ wsL_law := wr_23 _ (List.mem_of_getElem? (i := 18) rfl)
theorem wm_23_19 : (Cond.instanceMethod yX8_value) ∈ wsL_law := wr_23 _ (List.mem_of_getElem? (i := 19) rfl)
theorem wm_23_20 : (Cond.selects RX8 yX8_value yX8_value) ∈ wsL_law := wr_23 _ (List.mem_of_getElem? (i := 20) rfl)
theorem wm_23_21 : (Cond.code yX8_value cX8_value 2 (some .long)) ∈ wsL_law := wr_23 _ (List.mem_of_getElem? (i := 21) rfl)
theorem wm_23_22 : (Cond.methodLink RX8 176 yX8_isItem) ∈ wsL_law := wr_23 _ (List.mem_of_getElem? (i := 22) rfl)
theorem wm_23_23 : (Cond.instanceMethod yX8_isItem) ∈ wsL_law := wr_23 _ (List.mem_of_getElem? (i := 23) rfl)
theorem wm_24_0 : (Cond.selects RX8 yX8_isItem yX8_isItem) ∈ wsL_law := wr_24 _ (List.mem_of_getElem? (i := 0) rfl)
theorem wm_24_1 : (Cond.code yX8_isItem cX8_isItem 2 (some .boolean)) ∈ wsL_law := wr_24 _ (List.mem_of_getElem? (i := 1) rfl)
theorem wm_24_2 : (Cond.methodLink RL 76 yX7_item) ∈ wsL_law := wr_24 _ (List.mem_of_getElem? (i := 2) rfl)
theorem wm_24_3 : (Cond.instanceMethod yX7_item) ∈ wsL_law := wr_24 _ (List.mem_of_getElem? (i := 3) rfl)
theorem wm_24_4 : (Cond.selects RX7 yX7_item yX7_item) ∈ wsL_law := wr_24 _ (List.mem_of_getElem? (i := 4) rfl)
theorem wm_24_5 : (Cond.code yX7_item cX7_item 3 (some .int)) ∈ wsL_law := wr_24 _ (List.mem_of_getElem? (i := 5) rfl)
theorem wm_24_6 : (Cond.methodLink RX7 205 yX4_hasItem) ∈ wsL_law := wr_24 _ (List.mem_of_getElem? (i := 6) rfl)
theorem wm_24_7 : (Cond.methodLink RL 79 yX8_item) ∈ wsL_law := wr_24 _ (List.mem_of_getElem? (i := 7) rfl)
theorem wm_24_8 : (Cond.instanceMethod yX8_item) ∈ wsL_law := wr_24 _ (List.mem_of_getElem? (i := 8) rfl)
theorem wm_24_9 : (Cond.selects RX8 yX8_item yX8_item) ∈ wsL_law := wr_24 _ (List.mem_of_getElem? (i := 9) rfl)
theorem wm_24_10 : (Cond.code yX8_item cX8_item 3 (some .int)) ∈ wsL_law := wr_24 _ (List.mem_of_getElem? (i := 10) rfl)
theorem wm_24_11 : (Cond.methodLink RL 80 yX7_count) ∈ wsL_law := wr_24 _ (List.mem_of_getElem? (i := 11) rfl)
theorem wm_24_12 : (Cond.instanceMethod yX7_count) ∈ wsL_law := wr_24 _ (List.mem_of_getElem? (i := 12) rfl)
theorem wm_24_13 : (Cond.selects RX7 yX7_count yX7_count) ∈ wsL_law := wr_24 _ (List.mem_of_getElem? (i := 13) rfl)
theorem wm_24_14 : (Cond.code yX7_count cX7_count 3 (some .int)) ∈ wsL_law := wr_24 _ (List.mem_of_getElem? (i := 14) rfl)
theorem wm_24_15 : (Cond.methodLink RX7 217 yX6_countOf) ∈ wsL_law := wr_24 _ (List.mem_of_getElem? (i := 15) rfl)
theorem wm_24_16 : (Cond.methodLink RL 84 yX8_count) ∈ wsL_law := wr_24 _ (List.mem_of_getElem? (i := 16) rfl)
theorem wm_24_17 : (Cond.instanceMethod yX8_count) ∈ wsL_law := wr_24 _ (List.mem_of_getElem? (i := 17) rfl)
theorem wm_24_18 : (Cond.selects RX8 yX8_count yX8_count) ∈ wsL_law := wr_24 _ (List.mem_of_getElem? (i := 18) rfl)
theorem wm_24_19 : (Cond.code yX8_count cX8_count 4 (some .int)) ∈ wsL_law := wr_24 _ (List.mem_of_getElem? (i := 19) rfl)
theorem wm_24_20 : (Cond.methodLink RL 85 yX7_kept) ∈ wsL_law := wr_24 _ (List.mem_of_getElem? (i := 20) rfl)
theorem wm_24_21 : (Cond.instanceMethod yX7_kept) ∈ wsL_law := wr_24 _ (List.mem_of_getElem? (i := 21) rfl)
theorem wm_24_22 : (Cond.selects RX7 yX7_kept yX7_kept) ∈ wsL_law := wr_24 _ (List.mem_of_getElem? (i := 22) rfl)
theorem wm_24_23 : (Cond.code yX7_kept cX7_kept 3 (some .int)) ∈ wsL_law := wr_24 _ (List.mem_of_getElem? (i := 23) rfl)
theorem wm_25_0 : (Cond.methodLink RL 88 yX8_kept) ∈ wsL_law := wr_25 _ (List.mem_of_getElem? (i := 0) rfl)
theorem wm_25_1 : (Cond.instanceMethod yX8_kept) ∈ wsL_law := wr_25 _ (List.mem_of_getElem? (i := 1) rfl)
theorem wm_25_2 : (Cond.selects RX8 yX8_kept yX8_kept) ∈ wsL_law := wr_25 _ (List.mem_of_getElem? (i := 2) rfl)
theorem wm_25_3 : (Cond.code yX8_kept cX8_kept 4 (some .int)) ∈ wsL_law := wr_25 _ (List.mem_of_getElem? (i := 3) rfl)
theorem wm_25_4 : (Cond.methodLink RL 89 yX7_save) ∈ wsL_law := wr_25 _ (List.mem_of_getElem? (i := 4) rfl)
theorem wm_25_5 : (Cond.instanceMethod yX7_save) ∈ wsL_law := wr_25 _ (List.mem_of_getElem? (i := 5) rfl)
theorem wm_25_6 : (Cond.selects RX7 yX7_save yX7_save) ∈ wsL_law := wr_25 _ (List.mem_of_getElem? (i := 6) rfl)
theorem wm_25_7 : (Cond.code yX7_save cX7_save 1 (some .int)) ∈ wsL_law := wr_25 _ (List.mem_of_getElem? (i := 7) rfl)
theorem wm_25_8 : (Cond.methodLink RX7 224 yX4_copyFrom) ∈ wsL_law := wr_25 _ (List.mem_of_getElem? (i := 8) rfl)
theorem wm_25_9 : (Cond.instanceMethod yX4_copyFrom) ∈ wsL_law := wr_25 _ (List.mem_of_getElem? (i := 9) rfl)
theorem wm_25_10 : (Cond.selects RX4 yX4_copyFrom yX4_copyFrom) ∈ wsL_law := wr_25 _ (List.mem_of_getElem? (i := 10) rfl)
theorem wm_25_11 : (Cond.code yX4_copyFrom cX4_copyFrom 2 none) ∈ wsL_law := wr_25 _ (List.mem_of_getElem? (i := 11) rfl)
theorem wm_25_12 : (Cond.methodLink RX4 42 yX4_copyItems) ∈ wsL_law := wr_25 _ (List.mem_of_getElem? (i := 12) rfl)
theorem wm_25_13 : (Cond.instanceMethod yX4_copyItems) ∈ wsL_law := wr_25 _ (List.mem_of_getElem? (i := 13) rfl)
theorem wm_25_14 : (Cond.selects RX4 yX4_copyItems yX4_copyItems) ∈ wsL_law := wr_25 _ (List.mem_of_getElem? (i := 14) rfl)
theorem wm_25_15 : (Cond.code yX4_copyItems cX4_copyItems 2 none) ∈ wsL_law := wr_25 _ (List.mem_of_getElem? (i := 15) rfl)
theorem wm_25_16 : (Cond.methodLink RX4 50 arraycopyName) ∈ wsL_law := wr_25 _ (List.mem_of_getElem? (i := 16) rfl)
theorem wm_25_17 : (Cond.methodLink RL 92 yX8_save) ∈ wsL_law := wr_25 _ (List.mem_of_getElem? (i := 17) rfl)
theorem wm_25_18 : (Cond.instanceMethod yX8_save) ∈ wsL_law := wr_25 _ (List.mem_of_getElem? (i := 18) rfl)
theorem wm_25_19 : (Cond.selects RX8 yX8_save yX8_save) ∈ wsL_law := wr_25 _ (List.mem_of_getElem? (i := 19) rfl)
theorem wm_25_20 : (Cond.code yX8_save cX8_save 3 (some .int)) ∈ wsL_law := wr_25 _ (List.mem_of_getElem? (i := 20) rfl)
theorem wm_25_21 : (Cond.fieldLink RX8 179 "OutsideAsksModel" "savedItems" "I") ∈ wsL_law := wr_25 _ (List.mem_of_getElem? (i := 21) rfl)
theorem wm_25_22 : (Cond.fieldLink RX8 182 "OutsideAsksModel" "savedOuts" "I") ∈ wsL_law := wr_25 _ (List.mem_of_getElem? (i := 22) rfl)
theorem wm_25_23 : (Cond.methodLink RL 93 yX7_restart) ∈ wsL_law := wr_25 _ (List.mem_of_getElem? (i := 23) rfl)
theorem wm_26_0 : (Cond.instanceMethod yX7_restart) ∈ wsL_law := wr_26 _ (List.mem_of_getElem? (i := 0) rfl)
theorem wm_26_1 : (Cond.selects RX7 yX7_restart yX7_restart) ∈ wsL_law := wr_26 _ (List.mem_of_getElem? (i := 1) rfl)
theorem wm_26_2 : (Cond.code yX7_restart cX7_restart 1 (some .int)) ∈ wsL_law := wr_26 _ (List.mem_of_getElem? (i := 2) rfl)
theorem wm_26_3 : (Cond.methodLink RX7 235 yX4_goBackTo) ∈ wsL_law := wr_26 _ (List.mem_of_getElem? (i := 3) rfl)
theorem wm_26_4 : (Cond.instanceMethod yX4_goBackTo) ∈ wsL_law := wr_26 _ (List.mem_of_getElem? (i := 4) rfl)
theorem wm_26_5 : (Cond.selects RX4 yX4_goBackTo yX4_goBackTo) ∈ wsL_law := wr_26 _ (List.mem_of_getElem? (i := 5) rfl)
theorem wm_26_6 : (Cond.code yX4_goBackTo cX4_goBackTo 3 none) ∈ wsL_law := wr_26 _ (List.mem_of_getElem? (i := 6) rfl)
theorem wm_26_7 : (Cond.methodLink RX4 46 yX4_becomeGone) ∈ wsL_law := wr_26 _ (List.mem_of_getElem? (i := 7) rfl)
theorem wm_26_8 : (Cond.instanceMethod yX4_becomeGone) ∈ wsL_law := wr_26 _ (List.mem_of_getElem? (i := 8) rfl)
theorem wm_26_9 : (Cond.selects RX4 yX4_becomeGone yX4_becomeGone) ∈ wsL_law := wr_26 _ (List.mem_of_getElem? (i := 9) rfl)
theorem wm_26_10 : (Cond.code yX4_becomeGone cX4_becomeGone 2 none) ∈ wsL_law := wr_26 _ (List.mem_of_getElem? (i := 10) rfl)
theorem wm_26_11 : (Cond.methodLink RX7 238 yX1_forgetAll) ∈ wsL_law := wr_26 _ (List.mem_of_getElem? (i := 11) rfl)
theorem wm_26_12 : (Cond.instanceMethod yX1_forgetAll) ∈ wsL_law := wr_26 _ (List.mem_of_getElem? (i := 12) rfl)
theorem wm_26_13 : (Cond.selects RX1 yX1_forgetAll yX1_forgetAll) ∈ wsL_law := wr_26 _ (List.mem_of_getElem? (i := 13) rfl)
theorem wm_26_14 : (Cond.code yX1_forgetAll cX1_forgetAll 1 none) ∈ wsL_law := wr_26 _ (List.mem_of_getElem? (i := 14) rfl)
theorem wm_26_15 : (Cond.methodLink RX7 241 yX7_askAgainAllWorking) ∈ wsL_law := wr_26 _ (List.mem_of_getElem? (i := 15) rfl)
theorem wm_26_16 : (Cond.instanceMethod yX7_askAgainAllWorking) ∈ wsL_law := wr_26 _ (List.mem_of_getElem? (i := 16) rfl)
theorem wm_26_17 : (Cond.selects RX7 yX7_askAgainAllWorking yX7_askAgainAllWorking) ∈ wsL_law := wr_26 _ (List.mem_of_getElem? (i := 17) rfl)
theorem wm_26_18 : (Cond.code yX7_askAgainAllWorking cX7_askAgainAllWorking 2 none) ∈ wsL_law := wr_26 _ (List.mem_of_getElem? (i := 18) rfl)
theorem wm_26_19 : (Cond.methodLink RL 96 yX8_restart) ∈ wsL_law := wr_26 _ (List.mem_of_getElem? (i := 19) rfl)
theorem wm_26_20 : (Cond.instanceMethod yX8_restart) ∈ wsL_law := wr_26 _ (List.mem_of_getElem? (i := 20) rfl)
theorem wm_26_21 : (Cond.selects RX8 yX8_restart yX8_restart) ∈ wsL_law := wr_26 _ (List.mem_of_getElem? (i := 21) rfl)
theorem wm_26_22 : (Cond.code yX8_restart cX8_restart 2 (some .int)) ∈ wsL_law := wr_26 _ (List.mem_of_getElem? (i := 22) rfl)
theorem wm_26_23 : (Cond.fieldLink RX8 185 "OutsideAsksModel" "restarts" "I") ∈ wsL_law := wr_26 _ (List.mem_of_getElem? (i := 23) rfl)
theorem wm_27_0 : (Cond.methodLink RL 97 yX7_told) ∈ wsL_law := wr_27 _ (List.mem_of_getElem? (i := 0) rfl)
theorem wm_27_1 : (Cond.instanceMethod yX7_told) ∈ wsL_law := wr_27 _ (List.mem_of_getElem? (i := 1) rfl)
theorem wm_27_2 : (Cond.selects RX7 yX7_told yX7_told) ∈ wsL_law := wr_27 _ (List.mem_of_getElem? (i := 2) rfl)
theorem wm_27_3 : (Cond.code yX7_told cX7_told 2 (some .int)) ∈ wsL_law := wr_27 _ (List.mem_of_getElem? (i := 3) rfl)
theorem wm_27_4 : (Cond.methodLink RL 100 yX8_told) ∈ wsL_law := wr_27 _ (List.mem_of_getElem? (i := 4) rfl)
theorem wm_27_5 : (Cond.instanceMethod yX8_told) ∈ wsL_law := wr_27 _ (List.mem_of_getElem? (i := 5) rfl)
theorem wm_27_6 : (Cond.selects RX8 yX8_told yX8_told) ∈ wsL_law := wr_27 _ (List.mem_of_getElem? (i := 6) rfl)
theorem wm_27_7 : (Cond.code yX8_told cX8_told 2 (some .int)) ∈ wsL_law := wr_27 _ (List.mem_of_getElem? (i := 7) rfl)
