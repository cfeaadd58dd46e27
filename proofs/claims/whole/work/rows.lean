section
-- ===== PART A: goes FIRST, ahead of the names: the tables' words, and 'selects' of the private methods out of them =====
/-- a private method of a class that the tables say can be made, by its rows of tables_1 -/
def lw_okq (q : MethodName × Nat) : Prop := (q.1.cls ≠ "java/lang/invoke/MethodHandle" ∧ q.1.cls ≠ "java/lang/invoke/VarHandle") ∧ Cond.instantiable q.1.cls q.2 ∈ tables_1 ∧ Cond.privateMethod q.1 ∈ tables_1 ∧ Cond.instanceMethod q.1 ∈ tables_1
theorem lw_p0 : lw_okq (⟨"OutsideAsks", "goOn", "()V"⟩, 18) := ⟨⟨by decide +kernel, by decide +kernel⟩, List.mem_of_getElem? (i := 13) (by decide +kernel), List.mem_of_getElem? (i := 235) (by decide +kernel), List.mem_of_getElem? (i := 236) (by decide +kernel)⟩
theorem lw_p1 : lw_okq (⟨"OutsideAsks", "startWaitingRows", "()V"⟩, 18) := ⟨⟨by decide +kernel, by decide +kernel⟩, List.mem_of_getElem? (i := 13) (by decide +kernel), List.mem_of_getElem? (i := 239) (by decide +kernel), List.mem_of_getElem? (i := 240) (by decide +kernel)⟩
theorem lw_p2 : lw_okq (⟨"OutsideAsks", "startRow", "(I)V"⟩, 18) := ⟨⟨by decide +kernel, by decide +kernel⟩, List.mem_of_getElem? (i := 13) (by decide +kernel), List.mem_of_getElem? (i := 251) (by decide +kernel), List.mem_of_getElem? (i := 252) (by decide +kernel)⟩
theorem lw_p3 : lw_okq (⟨"OutsideAsks$Items", "mayHave", "(I)Z"⟩, 4) := ⟨⟨by decide +kernel, by decide +kernel⟩, List.mem_of_getElem? (i := 30) (by decide +kernel), List.mem_of_getElem? (i := 259) (by decide +kernel), List.mem_of_getElem? (i := 260) (by decide +kernel)⟩
theorem lw_p4 : lw_okq (⟨"OutsideAsks$KeptAnswers", "find", "(J)I"⟩, 4) := ⟨⟨by decide +kernel, by decide +kernel⟩, List.mem_of_getElem? (i := 146) (by decide +kernel), List.mem_of_getElem? (i := 267) (by decide +kernel), List.mem_of_getElem? (i := 268) (by decide +kernel)⟩
theorem lw_p5 : lw_okq (⟨"OutsideAsks$Progress", "moveTo", "(II)V"⟩, 7) := ⟨⟨by decide +kernel, by decide +kernel⟩, List.mem_of_getElem? (i := 52) (by decide +kernel), List.mem_of_getElem? (i := 279) (by decide +kernel), List.mem_of_getElem? (i := 280) (by decide +kernel)⟩
theorem lw_p6 : lw_okq (⟨"OutsideAsks", "sendQueuedAsks", "()V"⟩, 18) := ⟨⟨by decide +kernel, by decide +kernel⟩, List.mem_of_getElem? (i := 13) (by decide +kernel), List.mem_of_getElem? (i := 291) (by decide +kernel), List.mem_of_getElem? (i := 292) (by decide +kernel)⟩
theorem lw_p7 : lw_okq (⟨"OutsideAsks", "letItemsOut", "()V"⟩, 18) := ⟨⟨by decide +kernel, by decide +kernel⟩, List.mem_of_getElem? (i := 13) (by decide +kernel), List.mem_of_getElem? (i := 314) (by decide +kernel), List.mem_of_getElem? (i := 315) (by decide +kernel)⟩
theorem lw_p8 : lw_okq (⟨"OutsideAsks", "passTick", "()V"⟩, 18) := ⟨⟨by decide +kernel, by decide +kernel⟩, List.mem_of_getElem? (i := 13) (by decide +kernel), List.mem_of_getElem? (i := 355) (by decide +kernel), List.mem_of_getElem? (i := 356) (by decide +kernel)⟩
theorem lw_p9 : lw_okq (⟨"OutsideAsks", "findOverdue", "()V"⟩, 18) := ⟨⟨by decide +kernel, by decide +kernel⟩, List.mem_of_getElem? (i := 13) (by decide +kernel), List.mem_of_getElem? (i := 359) (by decide +kernel), List.mem_of_getElem? (i := 360) (by decide +kernel)⟩
theorem lw_p10 : lw_okq (⟨"OutsideAsks", "tryAgain", "(IIJ)Z"⟩, 18) := ⟨⟨by decide +kernel, by decide +kernel⟩, List.mem_of_getElem? (i := 13) (by decide +kernel), List.mem_of_getElem? (i := 375) (by decide +kernel), List.mem_of_getElem? (i := 376) (by decide +kernel)⟩
theorem lw_p11 : lw_okq (⟨"OutsideAsks", "settle", "(IIJ)V"⟩, 18) := ⟨⟨by decide +kernel, by decide +kernel⟩, List.mem_of_getElem? (i := 13) (by decide +kernel), List.mem_of_getElem? (i := 383) (by decide +kernel), List.mem_of_getElem? (i := 384) (by decide +kernel)⟩
theorem lw_p12 : lw_okq (⟨"OutsideAsks", "takeAnswer", "(IIJ)Z"⟩, 18) := ⟨⟨by decide +kernel, by decide +kernel⟩, List.mem_of_getElem? (i := 13) (by decide +kernel), List.mem_of_getElem? (i := 441) (by decide +kernel), List.mem_of_getElem? (i := 442) (by decide +kernel)⟩
theorem lw_p13 : lw_okq (⟨"OutsideAsks", "takeCause", "(II)Z"⟩, 18) := ⟨⟨by decide +kernel, by decide +kernel⟩, List.mem_of_getElem? (i := 13) (by decide +kernel), List.mem_of_getElem? (i := 445) (by decide +kernel), List.mem_of_getElem? (i := 446) (by decide +kernel)⟩
theorem lw_p14 : lw_okq (⟨"OutsideAsks$KeptAnswers", "placeFor", "(J)I"⟩, 4) := ⟨⟨by decide +kernel, by decide +kernel⟩, List.mem_of_getElem? (i := 146) (by decide +kernel), List.mem_of_getElem? (i := 453) (by decide +kernel), List.mem_of_getElem? (i := 454) (by decide +kernel)⟩
theorem lw_p15 : lw_okq (⟨"OutsideAsks$KeptAnswers", "firstToGo", "()I"⟩, 4) := ⟨⟨by decide +kernel, by decide +kernel⟩, List.mem_of_getElem? (i := 146) (by decide +kernel), List.mem_of_getElem? (i := 457) (by decide +kernel), List.mem_of_getElem? (i := 458) (by decide +kernel)⟩
def lw_privs_1 : List (MethodName × Nat) := [(⟨"OutsideAsks", "goOn", "()V"⟩, 18), (⟨"OutsideAsks", "startWaitingRows", "()V"⟩, 18), (⟨"OutsideAsks", "startRow", "(I)V"⟩, 18), (⟨"OutsideAsks$Items", "mayHave", "(I)Z"⟩, 4), (⟨"OutsideAsks$KeptAnswers", "find", "(J)I"⟩, 4), (⟨"OutsideAsks$Progress", "moveTo", "(II)V"⟩, 7), (⟨"OutsideAsks", "sendQueuedAsks", "()V"⟩, 18), (⟨"OutsideAsks", "letItemsOut", "()V"⟩, 18), (⟨"OutsideAsks", "passTick", "()V"⟩, 18), (⟨"OutsideAsks", "findOverdue", "()V"⟩, 18), (⟨"OutsideAsks", "tryAgain", "(IIJ)Z"⟩, 18), (⟨"OutsideAsks", "settle", "(IIJ)V"⟩, 18), (⟨"OutsideAsks", "takeAnswer", "(IIJ)Z"⟩, 18), (⟨"OutsideAsks", "takeCause", "(II)Z"⟩, 18), (⟨"OutsideAsks$KeptAnswers", "placeFor", "(J)I"⟩, 4), (⟨"OutsideAsks$KeptAnswers", "firstToGo", "()I"⟩, 4)]
theorem lw_r1 : ∀ q ∈ lw_privs_1, lw_okq q := List.forall_mem_cons.mpr ⟨lw_p0, List.forall_mem_cons.mpr ⟨lw_p1, List.forall_mem_cons.mpr ⟨lw_p2, List.forall_mem_cons.mpr ⟨lw_p3, List.forall_mem_cons.mpr ⟨lw_p4, List.forall_mem_cons.mpr ⟨lw_p5, List.forall_mem_cons.mpr ⟨lw_p6, List.forall_mem_cons.mpr ⟨lw_p7, List.forall_mem_cons.mpr ⟨lw_p8, List.forall_mem_cons.mpr ⟨lw_p9, List.forall_mem_cons.mpr ⟨lw_p10, List.forall_mem_cons.mpr ⟨lw_p11, List.forall_mem_cons.mpr ⟨lw_p12, List.forall_mem_cons.mpr ⟨lw_p13, List.forall_mem_cons.mpr ⟨lw_p14, List.forall_mem_cons.mpr ⟨lw_p15, fun _ h => absurd h List.not_mem_nil⟩⟩⟩⟩⟩⟩⟩⟩⟩⟩⟩⟩⟩⟩⟩⟩
theorem lw_p16 : lw_okq (⟨"OutsideAsks", "lineOf", "(I)LOutsideAsks$Line;"⟩, 18) := ⟨⟨by decide +kernel, by decide +kernel⟩, List.mem_of_getElem? (i := 13) (by decide +kernel), List.mem_of_getElem? (i := 465) (by decide +kernel), List.mem_of_getElem? (i := 466) (by decide +kernel)⟩
theorem lw_p17 : lw_okq (⟨"OutsideAsks$Progress", "copyItems", "(LOutsideAsks$Progress;)V"⟩, 7) := ⟨⟨by decide +kernel, by decide +kernel⟩, List.mem_of_getElem? (i := 52) (by decide +kernel), List.mem_of_getElem? (i := 523) (by decide +kernel), List.mem_of_getElem? (i := 524) (by decide +kernel)⟩
theorem lw_p18 : lw_okq (⟨"OutsideAsks", "askAgainAllWorking", "()V"⟩, 18) := ⟨⟨by decide +kernel, by decide +kernel⟩, List.mem_of_getElem? (i := 13) (by decide +kernel), List.mem_of_getElem? (i := 540) (by decide +kernel), List.mem_of_getElem? (i := 541) (by decide +kernel)⟩
theorem lw_p19 : lw_okq (⟨"OutsideAsksModel", "goOn", "()V"⟩, 38) := ⟨⟨by decide +kernel, by decide +kernel⟩, List.mem_of_getElem? (i := 551) (by decide +kernel), List.mem_of_getElem? (i := 676) (by decide +kernel), List.mem_of_getElem? (i := 677) (by decide +kernel)⟩
theorem lw_p20 : lw_okq (⟨"OutsideAsksModel", "countOf", "(I)I"⟩, 38) := ⟨⟨by decide +kernel, by decide +kernel⟩, List.mem_of_getElem? (i := 551) (by decide +kernel), List.mem_of_getElem? (i := 680) (by decide +kernel), List.mem_of_getElem? (i := 681) (by decide +kernel)⟩
theorem lw_p21 : lw_okq (⟨"OutsideAsksModel", "first", "(I)I"⟩, 38) := ⟨⟨by decide +kernel, by decide +kernel⟩, List.mem_of_getElem? (i := 551) (by decide +kernel), List.mem_of_getElem? (i := 684) (by decide +kernel), List.mem_of_getElem? (i := 685) (by decide +kernel)⟩
theorem lw_p22 : lw_okq (⟨"OutsideAsksModel", "keptFor", "(J)I"⟩, 38) := ⟨⟨by decide +kernel, by decide +kernel⟩, List.mem_of_getElem? (i := 551) (by decide +kernel), List.mem_of_getElem? (i := 688) (by decide +kernel), List.mem_of_getElem? (i := 689) (by decide +kernel)⟩
theorem lw_p23 : lw_okq (⟨"OutsideAsksModel", "settle", "(IIJ)V"⟩, 38) := ⟨⟨by decide +kernel, by decide +kernel⟩, List.mem_of_getElem? (i := 551) (by decide +kernel), List.mem_of_getElem? (i := 692) (by decide +kernel), List.mem_of_getElem? (i := 693) (by decide +kernel)⟩
theorem lw_p24 : lw_okq (⟨"OutsideAsksModel", "leave", "(I)V"⟩, 38) := ⟨⟨by decide +kernel, by decide +kernel⟩, List.mem_of_getElem? (i := 551) (by decide +kernel), List.mem_of_getElem? (i := 696) (by decide +kernel), List.mem_of_getElem? (i := 697) (by decide +kernel)⟩
theorem lw_p25 : lw_okq (⟨"OutsideAsksModel", "placeInQueue", "(I)I"⟩, 38) := ⟨⟨by decide +kernel, by decide +kernel⟩, List.mem_of_getElem? (i := 551) (by decide +kernel), List.mem_of_getElem? (i := 700) (by decide +kernel), List.mem_of_getElem? (i := 701) (by decide +kernel)⟩
theorem lw_p26 : lw_okq (⟨"OutsideAsksModel", "send", "(IIIJ)V"⟩, 38) := ⟨⟨by decide +kernel, by decide +kernel⟩, List.mem_of_getElem? (i := 551) (by decide +kernel), List.mem_of_getElem? (i := 704) (by decide +kernel), List.mem_of_getElem? (i := 705) (by decide +kernel)⟩
theorem lw_p27 : lw_okq (⟨"OutsideAsksModel", "nextOut", "()I"⟩, 38) := ⟨⟨by decide +kernel, by decide +kernel⟩, List.mem_of_getElem? (i := 551) (by decide +kernel), List.mem_of_getElem? (i := 708) (by decide +kernel), List.mem_of_getElem? (i := 709) (by decide +kernel)⟩
theorem lw_p28 : lw_okq (⟨"OutsideAsksModel", "come", "(ZJJ)I"⟩, 38) := ⟨⟨by decide +kernel, by decide +kernel⟩, List.mem_of_getElem? (i := 551) (by decide +kernel), List.mem_of_getElem? (i := 716) (by decide +kernel), List.mem_of_getElem? (i := 717) (by decide +kernel)⟩
theorem lw_p29 : lw_okq (⟨"OutsideAsksModel", "again", "(I)Z"⟩, 38) := ⟨⟨by decide +kernel, by decide +kernel⟩, List.mem_of_getElem? (i := 551) (by decide +kernel), List.mem_of_getElem? (i := 729) (by decide +kernel), List.mem_of_getElem? (i := 730) (by decide +kernel)⟩
theorem lw_p30 : lw_okq (⟨"OutsideAsksModel", "isUnder", "(II)Z"⟩, 38) := ⟨⟨by decide +kernel, by decide +kernel⟩, List.mem_of_getElem? (i := 551) (by decide +kernel), List.mem_of_getElem? (i := 737) (by decide +kernel), List.mem_of_getElem? (i := 738) (by decide +kernel)⟩
theorem lw_p31 : lw_okq (⟨"OutsideAsksModel", "take", "(II)V"⟩, 38) := ⟨⟨by decide +kernel, by decide +kernel⟩, List.mem_of_getElem? (i := 551) (by decide +kernel), List.mem_of_getElem? (i := 741) (by decide +kernel), List.mem_of_getElem? (i := 742) (by decide +kernel)⟩
def lw_privs_2 : List (MethodName × Nat) := [(⟨"OutsideAsks", "lineOf", "(I)LOutsideAsks$Line;"⟩, 18), (⟨"OutsideAsks$Progress", "copyItems", "(LOutsideAsks$Progress;)V"⟩, 7), (⟨"OutsideAsks", "askAgainAllWorking", "()V"⟩, 18), (⟨"OutsideAsksModel", "goOn", "()V"⟩, 38), (⟨"OutsideAsksModel", "countOf", "(I)I"⟩, 38), (⟨"OutsideAsksModel", "first", "(I)I"⟩, 38), (⟨"OutsideAsksModel", "keptFor", "(J)I"⟩, 38), (⟨"OutsideAsksModel", "settle", "(IIJ)V"⟩, 38), (⟨"OutsideAsksModel", "leave", "(I)V"⟩, 38), (⟨"OutsideAsksModel", "placeInQueue", "(I)I"⟩, 38), (⟨"OutsideAsksModel", "send", "(IIIJ)V"⟩, 38), (⟨"OutsideAsksModel", "nextOut", "()I"⟩, 38), (⟨"OutsideAsksModel", "come", "(ZJJ)I"⟩, 38), (⟨"OutsideAsksModel", "again", "(I)Z"⟩, 38), (⟨"OutsideAsksModel", "isUnder", "(II)Z"⟩, 38), (⟨"OutsideAsksModel", "take", "(II)V"⟩, 38)]
theorem lw_r2 : ∀ q ∈ lw_privs_2, lw_okq q := List.forall_mem_cons.mpr ⟨lw_p16, List.forall_mem_cons.mpr ⟨lw_p17, List.forall_mem_cons.mpr ⟨lw_p18, List.forall_mem_cons.mpr ⟨lw_p19, List.forall_mem_cons.mpr ⟨lw_p20, List.forall_mem_cons.mpr ⟨lw_p21, List.forall_mem_cons.mpr ⟨lw_p22, List.forall_mem_cons.mpr ⟨lw_p23, List.forall_mem_cons.mpr ⟨lw_p24, List.forall_mem_cons.mpr ⟨lw_p25, List.forall_mem_cons.mpr ⟨lw_p26, List.forall_mem_cons.mpr ⟨lw_p27, List.forall_mem_cons.mpr ⟨lw_p28, List.forall_mem_cons.mpr ⟨lw_p29, List.forall_mem_cons.mpr ⟨lw_p30, List.forall_mem_cons.mpr ⟨lw_p31, fun _ h => absurd h List.not_mem_nil⟩⟩⟩⟩⟩⟩⟩⟩⟩⟩⟩⟩⟩⟩⟩⟩
theorem lw_p32 : lw_okq (⟨"OutsideAsksModel", "keyAt", "(J)I"⟩, 38) := ⟨⟨by decide +kernel, by decide +kernel⟩, List.mem_of_getElem? (i := 551) (by decide +kernel), List.mem_of_getElem? (i := 745) (by decide +kernel), List.mem_of_getElem? (i := 746) (by decide +kernel)⟩
theorem lw_p33 : lw_okq (⟨"OutsideAsksModel", "keep", "(JJ)V"⟩, 38) := ⟨⟨by decide +kernel, by decide +kernel⟩, List.mem_of_getElem? (i := 551) (by decide +kernel), List.mem_of_getElem? (i := 757) (by decide +kernel), List.mem_of_getElem? (i := 758) (by decide +kernel)⟩
theorem lw_p34 : lw_okq (⟨"OutsideAsksModel", "isItem", "(I)Z"⟩, 38) := ⟨⟨by decide +kernel, by decide +kernel⟩, List.mem_of_getElem? (i := 551) (by decide +kernel), List.mem_of_getElem? (i := 781) (by decide +kernel), List.mem_of_getElem? (i := 782) (by decide +kernel)⟩
def lw_privs_3 : List (MethodName × Nat) := [(⟨"OutsideAsksModel", "keyAt", "(J)I"⟩, 38), (⟨"OutsideAsksModel", "keep", "(JJ)V"⟩, 38), (⟨"OutsideAsksModel", "isItem", "(I)Z"⟩, 38)]
theorem lw_r3 : ∀ q ∈ lw_privs_3, lw_okq q := List.forall_mem_cons.mpr ⟨lw_p32, List.forall_mem_cons.mpr ⟨lw_p33, List.forall_mem_cons.mpr ⟨lw_p34, fun _ h => absurd h List.not_mem_nil⟩⟩⟩
def lw_privs : List (MethodName × Nat) := lw_privs_1 ++ (lw_privs_2 ++ (lw_privs_3))
def lw_tbl : List Cond := k2_sels lw_privs ++ tables_1
theorem lw_privs_ok : ∀ q ∈ lw_privs, lw_okq q := by
  show ∀ q ∈ lw_privs_1 ++ (lw_privs_2 ++ (lw_privs_3)), lw_okq q
  exact List.forall_mem_append.mpr ⟨lw_r1, List.forall_mem_append.mpr ⟨lw_r2, lw_r3⟩⟩
end
section
/-! ===== BEGIN words of one list among another's, by their places ===== -/
theorem goodIn_r {big : List Cond} (ws : List Cond) (ps : List Nat) (hp : ws = ps.filterMap (fun i => big[i]?)) (h : ws.all goodWord = true) : GoodIn big ws := by
  intro w hw
  have h1 := List.all_eq_true.mp h w hw
  rw [hp] at hw
  obtain ⟨i, -, hi⟩ := List.mem_filterMap.mp hw
  have hm : w ∈ big := by first | exact List.mem_of_getElem? hi | exact List.getElem?_mem hi
  exact ⟨hm, good_of_word h1⟩
theorem goodIn_app {big a b : List Cond} (ha : GoodIn big a) (hb : GoodIn big b) : GoodIn big (a ++ b) := fun w h => (List.mem_append.mp h).elim (ha w) (hb w)
theorem goodIn_ca {big a b : List Cond} {c : Cond} (ha : GoodIn big (c :: a)) (hb : GoodIn big b) : GoodIn big (c :: (a ++ b)) := fun w h => (List.mem_cons.mp h).elim (fun e => ha w (List.mem_cons.mpr (Or.inl e))) (fun h => (List.mem_append.mp h).elim (fun h => ha w (List.mem_cons.mpr (Or.inr h))) (hb w))
theorem goodIn_sub {big ws : List Cond} (hm : ∀ w ∈ ws, w ∈ big) (h : ws.all goodWord = true) : GoodIn big ws := fun w hw => ⟨hm w hw, good_of_word (List.all_eq_true.mp h w hw)⟩
/-! ===== END ===== -/

/-! ===== BEGIN printed: names, fields, word lists, decode rows ===== -/
def RX0 : String := "OutsideAsks$Items"
def TX0 : u_T := fun k => match k with
  | 0 => ("OutsideAsks$Items", "keys", "[J", true)
  | 1 => ("OutsideAsks$Items", "values", "[J", true)
  | 2 => ("OutsideAsks$Items", "marks", "[Z", true)
  | _ => ("OutsideAsks$Items", "dues", "[I", true)
def tyX0 : Nat → FieldType := fun k => match k with
  | 0 => .array .long
  | 1 => .array .long
  | 2 => .array .boolean
  | _ => .array .int
abbrev wsX00 : List Cond := u_ws RX0 TX0 4
theorem nmX0 : ∀ a, a < 4 → ∀ b, b < 4 → a ≠ b → (TX0 a).2.1 ≠ (TX0 b).2.1 := by decide +kernel
theorem tyX0_ok : ∀ k, k < 4 → parseFieldDescriptor (TX0 k).2.2.1 = some (tyX0 k) := by decide +kernel
abbrev cX0_init : ByteArray := prog_2_method_1_code
def yX0_init : MethodName := ⟨RX0, "<init>", "()V"⟩
abbrev cX0_noteRow : ByteArray := prog_2_method_2_code
def yX0_noteRow : MethodName := ⟨RX0, "noteRow", "(IJJ)V"⟩
abbrev cX0_noteMark : ByteArray := prog_2_method_3_code
def yX0_noteMark : MethodName := ⟨RX0, "noteMark", "(I)V"⟩
abbrev cX0_keyOf : ByteArray := prog_2_method_4_code
def yX0_keyOf : MethodName := ⟨RX0, "keyOf", "(I)J"⟩
abbrev cX0_valueOf : ByteArray := prog_2_method_5_code
def yX0_valueOf : MethodName := ⟨RX0, "valueOf", "(I)J"⟩
abbrev cX0_isMark : ByteArray := prog_2_method_6_code
def yX0_isMark : MethodName := ⟨RX0, "isMark", "(I)Z"⟩
abbrev cX0_dueOf : ByteArray := prog_2_method_7_code
def yX0_dueOf : MethodName := ⟨RX0, "dueOf", "(I)I"⟩
abbrev cX0_setDue : ByteArray := prog_2_method_8_code
def yX0_setDue : MethodName := ⟨RX0, "setDue", "(II)V"⟩
abbrev cX0_mayHave : ByteArray := prog_2_method_9_code
def yX0_mayHave : MethodName := ⟨RX0, "mayHave", "(I)Z"⟩
def RX1 : String := "OutsideAsks$KeptAnswers"
def TX1 : u_T := fun k => match k with
  | 0 => ("OutsideAsks$KeptAnswers", "keys", "[J", true)
  | 1 => ("OutsideAsks$KeptAnswers", "values", "[J", true)
  | 2 => ("OutsideAsks$KeptAnswers", "ends", "[I", true)
  | _ => ("OutsideAsks$KeptAnswers", "size", "I", false)
def tyX1 : Nat → FieldType := fun k => match k with
  | 0 => .array .long
  | 1 => .array .long
  | 2 => .array .int
  | _ => .int
abbrev wsX10 : List Cond := u_ws RX1 TX1 4
theorem nmX1 : ∀ a, a < 4 → ∀ b, b < 4 → a ≠ b → (TX1 a).2.1 ≠ (TX1 b).2.1 := by decide +kernel
theorem tyX1_ok : ∀ k, k < 4 → parseFieldDescriptor (TX1 k).2.2.1 = some (tyX1 k) := by decide +kernel
abbrev cX1_init : ByteArray := prog_3_method_1_code
def yX1_init : MethodName := ⟨RX1, "<init>", "()V"⟩
abbrev cX1_endOf : ByteArray := prog_3_method_2_code
def yX1_endOf : MethodName := ⟨RX1, "endOf", "(J)I"⟩
abbrev cX1_valueOf : ByteArray := prog_3_method_3_code
def yX1_valueOf : MethodName := ⟨RX1, "valueOf", "(J)J"⟩
abbrev cX1_keep : ByteArray := prog_3_method_4_code
def yX1_keep : MethodName := ⟨RX1, "keep", "(JJI)V"⟩
abbrev cX1_forgetAll : ByteArray := prog_3_method_5_code
def yX1_forgetAll : MethodName := ⟨RX1, "forgetAll", "()V"⟩
abbrev cX1_placeFor : ByteArray := prog_3_method_6_code
def yX1_placeFor : MethodName := ⟨RX1, "placeFor", "(J)I"⟩
abbrev cX1_firstToGo : ByteArray := prog_3_method_7_code
def yX1_firstToGo : MethodName := ⟨RX1, "firstToGo", "()I"⟩
abbrev cX1_find : ByteArray := prog_3_method_8_code
def yX1_find : MethodName := ⟨RX1, "find", "(J)I"⟩
def RX2 : String := "OutsideAsks$Line"
def TX2 : u_T := fun k => match k with
  | 0 => ("OutsideAsks$Line", "rows", "[I", true)
  | 1 => ("OutsideAsks$Line", "causes", "[I", true)
  | 2 => ("OutsideAsks$Line", "values", "[J", true)
  | _ => ("OutsideAsks$Line", "size", "I", false)
def tyX2 : Nat → FieldType := fun k => match k with
  | 0 => .array .int
  | 1 => .array .int
  | 2 => .array .long
  | _ => .int
abbrev wsX20 : List Cond := u_ws RX2 TX2 4
theorem nmX2 : ∀ a, a < 4 → ∀ b, b < 4 → a ≠ b → (TX2 a).2.1 ≠ (TX2 b).2.1 := by decide +kernel
theorem tyX2_ok : ∀ k, k < 4 → parseFieldDescriptor (TX2 k).2.2.1 = some (tyX2 k) := by decide +kernel
abbrev cX2_init : ByteArray := prog_4_method_1_code
def yX2_init : MethodName := ⟨RX2, "<init>", "()V"⟩
abbrev cX2_has : ByteArray := prog_4_method_2_code
def yX2_has : MethodName := ⟨RX2, "has", "(I)Z"⟩
abbrev cX2_rowAt : ByteArray := prog_4_method_3_code
def yX2_rowAt : MethodName := ⟨RX2, "rowAt", "(I)I"⟩
abbrev cX2_causeAt : ByteArray := prog_4_method_4_code
def yX2_causeAt : MethodName := ⟨RX2, "causeAt", "(I)I"⟩
abbrev cX2_valueAt : ByteArray := prog_4_method_5_code
def yX2_valueAt : MethodName := ⟨RX2, "valueAt", "(I)J"⟩
abbrev cX2_setOut : ByteArray := prog_4_method_6_code
def yX2_setOut : MethodName := ⟨RX2, "setOut", "(IIJ)V"⟩
abbrev cX2_removeAt : ByteArray := prog_4_method_7_code
def yX2_removeAt : MethodName := ⟨RX2, "removeAt", "(I)V"⟩
def RX3 : String := "OutsideAsks$OutLog"
def TX3 : u_T := fun k => match k with
  | 0 => ("OutsideAsks$OutLog", "items", "[I", true)
  | _ => ("OutsideAsks$OutLog", "ticks", "[I", true)
def tyX3 : Nat → FieldType := fun k => match k with
  | 0 => .array .int
  | _ => .array .int
abbrev wsX30 : List Cond := u_ws RX3 TX3 2
theorem nmX3 : ∀ a, a < 2 → ∀ b, b < 2 → a ≠ b → (TX3 a).2.1 ≠ (TX3 b).2.1 := by decide +kernel
theorem tyX3_ok : ∀ k, k < 2 → parseFieldDescriptor (TX3 k).2.2.1 = some (tyX3 k) := by decide +kernel
abbrev cX3_init : ByteArray := prog_5_method_1_code
def yX3_init : MethodName := ⟨RX3, "<init>", "()V"⟩
abbrev cX3_write : ByteArray := prog_5_method_2_code
def yX3_write : MethodName := ⟨RX3, "write", "(III)V"⟩
abbrev cX3_itemAt : ByteArray := prog_5_method_3_code
def yX3_itemAt : MethodName := ⟨RX3, "itemAt", "(I)I"⟩
abbrev cX3_tickAt : ByteArray := prog_5_method_4_code
def yX3_tickAt : MethodName := ⟨RX3, "tickAt", "(I)I"⟩
def RX4 : String := "OutsideAsks$Progress"
def TX4 : u_T := fun k => match k with
  | 0 => ("OutsideAsks$Progress", "states", "[I", true)
  | 1 => ("OutsideAsks$Progress", "results", "[I", true)
  | 2 => ("OutsideAsks$Progress", "tries", "[I", true)
  | 3 => ("OutsideAsks$Progress", "settledValues", "[J", true)
  | 4 => ("OutsideAsks$Progress", "tally", "[I", true)
  | 5 => ("OutsideAsks$Progress", "items", "I", false)
  | _ => ("OutsideAsks$Progress", "outs", "I", false)
def tyX4 : Nat → FieldType := fun k => match k with
  | 0 => .array .int
  | 1 => .array .int
  | 2 => .array .int
  | 3 => .array .long
  | 4 => .array .int
  | 5 => .int
  | _ => .int
abbrev wsX40 : List Cond := u_ws RX4 TX4 7
theorem nmX4 : ∀ a, a < 7 → ∀ b, b < 7 → a ≠ b → (TX4 a).2.1 ≠ (TX4 b).2.1 := by decide +kernel
theorem tyX4_ok : ∀ k, k < 7 → parseFieldDescriptor (TX4 k).2.2.1 = some (tyX4 k) := by decide +kernel
abbrev cX4_init : ByteArray := prog_6_method_1_code
def yX4_init : MethodName := ⟨RX4, "<init>", "()V"⟩
abbrev cX4_hasItem : ByteArray := prog_6_method_2_code
def yX4_hasItem : MethodName := ⟨RX4, "hasItem", "(I)Z"⟩
abbrev cX4_stateOf : ByteArray := prog_6_method_3_code
def yX4_stateOf : MethodName := ⟨RX4, "stateOf", "(I)I"⟩
abbrev cX4_resultOf : ByteArray := prog_6_method_4_code
def yX4_resultOf : MethodName := ⟨RX4, "resultOf", "(I)I"⟩
abbrev cX4_triesOf : ByteArray := prog_6_method_5_code
def yX4_triesOf : MethodName := ⟨RX4, "triesOf", "(I)I"⟩
abbrev cX4_valueOf : ByteArray := prog_6_method_6_code
def yX4_valueOf : MethodName := ⟨RX4, "valueOf", "(I)J"⟩
abbrev cX4_addItem : ByteArray := prog_6_method_7_code
def yX4_addItem : MethodName := ⟨RX4, "addItem", "(II)V"⟩
abbrev cX4_startTrying : ByteArray := prog_6_method_8_code
def yX4_startTrying : MethodName := ⟨RX4, "startTrying", "(I)V"⟩
abbrev cX4_addTry : ByteArray := prog_6_method_9_code
def yX4_addTry : MethodName := ⟨RX4, "addTry", "(I)V"⟩
abbrev cX4_settleRow : ByteArray := prog_6_method_10_code
def yX4_settleRow : MethodName := ⟨RX4, "settleRow", "(IIJ)V"⟩
abbrev cX4_goOut : ByteArray := prog_6_method_11_code
def yX4_goOut : MethodName := ⟨RX4, "goOut", "(I)V"⟩
abbrev cX4_moveTo : ByteArray := prog_6_method_12_code
def yX4_moveTo : MethodName := ⟨RX4, "moveTo", "(II)V"⟩
abbrev cX4_copyFrom : ByteArray := prog_6_method_13_code
def yX4_copyFrom : MethodName := ⟨RX4, "copyFrom", "(LOutsideAsks$Progress;)V"⟩
abbrev cX4_goBackTo : ByteArray := prog_6_method_14_code
def yX4_goBackTo : MethodName := ⟨RX4, "goBackTo", "(LOutsideAsks$Progress;)V"⟩
abbrev cX4_copyItems : ByteArray := prog_6_method_15_code
def yX4_copyItems : MethodName := ⟨RX4, "copyItems", "(LOutsideAsks$Progress;)V"⟩
def RX5 : String := "OutsideAsks$RowList"
def TX5 : u_T := fun k => match k with
  | 0 => ("OutsideAsks$RowList", "rows", "[I", true)
  | _ => ("OutsideAsks$RowList", "size", "I", false)
def tyX5 : Nat → FieldType := fun k => match k with
  | 0 => .array .int
  | _ => .int
abbrev wsX50 : List Cond := u_ws RX5 TX5 2
theorem nmX5 : ∀ a, a < 2 → ∀ b, b < 2 → a ≠ b → (TX5 a).2.1 ≠ (TX5 b).2.1 := by decide +kernel
theorem tyX5_ok : ∀ k, k < 2 → parseFieldDescriptor (TX5 k).2.2.1 = some (tyX5 k) := by decide +kernel
abbrev cX5_init : ByteArray := prog_7_method_1_code
def yX5_init : MethodName := ⟨RX5, "<init>", "()V"⟩
abbrev cX5_at : ByteArray := prog_7_method_2_code
def yX5_at : MethodName := ⟨RX5, "at", "(I)I"⟩
abbrev cX5_find : ByteArray := prog_7_method_3_code
def yX5_find : MethodName := ⟨RX5, "find", "(I)I"⟩
abbrev cX5_append : ByteArray := prog_7_method_4_code
def yX5_append : MethodName := ⟨RX5, "append", "(I)V"⟩
abbrev cX5_removeAt : ByteArray := prog_7_method_5_code
def yX5_removeAt : MethodName := ⟨RX5, "removeAt", "(I)V"⟩
abbrev cX5_clear : ByteArray := prog_7_method_6_code
def yX5_clear : MethodName := ⟨RX5, "clear", "()V"⟩
def RX6 : String := "OutsideAsks$Service"
def TX6 : u_T := fun k => match k with
  | 0 => ("OutsideAsks$Service", "keys", "[J", true)
  | 1 => ("OutsideAsks$Service", "acts", "[I", true)
  | _ => ("OutsideAsks$Service", "latestAnswers", "[J", true)
def tyX6 : Nat → FieldType := fun k => match k with
  | 0 => .array .long
  | 1 => .array .int
  | _ => .array .long
abbrev wsX60 : List Cond := u_ws RX6 TX6 3
theorem nmX6 : ∀ a, a < 3 → ∀ b, b < 3 → a ≠ b → (TX6 a).2.1 ≠ (TX6 b).2.1 := by decide +kernel
theorem tyX6_ok : ∀ k, k < 3 → parseFieldDescriptor (TX6 k).2.2.1 = some (tyX6 k) := by decide +kernel
abbrev cX6_init : ByteArray := prog_8_method_1_code
def yX6_init : MethodName := ⟨RX6, "<init>", "()V"⟩
abbrev cX6_countOf : ByteArray := prog_8_method_2_code
def yX6_countOf : MethodName := ⟨RX6, "countOf", "(J)I"⟩
abbrev cX6_answerTo : ByteArray := prog_8_method_3_code
def yX6_answerTo : MethodName := ⟨RX6, "answerTo", "(I)J"⟩
abbrev cX6_takeAsk : ByteArray := prog_8_method_4_code
def yX6_takeAsk : MethodName := ⟨RX6, "takeAsk", "(IJJZ)Z"⟩
def RX7 : String := "OutsideAsks"
def TX7 : u_T := fun k => match k with
  | 0 => ("OutsideAsks", "most", "I", true)
  | 1 => ("OutsideAsks", "ordered", "Z", true)
  | 2 => ("OutsideAsks", "settings", "[I", true)
  | 3 => ("OutsideAsks", "items", "LOutsideAsks$Items;", true)
  | 4 => ("OutsideAsks", "live", "LOutsideAsks$Progress;", true)
  | 5 => ("OutsideAsks", "saved", "LOutsideAsks$Progress;", true)
  | 6 => ("OutsideAsks", "outLog", "LOutsideAsks$OutLog;", true)
  | 7 => ("OutsideAsks", "working", "LOutsideAsks$RowList;", true)
  | 8 => ("OutsideAsks", "queue", "LOutsideAsks$RowList;", true)
  | 9 => ("OutsideAsks", "overdue", "LOutsideAsks$RowList;", true)
  | 10 => ("OutsideAsks", "asks", "LOutsideAsks$Line;", true)
  | 11 => ("OutsideAsks", "answers", "LOutsideAsks$Line;", true)
  | 12 => ("OutsideAsks", "service", "LOutsideAsks$Service;", true)
  | 13 => ("OutsideAsks", "keptAnswers", "LOutsideAsks$KeptAnswers;", true)
  | 14 => ("OutsideAsks", "now", "I", false)
  | 15 => ("OutsideAsks", "sentNow", "I", false)
  | 16 => ("OutsideAsks", "sentInAll", "I", false)
  | _ => ("OutsideAsks", "restarts", "I", false)
def tyX7 : Nat → FieldType := fun k => match k with
  | 0 => .int
  | 1 => .boolean
  | 2 => .array .int
  | 3 => .object "OutsideAsks$Items"
  | 4 => .object "OutsideAsks$Progress"
  | 5 => .object "OutsideAsks$Progress"
  | 6 => .object "OutsideAsks$OutLog"
  | 7 => .object "OutsideAsks$RowList"
  | 8 => .object "OutsideAsks$RowList"
  | 9 => .object "OutsideAsks$RowList"
  | 10 => .object "OutsideAsks$Line"
  | 11 => .object "OutsideAsks$Line"
  | 12 => .object "OutsideAsks$Service"
  | 13 => .object "OutsideAsks$KeptAnswers"
  | 14 => .int
  | 15 => .int
  | 16 => .int
  | _ => .int
abbrev wsX70 : List Cond := u_ws RX7 TX7 18
theorem nmX7 : ∀ a, a < 18 → ∀ b, b < 18 → a ≠ b → (TX7 a).2.1 ≠ (TX7 b).2.1 := by decide +kernel
theorem tyX7_ok : ∀ k, k < 18 → parseFieldDescriptor (TX7 k).2.2.1 = some (tyX7 k) := by decide +kernel
abbrev cX7_init : ByteArray := prog_1_method_1_code
def yX7_init : MethodName := ⟨RX7, "<init>", "(II)V"⟩
abbrev cX7_set : ByteArray := prog_1_method_2_code
def yX7_set : MethodName := ⟨RX7, "set", "(II)I"⟩
abbrev cX7_row : ByteArray := prog_1_method_3_code
def yX7_row : MethodName := ⟨RX7, "row", "(JJ)I"⟩
abbrev cX7_mark : ByteArray := prog_1_method_4_code
def yX7_mark : MethodName := ⟨RX7, "mark", "()I"⟩
abbrev cX7_tick : ByteArray := prog_1_method_5_code
def yX7_tick : MethodName := ⟨RX7, "tick", "(I)I"⟩
abbrev cX7_serve : ByteArray := prog_1_method_6_code
def yX7_serve : MethodName := ⟨RX7, "serve", "(I)I"⟩
abbrev cX7_refuse : ByteArray := prog_1_method_7_code
def yX7_refuse : MethodName := ⟨RX7, "refuse", "(II)I"⟩
abbrev cX7_arrive : ByteArray := prog_1_method_8_code
def yX7_arrive : MethodName := ⟨RX7, "arrive", "(I)I"⟩
abbrev cX7_lose : ByteArray := prog_1_method_9_code
def yX7_lose : MethodName := ⟨RX7, "lose", "(II)I"⟩
abbrev cX7_twice : ByteArray := prog_1_method_10_code
def yX7_twice : MethodName := ⟨RX7, "twice", "(II)I"⟩
abbrev cX7_under : ByteArray := prog_1_method_11_code
def yX7_under : MethodName := ⟨RX7, "under", "(II)I"⟩
abbrev cX7_out : ByteArray := prog_1_method_12_code
def yX7_out : MethodName := ⟨RX7, "out", "(II)I"⟩
abbrev cX7_value : ByteArray := prog_1_method_13_code
def yX7_value : MethodName := ⟨RX7, "value", "(I)J"⟩
abbrev cX7_item : ByteArray := prog_1_method_14_code
def yX7_item : MethodName := ⟨RX7, "item", "(II)I"⟩
abbrev cX7_count : ByteArray := prog_1_method_15_code
def yX7_count : MethodName := ⟨RX7, "count", "(J)I"⟩
abbrev cX7_kept : ByteArray := prog_1_method_16_code
def yX7_kept : MethodName := ⟨RX7, "kept", "(J)I"⟩
abbrev cX7_save : ByteArray := prog_1_method_17_code
def yX7_save : MethodName := ⟨RX7, "save", "()I"⟩
abbrev cX7_restart : ByteArray := prog_1_method_18_code
def yX7_restart : MethodName := ⟨RX7, "restart", "()I"⟩
abbrev cX7_told : ByteArray := prog_1_method_19_code
def yX7_told : MethodName := ⟨RX7, "told", "(I)I"⟩
abbrev cX7_lineOf : ByteArray := prog_1_method_20_code
def yX7_lineOf : MethodName := ⟨RX7, "lineOf", "(I)LOutsideAsks$Line;"⟩
abbrev cX7_goOn : ByteArray := prog_1_method_21_code
def yX7_goOn : MethodName := ⟨RX7, "goOn", "()V"⟩
abbrev cX7_startWaitingRows : ByteArray := prog_1_method_22_code
def yX7_startWaitingRows : MethodName := ⟨RX7, "startWaitingRows", "()V"⟩
abbrev cX7_startRow : ByteArray := prog_1_method_23_code
def yX7_startRow : MethodName := ⟨RX7, "startRow", "(I)V"⟩
abbrev cX7_sendQueuedAsks : ByteArray := prog_1_method_24_code
def yX7_sendQueuedAsks : MethodName := ⟨RX7, "sendQueuedAsks", "()V"⟩
abbrev cX7_letItemsOut : ByteArray := prog_1_method_25_code
def yX7_letItemsOut : MethodName := ⟨RX7, "letItemsOut", "()V"⟩
abbrev cX7_passTick : ByteArray := prog_1_method_26_code
def yX7_passTick : MethodName := ⟨RX7, "passTick", "()V"⟩
abbrev cX7_findOverdue : ByteArray := prog_1_method_27_code
def yX7_findOverdue : MethodName := ⟨RX7, "findOverdue", "()V"⟩
abbrev cX7_tryAgain : ByteArray := prog_1_method_28_code
def yX7_tryAgain : MethodName := ⟨RX7, "tryAgain", "(IIJ)Z"⟩
abbrev cX7_takeAnswer : ByteArray := prog_1_method_29_code
def yX7_takeAnswer : MethodName := ⟨RX7, "takeAnswer", "(IIJ)Z"⟩
abbrev cX7_takeCause : ByteArray := prog_1_method_30_code
def yX7_takeCause : MethodName := ⟨RX7, "takeCause", "(II)Z"⟩
abbrev cX7_settle : ByteArray := prog_1_method_31_code
def yX7_settle : MethodName := ⟨RX7, "settle", "(IIJ)V"⟩
abbrev cX7_askAgainAllWorking : ByteArray := prog_1_method_32_code
def yX7_askAgainAllWorking : MethodName := ⟨RX7, "askAgainAllWorking", "()V"⟩
def RX8 : String := "OutsideAsksModel"
def TX8 : u_T := fun k => match k with
  | 0 => ("OutsideAsksModel", "most", "I", true)
  | 1 => ("OutsideAsksModel", "isOrdered", "Z", true)
  | 2 => ("OutsideAsksModel", "now", "I", false)
  | 3 => ("OutsideAsksModel", "settings", "[I", true)
  | 4 => ("OutsideAsksModel", "items", "I", false)
  | 5 => ("OutsideAsksModel", "isMark", "[Z", true)
  | 6 => ("OutsideAsksModel", "key", "[J", true)
  | 7 => ("OutsideAsksModel", "worth", "[J", true)
  | 8 => ("OutsideAsksModel", "state", "[I", true)
  | 9 => ("OutsideAsksModel", "result", "[I", true)
  | 10 => ("OutsideAsksModel", "told", "[J", true)
  | 11 => ("OutsideAsksModel", "tries", "[I", true)
  | 12 => ("OutsideAsksModel", "due", "[I", true)
  | 13 => ("OutsideAsksModel", "queue", "[I", true)
  | 14 => ("OutsideAsksModel", "queued", "I", false)
  | 15 => ("OutsideAsksModel", "sentNow", "I", false)
  | 16 => ("OutsideAsksModel", "sentAll", "I", false)
  | 17 => ("OutsideAsksModel", "outItem", "[I", true)
  | 18 => ("OutsideAsksModel", "outTick", "[I", true)
  | 19 => ("OutsideAsksModel", "outs", "I", false)
  | 20 => ("OutsideAsksModel", "under", "[I", true)
  | 21 => ("OutsideAsksModel", "cause", "[I", true)
  | 22 => ("OutsideAsksModel", "brings", "[J", true)
  | 23 => ("OutsideAsksModel", "length", "[I", true)
  | 24 => ("OutsideAsksModel", "acted", "[I", true)
  | 25 => ("OutsideAsksModel", "isAnswered", "[Z", true)
  | 26 => ("OutsideAsksModel", "answered", "[J", true)
  | 27 => ("OutsideAsksModel", "keptKey", "[J", true)
  | 28 => ("OutsideAsksModel", "keptValue", "[J", true)
  | 29 => ("OutsideAsksModel", "keptEnd", "[I", true)
  | 30 => ("OutsideAsksModel", "keeps", "I", false)
  | 31 => ("OutsideAsksModel", "savedItems", "I", false)
  | 32 => ("OutsideAsksModel", "savedOuts", "I", false)
  | 33 => ("OutsideAsksModel", "savedState", "[I", true)
  | 34 => ("OutsideAsksModel", "savedResult", "[I", true)
  | 35 => ("OutsideAsksModel", "savedTold", "[J", true)
  | 36 => ("OutsideAsksModel", "savedTries", "[I", true)
  | _ => ("OutsideAsksModel", "restarts", "I", false)
def tyX8 : Nat → FieldType := fun k => match k with
  | 0 => .int
  | 1 => .boolean
  | 2 => .int
  | 3 => .array .int
  | 4 => .int
  | 5 => .array .boolean
  | 6 => .array .long
  | 7 => .array .long
  | 8 => .array .int
  | 9 => .array .int
  | 10 => .array .long
  | 11 => .array .int
  | 12 => .array .int
  | 13 => .array .int
  | 14 => .int
  | 15 => .int
  | 16 => .int
  | 17 => .array .int
  | 18 => .array .int
  | 19 => .int
  | 20 => .array .int
  | 21 => .array .int
  | 22 => .array .long
  | 23 => .array .int
  | 24 => .array .int
  | 25 => .array .boolean
  | 26 => .array .long
  | 27 => .array .long
  | 28 => .array .long
  | 29 => .array .int
  | 30 => .int
  | 31 => .int
  | 32 => .int
  | 33 => .array .int
  | 34 => .array .int
  | 35 => .array .long
  | 36 => .array .int
  | _ => .int
abbrev wsX80 : List Cond := u_ws RX8 TX8 38
theorem nmX8 : ∀ a, a < 38 → ∀ b, b < 38 → a ≠ b → (TX8 a).2.1 ≠ (TX8 b).2.1 := by decide +kernel
theorem tyX8_ok : ∀ k, k < 38 → parseFieldDescriptor (TX8 k).2.2.1 = some (tyX8 k) := by decide +kernel
abbrev cX8_init : ByteArray := prog_10_method_1_code
def yX8_init : MethodName := ⟨RX8, "<init>", "(II)V"⟩
abbrev cX8_countOf : ByteArray := prog_10_method_2_code
def yX8_countOf : MethodName := ⟨RX8, "countOf", "(I)I"⟩
abbrev cX8_first : ByteArray := prog_10_method_3_code
def yX8_first : MethodName := ⟨RX8, "first", "(I)I"⟩
abbrev cX8_keptFor : ByteArray := prog_10_method_4_code
def yX8_keptFor : MethodName := ⟨RX8, "keptFor", "(J)I"⟩
abbrev cX8_settle : ByteArray := prog_10_method_5_code
def yX8_settle : MethodName := ⟨RX8, "settle", "(IIJ)V"⟩
abbrev cX8_placeInQueue : ByteArray := prog_10_method_6_code
def yX8_placeInQueue : MethodName := ⟨RX8, "placeInQueue", "(I)I"⟩
abbrev cX8_leave : ByteArray := prog_10_method_7_code
def yX8_leave : MethodName := ⟨RX8, "leave", "(I)V"⟩
abbrev cX8_goOn : ByteArray := prog_10_method_8_code
def yX8_goOn : MethodName := ⟨RX8, "goOn", "()V"⟩
abbrev cX8_nextOut : ByteArray := prog_10_method_9_code
def yX8_nextOut : MethodName := ⟨RX8, "nextOut", "()I"⟩
abbrev cX8_send : ByteArray := prog_10_method_10_code
def yX8_send : MethodName := ⟨RX8, "send", "(IIIJ)V"⟩
abbrev cX8_take : ByteArray := prog_10_method_11_code
def yX8_take : MethodName := ⟨RX8, "take", "(II)V"⟩
abbrev cX8_again : ByteArray := prog_10_method_12_code
def yX8_again : MethodName := ⟨RX8, "again", "(I)Z"⟩
abbrev cX8_set : ByteArray := prog_10_method_13_code
def yX8_set : MethodName := ⟨RX8, "set", "(II)I"⟩
abbrev cX8_come : ByteArray := prog_10_method_14_code
def yX8_come : MethodName := ⟨RX8, "come", "(ZJJ)I"⟩
abbrev cX8_row : ByteArray := prog_10_method_15_code
def yX8_row : MethodName := ⟨RX8, "row", "(JJ)I"⟩
abbrev cX8_mark : ByteArray := prog_10_method_16_code
def yX8_mark : MethodName := ⟨RX8, "mark", "()I"⟩
abbrev cX8_tick : ByteArray := prog_10_method_17_code
def yX8_tick : MethodName := ⟨RX8, "tick", "(I)I"⟩
abbrev cX8_isUnder : ByteArray := prog_10_method_18_code
def yX8_isUnder : MethodName := ⟨RX8, "isUnder", "(II)Z"⟩
abbrev cX8_keyAt : ByteArray := prog_10_method_19_code
def yX8_keyAt : MethodName := ⟨RX8, "keyAt", "(J)I"⟩
abbrev cX8_serve : ByteArray := prog_10_method_20_code
def yX8_serve : MethodName := ⟨RX8, "serve", "(I)I"⟩
abbrev cX8_refuse : ByteArray := prog_10_method_21_code
def yX8_refuse : MethodName := ⟨RX8, "refuse", "(II)I"⟩
abbrev cX8_arrive : ByteArray := prog_10_method_22_code
def yX8_arrive : MethodName := ⟨RX8, "arrive", "(I)I"⟩
abbrev cX8_keep : ByteArray := prog_10_method_23_code
def yX8_keep : MethodName := ⟨RX8, "keep", "(JJ)V"⟩
abbrev cX8_lose : ByteArray := prog_10_method_24_code
def yX8_lose : MethodName := ⟨RX8, "lose", "(II)I"⟩
abbrev cX8_twice : ByteArray := prog_10_method_25_code
def yX8_twice : MethodName := ⟨RX8, "twice", "(II)I"⟩
abbrev cX8_under : ByteArray := prog_10_method_26_code
def yX8_under : MethodName := ⟨RX8, "under", "(II)I"⟩
abbrev cX8_out : ByteArray := prog_10_method_27_code
def yX8_out : MethodName := ⟨RX8, "out", "(II)I"⟩
abbrev cX8_isItem : ByteArray := prog_10_method_28_code
def yX8_isItem : MethodName := ⟨RX8, "isItem", "(I)Z"⟩
abbrev cX8_value : ByteArray := prog_10_method_29_code
def yX8_value : MethodName := ⟨RX8, "value", "(I)J"⟩
abbrev cX8_item : ByteArray := prog_10_method_30_code
def yX8_item : MethodName := ⟨RX8, "item", "(II)I"⟩
abbrev cX8_count : ByteArray := prog_10_method_31_code
def yX8_count : MethodName := ⟨RX8, "count", "(J)I"⟩
abbrev cX8_kept : ByteArray := prog_10_method_32_code
def yX8_kept : MethodName := ⟨RX8, "kept", "(J)I"⟩
abbrev cX8_save : ByteArray := prog_10_method_33_code
def yX8_save : MethodName := ⟨RX8, "save", "()I"⟩
abbrev cX8_restart : ByteArray := prog_10_method_34_code
def yX8_restart : MethodName := ⟨RX8, "restart", "()I"⟩
abbrev cX8_told : ByteArray := prog_10_method_35_code
def yX8_told : MethodName := ⟨RX8, "told", "(I)I"⟩
def RJx8e188 : String := "java/lang/Cloneable"
def TJx8e188 : u_T := fun k => match k with
  | _ => ("", "", "", false)
def tyJx8e188 : Nat → FieldType := fun k => match k with
  | _ => .int
abbrev wsJx8e1880 : List Cond := u_ws RJx8e188 TJx8e188 0
theorem nmJx8e188 : ∀ a, a < 0 → ∀ b, b < 0 → a ≠ b → (TJx8e188 a).2.1 ≠ (TJx8e188 b).2.1 := by decide +kernel
theorem tyJx8e188_ok : ∀ k, k < 0 → parseFieldDescriptor (TJx8e188 k).2.2.1 = some (tyJx8e188 k) := by decide +kernel
def RJ9 : String := "java/lang/Math"
def TJ9 : u_T := fun k => match k with
  | _ => ("", "", "", false)
def tyJ9 : Nat → FieldType := fun k => match k with
  | _ => .int
abbrev wsJ90 : List Cond := u_ws RJ9 TJ9 0
theorem nmJ9 : ∀ a, a < 0 → ∀ b, b < 0 → a ≠ b → (TJ9 a).2.1 ≠ (TJ9 b).2.1 := by decide +kernel
theorem tyJ9_ok : ∀ k, k < 0 → parseFieldDescriptor (TJ9 k).2.2.1 = some (tyJ9 k) := by decide +kernel
abbrev cJ9_max_7cf53 : ByteArray := prog_12_method_65_code
def yJ9_max_7cf53 : MethodName := ⟨RJ9, "max", "(II)I"⟩
abbrev cJ9_min_7cf53 : ByteArray := prog_12_method_69_code
def yJ9_min_7cf53 : MethodName := ⟨RJ9, "min", "(II)I"⟩
def RJ10 : String := "java/lang/System"
def TJ10 : u_T := fun k => match k with
  | _ => ("", "", "", false)
def tyJ10 : Nat → FieldType := fun k => match k with
  | _ => .int
abbrev wsJ100 : List Cond := u_ws RJ10 TJ10 0
theorem nmJ10 : ∀ a, a < 0 → ∀ b, b < 0 → a ≠ b → (TJ10 a).2.1 ≠ (TJ10 b).2.1 := by decide +kernel
theorem tyJ10_ok : ∀ k, k < 0 → parseFieldDescriptor (TJ10 k).2.2.1 = some (tyJ10 k) := by decide +kernel
def RL : String := "OutsideAsksLaw"
abbrev cL_cell : ByteArray := method_2_code
def yL_cell : MethodName := ⟨RL, "cell", "([II)I"⟩
abbrev cL_law : ByteArray := code
def yL_law : MethodName := ⟨RL, "law", "([I)Z"⟩
def wsL_law_r1 : List Cond := [Cond.classLink RL 7 RX7, Cond.instantiable RX7 18, Cond.initialized RX7, Cond.classLink RL 18 RX8, Cond.instantiable RX8 38, Cond.initialized RX8, Cond.constantLong RL 26 (4294967295), Cond.methodLink RL 9 yL_cell, Cond.static yL_cell, Cond.initialized RL, Cond.code yL_cell cL_cell 2 (some .int), Cond.methodLink RL 15 yX7_init, Cond.instanceMethod yX7_init, Cond.code yX7_init cX7_init 3 none, Cond.methodLink RX7 1 objectInit, Cond.instanceMethod objectInit, Cond.code objectInit ⟨#[0xb1]⟩ 1 none, Cond.fieldLink RX7 7 "OutsideAsks" "FIRST_SETTINGS" "[I", Cond.methodLink RX7 13 ⟨"[I", "clone", "()Ljava/lang/Object;"⟩, Cond.sameMethod "[I" "java/lang/Object" "clone" "()Ljava/lang/Object;", Cond.native ⟨"java/lang/Object", "clone", "()Ljava/lang/Object;"⟩, Cond.instanceMethod ⟨"java/lang/Object", "clone", "()Ljava/lang/Object;"⟩, Cond.selects "[I" ⟨"[I", "clone", "()Ljava/lang/Object;"⟩ ⟨"java/lang/Object", "clone", "()Ljava/lang/Object;"⟩, Cond.classLink RX7 14 "[I"]
def wsL_law_r2 : List Cond := [Cond.fieldLink RX7 18 "OutsideAsks" "settings" "[I", Cond.classLink RX7 21 RX0, Cond.instantiable RX0 4, Cond.initialized RX0, Cond.fieldLink RX7 24 "OutsideAsks" "items" "LOutsideAsks$Items;", Cond.classLink RX7 28 RX4, Cond.instantiable RX4 7, Cond.initialized RX4, Cond.fieldLink RX7 31 "OutsideAsks" "live" "LOutsideAsks$Progress;", Cond.fieldLink RX7 35 "OutsideAsks" "saved" "LOutsideAsks$Progress;", Cond.classLink RX7 38 RX3, Cond.instantiable RX3 2, Cond.initialized RX3, Cond.fieldLink RX7 41 "OutsideAsks" "outLog" "LOutsideAsks$OutLog;", Cond.classLink RX7 45 RX5, Cond.instantiable RX5 2, Cond.initialized RX5, Cond.fieldLink RX7 48 "OutsideAsks" "working" "LOutsideAsks$RowList;", Cond.fieldLink RX7 52 "OutsideAsks" "queue" "LOutsideAsks$RowList;", Cond.fieldLink RX7 55 "OutsideAsks" "overdue" "LOutsideAsks$RowList;", Cond.classLink RX7 58 RX2, Cond.instantiable RX2 4, Cond.initialized RX2, Cond.fieldLink RX7 61 "OutsideAsks" "asks" "LOutsideAsks$Line;"]
def wsL_law_r3 : List Cond := [Cond.fieldLink RX7 65 "OutsideAsks" "answers" "LOutsideAsks$Line;", Cond.classLink RX7 68 RX6, Cond.instantiable RX6 3, Cond.initialized RX6, Cond.fieldLink RX7 71 "OutsideAsks" "service" "LOutsideAsks$Service;", Cond.classLink RX7 75 RX1, Cond.instantiable RX1 4, Cond.initialized RX1, Cond.fieldLink RX7 78 "OutsideAsks" "keptAnswers" "LOutsideAsks$KeptAnswers;", Cond.fieldLink RX7 82 "OutsideAsks" "now" "I", Cond.fieldLink RX7 86 "OutsideAsks" "sentNow" "I", Cond.fieldLink RX7 89 "OutsideAsks" "sentInAll" "I", Cond.fieldLink RX7 92 "OutsideAsks" "restarts" "I", Cond.methodLink RX7 95 Lib.Math.min.name, Cond.static Lib.Math.min.name, Cond.initialized "java/lang/Math", Cond.code Lib.Math.min.name Lib.Math.min.code 2 (some .int), Cond.methodLink RX7 101 Lib.Math.max.name, Cond.static Lib.Math.max.name, Cond.code Lib.Math.max.name Lib.Math.max.code 2 (some .int), Cond.fieldLink RX7 104 "OutsideAsks" "most" "I", Cond.fieldLink RX7 107 "OutsideAsks" "ordered" "Z", Cond.instanceMethod yX0_init, Cond.code yX0_init cX0_init 1 none]
def wsL_law_r4 : List Cond := [Cond.methodLink RX0 3 objectInit, Cond.arrayClass .long, Cond.fieldLink RX0 9 "OutsideAsks$Items" "keys" "[J", Cond.fieldLink RX0 15 "OutsideAsks$Items" "values" "[J", Cond.arrayClass .boolean, Cond.fieldLink RX0 18 "OutsideAsks$Items" "marks" "[Z", Cond.arrayClass .int, Cond.fieldLink RX0 22 "OutsideAsks$Items" "dues" "[I", Cond.instanceMethod yX4_init, Cond.code yX4_init cX4_init 1 none, Cond.methodLink RX4 3 objectInit, Cond.fieldLink RX4 9 "OutsideAsks$Progress" "states" "[I", Cond.fieldLink RX4 15 "OutsideAsks$Progress" "results" "[I", Cond.fieldLink RX4 18 "OutsideAsks$Progress" "tries" "[I", Cond.fieldLink RX4 21 "OutsideAsks$Progress" "settledValues" "[J", Cond.fieldLink RX4 25 "OutsideAsks$Progress" "tally" "[I", Cond.fieldLink RX4 28 "OutsideAsks$Progress" "items" "I", Cond.fieldLink RX4 32 "OutsideAsks$Progress" "outs" "I", Cond.instanceMethod yX3_init, Cond.code yX3_init cX3_init 1 none, Cond.methodLink RX3 3 objectInit, Cond.fieldLink RX3 9 "OutsideAsks$OutLog" "items" "[I", Cond.fieldLink RX3 15 "OutsideAsks$OutLog" "ticks" "[I", Cond.instanceMethod yX5_init]
def wsL_law_r5 : List Cond := [Cond.code yX5_init cX5_init 1 none, Cond.methodLink RX5 3 objectInit, Cond.fieldLink RX5 9 "OutsideAsks$RowList" "rows" "[I", Cond.fieldLink RX5 15 "OutsideAsks$RowList" "size" "I", Cond.instanceMethod yX2_init, Cond.code yX2_init cX2_init 1 none, Cond.methodLink RX2 3 objectInit, Cond.fieldLink RX2 9 "OutsideAsks$Line" "rows" "[I", Cond.fieldLink RX2 15 "OutsideAsks$Line" "causes" "[I", Cond.fieldLink RX2 18 "OutsideAsks$Line" "values" "[J", Cond.fieldLink RX2 22 "OutsideAsks$Line" "size" "I", Cond.instanceMethod yX6_init, Cond.code yX6_init cX6_init 1 none, Cond.methodLink RX6 3 objectInit, Cond.fieldLink RX6 9 "OutsideAsks$Service" "keys" "[J", Cond.fieldLink RX6 15 "OutsideAsks$Service" "acts" "[I", Cond.fieldLink RX6 19 "OutsideAsks$Service" "latestAnswers" "[J", Cond.instanceMethod yX1_init, Cond.code yX1_init cX1_init 1 none, Cond.methodLink RX1 3 objectInit, Cond.fieldLink RX1 9 "OutsideAsks$KeptAnswers" "keys" "[J", Cond.fieldLink RX1 15 "OutsideAsks$KeptAnswers" "values" "[J", Cond.fieldLink RX1 18 "OutsideAsks$KeptAnswers" "ends" "[I", Cond.fieldLink RX1 22 "OutsideAsks$KeptAnswers" "size" "I"]
def wsL_law_r6 : List Cond := [Cond.methodLink RL 20 yX8_init, Cond.instanceMethod yX8_init, Cond.code yX8_init cX8_init 3 none, Cond.methodLink RX8 1 objectInit, Cond.fieldLink RX8 7 "OutsideAsksModel" "settings" "[I", Cond.fieldLink RX8 13 "OutsideAsksModel" "isMark" "[Z", Cond.fieldLink RX8 17 "OutsideAsksModel" "key" "[J", Cond.fieldLink RX8 21 "OutsideAsksModel" "worth" "[J", Cond.fieldLink RX8 24 "OutsideAsksModel" "state" "[I", Cond.fieldLink RX8 27 "OutsideAsksModel" "result" "[I", Cond.fieldLink RX8 30 "OutsideAsksModel" "told" "[J", Cond.fieldLink RX8 33 "OutsideAsksModel" "tries" "[I", Cond.fieldLink RX8 36 "OutsideAsksModel" "due" "[I", Cond.fieldLink RX8 39 "OutsideAsksModel" "queue" "[I", Cond.fieldLink RX8 42 "OutsideAsksModel" "outItem" "[I", Cond.fieldLink RX8 45 "OutsideAsksModel" "outTick" "[I", Cond.fieldLink RX8 48 "OutsideAsksModel" "under" "[I", Cond.fieldLink RX8 51 "OutsideAsksModel" "cause" "[I", Cond.fieldLink RX8 54 "OutsideAsksModel" "brings" "[J", Cond.fieldLink RX8 57 "OutsideAsksModel" "length" "[I", Cond.fieldLink RX8 60 "OutsideAsksModel" "acted" "[I", Cond.fieldLink RX8 63 "OutsideAsksModel" "isAnswered" "[Z", Cond.fieldLink RX8 66 "OutsideAsksModel" "answered" "[J", Cond.fieldLink RX8 69 "OutsideAsksModel" "keptKey" "[J"]
def wsL_law_r7 : List Cond := [Cond.fieldLink RX8 72 "OutsideAsksModel" "keptValue" "[J", Cond.fieldLink RX8 75 "OutsideAsksModel" "keptEnd" "[I", Cond.fieldLink RX8 78 "OutsideAsksModel" "savedState" "[I", Cond.fieldLink RX8 81 "OutsideAsksModel" "savedResult" "[I", Cond.fieldLink RX8 84 "OutsideAsksModel" "savedTold" "[J", Cond.fieldLink RX8 87 "OutsideAsksModel" "savedTries" "[I", Cond.fieldLink RX8 90 "OutsideAsksModel" "most" "I", Cond.fieldLink RX8 94 "OutsideAsksModel" "isOrdered" "Z", Cond.methodLink RL 21 yX7_set, Cond.instanceMethod yX7_set, Cond.selects RX7 yX7_set yX7_set, Cond.code yX7_set cX7_set 4 (some .int), Cond.fieldLink RX7 111 "OutsideAsks" "LEAST_SETTINGS" "[I", Cond.fieldLink RX7 114 "OutsideAsks" "GREATEST_SETTINGS" "[I", Cond.methodLink RX7 117 yX7_goOn, Cond.instanceMethod yX7_goOn, Cond.selects RX7 yX7_goOn yX7_goOn, Cond.code yX7_goOn cX7_goOn 1 none, Cond.methodLink RX7 237 yX7_startWaitingRows, Cond.instanceMethod yX7_startWaitingRows, Cond.selects RX7 yX7_startWaitingRows yX7_startWaitingRows, Cond.code yX7_startWaitingRows cX7_startWaitingRows 2 none, Cond.methodLink RX7 173 yX4_stateOf, Cond.instanceMethod yX4_stateOf]
def wsL_law_r8 : List Cond := [Cond.selects RX4 yX4_stateOf yX4_stateOf, Cond.code yX4_stateOf cX4_stateOf 2 (some .int), Cond.methodLink RX4 35 yX4_hasItem, Cond.instanceMethod yX4_hasItem, Cond.selects RX4 yX4_hasItem yX4_hasItem, Cond.code yX4_hasItem cX4_hasItem 2 (some .boolean), Cond.methodLink RX7 246 yX7_startRow, Cond.instanceMethod yX7_startRow, Cond.selects RX7 yX7_startRow yX7_startRow, Cond.code yX7_startRow cX7_startRow 4 none, Cond.methodLink RX7 149 yX0_keyOf, Cond.instanceMethod yX0_keyOf, Cond.selects RX0 yX0_keyOf yX0_keyOf, Cond.code yX0_keyOf cX0_keyOf 2 (some .long), Cond.methodLink RX0 26 yX0_mayHave, Cond.instanceMethod yX0_mayHave, Cond.selects RX0 yX0_mayHave yX0_mayHave, Cond.code yX0_mayHave cX0_mayHave 2 (some .boolean), Cond.methodLink RX7 216 yX1_endOf, Cond.instanceMethod yX1_endOf, Cond.selects RX1 yX1_endOf yX1_endOf, Cond.code yX1_endOf cX1_endOf 4 (some .int), Cond.methodLink RX1 26 yX1_find, Cond.instanceMethod yX1_find]
def wsL_law_r9 : List Cond := [Cond.selects RX1 yX1_find yX1_find, Cond.code yX1_find cX1_find 4 (some .int), Cond.methodLink RX7 249 yX1_valueOf, Cond.instanceMethod yX1_valueOf, Cond.selects RX1 yX1_valueOf yX1_valueOf, Cond.code yX1_valueOf cX1_valueOf 4 (some .long), Cond.methodLink RX7 252 yX4_settleRow, Cond.instanceMethod yX4_settleRow, Cond.selects RX4 yX4_settleRow yX4_settleRow, Cond.code yX4_settleRow cX4_settleRow 5 none, Cond.methodLink RX4 39 yX4_moveTo, Cond.instanceMethod yX4_moveTo, Cond.selects RX4 yX4_moveTo yX4_moveTo, Cond.code yX4_moveTo cX4_moveTo 3 none, Cond.methodLink RX7 255 yX4_startTrying, Cond.instanceMethod yX4_startTrying, Cond.selects RX4 yX4_startTrying yX4_startTrying, Cond.code yX4_startTrying cX4_startTrying 2 none, Cond.methodLink RX7 258 yX5_append, Cond.instanceMethod yX5_append, Cond.selects RX5 yX5_append yX5_append, Cond.code yX5_append cX5_append 2 none, Cond.methodLink RX7 240 yX7_sendQueuedAsks, Cond.instanceMethod yX7_sendQueuedAsks]
def wsL_law_r10 : List Cond := [Cond.selects RX7 yX7_sendQueuedAsks yX7_sendQueuedAsks, Cond.code yX7_sendQueuedAsks cX7_sendQueuedAsks 2 none, Cond.methodLink RX7 261 yX5_at, Cond.instanceMethod yX5_at, Cond.selects RX5 yX5_at yX5_at, Cond.code yX5_at cX5_at 2 (some .int), Cond.methodLink RX7 264 yX5_removeAt, Cond.instanceMethod yX5_removeAt, Cond.selects RX5 yX5_removeAt yX5_removeAt, Cond.code yX5_removeAt cX5_removeAt 2 none, Cond.methodLink RX5 19 arraycopyName, Cond.native arraycopyName, Cond.static arraycopyName, Cond.initialized "java/lang/System", Cond.methodLink RX7 265 yX0_setDue, Cond.instanceMethod yX0_setDue, Cond.selects RX0 yX0_setDue yX0_setDue, Cond.code yX0_setDue cX0_setDue 3 none, Cond.methodLink RX7 163 yX2_setOut, Cond.instanceMethod yX2_setOut, Cond.selects RX2 yX2_setOut yX2_setOut, Cond.code yX2_setOut cX2_setOut 5 none, Cond.methodLink RX7 243 yX7_letItemsOut, Cond.instanceMethod yX7_letItemsOut]
def wsL_law_r11 : List Cond := [Cond.selects RX7 yX7_letItemsOut yX7_letItemsOut, Cond.code yX7_letItemsOut cX7_letItemsOut 4 none, Cond.methodLink RX7 206 yX0_isMark, Cond.instanceMethod yX0_isMark, Cond.selects RX0 yX0_isMark yX0_isMark, Cond.code yX0_isMark cX0_isMark 2 (some .boolean), Cond.methodLink RX7 268 yX3_write, Cond.instanceMethod yX3_write, Cond.selects RX3 yX3_write yX3_write, Cond.code yX3_write cX3_write 4 none, Cond.methodLink RX7 272 yX4_goOut, Cond.instanceMethod yX4_goOut, Cond.selects RX4 yX4_goOut yX4_goOut, Cond.code yX4_goOut cX4_goOut 2 none, Cond.methodLink RL 25 yX8_set, Cond.instanceMethod yX8_set, Cond.selects RX8 yX8_set yX8_set, Cond.code yX8_set cX8_set 6 (some .int), Cond.methodLink RX8 149 yX8_goOn, Cond.instanceMethod yX8_goOn, Cond.selects RX8 yX8_goOn yX8_goOn, Cond.code yX8_goOn cX8_goOn 3 none, Cond.fieldLink RX8 125 "OutsideAsksModel" "now" "I", Cond.fieldLink RX8 108 "OutsideAsksModel" "queued" "I"]
def wsL_law_r12 : List Cond := [Cond.fieldLink RX8 132 "OutsideAsksModel" "sentNow" "I", Cond.fieldLink RX8 135 "OutsideAsksModel" "sentAll" "I", Cond.fieldLink RX8 146 "OutsideAsksModel" "outs" "I", Cond.methodLink RX8 115 yX8_countOf, Cond.instanceMethod yX8_countOf, Cond.selects RX8 yX8_countOf yX8_countOf, Cond.code yX8_countOf cX8_countOf 4 (some .int), Cond.fieldLink RX8 98 "OutsideAsksModel" "items" "I", Cond.methodLink RX8 118 yX8_first, Cond.instanceMethod yX8_first, Cond.selects RX8 yX8_first yX8_first, Cond.code yX8_first cX8_first 3 (some .int), Cond.methodLink RX8 121 yX8_keptFor, Cond.instanceMethod yX8_keptFor, Cond.selects RX8 yX8_keptFor yX8_keptFor, Cond.code yX8_keptFor cX8_keptFor 4 (some .int), Cond.fieldLink RX8 101 "OutsideAsksModel" "keeps" "I", Cond.methodLink RX8 128 yX8_settle, Cond.instanceMethod yX8_settle, Cond.selects RX8 yX8_settle yX8_settle, Cond.code yX8_settle cX8_settle 5 none, Cond.methodLink RX8 104 yX8_leave, Cond.instanceMethod yX8_leave, Cond.selects RX8 yX8_leave yX8_leave]
def wsL_law_r13 : List Cond := [Cond.code yX8_leave cX8_leave 4 none, Cond.methodLink RX8 111 yX8_placeInQueue, Cond.instanceMethod yX8_placeInQueue, Cond.selects RX8 yX8_placeInQueue yX8_placeInQueue, Cond.code yX8_placeInQueue cX8_placeInQueue 3 (some .int), Cond.methodLink RX8 138 yX8_send, Cond.instanceMethod yX8_send, Cond.selects RX8 yX8_send yX8_send, Cond.code yX8_send cX8_send 7 none, Cond.methodLink RX8 142 yX8_nextOut, Cond.instanceMethod yX8_nextOut, Cond.selects RX8 yX8_nextOut yX8_nextOut, Cond.code yX8_nextOut cX8_nextOut 6 (some .int), Cond.methodLink RL 28 yX7_row, Cond.instanceMethod yX7_row, Cond.selects RX7 yX7_row yX7_row, Cond.code yX7_row cX7_row 6 (some .int), Cond.methodLink RX7 122 yX0_noteRow, Cond.instanceMethod yX0_noteRow, Cond.selects RX0 yX0_noteRow yX0_noteRow, Cond.code yX0_noteRow cX0_noteRow 6 none, Cond.methodLink RX7 126 yX4_addItem, Cond.instanceMethod yX4_addItem, Cond.selects RX4 yX4_addItem yX4_addItem]
def wsL_law_r14 : List Cond := [Cond.code yX4_addItem cX4_addItem 3 none, Cond.methodLink RL 32 yX8_row, Cond.instanceMethod yX8_row, Cond.selects RX8 yX8_row yX8_row, Cond.code yX8_row cX8_row 5 (some .int), Cond.methodLink RX8 152 yX8_come, Cond.instanceMethod yX8_come, Cond.selects RX8 yX8_come yX8_come, Cond.code yX8_come cX8_come 7 (some .int), Cond.methodLink RL 33 yX7_mark, Cond.instanceMethod yX7_mark, Cond.selects RX7 yX7_mark yX7_mark, Cond.code yX7_mark cX7_mark 2 (some .int), Cond.methodLink RX7 130 yX0_noteMark, Cond.instanceMethod yX0_noteMark, Cond.selects RX0 yX0_noteMark yX0_noteMark, Cond.code yX0_noteMark cX0_noteMark 2 none, Cond.methodLink RL 37 yX8_mark, Cond.instanceMethod yX8_mark, Cond.selects RX8 yX8_mark yX8_mark, Cond.code yX8_mark cX8_mark 1 (some .int), Cond.methodLink RL 38 yX7_tick, Cond.instanceMethod yX7_tick, Cond.selects RX7 yX7_tick yX7_tick]
def wsL_law_r15 : List Cond := [Cond.code yX7_tick cX7_tick 3 (some .int), Cond.constant RX7 134 (1000000), Cond.methodLink RX7 135 yX7_passTick, Cond.instanceMethod yX7_passTick, Cond.selects RX7 yX7_passTick yX7_passTick, Cond.code yX7_passTick cX7_passTick 2 none, Cond.methodLink RX7 275 yX7_findOverdue, Cond.instanceMethod yX7_findOverdue, Cond.selects RX7 yX7_findOverdue yX7_findOverdue, Cond.code yX7_findOverdue cX7_findOverdue 3 none, Cond.methodLink RX7 281 yX5_clear, Cond.instanceMethod yX5_clear, Cond.selects RX5 yX5_clear yX5_clear, Cond.code yX5_clear cX5_clear 1 none, Cond.methodLink RX7 284 yX0_dueOf, Cond.instanceMethod yX0_dueOf, Cond.selects RX0 yX0_dueOf yX0_dueOf, Cond.code yX0_dueOf cX0_dueOf 2 (some .int), Cond.methodLink RX7 209 yX5_find, Cond.instanceMethod yX5_find, Cond.selects RX5 yX5_find yX5_find, Cond.code yX5_find cX5_find 3 (some .int), Cond.methodLink RX7 278 yX7_tryAgain, Cond.instanceMethod yX7_tryAgain]
def wsL_law_r16 : List Cond := [Cond.selects RX7 yX7_tryAgain yX7_tryAgain, Cond.code yX7_tryAgain cX7_tryAgain 5 (some .boolean), Cond.methodLink RX7 203 yX4_triesOf, Cond.instanceMethod yX4_triesOf, Cond.selects RX4 yX4_triesOf yX4_triesOf, Cond.code yX4_triesOf cX4_triesOf 2 (some .int), Cond.methodLink RX7 287 yX7_settle, Cond.instanceMethod yX7_settle, Cond.selects RX7 yX7_settle yX7_settle, Cond.code yX7_settle cX7_settle 5 none, Cond.methodLink RX7 290 yX4_addTry, Cond.instanceMethod yX4_addTry, Cond.selects RX4 yX4_addTry yX4_addTry, Cond.code yX4_addTry cX4_addTry 2 none, Cond.methodLink RL 42 yX8_tick, Cond.instanceMethod yX8_tick, Cond.selects RX8 yX8_tick yX8_tick, Cond.code yX8_tick cX8_tick 4 (some .int), Cond.constant RX8 156 (1000000), Cond.methodLink RX8 157 yX8_again, Cond.instanceMethod yX8_again, Cond.selects RX8 yX8_again yX8_again, Cond.code yX8_again cX8_again 2 (some .boolean), Cond.methodLink RL 43 yX7_serve]
def wsL_law_r17 : List Cond := [Cond.instanceMethod yX7_serve, Cond.selects RX7 yX7_serve yX7_serve, Cond.code yX7_serve cX7_serve 5 (some .int), Cond.methodLink RX7 138 yX2_has, Cond.instanceMethod yX2_has, Cond.selects RX2 yX2_has yX2_has, Cond.code yX2_has cX2_has 2 (some .boolean), Cond.methodLink RX7 142 yX2_rowAt, Cond.instanceMethod yX2_rowAt, Cond.selects RX2 yX2_rowAt yX2_rowAt, Cond.code yX2_rowAt cX2_rowAt 2 (some .int), Cond.methodLink RX2 26 yX2_has, Cond.methodLink RX7 146 yX2_removeAt, Cond.instanceMethod yX2_removeAt, Cond.selects RX2 yX2_removeAt yX2_removeAt, Cond.code yX2_removeAt cX2_removeAt 3 none, Cond.methodLink RX2 30 arraycopyName, Cond.methodLink RX7 153 yX0_valueOf, Cond.instanceMethod yX0_valueOf, Cond.selects RX0 yX0_valueOf yX0_valueOf, Cond.code yX0_valueOf cX0_valueOf 2 (some .long), Cond.methodLink RX7 156 yX6_takeAsk, Cond.instanceMethod yX6_takeAsk, Cond.selects RX6 yX6_takeAsk yX6_takeAsk]
def wsL_law_r18 : List Cond := [Cond.code yX6_takeAsk cX6_takeAsk 7 (some .boolean), Cond.methodLink RX6 22 yX6_countOf, Cond.instanceMethod yX6_countOf, Cond.selects RX6 yX6_countOf yX6_countOf, Cond.code yX6_countOf cX6_countOf 5 (some .int), Cond.methodLink RX7 160 yX6_answerTo, Cond.instanceMethod yX6_answerTo, Cond.selects RX6 yX6_answerTo yX6_answerTo, Cond.code yX6_answerTo cX6_answerTo 2 (some .long), Cond.methodLink RL 46 yX8_serve, Cond.instanceMethod yX8_serve, Cond.selects RX8 yX8_serve yX8_serve, Cond.code yX8_serve cX8_serve 5 (some .int), Cond.methodLink RX8 161 yX8_isUnder, Cond.instanceMethod yX8_isUnder, Cond.selects RX8 yX8_isUnder yX8_isUnder, Cond.code yX8_isUnder cX8_isUnder 3 (some .boolean), Cond.methodLink RX8 165 yX8_take, Cond.instanceMethod yX8_take, Cond.selects RX8 yX8_take yX8_take, Cond.code yX8_take cX8_take 4 none, Cond.methodLink RX8 169 yX8_keyAt, Cond.instanceMethod yX8_keyAt, Cond.selects RX8 yX8_keyAt yX8_keyAt]
def wsL_law_r19 : List Cond := [Cond.code yX8_keyAt cX8_keyAt 4 (some .int), Cond.methodLink RL 47 yX7_refuse, Cond.instanceMethod yX7_refuse, Cond.selects RX7 yX7_refuse yX7_refuse, Cond.code yX7_refuse cX7_refuse 4 (some .int), Cond.methodLink RL 50 yX8_refuse, Cond.instanceMethod yX8_refuse, Cond.selects RX8 yX8_refuse yX8_refuse, Cond.code yX8_refuse cX8_refuse 4 (some .int), Cond.methodLink RL 51 yX7_arrive, Cond.instanceMethod yX7_arrive, Cond.selects RX7 yX7_arrive yX7_arrive, Cond.code yX7_arrive cX7_arrive 7 (some .int), Cond.methodLink RX7 167 yX2_causeAt, Cond.instanceMethod yX2_causeAt, Cond.selects RX2 yX2_causeAt yX2_causeAt, Cond.code yX2_causeAt cX2_causeAt 2 (some .int), Cond.methodLink RX7 170 yX2_valueAt, Cond.instanceMethod yX2_valueAt, Cond.selects RX2 yX2_valueAt yX2_valueAt, Cond.code yX2_valueAt cX2_valueAt 2 (some .long), Cond.methodLink RX7 176 yX7_takeAnswer, Cond.instanceMethod yX7_takeAnswer, Cond.selects RX7 yX7_takeAnswer yX7_takeAnswer]
def wsL_law_r20 : List Cond := [Cond.code yX7_takeAnswer cX7_takeAnswer 5 (some .boolean), Cond.methodLink RX7 293 yX7_takeCause, Cond.instanceMethod yX7_takeCause, Cond.selects RX7 yX7_takeCause yX7_takeCause, Cond.code yX7_takeCause cX7_takeCause 4 (some .boolean), Cond.methodLink RX7 297 yX1_keep, Cond.instanceMethod yX1_keep, Cond.selects RX1 yX1_keep yX1_keep, Cond.code yX1_keep cX1_keep 7 none, Cond.methodLink RX1 30 yX1_placeFor, Cond.instanceMethod yX1_placeFor, Cond.selects RX1 yX1_placeFor yX1_placeFor, Cond.code yX1_placeFor cX1_placeFor 4 (some .int), Cond.methodLink RX1 33 yX1_firstToGo, Cond.instanceMethod yX1_firstToGo, Cond.selects RX1 yX1_firstToGo yX1_firstToGo, Cond.code yX1_firstToGo cX1_firstToGo 4 (some .int), Cond.methodLink RL 54 yX8_arrive, Cond.instanceMethod yX8_arrive, Cond.selects RX8 yX8_arrive yX8_arrive, Cond.code yX8_arrive cX8_arrive 9 (some .int), Cond.methodLink RX8 172 yX8_keep, Cond.instanceMethod yX8_keep, Cond.selects RX8 yX8_keep yX8_keep]
def wsL_law_r21 : List Cond := [Cond.code yX8_keep cX8_keep 7 none, Cond.methodLink RL 55 yX7_lose, Cond.instanceMethod yX7_lose, Cond.selects RX7 yX7_lose yX7_lose, Cond.code yX7_lose cX7_lose 4 (some .int), Cond.methodLink RX7 180 yX7_lineOf, Cond.instanceMethod yX7_lineOf, Cond.selects RX7 yX7_lineOf yX7_lineOf, Cond.code yX7_lineOf cX7_lineOf 2 (some (.object "OutsideAsks$Line")), Cond.methodLink RL 58 yX8_lose, Cond.instanceMethod yX8_lose, Cond.selects RX8 yX8_lose yX8_lose, Cond.code yX8_lose cX8_lose 3 (some .int), Cond.methodLink RL 59 yX7_twice, Cond.instanceMethod yX7_twice, Cond.selects RX7 yX7_twice yX7_twice, Cond.code yX7_twice cX7_twice 4 (some .int), Cond.methodLink RL 62 yX8_twice, Cond.instanceMethod yX8_twice, Cond.selects RX8 yX8_twice yX8_twice, Cond.code yX8_twice cX8_twice 4 (some .int), Cond.methodLink RL 63 yX7_under, Cond.instanceMethod yX7_under, Cond.selects RX7 yX7_under yX7_under]
def wsL_law_r22 : List Cond := [Cond.code yX7_under cX7_under 4 (some .int), Cond.methodLink RL 66 yX8_under, Cond.instanceMethod yX8_under, Cond.selects RX8 yX8_under yX8_under, Cond.code yX8_under cX8_under 3 (some .int), Cond.methodLink RL 67 yX7_out, Cond.instanceMethod yX7_out, Cond.selects RX7 yX7_out yX7_out, Cond.code yX7_out cX7_out 3 (some .int), Cond.methodLink RX7 190 yX3_itemAt, Cond.instanceMethod yX3_itemAt, Cond.selects RX3 yX3_itemAt yX3_itemAt, Cond.code yX3_itemAt cX3_itemAt 2 (some .int), Cond.methodLink RX7 193 yX4_resultOf, Cond.instanceMethod yX4_resultOf, Cond.selects RX4 yX4_resultOf yX4_resultOf, Cond.code yX4_resultOf cX4_resultOf 2 (some .int), Cond.methodLink RX7 196 yX3_tickAt, Cond.instanceMethod yX3_tickAt, Cond.selects RX3 yX3_tickAt yX3_tickAt, Cond.code yX3_tickAt cX3_tickAt 2 (some .int), Cond.methodLink RL 70 yX8_out, Cond.instanceMethod yX8_out, Cond.selects RX8 yX8_out yX8_out]
def wsL_law_r23 : List Cond := [Cond.code yX8_out cX8_out 3 (some .int), Cond.methodLink RL 71 yX7_value, Cond.instanceMethod yX7_value, Cond.selects RX7 yX7_value yX7_value, Cond.code yX7_value cX7_value 2 (some .long), Cond.methodLink RX7 199 yX4_valueOf, Cond.instanceMethod yX4_valueOf, Cond.selects RX4 yX4_valueOf yX4_valueOf, Cond.code yX4_valueOf cX4_valueOf 2 (some .long), Cond.methodLink RL 75 yX8_value, Cond.instanceMethod yX8_value, Cond.selects RX8 yX8_value yX8_value, Cond.code yX8_value cX8_value 2 (some .long), Cond.methodLink RX8 176 yX8_isItem, Cond.instanceMethod yX8_isItem, Cond.selects RX8 yX8_isItem yX8_isItem, Cond.code yX8_isItem cX8_isItem 2 (some .boolean), Cond.methodLink RL 76 yX7_item, Cond.instanceMethod yX7_item, Cond.selects RX7 yX7_item yX7_item, Cond.code yX7_item cX7_item 3 (some .int), Cond.methodLink RX7 200 yX4_hasItem, Cond.methodLink RL 79 yX8_item, Cond.instanceMethod yX8_item]
def wsL_law_r24 : List Cond := [Cond.selects RX8 yX8_item yX8_item, Cond.code yX8_item cX8_item 3 (some .int), Cond.methodLink RL 80 yX7_count, Cond.instanceMethod yX7_count, Cond.selects RX7 yX7_count yX7_count, Cond.code yX7_count cX7_count 3 (some .int), Cond.methodLink RX7 212 yX6_countOf, Cond.methodLink RL 84 yX8_count, Cond.instanceMethod yX8_count, Cond.selects RX8 yX8_count yX8_count, Cond.code yX8_count cX8_count 4 (some .int), Cond.methodLink RL 85 yX7_kept, Cond.instanceMethod yX7_kept, Cond.selects RX7 yX7_kept yX7_kept, Cond.code yX7_kept cX7_kept 3 (some .int), Cond.methodLink RL 88 yX8_kept, Cond.instanceMethod yX8_kept, Cond.selects RX8 yX8_kept yX8_kept, Cond.code yX8_kept cX8_kept 4 (some .int), Cond.methodLink RL 89 yX7_save, Cond.instanceMethod yX7_save, Cond.selects RX7 yX7_save yX7_save, Cond.code yX7_save cX7_save 1 (some .int), Cond.methodLink RX7 219 yX4_copyFrom]
def wsL_law_r25 : List Cond := [Cond.instanceMethod yX4_copyFrom, Cond.selects RX4 yX4_copyFrom yX4_copyFrom, Cond.code yX4_copyFrom cX4_copyFrom 2 none, Cond.methodLink RX4 43 yX4_copyItems, Cond.instanceMethod yX4_copyItems, Cond.selects RX4 yX4_copyItems yX4_copyItems, Cond.code yX4_copyItems cX4_copyItems 2 none, Cond.methodLink RX4 47 arraycopyName, Cond.methodLink RL 92 yX8_save, Cond.instanceMethod yX8_save, Cond.selects RX8 yX8_save yX8_save, Cond.code yX8_save cX8_save 3 (some .int), Cond.fieldLink RX8 179 "OutsideAsksModel" "savedItems" "I", Cond.fieldLink RX8 182 "OutsideAsksModel" "savedOuts" "I", Cond.methodLink RL 93 yX7_restart, Cond.instanceMethod yX7_restart, Cond.selects RX7 yX7_restart yX7_restart, Cond.code yX7_restart cX7_restart 1 (some .int), Cond.methodLink RX7 226 yX4_goBackTo, Cond.instanceMethod yX4_goBackTo, Cond.selects RX4 yX4_goBackTo yX4_goBackTo, Cond.code yX4_goBackTo cX4_goBackTo 3 none, Cond.methodLink RX7 229 yX1_forgetAll, Cond.instanceMethod yX1_forgetAll]
def wsL_law_r26 : List Cond := [Cond.selects RX1 yX1_forgetAll yX1_forgetAll, Cond.code yX1_forgetAll cX1_forgetAll 1 none, Cond.methodLink RX7 232 yX7_askAgainAllWorking, Cond.instanceMethod yX7_askAgainAllWorking, Cond.selects RX7 yX7_askAgainAllWorking yX7_askAgainAllWorking, Cond.code yX7_askAgainAllWorking cX7_askAgainAllWorking 2 none, Cond.methodLink RL 96 yX8_restart, Cond.instanceMethod yX8_restart, Cond.selects RX8 yX8_restart yX8_restart, Cond.code yX8_restart cX8_restart 2 (some .int), Cond.fieldLink RX8 185 "OutsideAsksModel" "restarts" "I", Cond.methodLink RL 97 yX7_told, Cond.instanceMethod yX7_told, Cond.selects RX7 yX7_told yX7_told, Cond.code yX7_told cX7_told 2 (some .int), Cond.methodLink RL 100 yX8_told, Cond.instanceMethod yX8_told, Cond.selects RX8 yX8_told yX8_told, Cond.code yX8_told cX8_told 2 (some .int)]
def wsL_law : List Cond := (wsL_law_r1 ++ (wsL_law_r2 ++ (wsL_law_r3 ++ (wsL_law_r4 ++ (wsL_law_r5 ++ (wsL_law_r6 ++ (wsL_law_r7 ++ (wsL_law_r8 ++ (wsL_law_r9 ++ (wsL_law_r10 ++ (wsL_law_r11 ++ (wsL_law_r12 ++ (wsL_law_r13 ++ (wsL_law_r14 ++ (wsL_law_r15 ++ (wsL_law_r16 ++ (wsL_law_r17 ++ (wsL_law_r18 ++ (wsL_law_r19 ++ (wsL_law_r20 ++ (wsL_law_r21 ++ (wsL_law_r22 ++ (wsL_law_r23 ++ (wsL_law_r24 ++ (wsL_law_r25 ++ wsL_law_r26))))))))))))))))))))))))) ++ wsX70 ++ wsX80 ++ wsX00 ++ wsX40 ++ wsX30 ++ wsX50 ++ wsX20 ++ wsX60 ++ wsX10 ++ ([] : List Cond)
set_option maxRecDepth 20000 in
theorem wsL_law_in : ∀ w ∈ wsL_law, w ∈ lw_tbl := fun w h => (goodIn_p wsL_law [584, 51, 54, 202, 205, 68, 90, 121, 134, 148, 168, 184, 589, 264, 272, 276, 280, 284, 288, 292, 296, 300, 304, 308, 312, 316, 320, 324, 328, 332, 336, 343, 347, 351, 355, 359, 363, 709, 713, 717, 721, 725, 729, 733, 737, 741, 745, 367, 371, 375, 749, 753, 379, 383, 757, 387, 392, 396, 400, 404, 408, 412, 416, 420, 424, 761, 766, 428, 432, 436, 441, 446, 450, 454, 458, 770, 774, 778, 782, 462, 786, 466, 470, 474, 478, 482, 486, 490, 494, 790, 794, 498, 502, 798, 506, 802, 510, 806, 514, 518, 522, 526, 810, 530, 534, 814, 818, 538, 822, 543, 826, 548, 830, 552, 556, 560, 834, 565, 569, 573, 577, 838, 581, 842] (by decide +kernel) (by decide +kernel) w h).1
theorem inlX0 : ∀ w ∈ wsX00, w ∈ wsL_law := fun _ h => List.mem_append_left _ (List.mem_append_left _ (List.mem_append_left _ (List.mem_append_left _ (List.mem_append_left _ (List.mem_append_left _ (List.mem_append_left _ (List.mem_append_right _ h)))))))
theorem inlX1 : ∀ w ∈ wsX10, w ∈ wsL_law := fun _ h => List.mem_append_left _ (List.mem_append_right _ h)
theorem inlX2 : ∀ w ∈ wsX20, w ∈ wsL_law := fun _ h => List.mem_append_left _ (List.mem_append_left _ (List.mem_append_left _ (List.mem_append_right _ h)))
theorem inlX3 : ∀ w ∈ wsX30, w ∈ wsL_law := fun _ h => List.mem_append_left _ (List.mem_append_left _ (List.mem_append_left _ (List.mem_append_left _ (List.mem_append_left _ (List.mem_append_right _ h)))))
theorem inlX4 : ∀ w ∈ wsX40, w ∈ wsL_law := fun _ h => List.mem_append_left _ (List.mem_append_left _ (List.mem_append_left _ (List.mem_append_left _ (List.mem_append_left _ (List.mem_append_left _ (List.mem_append_right _ h))))))
theorem inlX5 : ∀ w ∈ wsX50, w ∈ wsL_law := fun _ h => List.mem_append_left _ (List.mem_append_left _ (List.mem_append_left _ (List.mem_append_left _ (List.mem_append_right _ h))))
theorem inlX6 : ∀ w ∈ wsX60, w ∈ wsL_law := fun _ h => List.mem_append_left _ (List.mem_append_left _ (List.mem_append_right _ h))
theorem inlX7 : ∀ w ∈ wsX70, w ∈ wsL_law := fun _ h => List.mem_append_left _ (List.mem_append_left _ (List.mem_append_left _ (List.mem_append_left _ (List.mem_append_left _ (List.mem_append_left _ (List.mem_append_left _ (List.mem_append_left _ (List.mem_append_left _ (List.mem_append_right _ h)))))))))
theorem inlX8 : ∀ w ∈ wsX80, w ∈ wsL_law := fun _ h => List.mem_append_left _ (List.mem_append_left _ (List.mem_append_left _ (List.mem_append_left _ (List.mem_append_left _ (List.mem_append_left _ (List.mem_append_left _ (List.mem_append_left _ (List.mem_append_right _ h))))))))
abbrev vwCl : List vw_C := [(RX0, TX0, 4), (RX1, TX1, 4), (RX2, TX2, 4), (RX3, TX3, 2), (RX4, TX4, 7), (RX5, TX5, 2), (RX6, TX6, 3), (RX7, TX7, 18), (RX8, TX8, 38)]
theorem wr_1 : ∀ w ∈ wsL_law_r1, w ∈ wsL_law := fun _ h => (List.mem_append_left _ (List.mem_append_left _ (List.mem_append_left _ (List.mem_append_left _ (List.mem_append_left _ (List.mem_append_left _ (List.mem_append_left _ (List.mem_append_left _ (List.mem_append_left _ (List.mem_append_left _ (List.mem_append_left _ h)))))))))))
theorem wr_2 : ∀ w ∈ wsL_law_r2, w ∈ wsL_law := fun _ h => (List.mem_append_left _ (List.mem_append_left _ (List.mem_append_left _ (List.mem_append_left _ (List.mem_append_left _ (List.mem_append_left _ (List.mem_append_left _ (List.mem_append_left _ (List.mem_append_left _ (List.mem_append_left _ (List.mem_append_right _ (List.mem_append_left _ h))))))))))))
theorem wr_3 : ∀ w ∈ wsL_law_r3, w ∈ wsL_law := fun _ h => (List.mem_append_left _ (List.mem_append_left _ (List.mem_append_left _ (List.mem_append_left _ (List.mem_append_left _ (List.mem_append_left _ (List.mem_append_left _ (List.mem_append_left _ (List.mem_append_left _ (List.mem_append_left _ (List.mem_append_right _ (List.mem_append_right _ (List.mem_append_left _ h)))))))))))))
theorem wr_4 : ∀ w ∈ wsL_law_r4, w ∈ wsL_law := fun _ h => (List.mem_append_left _ (List.mem_append_left _ (List.mem_append_left _ (List.mem_append_left _ (List.mem_append_left _ (List.mem_append_left _ (List.mem_append_left _ (List.mem_append_left _ (List.mem_append_left _ (List.mem_append_left _ (List.mem_append_right _ (List.mem_append_right _ (List.mem_append_right _ (List.mem_append_left _ h))))))))))))))
theorem wr_5 : ∀ w ∈ wsL_law_r5, w ∈ wsL_law := fun _ h => (List.mem_append_left _ (List.mem_append_left _ (List.mem_append_left _ (List.mem_append_left _ (List.mem_append_left _ (List.mem_append_left _ (List.mem_append_left _ (List.mem_append_left _ (List.mem_append_left _ (List.mem_append_left _ (List.mem_append_right _ (List.mem_append_right _ (List.mem_append_right _ (List.mem_append_right _ (List.mem_append_left _ h)))))))))))))))
theorem wr_6 : ∀ w ∈ wsL_law_r6, w ∈ wsL_law := fun _ h => (List.mem_append_left _ (List.mem_append_left _ (List.mem_append_left _ (List.mem_append_left _ (List.mem_append_left _ (List.mem_append_left _ (List.mem_append_left _ (List.mem_append_left _ (List.mem_append_left _ (List.mem_append_left _ (List.mem_append_right _ (List.mem_append_right _ (List.mem_append_right _ (List.mem_append_right _ (List.mem_append_right _ (List.mem_append_left _ h))))))))))))))))
theorem wr_7 : ∀ w ∈ wsL_law_r7, w ∈ wsL_law := fun _ h => (List.mem_append_left _ (List.mem_append_left _ (List.mem_append_left _ (List.mem_append_left _ (List.mem_append_left _ (List.mem_append_left _ (List.mem_append_left _ (List.mem_append_left _ (List.mem_append_left _ (List.mem_append_left _ (List.mem_append_right _ (List.mem_append_right _ (List.mem_append_right _ (List.mem_append_right _ (List.mem_append_right _ (List.mem_append_right _ (List.mem_append_left _ h)))))))))))))))))
theorem wr_8 : ∀ w ∈ wsL_law_r8, w ∈ wsL_law := fun _ h => (List.mem_append_left _ (List.mem_append_left _ (List.mem_append_left _ (List.mem_append_left _ (List.mem_append_left _ (List.mem_append_left _ (List.mem_append_left _ (List.mem_append_left _ (List.mem_append_left _ (List.mem_append_left _ (List.mem_append_right _ (List.mem_append_right _ (List.mem_append_right _ (List.mem_append_right _ (List.mem_append_right _ (List.mem_append_right _ (List.mem_append_right _ (List.mem_append_left _ h))))))))))))))))))
theorem wr_9 : ∀ w ∈ wsL_law_r9, w ∈ wsL_law := fun _ h => (List.mem_append_left _ (List.mem_append_left _ (List.mem_append_left _ (List.mem_append_left _ (List.mem_append_left _ (List.mem_append_left _ (List.mem_append_left _ (List.mem_append_left _ (List.mem_append_left _ (List.mem_append_left _ (List.mem_append_right _ (List.mem_append_right _ (List.mem_append_right _ (List.mem_append_right _ (List.mem_append_right _ (List.mem_append_right _ (List.mem_append_right _ (List.mem_append_right _ (List.mem_append_left _ h)))))))))))))))))))
theorem wr_10 : ∀ w ∈ wsL_law_r10, w ∈ wsL_law := fun _ h => (List.mem_append_left _ (List.mem_append_left _ (List.mem_append_left _ (List.mem_append_left _ (List.mem_append_left _ (List.mem_append_left _ (List.mem_append_left _ (List.mem_append_left _ (List.mem_append_left _ (List.mem_append_left _ (List.mem_append_right _ (List.mem_append_right _ (List.mem_append_right _ (List.mem_append_right _ (List.mem_append_right _ (List.mem_append_right _ (List.mem_append_right _ (List.mem_append_right _ (List.mem_append_right _ (List.mem_append_left _ h))))))))))))))))))))
theorem wr_11 : ∀ w ∈ wsL_law_r11, w ∈ wsL_law := fun _ h => (List.mem_append_left _ (List.mem_append_left _ (List.mem_append_left _ (List.mem_append_left _ (List.mem_append_left _ (List.mem_append_left _ (List.mem_append_left _ (List.mem_append_left _ (List.mem_append_left _ (List.mem_append_left _ (List.mem_append_right _ (List.mem_append_right _ (List.mem_append_right _ (List.mem_append_right _ (List.mem_append_right _ (List.mem_append_right _ (List.mem_append_right _ (List.mem_append_right _ (List.mem_append_right _ (List.mem_append_right _ (List.mem_append_left _ h)))))))))))))))))))))
theorem wr_12 : ∀ w ∈ wsL_law_r12, w ∈ wsL_law := fun _ h => (List.mem_append_left _ (List.mem_append_left _ (List.mem_append_left _ (List.mem_append_left _ (List.mem_append_left _ (List.mem_append_left _ (List.mem_append_left _ (List.mem_append_left _ (List.mem_append_left _ (List.mem_append_left _ (List.mem_append_right _ (List.mem_append_right _ (List.mem_append_right _ (List.mem_append_right _ (List.mem_append_right _ (List.mem_append_right _ (List.mem_append_right _ (List.mem_append_right _ (List.mem_append_right _ (List.mem_append_right _ (List.mem_append_right _ (List.mem_append_left _ h))))))))))))))))))))))
theorem wr_13 : ∀ w ∈ wsL_law_r13, w ∈ wsL_law := fun _ h => (List.mem_append_left _ (List.mem_append_left _ (List.mem_append_left _ (List.mem_append_left _ (List.mem_append_left _ (List.mem_append_left _ (List.mem_append_left _ (List.mem_append_left _ (List.mem_append_left _ (List.mem_append_left _ (List.mem_append_right _ (List.mem_append_right _ (List.mem_append_right _ (List.mem_append_right _ (List.mem_append_right _ (List.mem_append_right _ (List.mem_append_right _ (List.mem_append_right _ (List.mem_append_right _ (List.mem_append_right _ (List.mem_append_right _ (List.mem_append_right _ (List.mem_append_left _ h)))))))))))))))))))))))
theorem wr_14 : ∀ w ∈ wsL_law_r14, w ∈ wsL_law := fun _ h => (List.mem_append_left _ (List.mem_append_left _ (List.mem_append_left _ (List.mem_append_left _ (List.mem_append_left _ (List.mem_append_left _ (List.mem_append_left _ (List.mem_append_left _ (List.mem_append_left _ (List.mem_append_left _ (List.mem_append_right _ (List.mem_append_right _ (List.mem_append_right _ (List.mem_append_right _ (List.mem_append_right _ (List.mem_append_right _ (List.mem_append_right _ (List.mem_append_right _ (List.mem_append_right _ (List.mem_append_right _ (List.mem_append_right _ (List.mem_append_right _ (List.mem_append_right _ (List.mem_append_left _ h))))))))))))))))))))))))
theorem wr_15 : ∀ w ∈ wsL_law_r15, w ∈ wsL_law := fun _ h => (List.mem_append_left _ (List.mem_append_left _ (List.mem_append_left _ (List.mem_append_left _ (List.mem_append_left _ (List.mem_append_left _ (List.mem_append_left _ (List.mem_append_left _ (List.mem_append_left _ (List.mem_append_left _ (List.mem_append_right _ (List.mem_append_right _ (List.mem_append_right _ (List.mem_append_right _ (List.mem_append_right _ (List.mem_append_right _ (List.mem_append_right _ (List.mem_append_right _ (List.mem_append_right _ (List.mem_append_right _ (List.mem_append_right _ (List.mem_append_right _ (List.mem_append_right _ (List.mem_append_right _ (List.mem_append_left _ h)))))))))))))))))))))))))
theorem wr_16 : ∀ w ∈ wsL_law_r16, w ∈ wsL_law := fun _ h => (List.mem_append_left _ (List.mem_append_left _ (List.mem_append_left _ (List.mem_append_left _ (List.mem_append_left _ (List.mem_append_left _ (List.mem_append_left _ (List.mem_append_left _ (List.mem_append_left _ (List.mem_append_left _ (List.mem_append_right _ (List.mem_append_right _ (List.mem_append_right _ (List.mem_append_right _ (List.mem_append_right _ (List.mem_append_right _ (List.mem_append_right _ (List.mem_append_right _ (List.mem_append_right _ (List.mem_append_right _ (List.mem_append_right _ (List.mem_append_right _ (List.mem_append_right _ (List.mem_append_right _ (List.mem_append_right _ (List.mem_append_left _ h))))))))))))))))))))))))))
theorem wr_17 : ∀ w ∈ wsL_law_r17, w ∈ wsL_law := fun _ h => (List.mem_append_left _ (List.mem_append_left _ (List.mem_append_left _ (List.mem_append_left _ (List.mem_append_left _ (List.mem_append_left _ (List.mem_append_left _ (List.mem_append_left _ (List.mem_append_left _ (List.mem_append_left _ (List.mem_append_right _ (List.mem_append_right _ (List.mem_append_right _ (List.mem_append_right _ (List.mem_append_right _ (List.mem_append_right _ (List.mem_append_right _ (List.mem_append_right _ (List.mem_append_right _ (List.mem_append_right _ (List.mem_append_right _ (List.mem_append_right _ (List.mem_append_right _ (List.mem_append_right _ (List.mem_append_right _ (List.mem_append_right _ (List.mem_append_left _ h)))))))))))))))))))))))))))
theorem wr_18 : ∀ w ∈ wsL_law_r18, w ∈ wsL_law := fun _ h => (List.mem_append_left _ (List.mem_append_left _ (List.mem_append_left _ (List.mem_append_left _ (List.mem_append_left _ (List.mem_append_left _ (List.mem_append_left _ (List.mem_append_left _ (List.mem_append_left _ (List.mem_append_left _ (List.mem_append_right _ (List.mem_append_right _ (List.mem_append_right _ (List.mem_append_right _ (List.mem_append_right _ (List.mem_append_right _ (List.mem_append_right _ (List.mem_append_right _ (List.mem_append_right _ (List.mem_append_right _ (List.mem_append_right _ (List.mem_append_right _ (List.mem_append_right _ (List.mem_append_right _ (List.mem_append_right _ (List.mem_append_right _ (List.mem_append_right _ (List.mem_append_left _ h))))))))))))))))))))))))))))
theorem wr_19 : ∀ w ∈ wsL_law_r19, w ∈ wsL_law := fun _ h => (List.mem_append_left _ (List.mem_append_left _ (List.mem_append_left _ (List.mem_append_left _ (List.mem_append_left _ (List.mem_append_left _ (List.mem_append_left _ (List.mem_append_left _ (List.mem_append_left _ (List.mem_append_left _ (List.mem_append_right _ (List.mem_append_right _ (List.mem_append_right _ (List.mem_append_right _ (List.mem_append_right _ (List.mem_append_right _ (List.mem_append_right _ (List.mem_append_right _ (List.mem_append_right _ (List.mem_append_right _ (List.mem_append_right _ (List.mem_append_right _ (List.mem_append_right _ (List.mem_append_right _ (List.mem_append_right _ (List.mem_append_right _ (List.mem_append_right _ (List.mem_append_right _ (List.mem_append_left _ h)))))))))))))))))))))))))))))
theorem wr_20 : ∀ w ∈ wsL_law_r20, w ∈ wsL_law := fun _ h => (List.mem_append_left _ (List.mem_append_left _ (List.mem_append_left _ (List.mem_append_left _ (List.mem_append_left _ (List.mem_append_left _ (List.mem_append_left _ (List.mem_append_left _ (List.mem_append_left _ (List.mem_append_left _ (List.mem_append_right _ (List.mem_append_right _ (List.mem_append_right _ (List.mem_append_right _ (List.mem_append_right _ (List.mem_append_right _ (List.mem_append_right _ (List.mem_append_right _ (List.mem_append_right _ (List.mem_append_right _ (List.mem_append_right _ (List.mem_append_right _ (List.mem_append_right _ (List.mem_append_right _ (List.mem_append_right _ (List.mem_append_right _ (List.mem_append_right _ (List.mem_append_right _ (List.mem_append_right _ (List.mem_append_left _ h))))))))))))))))))))))))))))))
theorem wr_21 : ∀ w ∈ wsL_law_r21, w ∈ wsL_law := fun _ h => (List.mem_append_left _ (List.mem_append_left _ (List.mem_append_left _ (List.mem_append_left _ (List.mem_append_left _ (List.mem_append_left _ (List.mem_append_left _ (List.mem_append_left _ (List.mem_append_left _ (List.mem_append_left _ (List.mem_append_right _ (List.mem_append_right _ (List.mem_append_right _ (List.mem_append_right _ (List.mem_append_right _ (List.mem_append_right _ (List.mem_append_right _ (List.mem_append_right _ (List.mem_append_right _ (List.mem_append_right _ (List.mem_append_right _ (List.mem_append_right _ (List.mem_append_right _ (List.mem_append_right _ (List.mem_append_right _ (List.mem_append_right _ (List.mem_append_right _ (List.mem_append_right _ (List.mem_append_right _ (List.mem_append_right _ (List.mem_append_left _ h)))))))))))))))))))))))))))))))
theorem wr_22 : ∀ w ∈ wsL_law_r22, w ∈ wsL_law := fun _ h => (List.mem_append_left _ (List.mem_append_left _ (List.mem_append_left _ (List.mem_append_left _ (List.mem_append_left _ (List.mem_append_left _ (List.mem_append_left _ (List.mem_append_left _ (List.mem_append_left _ (List.mem_append_left _ (List.mem_append_right _ (List.mem_append_right _ (List.mem_append_right _ (List.mem_append_right _ (List.mem_append_right _ (List.mem_append_right _ (List.mem_append_right _ (List.mem_append_right _ (List.mem_append_right _ (List.mem_append_right _ (List.mem_append_right _ (List.mem_append_right _ (List.mem_append_right _ (List.mem_append_right _ (List.mem_append_right _ (List.mem_append_right _ (List.mem_append_right _ (List.mem_append_right _ (List.mem_append_right _ (List.mem_append_right _ (List.mem_append_right _ (List.mem_append_left _ h))))))))))))))))))))))))))))))))
theorem wr_23 : ∀ w ∈ wsL_law_r23, w ∈ wsL_law := fun _ h => (List.mem_append_left _ (List.mem_append_left _ (List.mem_append_left _ (List.mem_append_left _ (List.mem_append_left _ (List.mem_append_left _ (List.mem_append_left _ (List.mem_append_left _ (List.mem_append_left _ (List.mem_append_left _ (List.mem_append_right _ (List.mem_append_right _ (List.mem_append_right _ (List.mem_append_right _ (List.mem_append_right _ (List.mem_append_right _ (List.mem_append_right _ (List.mem_append_right _ (List.mem_append_right _ (List.mem_append_right _ (List.mem_append_right _ (List.mem_append_right _ (List.mem_append_right _ (List.mem_append_right _ (List.mem_append_right _ (List.mem_append_right _ (List.mem_append_right _ (List.mem_append_right _ (List.mem_append_right _ (List.mem_append_right _ (List.mem_append_right _ (List.mem_append_right _ (List.mem_append_left _ h)))))))))))))))))))))))))))))))))
theorem wr_24 : ∀ w ∈ wsL_law_r24, w ∈ wsL_law := fun _ h => (List.mem_append_left _ (List.mem_append_left _ (List.mem_append_left _ (List.mem_append_left _ (List.mem_append_left _ (List.mem_append_left _ (List.mem_append_left _ (List.mem_append_left _ (List.mem_append_left _ (List.mem_append_left _ (List.mem_append_right _ (List.mem_append_right _ (List.mem_append_right _ (List.mem_append_right _ (List.mem_append_right _ (List.mem_append_right _ (List.mem_append_right _ (List.mem_append_right _ (List.mem_append_right _ (List.mem_append_right _ (List.mem_append_right _ (List.mem_append_right _ (List.mem_append_right _ (List.mem_append_right _ (List.mem_append_right _ (List.mem_append_right _ (List.mem_append_right _ (List.mem_append_right _ (List.mem_append_right _ (List.mem_append_right _ (List.mem_append_right _ (List.mem_append_right _ (List.mem_append_right _ (List.mem_append_left _ h))))))))))))))))))))))))))))))))))
theorem wr_25 : ∀ w ∈ wsL_law_r25, w ∈ wsL_law := fun _ h => (List.mem_append_left _ (List.mem_append_left _ (List.mem_append_left _ (List.mem_append_left _ (List.mem_append_left _ (List.mem_append_left _ (List.mem_append_left _ (List.mem_append_left _ (List.mem_append_left _ (List.mem_append_left _ (List.mem_append_right _ (List.mem_append_right _ (List.mem_append_right _ (List.mem_append_right _ (List.mem_append_right _ (List.mem_append_right _ (List.mem_append_right _ (List.mem_append_right _ (List.mem_append_right _ (List.mem_append_right _ (List.mem_append_right _ (List.mem_append_right _ (List.mem_append_right _ (List.mem_append_right _ (List.mem_append_right _ (List.mem_append_right _ (List.mem_append_right _ (List.mem_append_right _ (List.mem_append_right _ (List.mem_append_right _ (List.mem_append_right _ (List.mem_append_right _ (List.mem_append_right _ (List.mem_append_right _ (List.mem_append_left _ h)))))))))))))))))))))))))))))))))))
theorem wr_26 : ∀ w ∈ wsL_law_r26, w ∈ wsL_law := fun _ h => (List.mem_append_left _ (List.mem_append_left _ (List.mem_append_left _ (List.mem_append_left _ (List.mem_append_left _ (List.mem_append_left _ (List.mem_append_left _ (List.mem_append_left _ (List.mem_append_left _ (List.mem_append_left _ (List.mem_append_right _ (List.mem_append_right _ (List.mem_append_right _ (List.mem_append_right _ (List.mem_append_right _ (List.mem_append_right _ (List.mem_append_right _ (List.mem_append_right _ (List.mem_append_right _ (List.mem_append_right _ (List.mem_append_right _ (List.mem_append_right _ (List.mem_append_right _ (List.mem_append_right _ (List.mem_append_right _ (List.mem_append_right _ (List.mem_append_right _ (List.mem_append_right _ (List.mem_append_right _ (List.mem_append_right _ (List.mem_append_right _ (List.mem_append_right _ (List.mem_append_right _ (List.mem_append_right _ (List.mem_append_right _ h)))))))))))))))))))))))))))))))))))
theorem wm_1_0 : (Cond.classLink RL 7 RX7) ∈ wsL_law := wr_1 _ (List.mem_of_getElem? (i := 0) rfl)
theorem wm_1_1 : (Cond.instantiable RX7 18) ∈ wsL_law := wr_1 _ (List.mem_of_getElem? (i := 1) rfl)
theorem wm_1_2 : (Cond.initialized RX7) ∈ wsL_law := wr_1 _ (List.mem_of_getElem? (i := 2) rfl)
theorem wm_1_3 : (Cond.classLink RL 18 RX8) ∈ wsL_law := wr_1 _ (List.mem_of_getElem? (i := 3) rfl)
theorem wm_1_4 : (Cond.instantiable RX8 38) ∈ wsL_law := wr_1 _ (List.mem_of_getElem? (i := 4) rfl)
theorem wm_1_5 : (Cond.initialized RX8) ∈ wsL_law := wr_1 _ (List.mem_of_getElem? (i := 5) rfl)
theorem wm_1_6 : (Cond.constantLong RL 26 (4294967295)) ∈ wsL_law := wr_1 _ (List.mem_of_getElem? (i := 6) rfl)
theorem wm_1_7 : (Cond.methodLink RL 9 yL_cell) ∈ wsL_law := wr_1 _ (List.mem_of_getElem? (i := 7) rfl)
theorem wm_1_8 : (Cond.static yL_cell) ∈ wsL_law := wr_1 _ (List.mem_of_getElem? (i := 8) rfl)
theorem wm_1_9 : (Cond.initialized RL) ∈ wsL_law := wr_1 _ (List.mem_of_getElem? (i := 9) rfl)
theorem wm_1_10 : (Cond.code yL_cell cL_cell 2 (some .int)) ∈ wsL_law := wr_1 _ (List.mem_of_getElem? (i := 10) rfl)
theorem wm_1_11 : (Cond.methodLink RL 15 yX7_init) ∈ wsL_law := wr_1 _ (List.mem_of_getElem? (i := 11) rfl)
theorem wm_1_12 : (Cond.instanceMethod yX7_init) ∈ wsL_law := wr_1 _ (List.mem_of_getElem? (i := 12) rfl)
theorem wm_1_13 : (Cond.code yX7_init cX7_init 3 none) ∈ wsL_law := wr_1 _ (List.mem_of_getElem? (i := 13) rfl)
theorem wm_1_14 : (Cond.methodLink RX7 1 objectInit) ∈ wsL_law := wr_1 _ (List.mem_of_getElem? (i := 14) rfl)
theorem wm_1_15 : (Cond.instanceMethod objectInit) ∈ wsL_law := wr_1 _ (List.mem_of_getElem? (i := 15) rfl)
theorem wm_1_16 : (Cond.code objectInit ⟨#[0xb1]⟩ 1 none) ∈ wsL_law := wr_1 _ (List.mem_of_getElem? (i := 16) rfl)
theorem wm_1_17 : (Cond.fieldLink RX7 7 "OutsideAsks" "FIRST_SETTINGS" "[I") ∈ wsL_law := wr_1 _ (List.mem_of_getElem? (i := 17) rfl)
theorem wm_1_18 : (Cond.methodLink RX7 13 ⟨"[I", "clone", "()Ljava/lang/Object;"⟩) ∈ wsL_law := wr_1 _ (List.mem_of_getElem? (i := 18) rfl)
theorem wm_1_19 : (Cond.sameMethod "[I" "java/lang/Object" "clone" "()Ljava/lang/Object;") ∈ wsL_law := wr_1 _ (List.mem_of_getElem? (i := 19) rfl)
theorem wm_1_20 : (Cond.native ⟨"java/lang/Object", "clone", "()Ljava/lang/Object;"⟩) ∈ wsL_law := wr_1 _ (List.mem_of_getElem? (i := 20) rfl)
theorem wm_1_21 : (Cond.instanceMethod ⟨"java/lang/Object", "clone", "()Ljava/lang/Object;"⟩) ∈ wsL_law := wr_1 _ (List.mem_of_getElem? (i := 21) rfl)
theorem wm_1_22 : (Cond.selects "[I" ⟨"[I", "clone", "()Ljava/lang/Object;"⟩ ⟨"java/lang/Object", "clone", "()Ljava/lang/Object;"⟩) ∈ wsL_law := wr_1 _ (List.mem_of_getElem? (i := 22) rfl)
theorem wm_1_23 : (Cond.classLink RX7 14 "[I") ∈ wsL_law := wr_1 _ (List.mem_of_getElem? (i := 23) rfl)
theorem wm_2_0 : (Cond.fieldLink RX7 18 "OutsideAsks" "settings" "[I") ∈ wsL_law := wr_2 _ (List.mem_of_getElem? (i := 0) rfl)
theorem wm_2_1 : (Cond.classLink RX7 21 RX0) ∈ wsL_law := wr_2 _ (List.mem_of_getElem? (i := 1) rfl)
theorem wm_2_2 : (Cond.instantiable RX0 4) ∈ wsL_law := wr_2 _ (List.mem_of_getElem? (i := 2) rfl)
theorem wm_2_3 : (Cond.initialized RX0) ∈ wsL_law := wr_2 _ (List.mem_of_getElem? (i := 3) rfl)
theorem wm_2_4 : (Cond.fieldLink RX7 24 "OutsideAsks" "items" "LOutsideAsks$Items;") ∈ wsL_law := wr_2 _ (List.mem_of_getElem? (i := 4) rfl)
theorem wm_2_5 : (Cond.classLink RX7 28 RX4) ∈ wsL_law := wr_2 _ (List.mem_of_getElem? (i := 5) rfl)
theorem wm_2_6 : (Cond.instantiable RX4 7) ∈ wsL_law := wr_2 _ (List.mem_of_getElem? (i := 6) rfl)
theorem wm_2_7 : (Cond.initialized RX4) ∈ wsL_law := wr_2 _ (List.mem_of_getElem? (i := 7) rfl)
theorem wm_2_8 : (Cond.fieldLink RX7 31 "OutsideAsks" "live" "LOutsideAsks$Progress;") ∈ wsL_law := wr_2 _ (List.mem_of_getElem? (i := 8) rfl)
theorem wm_2_9 : (Cond.fieldLink RX7 35 "OutsideAsks" "saved" "LOutsideAsks$Progress;") ∈ wsL_law := wr_2 _ (List.mem_of_getElem? (i := 9) rfl)
theorem wm_2_10 : (Cond.classLink RX7 38 RX3) ∈ wsL_law := wr_2 _ (List.mem_of_getElem? (i := 10) rfl)
theorem wm_2_11 : (Cond.instantiable RX3 2) ∈ wsL_law := wr_2 _ (List.mem_of_getElem? (i := 11) rfl)
theorem wm_2_12 : (Cond.initialized RX3) ∈ wsL_law := wr_2 _ (List.mem_of_getElem? (i := 12) rfl)
theorem wm_2_13 : (Cond.fieldLink RX7 41 "OutsideAsks" "outLog" "LOutsideAsks$OutLog;") ∈ wsL_law := wr_2 _ (List.mem_of_getElem? (i := 13) rfl)
theorem wm_2_14 : (Cond.classLink RX7 45 RX5) ∈ wsL_law := wr_2 _ (List.mem_of_getElem? (i := 14) rfl)
theorem wm_2_15 : (Cond.instantiable RX5 2) ∈ wsL_law := wr_2 _ (List.mem_of_getElem? (i := 15) rfl)
theorem wm_2_16 : (Cond.initialized RX5) ∈ wsL_law := wr_2 _ (List.mem_of_getElem? (i := 16) rfl)
theorem wm_2_17 : (Cond.fieldLink RX7 48 "OutsideAsks" "working" "LOutsideAsks$RowList;") ∈ wsL_law := wr_2 _ (List.mem_of_getElem? (i := 17) rfl)
theorem wm_2_18 : (Cond.fieldLink RX7 52 "OutsideAsks" "queue" "LOutsideAsks$RowList;") ∈ wsL_law := wr_2 _ (List.mem_of_getElem? (i := 18) rfl)
theorem wm_2_19 : (Cond.fieldLink RX7 55 "OutsideAsks" "overdue" "LOutsideAsks$RowList;") ∈ wsL_law := wr_2 _ (List.mem_of_getElem? (i := 19) rfl)
theorem wm_2_20 : (Cond.classLink RX7 58 RX2) ∈ wsL_law := wr_2 _ (List.mem_of_getElem? (i := 20) rfl)
theorem wm_2_21 : (Cond.instantiable RX2 4) ∈ wsL_law := wr_2 _ (List.mem_of_getElem? (i := 21) rfl)
theorem wm_2_22 : (Cond.initialized RX2) ∈ wsL_law := wr_2 _ (List.mem_of_getElem? (i := 22) rfl)
theorem wm_2_23 : (Cond.fieldLink RX7 61 "OutsideAsks" "asks" "LOutsideAsks$Line;") ∈ wsL_law := wr_2 _ (List.mem_of_getElem? (i := 23) rfl)
theorem wm_3_0 : (Cond.fieldLink RX7 65 "OutsideAsks" "answers" "LOutsideAsks$Line;") ∈ wsL_law := wr_3 _ (List.mem_of_getElem? (i := 0) rfl)
theorem wm_3_1 : (Cond.classLink RX7 68 RX6) ∈ wsL_law := wr_3 _ (List.mem_of_getElem? (i := 1) rfl)
theorem wm_3_2 : (Cond.instantiable RX6 3) ∈ wsL_law := wr_3 _ (List.mem_of_getElem? (i := 2) rfl)
theorem wm_3_3 : (Cond.initialized RX6) ∈ wsL_law := wr_3 _ (List.mem_of_getElem? (i := 3) rfl)
theorem wm_3_4 : (Cond.fieldLink RX7 71 "OutsideAsks" "service" "LOutsideAsks$Service;") ∈ wsL_law := wr_3 _ (List.mem_of_getElem? (i := 4) rfl)
theorem wm_3_5 : (Cond.classLink RX7 75 RX1) ∈ wsL_law := wr_3 _ (List.mem_of_getElem? (i := 5) rfl)
theorem wm_3_6 : (Cond.instantiable RX1 4) ∈ wsL_law := wr_3 _ (List.mem_of_getElem? (i := 6) rfl)
theorem wm_3_7 : (Cond.initialized RX1) ∈ wsL_law := wr_3 _ (List.mem_of_getElem? (i := 7) rfl)
theorem wm_3_8 : (Cond.fieldLink RX7 78 "OutsideAsks" "keptAnswers" "LOutsideAsks$KeptAnswers;") ∈ wsL_law := wr_3 _ (List.mem_of_getElem? (i := 8) rfl)
theorem wm_3_9 : (Cond.fieldLink RX7 82 "OutsideAsks" "now" "I") ∈ wsL_law := wr_3 _ (List.mem_of_getElem? (i := 9) rfl)
theorem wm_3_10 : (Cond.fieldLink RX7 86 "OutsideAsks" "sentNow" "I") ∈ wsL_law := wr_3 _ (List.mem_of_getElem? (i := 10) rfl)
theorem wm_3_11 : (Cond.fieldLink RX7 89 "OutsideAsks" "sentInAll" "I") ∈ wsL_law := wr_3 _ (List.mem_of_getElem? (i := 11) rfl)
theorem wm_3_12 : (Cond.fieldLink RX7 92 "OutsideAsks" "restarts" "I") ∈ wsL_law := wr_3 _ (List.mem_of_getElem? (i := 12) rfl)
theorem wm_3_13 : (Cond.methodLink RX7 95 Lib.Math.min.name) ∈ wsL_law := wr_3 _ (List.mem_of_getElem? (i := 13) rfl)
theorem wm_3_14 : (Cond.static Lib.Math.min.name) ∈ wsL_law := wr_3 _ (List.mem_of_getElem? (i := 14) rfl)
theorem wm_3_15 : (Cond.initialized "java/lang/Math") ∈ wsL_law := wr_3 _ (List.mem_of_getElem? (i := 15) rfl)
theorem wm_3_16 : (Cond.code Lib.Math.min.name Lib.Math.min.code 2 (some .int)) ∈ wsL_law := wr_3 _ (List.mem_of_getElem? (i := 16) rfl)
theorem wm_3_17 : (Cond.methodLink RX7 101 Lib.Math.max.name) ∈ wsL_law := wr_3 _ (List.mem_of_getElem? (i := 17) rfl)
theorem wm_3_18 : (Cond.static Lib.Math.max.name) ∈ wsL_law := wr_3 _ (List.mem_of_getElem? (i := 18) rfl)
theorem wm_3_19 : (Cond.code Lib.Math.max.name Lib.Math.max.code 2 (some .int)) ∈ wsL_law := wr_3 _ (List.mem_of_getElem? (i := 19) rfl)
theorem wm_3_20 : (Cond.fieldLink RX7 104 "OutsideAsks" "most" "I") ∈ wsL_law := wr_3 _ (List.mem_of_getElem? (i := 20) rfl)
theorem wm_3_21 : (Cond.fieldLink RX7 107 "OutsideAsks" "ordered" "Z") ∈ wsL_law := wr_3 _ (List.mem_of_getElem? (i := 21) rfl)
theorem wm_3_22 : (Cond.instanceMethod yX0_init) ∈ wsL_law := wr_3 _ (List.mem_of_getElem? (i := 22) rfl)
theorem wm_3_23 : (Cond.code yX0_init cX0_init 1 none) ∈ wsL_law := wr_3 _ (List.mem_of_getElem? (i := 23) rfl)
theorem wm_4_0 : (Cond.methodLink RX0 3 objectInit) ∈ wsL_law := wr_4 _ (List.mem_of_getElem? (i := 0) rfl)
theorem wm_4_1 : (Cond.arrayClass .long) ∈ wsL_law := wr_4 _ (List.mem_of_getElem? (i := 1) rfl)
theorem wm_4_2 : (Cond.fieldLink RX0 9 "OutsideAsks$Items" "keys" "[J") ∈ wsL_law := wr_4 _ (List.mem_of_getElem? (i := 2) rfl)
theorem wm_4_3 : (Cond.fieldLink RX0 15 "OutsideAsks$Items" "values" "[J") ∈ wsL_law := wr_4 _ (List.mem_of_getElem? (i := 3) rfl)
theorem wm_4_4 : (Cond.arrayClass .boolean) ∈ wsL_law := wr_4 _ (List.mem_of_getElem? (i := 4) rfl)
theorem wm_4_5 : (Cond.fieldLink RX0 18 "OutsideAsks$Items" "marks" "[Z") ∈ wsL_law := wr_4 _ (List.mem_of_getElem? (i := 5) rfl)
theorem wm_4_6 : (Cond.arrayClass .int) ∈ wsL_law := wr_4 _ (List.mem_of_getElem? (i := 6) rfl)
theorem wm_4_7 : (Cond.fieldLink RX0 22 "OutsideAsks$Items" "dues" "[I") ∈ wsL_law := wr_4 _ (List.mem_of_getElem? (i := 7) rfl)
theorem wm_4_8 : (Cond.instanceMethod yX4_init) ∈ wsL_law := wr_4 _ (List.mem_of_getElem? (i := 8) rfl)
theorem wm_4_9 : (Cond.code yX4_init cX4_init 1 none) ∈ wsL_law := wr_4 _ (List.mem_of_getElem? (i := 9) rfl)
theorem wm_4_10 : (Cond.methodLink RX4 3 objectInit) ∈ wsL_law := wr_4 _ (List.mem_of_getElem? (i := 10) rfl)
theorem wm_4_11 : (Cond.fieldLink RX4 9 "OutsideAsks$Progress" "states" "[I") ∈ wsL_law := wr_4 _ (List.mem_of_getElem? (i := 11) rfl)
theorem wm_4_12 : (Cond.fieldLink RX4 15 "OutsideAsks$Progress" "results" "[I") ∈ wsL_law := wr_4 _ (List.mem_of_getElem? (i := 12) rfl)
theorem wm_4_13 : (Cond.fieldLink RX4 18 "OutsideAsks$Progress" "tries" "[I") ∈ wsL_law := wr_4 _ (List.mem_of_getElem? (i := 13) rfl)
theorem wm_4_14 : (Cond.fieldLink RX4 21 "OutsideAsks$Progress" "settledValues" "[J") ∈ wsL_law := wr_4 _ (List.mem_of_getElem? (i := 14) rfl)
theorem wm_4_15 : (Cond.fieldLink RX4 25 "OutsideAsks$Progress" "tally" "[I") ∈ wsL_law := wr_4 _ (List.mem_of_getElem? (i := 15) rfl)
theorem wm_4_16 : (Cond.fieldLink RX4 28 "OutsideAsks$Progress" "items" "I") ∈ wsL_law := wr_4 _ (List.mem_of_getElem? (i := 16) rfl)
theorem wm_4_17 : (Cond.fieldLink RX4 32 "OutsideAsks$Progress" "outs" "I") ∈ wsL_law := wr_4 _ (List.mem_of_getElem? (i := 17) rfl)
theorem wm_4_18 : (Cond.instanceMethod yX3_init) ∈ wsL_law := wr_4 _ (List.mem_of_getElem? (i := 18) rfl)
theorem wm_4_19 : (Cond.code yX3_init cX3_init 1 none) ∈ wsL_law := wr_4 _ (List.mem_of_getElem? (i := 19) rfl)
theorem wm_4_20 : (Cond.methodLink RX3 3 objectInit) ∈ wsL_law := wr_4 _ (List.mem_of_getElem? (i := 20) rfl)
theorem wm_4_21 : (Cond.fieldLink RX3 9 "OutsideAsks$OutLog" "items" "[I") ∈ wsL_law := wr_4 _ (List.mem_of_getElem? (i := 21) rfl)
theorem wm_4_22 : (Cond.fieldLink RX3 15 "OutsideAsks$OutLog" "ticks" "[I") ∈ wsL_law := wr_4 _ (List.mem_of_getElem? (i := 22) rfl)
theorem wm_4_23 : (Cond.instanceMethod yX5_init) ∈ wsL_law := wr_4 _ (List.mem_of_getElem? (i := 23) rfl)
theorem wm_5_0 : (Cond.code yX5_init cX5_init 1 none) ∈ wsL_law := wr_5 _ (List.mem_of_getElem? (i := 0) rfl)
theorem wm_5_1 : (Cond.methodLink RX5 3 objectInit) ∈ wsL_law := wr_5 _ (List.mem_of_getElem? (i := 1) rfl)
theorem wm_5_2 : (Cond.fieldLink RX5 9 "OutsideAsks$RowList" "rows" "[I") ∈ wsL_law := wr_5 _ (List.mem_of_getElem? (i := 2) rfl)
theorem wm_5_3 : (Cond.fieldLink RX5 15 "OutsideAsks$RowList" "size" "I") ∈ wsL_law := wr_5 _ (List.mem_of_getElem? (i := 3) rfl)
theorem wm_5_4 : (Cond.instanceMethod yX2_init) ∈ wsL_law := wr_5 _ (List.mem_of_getElem? (i := 4) rfl)
theorem wm_5_5 : (Cond.code yX2_init cX2_init 1 none) ∈ wsL_law := wr_5 _ (List.mem_of_getElem? (i := 5) rfl)
theorem wm_5_6 : (Cond.methodLink RX2 3 objectInit) ∈ wsL_law := wr_5 _ (List.mem_of_getElem? (i := 6) rfl)
theorem wm_5_7 : (Cond.fieldLink RX2 9 "OutsideAsks$Line" "rows" "[I") ∈ wsL_law := wr_5 _ (List.mem_of_getElem? (i := 7) rfl)
theorem wm_5_8 : (Cond.fieldLink RX2 15 "OutsideAsks$Line" "causes" "[I") ∈ wsL_law := wr_5 _ (List.mem_of_getElem? (i := 8) rfl)
theorem wm_5_9 : (Cond.fieldLink RX2 18 "OutsideAsks$Line" "values" "[J") ∈ wsL_law := wr_5 _ (List.mem_of_getElem? (i := 9) rfl)
theorem wm_5_10 : (Cond.fieldLink RX2 22 "OutsideAsks$Line" "size" "I") ∈ wsL_law := wr_5 _ (List.mem_of_getElem? (i := 10) rfl)
theorem wm_5_11 : (Cond.instanceMethod yX6_init) ∈ wsL_law := wr_5 _ (List.mem_of_getElem? (i := 11) rfl)
theorem wm_5_12 : (Cond.code yX6_init cX6_init 1 none) ∈ wsL_law := wr_5 _ (List.mem_of_getElem? (i := 12) rfl)
theorem wm_5_13 : (Cond.methodLink RX6 3 objectInit) ∈ wsL_law := wr_5 _ (List.mem_of_getElem? (i := 13) rfl)
theorem wm_5_14 : (Cond.fieldLink RX6 9 "OutsideAsks$Service" "keys" "[J") ∈ wsL_law := wr_5 _ (List.mem_of_getElem? (i := 14) rfl)
theorem wm_5_15 : (Cond.fieldLink RX6 15 "OutsideAsks$Service" "acts" "[I") ∈ wsL_law := wr_5 _ (List.mem_of_getElem? (i := 15) rfl)
theorem wm_5_16 : (Cond.fieldLink RX6 19 "OutsideAsks$Service" "latestAnswers" "[J") ∈ wsL_law := wr_5 _ (List.mem_of_getElem? (i := 16) rfl)
theorem wm_5_17 : (Cond.instanceMethod yX1_init) ∈ wsL_law := wr_5 _ (List.mem_of_getElem? (i := 17) rfl)
theorem wm_5_18 : (Cond.code yX1_init cX1_init 1 none) ∈ wsL_law := wr_5 _ (List.mem_of_getElem? (i := 18) rfl)
theorem wm_5_19 : (Cond.methodLink RX1 3 objectInit) ∈ wsL_law := wr_5 _ (List.mem_of_getElem? (i := 19) rfl)
theorem wm_5_20 : (Cond.fieldLink RX1 9 "OutsideAsks$KeptAnswers" "keys" "[J") ∈ wsL_law := wr_5 _ (List.mem_of_getElem? (i := 20) rfl)
theorem wm_5_21 : (Cond.fieldLink RX1 15 "OutsideAsks$KeptAnswers" "values" "[J") ∈ wsL_law := wr_5 _ (List.mem_of_getElem? (i := 21) rfl)
theorem wm_5_22 : (Cond.fieldLink RX1 18 "OutsideAsks$KeptAnswers" "ends" "[I") ∈ wsL_law := wr_5 _ (List.mem_of_getElem? (i := 22) rfl)
theorem wm_5_23 : (Cond.fieldLink RX1 22 "OutsideAsks$KeptAnswers" "size" "I") ∈ wsL_law := wr_5 _ (List.mem_of_getElem? (i := 23) rfl)
theorem wm_6_0 : (Cond.methodLink RL 20 yX8_init) ∈ wsL_law := wr_6 _ (List.mem_of_getElem? (i := 0) rfl)
theorem wm_6_1 : (Cond.instanceMethod yX8_init) ∈ wsL_law := wr_6 _ (List.mem_of_getElem? (i := 1) rfl)
theorem wm_6_2 : (Cond.code yX8_init cX8_init 3 none) ∈ wsL_law := wr_6 _ (List.mem_of_getElem? (i := 2) rfl)
theorem wm_6_3 : (Cond.methodLink RX8 1 objectInit) ∈ wsL_law := wr_6 _ (List.mem_of_getElem? (i := 3) rfl)
theorem wm_6_4 : (Cond.fieldLink RX8 7 "OutsideAsksModel" "settings" "[I") ∈ wsL_law := wr_6 _ (List.mem_of_getElem? (i := 4) rfl)
theorem wm_6_5 : (Cond.fieldLink RX8 13 "OutsideAsksModel" "isMark" "[Z") ∈ wsL_law := wr_6 _ (List.mem_of_getElem? (i := 5) rfl)
theorem wm_6_6 : (Cond.fieldLink RX8 17 "OutsideAsksModel" "key" "[J") ∈ wsL_law := wr_6 _ (List.mem_of_getElem? (i := 6) rfl)
theorem wm_6_7 : (Cond.fieldLink RX8 21 "OutsideAsksModel" "worth" "[J") ∈ wsL_law := wr_6 _ (List.mem_of_getElem? (i := 7) rfl)
theorem wm_6_8 : (Cond.fieldLink RX8 24 "OutsideAsksModel" "state" "[I") ∈ wsL_law := wr_6 _ (List.mem_of_getElem? (i := 8) rfl)
theorem wm_6_9 : (Cond.fieldLink RX8 27 "OutsideAsksModel" "result" "[I") ∈ wsL_law := wr_6 _ (List.mem_of_getElem? (i := 9) rfl)
theorem wm_6_10 : (Cond.fieldLink RX8 30 "OutsideAsksModel" "told" "[J") ∈ wsL_law := wr_6 _ (List.mem_of_getElem? (i := 10) rfl)
theorem wm_6_11 : (Cond.fieldLink RX8 33 "OutsideAsksModel" "tries" "[I") ∈ wsL_law := wr_6 _ (List.mem_of_getElem? (i := 11) rfl)
theorem wm_6_12 : (Cond.fieldLink RX8 36 "OutsideAsksModel" "due" "[I") ∈ wsL_law := wr_6 _ (List.mem_of_getElem? (i := 12) rfl)
theorem wm_6_13 : (Cond.fieldLink RX8 39 "OutsideAsksModel" "queue" "[I") ∈ wsL_law := wr_6 _ (List.mem_of_getElem? (i := 13) rfl)
theorem wm_6_14 : (Cond.fieldLink RX8 42 "OutsideAsksModel" "outItem" "[I") ∈ wsL_law := wr_6 _ (List.mem_of_getElem? (i := 14) rfl)
theorem wm_6_15 : (Cond.fieldLink RX8 45 "OutsideAsksModel" "outTick" "[I") ∈ wsL_law := wr_6 _ (List.mem_of_getElem? (i := 15) rfl)
theorem wm_6_16 : (Cond.fieldLink RX8 48 "OutsideAsksModel" "under" "[I") ∈ wsL_law := wr_6 _ (List.mem_of_getElem? (i := 16) rfl)
theorem wm_6_17 : (Cond.fieldLink RX8 51 "OutsideAsksModel" "cause" "[I") ∈ wsL_law := wr_6 _ (List.mem_of_getElem? (i := 17) rfl)
theorem wm_6_18 : (Cond.fieldLink RX8 54 "OutsideAsksModel" "brings" "[J") ∈ wsL_law := wr_6 _ (List.mem_of_getElem? (i := 18) rfl)
theorem wm_6_19 : (Cond.fieldLink RX8 57 "OutsideAsksModel" "length" "[I") ∈ wsL_law := wr_6 _ (List.mem_of_getElem? (i := 19) rfl)
theorem wm_6_20 : (Cond.fieldLink RX8 60 "OutsideAsksModel" "acted" "[I") ∈ wsL_law := wr_6 _ (List.mem_of_getElem? (i := 20) rfl)
theorem wm_6_21 : (Cond.fieldLink RX8 63 "OutsideAsksModel" "isAnswered" "[Z") ∈ wsL_law := wr_6 _ (List.mem_of_getElem? (i := 21) rfl)
theorem wm_6_22 : (Cond.fieldLink RX8 66 "OutsideAsksModel" "answered" "[J") ∈ wsL_law := wr_6 _ (List.mem_of_getElem? (i := 22) rfl)
theorem wm_6_23 : (Cond.fieldLink RX8 69 "OutsideAsksModel" "keptKey" "[J") ∈ wsL_law := wr_6 _ (List.mem_of_getElem? (i := 23) rfl)
theorem wm_7_0 : (Cond.fieldLink RX8 72 "OutsideAsksModel" "keptValue" "[J") ∈ wsL_law := wr_7 _ (List.mem_of_getElem? (i := 0) rfl)
theorem wm_7_1 : (Cond.fieldLink RX8 75 "OutsideAsksModel" "keptEnd" "[I") ∈ wsL_law := wr_7 _ (List.mem_of_getElem? (i := 1) rfl)
theorem wm_7_2 : (Cond.fieldLink RX8 78 "OutsideAsksModel" "savedState" "[I") ∈ wsL_law := wr_7 _ (List.mem_of_getElem? (i := 2) rfl)
theorem wm_7_3 : (Cond.fieldLink RX8 81 "OutsideAsksModel" "savedResult" "[I") ∈ wsL_law := wr_7 _ (List.mem_of_getElem? (i := 3) rfl)
theorem wm_7_4 : (Cond.fieldLink RX8 84 "OutsideAsksModel" "savedTold" "[J") ∈ wsL_law := wr_7 _ (List.mem_of_getElem? (i := 4) rfl)
theorem wm_7_5 : (Cond.fieldLink RX8 87 "OutsideAsksModel" "savedTries" "[I") ∈ wsL_law := wr_7 _ (List.mem_of_getElem? (i := 5) rfl)
theorem wm_7_6 : (Cond.fieldLink RX8 90 "OutsideAsksModel" "most" "I") ∈ wsL_law := wr_7 _ (List.mem_of_getElem? (i := 6) rfl)
theorem wm_7_7 : (Cond.fieldLink RX8 94 "OutsideAsksModel" "isOrdered" "Z") ∈ wsL_law := wr_7 _ (List.mem_of_getElem? (i := 7) rfl)
theorem wm_7_8 : (Cond.methodLink RL 21 yX7_set) ∈ wsL_law := wr_7 _ (List.mem_of_getElem? (i := 8) rfl)
theorem wm_7_9 : (Cond.instanceMethod yX7_set) ∈ wsL_law := wr_7 _ (List.mem_of_getElem? (i := 9) rfl)
theorem wm_7_10 : (Cond.selects RX7 yX7_set yX7_set) ∈ wsL_law := wr_7 _ (List.mem_of_getElem? (i := 10) rfl)
theorem wm_7_11 : (Cond.code yX7_set cX7_set 4 (some .int)) ∈ wsL_law := wr_7 _ (List.mem_of_getElem? (i := 11) rfl)
theorem wm_7_12 : (Cond.fieldLink RX7 111 "OutsideAsks" "LEAST_SETTINGS" "[I") ∈ wsL_law := wr_7 _ (List.mem_of_getElem? (i := 12) rfl)
theorem wm_7_13 : (Cond.fieldLink RX7 114 "OutsideAsks" "GREATEST_SETTINGS" "[I") ∈ wsL_law := wr_7 _ (List.mem_of_getElem? (i := 13) rfl)
theorem wm_7_14 : (Cond.methodLink RX7 117 yX7_goOn) ∈ wsL_law := wr_7 _ (List.mem_of_getElem? (i := 14) rfl)
theorem wm_7_15 : (Cond.instanceMethod yX7_goOn) ∈ wsL_law := wr_7 _ (List.mem_of_getElem? (i := 15) rfl)
theorem wm_7_16 : (Cond.selects RX7 yX7_goOn yX7_goOn) ∈ wsL_law := wr_7 _ (List.mem_of_getElem? (i := 16) rfl)
theorem wm_7_17 : (Cond.code yX7_goOn cX7_goOn 1 none) ∈ wsL_law := wr_7 _ (List.mem_of_getElem? (i := 17) rfl)
theorem wm_7_18 : (Cond.methodLink RX7 237 yX7_startWaitingRows) ∈ wsL_law := wr_7 _ (List.mem_of_getElem? (i := 18) rfl)
theorem wm_7_19 : (Cond.instanceMethod yX7_startWaitingRows) ∈ wsL_law := wr_7 _ (List.mem_of_getElem? (i := 19) rfl)
theorem wm_7_20 : (Cond.selects RX7 yX7_startWaitingRows yX7_startWaitingRows) ∈ wsL_law := wr_7 _ (List.mem_of_getElem? (i := 20) rfl)
theorem wm_7_21 : (Cond.code yX7_startWaitingRows cX7_startWaitingRows 2 none) ∈ wsL_law := wr_7 _ (List.mem_of_getElem? (i := 21) rfl)
theorem wm_7_22 : (Cond.methodLink RX7 173 yX4_stateOf) ∈ wsL_law := wr_7 _ (List.mem_of_getElem? (i := 22) rfl)
theorem wm_7_23 : (Cond.instanceMethod yX4_stateOf) ∈ wsL_law := wr_7 _ (List.mem_of_getElem? (i := 23) rfl)
theorem wm_8_0 : (Cond.selects RX4 yX4_stateOf yX4_stateOf) ∈ wsL_law := wr_8 _ (List.mem_of_getElem? (i := 0) rfl)
theorem wm_8_1 : (Cond.code yX4_stateOf cX4_stateOf 2 (some .int)) ∈ wsL_law := wr_8 _ (List.mem_of_getElem? (i := 1) rfl)
theorem wm_8_2 : (Cond.methodLink RX4 35 yX4_hasItem) ∈ wsL_law := wr_8 _ (List.mem_of_getElem? (i := 2) rfl)
theorem wm_8_3 : (Cond.instanceMethod yX4_hasItem) ∈ wsL_law := wr_8 _ (List.mem_of_getElem? (i := 3) rfl)
theorem wm_8_4 : (Cond.selects RX4 yX4_hasItem yX4_hasItem) ∈ wsL_law := wr_8 _ (List.mem_of_getElem? (i := 4) rfl)
theorem wm_8_5 : (Cond.code yX4_hasItem cX4_hasItem 2 (some .boolean)) ∈ wsL_law := wr_8 _ (List.mem_of_getElem? (i := 5) rfl)
theorem wm_8_6 : (Cond.methodLink RX7 246 yX7_startRow) ∈ wsL_law := wr_8 _ (List.mem_of_getElem? (i := 6) rfl)
theorem wm_8_7 : (Cond.instanceMethod yX7_startRow) ∈ wsL_law := wr_8 _ (List.mem_of_getElem? (i := 7) rfl)
theorem wm_8_8 : (Cond.selects RX7 yX7_startRow yX7_startRow) ∈ wsL_law := wr_8 _ (List.mem_of_getElem? (i := 8) rfl)
theorem wm_8_9 : (Cond.code yX7_startRow cX7_startRow 4 none) ∈ wsL_law := wr_8 _ (List.mem_of_getElem? (i := 9) rfl)
theorem wm_8_10 : (Cond.methodLink RX7 149 yX0_keyOf) ∈ wsL_law := wr_8 _ (List.mem_of_getElem? (i := 10) rfl)
theorem wm_8_11 : (Cond.instanceMethod yX0_keyOf) ∈ wsL_law := wr_8 _ (List.mem_of_getElem? (i := 11) rfl)
theorem wm_8_12 : (Cond.selects RX0 yX0_keyOf yX0_keyOf) ∈ wsL_law := wr_8 _ (List.mem_of_getElem? (i := 12) rfl)
theorem wm_8_13 : (Cond.code yX0_keyOf cX0_keyOf 2 (some .long)) ∈ wsL_law := wr_8 _ (List.mem_of_getElem? (i := 13) rfl)
theorem wm_8_14 : (Cond.methodLink RX0 26 yX0_mayHave) ∈ wsL_law := wr_8 _ (List.mem_of_getElem? (i := 14) rfl)
theorem wm_8_15 : (Cond.instanceMethod yX0_mayHave) ∈ wsL_law := wr_8 _ (List.mem_of_getElem? (i := 15) rfl)
theorem wm_8_16 : (Cond.selects RX0 yX0_mayHave yX0_mayHave) ∈ wsL_law := wr_8 _ (List.mem_of_getElem? (i := 16) rfl)
theorem wm_8_17 : (Cond.code yX0_mayHave cX0_mayHave 2 (some .boolean)) ∈ wsL_law := wr_8 _ (List.mem_of_getElem? (i := 17) rfl)
theorem wm_8_18 : (Cond.methodLink RX7 216 yX1_endOf) ∈ wsL_law := wr_8 _ (List.mem_of_getElem? (i := 18) rfl)
theorem wm_8_19 : (Cond.instanceMethod yX1_endOf) ∈ wsL_law := wr_8 _ (List.mem_of_getElem? (i := 19) rfl)
theorem wm_8_20 : (Cond.selects RX1 yX1_endOf yX1_endOf) ∈ wsL_law := wr_8 _ (List.mem_of_getElem? (i := 20) rfl)
theorem wm_8_21 : (Cond.code yX1_endOf cX1_endOf 4 (some .int)) ∈ wsL_law := wr_8 _ (List.mem_of_getElem? (i := 21) rfl)
theorem wm_8_22 : (Cond.methodLink RX1 26 yX1_find) ∈ wsL_law := wr_8 _ (List.mem_of_getElem? (i := 22) rfl)
theorem wm_8_23 : (Cond.instanceMethod yX1_find) ∈ wsL_law := wr_8 _ (List.mem_of_getElem? (i := 23) rfl)
theorem wm_9_0 : (Cond.selects RX1 yX1_find yX1_find) ∈ wsL_law := wr_9 _ (List.mem_of_getElem? (i := 0) rfl)
theorem wm_9_1 : (Cond.code yX1_find cX1_find 4 (some .int)) ∈ wsL_law := wr_9 _ (List.mem_of_getElem? (i := 1) rfl)
theorem wm_9_2 : (Cond.methodLink RX7 249 yX1_valueOf) ∈ wsL_law := wr_9 _ (List.mem_of_getElem? (i := 2) rfl)
theorem wm_9_3 : (Cond.instanceMethod yX1_valueOf) ∈ wsL_law := wr_9 _ (List.mem_of_getElem? (i := 3) rfl)
theorem wm_9_4 : (Cond.selects RX1 yX1_valueOf yX1_valueOf) ∈ wsL_law := wr_9 _ (List.mem_of_getElem? (i := 4) rfl)
theorem wm_9_5 : (Cond.code yX1_valueOf cX1_valueOf 4 (some .long)) ∈ wsL_law := wr_9 _ (List.mem_of_getElem? (i := 5) rfl)
theorem wm_9_6 : (Cond.methodLink RX7 252 yX4_settleRow) ∈ wsL_law := wr_9 _ (List.mem_of_getElem? (i := 6) rfl)
theorem wm_9_7 : (Cond.instanceMethod yX4_settleRow) ∈ wsL_law := wr_9 _ (List.mem_of_getElem? (i := 7) rfl)
theorem wm_9_8 : (Cond.selects RX4 yX4_settleRow yX4_settleRow) ∈ wsL_law := wr_9 _ (List.mem_of_getElem? (i := 8) rfl)
theorem wm_9_9 : (Cond.code yX4_settleRow cX4_settleRow 5 none) ∈ wsL_law := wr_9 _ (List.mem_of_getElem? (i := 9) rfl)
theorem wm_9_10 : (Cond.methodLink RX4 39 yX4_moveTo) ∈ wsL_law := wr_9 _ (List.mem_of_getElem? (i := 10) rfl)
theorem wm_9_11 : (Cond.instanceMethod yX4_moveTo) ∈ wsL_law := wr_9 _ (List.mem_of_getElem? (i := 11) rfl)
theorem wm_9_12 : (Cond.selects RX4 yX4_moveTo yX4_moveTo) ∈ wsL_law := wr_9 _ (List.mem_of_getElem? (i := 12) rfl)
theorem wm_9_13 : (Cond.code yX4_moveTo cX4_moveTo 3 none) ∈ wsL_law := wr_9 _ (List.mem_of_getElem? (i := 13) rfl)
theorem wm_9_14 : (Cond.methodLink RX7 255 yX4_startTrying) ∈ wsL_law := wr_9 _ (List.mem_of_getElem? (i := 14) rfl)
theorem wm_9_15 : (Cond.instanceMethod yX4_startTrying) ∈ wsL_law := wr_9 _ (List.mem_of_getElem? (i := 15) rfl)
theorem wm_9_16 : (Cond.selects RX4 yX4_startTrying yX4_startTrying) ∈ wsL_law := wr_9 _ (List.mem_of_getElem? (i := 16) rfl)
theorem wm_9_17 : (Cond.code yX4_startTrying cX4_startTrying 2 none) ∈ wsL_law := wr_9 _ (List.mem_of_getElem? (i := 17) rfl)
theorem wm_9_18 : (Cond.methodLink RX7 258 yX5_append) ∈ wsL_law := wr_9 _ (List.mem_of_getElem? (i := 18) rfl)
theorem wm_9_19 : (Cond.instanceMethod yX5_append) ∈ wsL_law := wr_9 _ (List.mem_of_getElem? (i := 19) rfl)
theorem wm_9_20 : (Cond.selects RX5 yX5_append yX5_append) ∈ wsL_law := wr_9 _ (List.mem_of_getElem? (i := 20) rfl)
theorem wm_9_21 : (Cond.code yX5_append cX5_append 2 none) ∈ wsL_law := wr_9 _ (List.mem_of_getElem? (i := 21) rfl)
theorem wm_9_22 : (Cond.methodLink RX7 240 yX7_sendQueuedAsks) ∈ wsL_law := wr_9 _ (List.mem_of_getElem? (i := 22) rfl)
theorem wm_9_23 : (Cond.instanceMethod yX7_sendQueuedAsks) ∈ wsL_law := wr_9 _ (List.mem_of_getElem? (i := 23) rfl)
theorem wm_10_0 : (Cond.selects RX7 yX7_sendQueuedAsks yX7_sendQueuedAsks) ∈ wsL_law := wr_10 _ (List.mem_of_getElem? (i := 0) rfl)
theorem wm_10_1 : (Cond.code yX7_sendQueuedAsks cX7_sendQueuedAsks 2 none) ∈ wsL_law := wr_10 _ (List.mem_of_getElem? (i := 1) rfl)
theorem wm_10_2 : (Cond.methodLink RX7 261 yX5_at) ∈ wsL_law := wr_10 _ (List.mem_of_getElem? (i := 2) rfl)
theorem wm_10_3 : (Cond.instanceMethod yX5_at) ∈ wsL_law := wr_10 _ (List.mem_of_getElem? (i := 3) rfl)
theorem wm_10_4 : (Cond.selects RX5 yX5_at yX5_at) ∈ wsL_law := wr_10 _ (List.mem_of_getElem? (i := 4) rfl)
theorem wm_10_5 : (Cond.code yX5_at cX5_at 2 (some .int)) ∈ wsL_law := wr_10 _ (List.mem_of_getElem? (i := 5) rfl)
theorem wm_10_6 : (Cond.methodLink RX7 264 yX5_removeAt) ∈ wsL_law := wr_10 _ (List.mem_of_getElem? (i := 6) rfl)
theorem wm_10_7 : (Cond.instanceMethod yX5_removeAt) ∈ wsL_law := wr_10 _ (List.mem_of_getElem? (i := 7) rfl)
theorem wm_10_8 : (Cond.selects RX5 yX5_removeAt yX5_removeAt) ∈ wsL_law := wr_10 _ (List.mem_of_getElem? (i := 8) rfl)
theorem wm_10_9 : (Cond.code yX5_removeAt cX5_removeAt 2 none) ∈ wsL_law := wr_10 _ (List.mem_of_getElem? (i := 9) rfl)
theorem wm_10_10 : (Cond.methodLink RX5 19 arraycopyName) ∈ wsL_law := wr_10 _ (List.mem_of_getElem? (i := 10) rfl)
theorem wm_10_11 : (Cond.native arraycopyName) ∈ wsL_law := wr_10 _ (List.mem_of_getElem? (i := 11) rfl)
theorem wm_10_12 : (Cond.static arraycopyName) ∈ wsL_law := wr_10 _ (List.mem_of_getElem? (i := 12) rfl)
theorem wm_10_13 : (Cond.initialized "java/lang/System") ∈ wsL_law := wr_10 _ (List.mem_of_getElem? (i := 13) rfl)
theorem wm_10_14 : (Cond.methodLink RX7 265 yX0_setDue) ∈ wsL_law := wr_10 _ (List.mem_of_getElem? (i := 14) rfl)
theorem wm_10_15 : (Cond.instanceMethod yX0_setDue) ∈ wsL_law := wr_10 _ (List.mem_of_getElem? (i := 15) rfl)
theorem wm_10_16 : (Cond.selects RX0 yX0_setDue yX0_setDue) ∈ wsL_law := wr_10 _ (List.mem_of_getElem? (i := 16) rfl)
theorem wm_10_17 : (Cond.code yX0_setDue cX0_setDue 3 none) ∈ wsL_law := wr_10 _ (List.mem_of_getElem? (i := 17) rfl)
theorem wm_10_18 : (Cond.methodLink RX7 163 yX2_setOut) ∈ wsL_law := wr_10 _ (List.mem_of_getElem? (i := 18) rfl)
theorem wm_10_19 : (Cond.instanceMethod yX2_setOut) ∈ wsL_law := wr_10 _ (List.mem_of_getElem? (i := 19) rfl)
theorem wm_10_20 : (Cond.selects RX2 yX2_setOut yX2_setOut) ∈ wsL_law := wr_10 _ (List.mem_of_getElem? (i := 20) rfl)
theorem wm_10_21 : (Cond.code yX2_setOut cX2_setOut 5 none) ∈ wsL_law := wr_10 _ (List.mem_of_getElem? (i := 21) rfl)
theorem wm_10_22 : (Cond.methodLink RX7 243 yX7_letItemsOut) ∈ wsL_law := wr_10 _ (List.mem_of_getElem? (i := 22) rfl)
theorem wm_10_23 : (Cond.instanceMethod yX7_letItemsOut) ∈ wsL_law := wr_10 _ (List.mem_of_getElem? (i := 23) rfl)
theorem wm_11_0 : (Cond.selects RX7 yX7_letItemsOut yX7_letItemsOut) ∈ wsL_law := wr_11 _ (List.mem_of_getElem? (i := 0) rfl)
theorem wm_11_1 : (Cond.code yX7_letItemsOut cX7_letItemsOut 4 none) ∈ wsL_law := wr_11 _ (List.mem_of_getElem? (i := 1) rfl)
theorem wm_11_2 : (Cond.methodLink RX7 206 yX0_isMark) ∈ wsL_law := wr_11 _ (List.mem_of_getElem? (i := 2) rfl)
theorem wm_11_3 : (Cond.instanceMethod yX0_isMark) ∈ wsL_law := wr_11 _ (List.mem_of_getElem? (i := 3) rfl)
theorem wm_11_4 : (Cond.selects RX0 yX0_isMark yX0_isMark) ∈ wsL_law := wr_11 _ (List.mem_of_getElem? (i := 4) rfl)
theorem wm_11_5 : (Cond.code yX0_isMark cX0_isMark 2 (some .boolean)) ∈ wsL_law := wr_11 _ (List.mem_of_getElem? (i := 5) rfl)
theorem wm_11_6 : (Cond.methodLink RX7 268 yX3_write) ∈ wsL_law := wr_11 _ (List.mem_of_getElem? (i := 6) rfl)
theorem wm_11_7 : (Cond.instanceMethod yX3_write) ∈ wsL_law := wr_11 _ (List.mem_of_getElem? (i := 7) rfl)
theorem wm_11_8 : (Cond.selects RX3 yX3_write yX3_write) ∈ wsL_law := wr_11 _ (List.mem_of_getElem? (i := 8) rfl)
theorem wm_11_9 : (Cond.code yX3_write cX3_write 4 none) ∈ wsL_law := wr_11 _ (List.mem_of_getElem? (i := 9) rfl)
theorem wm_11_10 : (Cond.methodLink RX7 272 yX4_goOut) ∈ wsL_law := wr_11 _ (List.mem_of_getElem? (i := 10) rfl)
theorem wm_11_11 : (Cond.instanceMethod yX4_goOut) ∈ wsL_law := wr_11 _ (List.mem_of_getElem? (i := 11) rfl)
theorem wm_11_12 : (Cond.selects RX4 yX4_goOut yX4_goOut) ∈ wsL_law := wr_11 _ (List.mem_of_getElem? (i := 12) rfl)
theorem wm_11_13 : (Cond.code yX4_goOut cX4_goOut 2 none) ∈ wsL_law := wr_11 _ (List.mem_of_getElem? (i := 13) rfl)
theorem wm_11_14 : (Cond.methodLink RL 25 yX8_set) ∈ wsL_law := wr_11 _ (List.mem_of_getElem? (i := 14) rfl)
theorem wm_11_15 : (Cond.instanceMethod yX8_set) ∈ wsL_law := wr_11 _ (List.mem_of_getElem? (i := 15) rfl)
theorem wm_11_16 : (Cond.selects RX8 yX8_set yX8_set) ∈ wsL_law := wr_11 _ (List.mem_of_getElem? (i := 16) rfl)
theorem wm_11_17 : (Cond.code yX8_set cX8_set 6 (some .int)) ∈ wsL_law := wr_11 _ (List.mem_of_getElem? (i := 17) rfl)
theorem wm_11_18 : (Cond.methodLink RX8 149 yX8_goOn) ∈ wsL_law := wr_11 _ (List.mem_of_getElem? (i := 18) rfl)
theorem wm_11_19 : (Cond.instanceMethod yX8_goOn) ∈ wsL_law := wr_11 _ (List.mem_of_getElem? (i := 19) rfl)
theorem wm_11_20 : (Cond.selects RX8 yX8_goOn yX8_goOn) ∈ wsL_law := wr_11 _ (List.mem_of_getElem? (i := 20) rfl)
theorem wm_11_21 : (Cond.code yX8_goOn cX8_goOn 3 none) ∈ wsL_law := wr_11 _ (List.mem_of_getElem? (i := 21) rfl)
theorem wm_11_22 : (Cond.fieldLink RX8 125 "OutsideAsksModel" "now" "I") ∈ wsL_law := wr_11 _ (List.mem_of_getElem? (i := 22) rfl)
theorem wm_11_23 : (Cond.fieldLink RX8 108 "OutsideAsksModel" "queued" "I") ∈ wsL_law := wr_11 _ (List.mem_of_getElem? (i := 23) rfl)
theorem wm_12_0 : (Cond.fieldLink RX8 132 "OutsideAsksModel" "sentNow" "I") ∈ wsL_law := wr_12 _ (List.mem_of_getElem? (i := 0) rfl)
theorem wm_12_1 : (Cond.fieldLink RX8 135 "OutsideAsksModel" "sentAll" "I") ∈ wsL_law := wr_12 _ (List.mem_of_getElem? (i := 1) rfl)
theorem wm_12_2 : (Cond.fieldLink RX8 146 "OutsideAsksModel" "outs" "I") ∈ wsL_law := wr_12 _ (List.mem_of_getElem? (i := 2) rfl)
theorem wm_12_3 : (Cond.methodLink RX8 115 yX8_countOf) ∈ wsL_law := wr_12 _ (List.mem_of_getElem? (i := 3) rfl)
theorem wm_12_4 : (Cond.instanceMethod yX8_countOf) ∈ wsL_law := wr_12 _ (List.mem_of_getElem? (i := 4) rfl)
theorem wm_12_5 : (Cond.selects RX8 yX8_countOf yX8_countOf) ∈ wsL_law := wr_12 _ (List.mem_of_getElem? (i := 5) rfl)
theorem wm_12_6 : (Cond.code yX8_countOf cX8_countOf 4 (some .int)) ∈ wsL_law := wr_12 _ (List.mem_of_getElem? (i := 6) rfl)
theorem wm_12_7 : (Cond.fieldLink RX8 98 "OutsideAsksModel" "items" "I") ∈ wsL_law := wr_12 _ (List.mem_of_getElem? (i := 7) rfl)
theorem wm_12_8 : (Cond.methodLink RX8 118 yX8_first) ∈ wsL_law := wr_12 _ (List.mem_of_getElem? (i := 8) rfl)
theorem wm_12_9 : (Cond.instanceMethod yX8_first) ∈ wsL_law := wr_12 _ (List.mem_of_getElem? (i := 9) rfl)
theorem wm_12_10 : (Cond.selects RX8 yX8_first yX8_first) ∈ wsL_law := wr_12 _ (List.mem_of_getElem? (i := 10) rfl)
theorem wm_12_11 : (Cond.code yX8_first cX8_first 3 (some .int)) ∈ wsL_law := wr_12 _ (List.mem_of_getElem? (i := 11) rfl)
theorem wm_12_12 : (Cond.methodLink RX8 121 yX8_keptFor) ∈ wsL_law := wr_12 _ (List.mem_of_getElem? (i := 12) rfl)
theorem wm_12_13 : (Cond.instanceMethod yX8_keptFor) ∈ wsL_law := wr_12 _ (List.mem_of_getElem? (i := 13) rfl)
theorem wm_12_14 : (Cond.selects RX8 yX8_keptFor yX8_keptFor) ∈ wsL_law := wr_12 _ (List.mem_of_getElem? (i := 14) rfl)
theorem wm_12_15 : (Cond.code yX8_keptFor cX8_keptFor 4 (some .int)) ∈ wsL_law := wr_12 _ (List.mem_of_getElem? (i := 15) rfl)
theorem wm_12_16 : (Cond.fieldLink RX8 101 "OutsideAsksModel" "keeps" "I") ∈ wsL_law := wr_12 _ (List.mem_of_getElem? (i := 16) rfl)
theorem wm_12_17 : (Cond.methodLink RX8 128 yX8_settle) ∈ wsL_law := wr_12 _ (List.mem_of_getElem? (i := 17) rfl)
theorem wm_12_18 : (Cond.instanceMethod yX8_settle) ∈ wsL_law := wr_12 _ (List.mem_of_getElem? (i := 18) rfl)
theorem wm_12_19 : (Cond.selects RX8 yX8_settle yX8_settle) ∈ wsL_law := wr_12 _ (List.mem_of_getElem? (i := 19) rfl)
theorem wm_12_20 : (Cond.code yX8_settle cX8_settle 5 none) ∈ wsL_law := wr_12 _ (List.mem_of_getElem? (i := 20) rfl)
theorem wm_12_21 : (Cond.methodLink RX8 104 yX8_leave) ∈ wsL_law := wr_12 _ (List.mem_of_getElem? (i := 21) rfl)
theorem wm_12_22 : (Cond.instanceMethod yX8_leave) ∈ wsL_law := wr_12 _ (List.mem_of_getElem? (i := 22) rfl)
theorem wm_12_23 : (Cond.selects RX8 yX8_leave yX8_leave) ∈ wsL_law := wr_12 _ (List.mem_of_getElem? (i := 23) rfl)
theorem wm_13_0 : (Cond.code yX8_leave cX8_leave 4 none) ∈ wsL_law := wr_13 _ (List.mem_of_getElem? (i := 0) rfl)
theorem wm_13_1 : (Cond.methodLink RX8 111 yX8_placeInQueue) ∈ wsL_law := wr_13 _ (List.mem_of_getElem? (i := 1) rfl)
theorem wm_13_2 : (Cond.instanceMethod yX8_placeInQueue) ∈ wsL_law := wr_13 _ (List.mem_of_getElem? (i := 2) rfl)
theorem wm_13_3 : (Cond.selects RX8 yX8_placeInQueue yX8_placeInQueue) ∈ wsL_law := wr_13 _ (List.mem_of_getElem? (i := 3) rfl)
theorem wm_13_4 : (Cond.code yX8_placeInQueue cX8_placeInQueue 3 (some .int)) ∈ wsL_law := wr_13 _ (List.mem_of_getElem? (i := 4) rfl)
theorem wm_13_5 : (Cond.methodLink RX8 138 yX8_send) ∈ wsL_law := wr_13 _ (List.mem_of_getElem? (i := 5) rfl)
theorem wm_13_6 : (Cond.instanceMethod yX8_send) ∈ wsL_law := wr_13 _ (List.mem_of_getElem? (i := 6) rfl)
theorem wm_13_7 : (Cond.selects RX8 yX8_send yX8_send) ∈ wsL_law := wr_13 _ (List.mem_of_getElem? (i := 7) rfl)
theorem wm_13_8 : (Cond.code yX8_send cX8_send 7 none) ∈ wsL_law := wr_13 _ (List.mem_of_getElem? (i := 8) rfl)
theorem wm_13_9 : (Cond.methodLink RX8 142 yX8_nextOut) ∈ wsL_law := wr_13 _ (List.mem_of_getElem? (i := 9) rfl)
theorem wm_13_10 : (Cond.instanceMethod yX8_nextOut) ∈ wsL_law := wr_13 _ (List.mem_of_getElem? (i := 10) rfl)
theorem wm_13_11 : (Cond.selects RX8 yX8_nextOut yX8_nextOut) ∈ wsL_law := wr_13 _ (List.mem_of_getElem? (i := 11) rfl)
theorem wm_13_12 : (Cond.code yX8_nextOut cX8_nextOut 6 (some .int)) ∈ wsL_law := wr_13 _ (List.mem_of_getElem? (i := 12) rfl)
theorem wm_13_13 : (Cond.methodLink RL 28 yX7_row) ∈ wsL_law := wr_13 _ (List.mem_of_getElem? (i := 13) rfl)
theorem wm_13_14 : (Cond.instanceMethod yX7_row) ∈ wsL_law := wr_13 _ (List.mem_of_getElem? (i := 14) rfl)
theorem wm_13_15 : (Cond.selects RX7 yX7_row yX7_row) ∈ wsL_law := wr_13 _ (List.mem_of_getElem? (i := 15) rfl)
theorem wm_13_16 : (Cond.code yX7_row cX7_row 6 (some .int)) ∈ wsL_law := wr_13 _ (List.mem_of_getElem? (i := 16) rfl)
theorem wm_13_17 : (Cond.methodLink RX7 122 yX0_noteRow) ∈ wsL_law := wr_13 _ (List.mem_of_getElem? (i := 17) rfl)
theorem wm_13_18 : (Cond.instanceMethod yX0_noteRow) ∈ wsL_law := wr_13 _ (List.mem_of_getElem? (i := 18) rfl)
theorem wm_13_19 : (Cond.selects RX0 yX0_noteRow yX0_noteRow) ∈ wsL_law := wr_13 _ (List.mem_of_getElem? (i := 19) rfl)
theorem wm_13_20 : (Cond.code yX0_noteRow cX0_noteRow 6 none) ∈ wsL_law := wr_13 _ (List.mem_of_getElem? (i := 20) rfl)
theorem wm_13_21 : (Cond.methodLink RX7 126 yX4_addItem) ∈ wsL_law := wr_13 _ (List.mem_of_getElem? (i := 21) rfl)
theorem wm_13_22 : (Cond.instanceMethod yX4_addItem) ∈ wsL_law := wr_13 _ (List.mem_of_getElem? (i := 22) rfl)
theorem wm_13_23 : (Cond.selects RX4 yX4_addItem yX4_addItem) ∈ wsL_law := wr_13 _ (List.mem_of_getElem? (i := 23) rfl)
theorem wm_14_0 : (Cond.code yX4_addItem cX4_addItem 3 none) ∈ wsL_law := wr_14 _ (List.mem_of_getElem? (i := 0) rfl)
theorem wm_14_1 : (Cond.methodLink RL 32 yX8_row) ∈ wsL_law := wr_14 _ (List.mem_of_getElem? (i := 1) rfl)
theorem wm_14_2 : (Cond.instanceMethod yX8_row) ∈ wsL_law := wr_14 _ (List.mem_of_getElem? (i := 2) rfl)
theorem wm_14_3 : (Cond.selects RX8 yX8_row yX8_row) ∈ wsL_law := wr_14 _ (List.mem_of_getElem? (i := 3) rfl)
theorem wm_14_4 : (Cond.code yX8_row cX8_row 5 (some .int)) ∈ wsL_law := wr_14 _ (List.mem_of_getElem? (i := 4) rfl)
theorem wm_14_5 : (Cond.methodLink RX8 152 yX8_come) ∈ wsL_law := wr_14 _ (List.mem_of_getElem? (i := 5) rfl)
theorem wm_14_6 : (Cond.instanceMethod yX8_come) ∈ wsL_law := wr_14 _ (List.mem_of_getElem? (i := 6) rfl)
theorem wm_14_7 : (Cond.selects RX8 yX8_come yX8_come) ∈ wsL_law := wr_14 _ (List.mem_of_getElem? (i := 7) rfl)
theorem wm_14_8 : (Cond.code yX8_come cX8_come 7 (some .int)) ∈ wsL_law := wr_14 _ (List.mem_of_getElem? (i := 8) rfl)
theorem wm_14_9 : (Cond.methodLink RL 33 yX7_mark) ∈ wsL_law := wr_14 _ (List.mem_of_getElem? (i := 9) rfl)
theorem wm_14_10 : (Cond.instanceMethod yX7_mark) ∈ wsL_law := wr_14 _ (List.mem_of_getElem? (i := 10) rfl)
theorem wm_14_11 : (Cond.selects RX7 yX7_mark yX7_mark) ∈ wsL_law := wr_14 _ (List.mem_of_getElem? (i := 11) rfl)
theorem wm_14_12 : (Cond.code yX7_mark cX7_mark 2 (some .int)) ∈ wsL_law := wr_14 _ (List.mem_of_getElem? (i := 12) rfl)
theorem wm_14_13 : (Cond.methodLink RX7 130 yX0_noteMark) ∈ wsL_law := wr_14 _ (List.mem_of_getElem? (i := 13) rfl)
theorem wm_14_14 : (Cond.instanceMethod yX0_noteMark) ∈ wsL_law := wr_14 _ (List.mem_of_getElem? (i := 14) rfl)
theorem wm_14_15 : (Cond.selects RX0 yX0_noteMark yX0_noteMark) ∈ wsL_law := wr_14 _ (List.mem_of_getElem? (i := 15) rfl)
theorem wm_14_16 : (Cond.code yX0_noteMark cX0_noteMark 2 none) ∈ wsL_law := wr_14 _ (List.mem_of_getElem? (i := 16) rfl)
theorem wm_14_17 : (Cond.methodLink RL 37 yX8_mark) ∈ wsL_law := wr_14 _ (List.mem_of_getElem? (i := 17) rfl)
theorem wm_14_18 : (Cond.instanceMethod yX8_mark) ∈ wsL_law := wr_14 _ (List.mem_of_getElem? (i := 18) rfl)
theorem wm_14_19 : (Cond.selects RX8 yX8_mark yX8_mark) ∈ wsL_law := wr_14 _ (List.mem_of_getElem? (i := 19) rfl)
theorem wm_14_20 : (Cond.code yX8_mark cX8_mark 1 (some .int)) ∈ wsL_law := wr_14 _ (List.mem_of_getElem? (i := 20) rfl)
theorem wm_14_21 : (Cond.methodLink RL 38 yX7_tick) ∈ wsL_law := wr_14 _ (List.mem_of_getElem? (i := 21) rfl)
theorem wm_14_22 : (Cond.instanceMethod yX7_tick) ∈ wsL_law := wr_14 _ (List.mem_of_getElem? (i := 22) rfl)
theorem wm_14_23 : (Cond.selects RX7 yX7_tick yX7_tick) ∈ wsL_law := wr_14 _ (List.mem_of_getElem? (i := 23) rfl)
theorem wm_15_0 : (Cond.code yX7_tick cX7_tick 3 (some .int)) ∈ wsL_law := wr_15 _ (List.mem_of_getElem? (i := 0) rfl)
theorem wm_15_1 : (Cond.constant RX7 134 (1000000)) ∈ wsL_law := wr_15 _ (List.mem_of_getElem? (i := 1) rfl)
theorem wm_15_2 : (Cond.methodLink RX7 135 yX7_passTick) ∈ wsL_law := wr_15 _ (List.mem_of_getElem? (i := 2) rfl)
theorem wm_15_3 : (Cond.instanceMethod yX7_passTick) ∈ wsL_law := wr_15 _ (List.mem_of_getElem? (i := 3) rfl)
theorem wm_15_4 : (Cond.selects RX7 yX7_passTick yX7_passTick) ∈ wsL_law := wr_15 _ (List.mem_of_getElem? (i := 4) rfl)
theorem wm_15_5 : (Cond.code yX7_passTick cX7_passTick 2 none) ∈ wsL_law := wr_15 _ (List.mem_of_getElem? (i := 5) rfl)
theorem wm_15_6 : (Cond.methodLink RX7 275 yX7_findOverdue) ∈ wsL_law := wr_15 _ (List.mem_of_getElem? (i := 6) rfl)
theorem wm_15_7 : (Cond.instanceMethod yX7_findOverdue) ∈ wsL_law := wr_15 _ (List.mem_of_getElem? (i := 7) rfl)
theorem wm_15_8 : (Cond.selects RX7 yX7_findOverdue yX7_findOverdue) ∈ wsL_law := wr_15 _ (List.mem_of_getElem? (i := 8) rfl)
theorem wm_15_9 : (Cond.code yX7_findOverdue cX7_findOverdue 3 none) ∈ wsL_law := wr_15 _ (List.mem_of_getElem? (i := 9) rfl)
theorem wm_15_10 : (Cond.methodLink RX7 281 yX5_clear) ∈ wsL_law := wr_15 _ (List.mem_of_getElem? (i := 10) rfl)
theorem wm_15_11 : (Cond.instanceMethod yX5_clear) ∈ wsL_law := wr_15 _ (List.mem_of_getElem? (i := 11) rfl)
theorem wm_15_12 : (Cond.selects RX5 yX5_clear yX5_clear) ∈ wsL_law := wr_15 _ (List.mem_of_getElem? (i := 12) rfl)
theorem wm_15_13 : (Cond.code yX5_clear cX5_clear 1 none) ∈ wsL_law := wr_15 _ (List.mem_of_getElem? (i := 13) rfl)
theorem wm_15_14 : (Cond.methodLink RX7 284 yX0_dueOf) ∈ wsL_law := wr_15 _ (List.mem_of_getElem? (i := 14) rfl)
theorem wm_15_15 : (Cond.instanceMethod yX0_dueOf) ∈ wsL_law := wr_15 _ (List.mem_of_getElem? (i := 15) rfl)
theorem wm_15_16 : (Cond.selects RX0 yX0_dueOf yX0_dueOf) ∈ wsL_law := wr_15 _ (List.mem_of_getElem? (i := 16) rfl)
theorem wm_15_17 : (Cond.code yX0_dueOf cX0_dueOf 2 (some .int)) ∈ wsL_law := wr_15 _ (List.mem_of_getElem? (i := 17) rfl)
theorem wm_15_18 : (Cond.methodLink RX7 209 yX5_find) ∈ wsL_law := wr_15 _ (List.mem_of_getElem? (i := 18) rfl)
theorem wm_15_19 : (Cond.instanceMethod yX5_find) ∈ wsL_law := wr_15 _ (List.mem_of_getElem? (i := 19) rfl)
theorem wm_15_20 : (Cond.selects RX5 yX5_find yX5_find) ∈ wsL_law := wr_15 _ (List.mem_of_getElem? (i := 20) rfl)
theorem wm_15_21 : (Cond.code yX5_find cX5_find 3 (some .int)) ∈ wsL_law := wr_15 _ (List.mem_of_getElem? (i := 21) rfl)
theorem wm_15_22 : (Cond.methodLink RX7 278 yX7_tryAgain) ∈ wsL_law := wr_15 _ (List.mem_of_getElem? (i := 22) rfl)
theorem wm_15_23 : (Cond.instanceMethod yX7_tryAgain) ∈ wsL_law := wr_15 _ (List.mem_of_getElem? (i := 23) rfl)
theorem wm_16_0 : (Cond.selects RX7 yX7_tryAgain yX7_tryAgain) ∈ wsL_law := wr_16 _ (List.mem_of_getElem? (i := 0) rfl)
theorem wm_16_1 : (Cond.code yX7_tryAgain cX7_tryAgain 5 (some .boolean)) ∈ wsL_law := wr_16 _ (List.mem_of_getElem? (i := 1) rfl)
theorem wm_16_2 : (Cond.methodLink RX7 203 yX4_triesOf) ∈ wsL_law := wr_16 _ (List.mem_of_getElem? (i := 2) rfl)
theorem wm_16_3 : (Cond.instanceMethod yX4_triesOf) ∈ wsL_law := wr_16 _ (List.mem_of_getElem? (i := 3) rfl)
theorem wm_16_4 : (Cond.selects RX4 yX4_triesOf yX4_triesOf) ∈ wsL_law := wr_16 _ (List.mem_of_getElem? (i := 4) rfl)
theorem wm_16_5 : (Cond.code yX4_triesOf cX4_triesOf 2 (some .int)) ∈ wsL_law := wr_16 _ (List.mem_of_getElem? (i := 5) rfl)
theorem wm_16_6 : (Cond.methodLink RX7 287 yX7_settle) ∈ wsL_law := wr_16 _ (List.mem_of_getElem? (i := 6) rfl)
theorem wm_16_7 : (Cond.instanceMethod yX7_settle) ∈ wsL_law := wr_16 _ (List.mem_of_getElem? (i := 7) rfl)
theorem wm_16_8 : (Cond.selects RX7 yX7_settle yX7_settle) ∈ wsL_law := wr_16 _ (List.mem_of_getElem? (i := 8) rfl)
theorem wm_16_9 : (Cond.code yX7_settle cX7_settle 5 none) ∈ wsL_law := wr_16 _ (List.mem_of_getElem? (i := 9) rfl)
theorem wm_16_10 : (Cond.methodLink RX7 290 yX4_addTry) ∈ wsL_law := wr_16 _ (List.mem_of_getElem? (i := 10) rfl)
theorem wm_16_11 : (Cond.instanceMethod yX4_addTry) ∈ wsL_law := wr_16 _ (List.mem_of_getElem? (i := 11) rfl)
theorem wm_16_12 : (Cond.selects RX4 yX4_addTry yX4_addTry) ∈ wsL_law := wr_16 _ (List.mem_of_getElem? (i := 12) rfl)
theorem wm_16_13 : (Cond.code yX4_addTry cX4_addTry 2 none) ∈ wsL_law := wr_16 _ (List.mem_of_getElem? (i := 13) rfl)
theorem wm_16_14 : (Cond.methodLink RL 42 yX8_tick) ∈ wsL_law := wr_16 _ (List.mem_of_getElem? (i := 14) rfl)
theorem wm_16_15 : (Cond.instanceMethod yX8_tick) ∈ wsL_law := wr_16 _ (List.mem_of_getElem? (i := 15) rfl)
theorem wm_16_16 : (Cond.selects RX8 yX8_tick yX8_tick) ∈ wsL_law := wr_16 _ (List.mem_of_getElem? (i := 16) rfl)
theorem wm_16_17 : (Cond.code yX8_tick cX8_tick 4 (some .int)) ∈ wsL_law := wr_16 _ (List.mem_of_getElem? (i := 17) rfl)
theorem wm_16_18 : (Cond.constant RX8 156 (1000000)) ∈ wsL_law := wr_16 _ (List.mem_of_getElem? (i := 18) rfl)
theorem wm_16_19 : (Cond.methodLink RX8 157 yX8_again) ∈ wsL_law := wr_16 _ (List.mem_of_getElem? (i := 19) rfl)
theorem wm_16_20 : (Cond.instanceMethod yX8_again) ∈ wsL_law := wr_16 _ (List.mem_of_getElem? (i := 20) rfl)
theorem wm_16_21 : (Cond.selects RX8 yX8_again yX8_again) ∈ wsL_law := wr_16 _ (List.mem_of_getElem? (i := 21) rfl)
theorem wm_16_22 : (Cond.code yX8_again cX8_again 2 (some .boolean)) ∈ wsL_law := wr_16 _ (List.mem_of_getElem? (i := 22) rfl)
theorem wm_16_23 : (Cond.methodLink RL 43 yX7_serve) ∈ wsL_law := wr_16 _ (List.mem_of_getElem? (i := 23) rfl)
theorem wm_17_0 : (Cond.instanceMethod yX7_serve) ∈ wsL_law := wr_17 _ (List.mem_of_getElem? (i := 0) rfl)
theorem wm_17_1 : (Cond.selects RX7 yX7_serve yX7_serve) ∈ wsL_law := wr_17 _ (List.mem_of_getElem? (i := 1) rfl)
theorem wm_17_2 : (Cond.code yX7_serve cX7_serve 5 (some .int)) ∈ wsL_law := wr_17 _ (List.mem_of_getElem? (i := 2) rfl)
theorem wm_17_3 : (Cond.methodLink RX7 138 yX2_has) ∈ wsL_law := wr_17 _ (List.mem_of_getElem? (i := 3) rfl)
theorem wm_17_4 : (Cond.instanceMethod yX2_has) ∈ wsL_law := wr_17 _ (List.mem_of_getElem? (i := 4) rfl)
theorem wm_17_5 : (Cond.selects RX2 yX2_has yX2_has) ∈ wsL_law := wr_17 _ (List.mem_of_getElem? (i := 5) rfl)
theorem wm_17_6 : (Cond.code yX2_has cX2_has 2 (some .boolean)) ∈ wsL_law := wr_17 _ (List.mem_of_getElem? (i := 6) rfl)
theorem wm_17_7 : (Cond.methodLink RX7 142 yX2_rowAt) ∈ wsL_law := wr_17 _ (List.mem_of_getElem? (i := 7) rfl)
theorem wm_17_8 : (Cond.instanceMethod yX2_rowAt) ∈ wsL_law := wr_17 _ (List.mem_of_getElem? (i := 8) rfl)
theorem wm_17_9 : (Cond.selects RX2 yX2_rowAt yX2_rowAt) ∈ wsL_law := wr_17 _ (List.mem_of_getElem? (i := 9) rfl)
theorem wm_17_10 : (Cond.code yX2_rowAt cX2_rowAt 2 (some .int)) ∈ wsL_law := wr_17 _ (List.mem_of_getElem? (i := 10) rfl)
theorem wm_17_11 : (Cond.methodLink RX2 26 yX2_has) ∈ wsL_law := wr_17 _ (List.mem_of_getElem? (i := 11) rfl)
theorem wm_17_12 : (Cond.methodLink RX7 146 yX2_removeAt) ∈ wsL_law := wr_17 _ (List.mem_of_getElem? (i := 12) rfl)
theorem wm_17_13 : (Cond.instanceMethod yX2_removeAt) ∈ wsL_law := wr_17 _ (List.mem_of_getElem? (i := 13) rfl)
theorem wm_17_14 : (Cond.selects RX2 yX2_removeAt yX2_removeAt) ∈ wsL_law := wr_17 _ (List.mem_of_getElem? (i := 14) rfl)
theorem wm_17_15 : (Cond.code yX2_removeAt cX2_removeAt 3 none) ∈ wsL_law := wr_17 _ (List.mem_of_getElem? (i := 15) rfl)
theorem wm_17_16 : (Cond.methodLink RX2 30 arraycopyName) ∈ wsL_law := wr_17 _ (List.mem_of_getElem? (i := 16) rfl)
theorem wm_17_17 : (Cond.methodLink RX7 153 yX0_valueOf) ∈ wsL_law := wr_17 _ (List.mem_of_getElem? (i := 17) rfl)
theorem wm_17_18 : (Cond.instanceMethod yX0_valueOf) ∈ wsL_law := wr_17 _ (List.mem_of_getElem? (i := 18) rfl)
theorem wm_17_19 : (Cond.selects RX0 yX0_valueOf yX0_valueOf) ∈ wsL_law := wr_17 _ (List.mem_of_getElem? (i := 19) rfl)
theorem wm_17_20 : (Cond.code yX0_valueOf cX0_valueOf 2 (some .long)) ∈ wsL_law := wr_17 _ (List.mem_of_getElem? (i := 20) rfl)
theorem wm_17_21 : (Cond.methodLink RX7 156 yX6_takeAsk) ∈ wsL_law := wr_17 _ (List.mem_of_getElem? (i := 21) rfl)
theorem wm_17_22 : (Cond.instanceMethod yX6_takeAsk) ∈ wsL_law := wr_17 _ (List.mem_of_getElem? (i := 22) rfl)
theorem wm_17_23 : (Cond.selects RX6 yX6_takeAsk yX6_takeAsk) ∈ wsL_law := wr_17 _ (List.mem_of_getElem? (i := 23) rfl)
theorem wm_18_0 : (Cond.code yX6_takeAsk cX6_takeAsk 7 (some .boolean)) ∈ wsL_law := wr_18 _ (List.mem_of_getElem? (i := 0) rfl)
theorem wm_18_1 : (Cond.methodLink RX6 22 yX6_countOf) ∈ wsL_law := wr_18 _ (List.mem_of_getElem? (i := 1) rfl)
theorem wm_18_2 : (Cond.instanceMethod yX6_countOf) ∈ wsL_law := wr_18 _ (List.mem_of_getElem? (i := 2) rfl)
theorem wm_18_3 : (Cond.selects RX6 yX6_countOf yX6_countOf) ∈ wsL_law := wr_18 _ (List.mem_of_getElem? (i := 3) rfl)
theorem wm_18_4 : (Cond.code yX6_countOf cX6_countOf 5 (some .int)) ∈ wsL_law := wr_18 _ (List.mem_of_getElem? (i := 4) rfl)
theorem wm_18_5 : (Cond.methodLink RX7 160 yX6_answerTo) ∈ wsL_law := wr_18 _ (List.mem_of_getElem? (i := 5) rfl)
theorem wm_18_6 : (Cond.instanceMethod yX6_answerTo) ∈ wsL_law := wr_18 _ (List.mem_of_getElem? (i := 6) rfl)
theorem wm_18_7 : (Cond.selects RX6 yX6_answerTo yX6_answerTo) ∈ wsL_law := wr_18 _ (List.mem_of_getElem? (i := 7) rfl)
theorem wm_18_8 : (Cond.code yX6_answerTo cX6_answerTo 2 (some .long)) ∈ wsL_law := wr_18 _ (List.mem_of_getElem? (i := 8) rfl)
theorem wm_18_9 : (Cond.methodLink RL 46 yX8_serve) ∈ wsL_law := wr_18 _ (List.mem_of_getElem? (i := 9) rfl)
theorem wm_18_10 : (Cond.instanceMethod yX8_serve) ∈ wsL_law := wr_18 _ (List.mem_of_getElem? (i := 10) rfl)
theorem wm_18_11 : (Cond.selects RX8 yX8_serve yX8_serve) ∈ wsL_law := wr_18 _ (List.mem_of_getElem? (i := 11) rfl)
theorem wm_18_12 : (Cond.code yX8_serve cX8_serve 5 (some .int)) ∈ wsL_law := wr_18 _ (List.mem_of_getElem? (i := 12) rfl)
theorem wm_18_13 : (Cond.methodLink RX8 161 yX8_isUnder) ∈ wsL_law := wr_18 _ (List.mem_of_getElem? (i := 13) rfl)
theorem wm_18_14 : (Cond.instanceMethod yX8_isUnder) ∈ wsL_law := wr_18 _ (List.mem_of_getElem? (i := 14) rfl)
theorem wm_18_15 : (Cond.selects RX8 yX8_isUnder yX8_isUnder) ∈ wsL_law := wr_18 _ (List.mem_of_getElem? (i := 15) rfl)
theorem wm_18_16 : (Cond.code yX8_isUnder cX8_isUnder 3 (some .boolean)) ∈ wsL_law := wr_18 _ (List.mem_of_getElem? (i := 16) rfl)
theorem wm_18_17 : (Cond.methodLink RX8 165 yX8_take) ∈ wsL_law := wr_18 _ (List.mem_of_getElem? (i := 17) rfl)
theorem wm_18_18 : (Cond.instanceMethod yX8_take) ∈ wsL_law := wr_18 _ (List.mem_of_getElem? (i := 18) rfl)
theorem wm_18_19 : (Cond.selects RX8 yX8_take yX8_take) ∈ wsL_law := wr_18 _ (List.mem_of_getElem? (i := 19) rfl)
theorem wm_18_20 : (Cond.code yX8_take cX8_take 4 none) ∈ wsL_law := wr_18 _ (List.mem_of_getElem? (i := 20) rfl)
theorem wm_18_21 : (Cond.methodLink RX8 169 yX8_keyAt) ∈ wsL_law := wr_18 _ (List.mem_of_getElem? (i := 21) rfl)
theorem wm_18_22 : (Cond.instanceMethod yX8_keyAt) ∈ wsL_law := wr_18 _ (List.mem_of_getElem? (i := 22) rfl)
theorem wm_18_23 : (Cond.selects RX8 yX8_keyAt yX8_keyAt) ∈ wsL_law := wr_18 _ (List.mem_of_getElem? (i := 23) rfl)
theorem wm_19_0 : (Cond.code yX8_keyAt cX8_keyAt 4 (some .int)) ∈ wsL_law := wr_19 _ (List.mem_of_getElem? (i := 0) rfl)
theorem wm_19_1 : (Cond.methodLink RL 47 yX7_refuse) ∈ wsL_law := wr_19 _ (List.mem_of_getElem? (i := 1) rfl)
theorem wm_19_2 : (Cond.instanceMethod yX7_refuse) ∈ wsL_law := wr_19 _ (List.mem_of_getElem? (i := 2) rfl)
theorem wm_19_3 : (Cond.selects RX7 yX7_refuse yX7_refuse) ∈ wsL_law := wr_19 _ (List.mem_of_getElem? (i := 3) rfl)
theorem wm_19_4 : (Cond.code yX7_refuse cX7_refuse 4 (some .int)) ∈ wsL_law := wr_19 _ (List.mem_of_getElem? (i := 4) rfl)
theorem wm_19_5 : (Cond.methodLink RL 50 yX8_refuse) ∈ wsL_law := wr_19 _ (List.mem_of_getElem? (i := 5) rfl)
theorem wm_19_6 : (Cond.instanceMethod yX8_refuse) ∈ wsL_law := wr_19 _ (List.mem_of_getElem? (i := 6) rfl)
theorem wm_19_7 : (Cond.selects RX8 yX8_refuse yX8_refuse) ∈ wsL_law := wr_19 _ (List.mem_of_getElem? (i := 7) rfl)
theorem wm_19_8 : (Cond.code yX8_refuse cX8_refuse 4 (some .int)) ∈ wsL_law := wr_19 _ (List.mem_of_getElem? (i := 8) rfl)
theorem wm_19_9 : (Cond.methodLink RL 51 yX7_arrive) ∈ wsL_law := wr_19 _ (List.mem_of_getElem? (i := 9) rfl)
theorem wm_19_10 : (Cond.instanceMethod yX7_arrive) ∈ wsL_law := wr_19 _ (List.mem_of_getElem? (i := 10) rfl)
theorem wm_19_11 : (Cond.selects RX7 yX7_arrive yX7_arrive) ∈ wsL_law := wr_19 _ (List.mem_of_getElem? (i := 11) rfl)
theorem wm_19_12 : (Cond.code yX7_arrive cX7_arrive 7 (some .int)) ∈ wsL_law := wr_19 _ (List.mem_of_getElem? (i := 12) rfl)
theorem wm_19_13 : (Cond.methodLink RX7 167 yX2_causeAt) ∈ wsL_law := wr_19 _ (List.mem_of_getElem? (i := 13) rfl)
theorem wm_19_14 : (Cond.instanceMethod yX2_causeAt) ∈ wsL_law := wr_19 _ (List.mem_of_getElem? (i := 14) rfl)
theorem wm_19_15 : (Cond.selects RX2 yX2_causeAt yX2_causeAt) ∈ wsL_law := wr_19 _ (List.mem_of_getElem? (i := 15) rfl)
theorem wm_19_16 : (Cond.code yX2_causeAt cX2_causeAt 2 (some .int)) ∈ wsL_law := wr_19 _ (List.mem_of_getElem? (i := 16) rfl)
theorem wm_19_17 : (Cond.methodLink RX7 170 yX2_valueAt) ∈ wsL_law := wr_19 _ (List.mem_of_getElem? (i := 17) rfl)
theorem wm_19_18 : (Cond.instanceMethod yX2_valueAt) ∈ wsL_law := wr_19 _ (List.mem_of_getElem? (i := 18) rfl)
theorem wm_19_19 : (Cond.selects RX2 yX2_valueAt yX2_valueAt) ∈ wsL_law := wr_19 _ (List.mem_of_getElem? (i := 19) rfl)
theorem wm_19_20 : (Cond.code yX2_valueAt cX2_valueAt 2 (some .long)) ∈ wsL_law := wr_19 _ (List.mem_of_getElem? (i := 20) rfl)
theorem wm_19_21 : (Cond.methodLink RX7 176 yX7_takeAnswer) ∈ wsL_law := wr_19 _ (List.mem_of_getElem? (i := 21) rfl)
theorem wm_19_22 : (Cond.instanceMethod yX7_takeAnswer) ∈ wsL_law := wr_19 _ (List.mem_of_getElem? (i := 22) rfl)
theorem wm_19_23 : (Cond.selects RX7 yX7_takeAnswer yX7_takeAnswer) ∈ wsL_law := wr_19 _ (List.mem_of_getElem? (i := 23) rfl)
theorem wm_20_0 : (Cond.code yX7_takeAnswer cX7_takeAnswer 5 (some .boolean)) ∈ wsL_law := wr_20 _ (List.mem_of_getElem? (i := 0) rfl)
theorem wm_20_1 : (Cond.methodLink RX7 293 yX7_takeCause) ∈ wsL_law := wr_20 _ (List.mem_of_getElem? (i := 1) rfl)
theorem wm_20_2 : (Cond.instanceMethod yX7_takeCause) ∈ wsL_law := wr_20 _ (List.mem_of_getElem? (i := 2) rfl)
theorem wm_20_3 : (Cond.selects RX7 yX7_takeCause yX7_takeCause) ∈ wsL_law := wr_20 _ (List.mem_of_getElem? (i := 3) rfl)
theorem wm_20_4 : (Cond.code yX7_takeCause cX7_takeCause 4 (some .boolean)) ∈ wsL_law := wr_20 _ (List.mem_of_getElem? (i := 4) rfl)
theorem wm_20_5 : (Cond.methodLink RX7 297 yX1_keep) ∈ wsL_law := wr_20 _ (List.mem_of_getElem? (i := 5) rfl)
theorem wm_20_6 : (Cond.instanceMethod yX1_keep) ∈ wsL_law := wr_20 _ (List.mem_of_getElem? (i := 6) rfl)
theorem wm_20_7 : (Cond.selects RX1 yX1_keep yX1_keep) ∈ wsL_law := wr_20 _ (List.mem_of_getElem? (i := 7) rfl)
theorem wm_20_8 : (Cond.code yX1_keep cX1_keep 7 none) ∈ wsL_law := wr_20 _ (List.mem_of_getElem? (i := 8) rfl)
theorem wm_20_9 : (Cond.methodLink RX1 30 yX1_placeFor) ∈ wsL_law := wr_20 _ (List.mem_of_getElem? (i := 9) rfl)
theorem wm_20_10 : (Cond.instanceMethod yX1_placeFor) ∈ wsL_law := wr_20 _ (List.mem_of_getElem? (i := 10) rfl)
theorem wm_20_11 : (Cond.selects RX1 yX1_placeFor yX1_placeFor) ∈ wsL_law := wr_20 _ (List.mem_of_getElem? (i := 11) rfl)
theorem wm_20_12 : (Cond.code yX1_placeFor cX1_placeFor 4 (some .int)) ∈ wsL_law := wr_20 _ (List.mem_of_getElem? (i := 12) rfl)
theorem wm_20_13 : (Cond.methodLink RX1 33 yX1_firstToGo) ∈ wsL_law := wr_20 _ (List.mem_of_getElem? (i := 13) rfl)
theorem wm_20_14 : (Cond.instanceMethod yX1_firstToGo) ∈ wsL_law := wr_20 _ (List.mem_of_getElem? (i := 14) rfl)
theorem wm_20_15 : (Cond.selects RX1 yX1_firstToGo yX1_firstToGo) ∈ wsL_law := wr_20 _ (List.mem_of_getElem? (i := 15) rfl)
theorem wm_20_16 : (Cond.code yX1_firstToGo cX1_firstToGo 4 (some .int)) ∈ wsL_law := wr_20 _ (List.mem_of_getElem? (i := 16) rfl)
theorem wm_20_17 : (Cond.methodLink RL 54 yX8_arrive) ∈ wsL_law := wr_20 _ (List.mem_of_getElem? (i := 17) rfl)
theorem wm_20_18 : (Cond.instanceMethod yX8_arrive) ∈ wsL_law := wr_20 _ (List.mem_of_getElem? (i := 18) rfl)
theorem wm_20_19 : (Cond.selects RX8 yX8_arrive yX8_arrive) ∈ wsL_law := wr_20 _ (List.mem_of_getElem? (i := 19) rfl)
theorem wm_20_20 : (Cond.code yX8_arrive cX8_arrive 9 (some .int)) ∈ wsL_law := wr_20 _ (List.mem_of_getElem? (i := 20) rfl)
theorem wm_20_21 : (Cond.methodLink RX8 172 yX8_keep) ∈ wsL_law := wr_20 _ (List.mem_of_getElem? (i := 21) rfl)
theorem wm_20_22 : (Cond.instanceMethod yX8_keep) ∈ wsL_law := wr_20 _ (List.mem_of_getElem? (i := 22) rfl)
theorem wm_20_23 : (Cond.selects RX8 yX8_keep yX8_keep) ∈ wsL_law := wr_20 _ (List.mem_of_getElem? (i := 23) rfl)
theorem wm_21_0 : (Cond.code yX8_keep cX8_keep 7 none) ∈ wsL_law := wr_21 _ (List.mem_of_getElem? (i := 0) rfl)
theorem wm_21_1 : (Cond.methodLink RL 55 yX7_lose) ∈ wsL_law := wr_21 _ (List.mem_of_getElem? (i := 1) rfl)
theorem wm_21_2 : (Cond.instanceMethod yX7_lose) ∈ wsL_law := wr_21 _ (List.mem_of_getElem? (i := 2) rfl)
theorem wm_21_3 : (Cond.selects RX7 yX7_lose yX7_lose) ∈ wsL_law := wr_21 _ (List.mem_of_getElem? (i := 3) rfl)
theorem wm_21_4 : (Cond.code yX7_lose cX7_lose 4 (some .int)) ∈ wsL_law := wr_21 _ (List.mem_of_getElem? (i := 4) rfl)
theorem wm_21_5 : (Cond.methodLink RX7 180 yX7_lineOf) ∈ wsL_law := wr_21 _ (List.mem_of_getElem? (i := 5) rfl)
theorem wm_21_6 : (Cond.instanceMethod yX7_lineOf) ∈ wsL_law := wr_21 _ (List.mem_of_getElem? (i := 6) rfl)
theorem wm_21_7 : (Cond.selects RX7 yX7_lineOf yX7_lineOf) ∈ wsL_law := wr_21 _ (List.mem_of_getElem? (i := 7) rfl)
theorem wm_21_8 : (Cond.code yX7_lineOf cX7_lineOf 2 (some (.object "OutsideAsks$Line"))) ∈ wsL_law := wr_21 _ (List.mem_of_getElem? (i := 8) rfl)
theorem wm_21_9 : (Cond.methodLink RL 58 yX8_lose) ∈ wsL_law := wr_21 _ (List.mem_of_getElem? (i := 9) rfl)
theorem wm_21_10 : (Cond.instanceMethod yX8_lose) ∈ wsL_law := wr_21 _ (List.mem_of_getElem? (i := 10) rfl)
theorem wm_21_11 : (Cond.selects RX8 yX8_lose yX8_lose) ∈ wsL_law := wr_21 _ (List.mem_of_getElem? (i := 11) rfl)
theorem wm_21_12 : (Cond.code yX8_lose cX8_lose 3 (some .int)) ∈ wsL_law := wr_21 _ (List.mem_of_getElem? (i := 12) rfl)
theorem wm_21_13 : (Cond.methodLink RL 59 yX7_twice) ∈ wsL_law := wr_21 _ (List.mem_of_getElem? (i := 13) rfl)
theorem wm_21_14 : (Cond.instanceMethod yX7_twice) ∈ wsL_law := wr_21 _ (List.mem_of_getElem? (i := 14) rfl)
theorem wm_21_15 : (Cond.selects RX7 yX7_twice yX7_twice) ∈ wsL_law := wr_21 _ (List.mem_of_getElem? (i := 15) rfl)
theorem wm_21_16 : (Cond.code yX7_twice cX7_twice 4 (some .int)) ∈ wsL_law := wr_21 _ (List.mem_of_getElem? (i := 16) rfl)
theorem wm_21_17 : (Cond.methodLink RL 62 yX8_twice) ∈ wsL_law := wr_21 _ (List.mem_of_getElem? (i := 17) rfl)
theorem wm_21_18 : (Cond.instanceMethod yX8_twice) ∈ wsL_law := wr_21 _ (List.mem_of_getElem? (i := 18) rfl)
theorem wm_21_19 : (Cond.selects RX8 yX8_twice yX8_twice) ∈ wsL_law := wr_21 _ (List.mem_of_getElem? (i := 19) rfl)
theorem wm_21_20 : (Cond.code yX8_twice cX8_twice 4 (some .int)) ∈ wsL_law := wr_21 _ (List.mem_of_getElem? (i := 20) rfl)
theorem wm_21_21 : (Cond.methodLink RL 63 yX7_under) ∈ wsL_law := wr_21 _ (List.mem_of_getElem? (i := 21) rfl)
theorem wm_21_22 : (Cond.instanceMethod yX7_under) ∈ wsL_law := wr_21 _ (List.mem_of_getElem? (i := 22) rfl)
theorem wm_21_23 : (Cond.selects RX7 yX7_under yX7_under) ∈ wsL_law := wr_21 _ (List.mem_of_getElem? (i := 23) rfl)
theorem wm_22_0 : (Cond.code yX7_under cX7_under 4 (some .int)) ∈ wsL_law := wr_22 _ (List.mem_of_getElem? (i := 0) rfl)
theorem wm_22_1 : (Cond.methodLink RL 66 yX8_under) ∈ wsL_law := wr_22 _ (List.mem_of_getElem? (i := 1) rfl)
theorem wm_22_2 : (Cond.instanceMethod yX8_under) ∈ wsL_law := wr_22 _ (List.mem_of_getElem? (i := 2) rfl)
theorem wm_22_3 : (Cond.selects RX8 yX8_under yX8_under) ∈ wsL_law := wr_22 _ (List.mem_of_getElem? (i := 3) rfl)
theorem wm_22_4 : (Cond.code yX8_under cX8_under 3 (some .int)) ∈ wsL_law := wr_22 _ (List.mem_of_getElem? (i := 4) rfl)
theorem wm_22_5 : (Cond.methodLink RL 67 yX7_out) ∈ wsL_law := wr_22 _ (List.mem_of_getElem? (i := 5) rfl)
theorem wm_22_6 : (Cond.instanceMethod yX7_out) ∈ wsL_law := wr_22 _ (List.mem_of_getElem? (i := 6) rfl)
theorem wm_22_7 : (Cond.selects RX7 yX7_out yX7_out) ∈ wsL_law := wr_22 _ (List.mem_of_getElem? (i := 7) rfl)
theorem wm_22_8 : (Cond.code yX7_out cX7_out 3 (some .int)) ∈ wsL_law := wr_22 _ (List.mem_of_getElem? (i := 8) rfl)
theorem wm_22_9 : (Cond.methodLink RX7 190 yX3_itemAt) ∈ wsL_law := wr_22 _ (List.mem_of_getElem? (i := 9) rfl)
theorem wm_22_10 : (Cond.instanceMethod yX3_itemAt) ∈ wsL_law := wr_22 _ (List.mem_of_getElem? (i := 10) rfl)
theorem wm_22_11 : (Cond.selects RX3 yX3_itemAt yX3_itemAt) ∈ wsL_law := wr_22 _ (List.mem_of_getElem? (i := 11) rfl)
theorem wm_22_12 : (Cond.code yX3_itemAt cX3_itemAt 2 (some .int)) ∈ wsL_law := wr_22 _ (List.mem_of_getElem? (i := 12) rfl)
theorem wm_22_13 : (Cond.methodLink RX7 193 yX4_resultOf) ∈ wsL_law := wr_22 _ (List.mem_of_getElem? (i := 13) rfl)
theorem wm_22_14 : (Cond.instanceMethod yX4_resultOf) ∈ wsL_law := wr_22 _ (List.mem_of_getElem? (i := 14) rfl)
theorem wm_22_15 : (Cond.selects RX4 yX4_resultOf yX4_resultOf) ∈ wsL_law := wr_22 _ (List.mem_of_getElem? (i := 15) rfl)
theorem wm_22_16 : (Cond.code yX4_resultOf cX4_resultOf 2 (some .int)) ∈ wsL_law := wr_22 _ (List.mem_of_getElem? (i := 16) rfl)
theorem wm_22_17 : (Cond.methodLink RX7 196 yX3_tickAt) ∈ wsL_law := wr_22 _ (List.mem_of_getElem? (i := 17) rfl)
theorem wm_22_18 : (Cond.instanceMethod yX3_tickAt) ∈ wsL_law := wr_22 _ (List.mem_of_getElem? (i := 18) rfl)
theorem wm_22_19 : (Cond.selects RX3 yX3_tickAt yX3_tickAt) ∈ wsL_law := wr_22 _ (List.mem_of_getElem? (i := 19) rfl)
theorem wm_22_20 : (Cond.code yX3_tickAt cX3_tickAt 2 (some .int)) ∈ wsL_law := wr_22 _ (List.mem_of_getElem? (i := 20) rfl)
theorem wm_22_21 : (Cond.methodLink RL 70 yX8_out) ∈ wsL_law := wr_22 _ (List.mem_of_getElem? (i := 21) rfl)
theorem wm_22_22 : (Cond.instanceMethod yX8_out) ∈ wsL_law := wr_22 _ (List.mem_of_getElem? (i := 22) rfl)
theorem wm_22_23 : (Cond.selects RX8 yX8_out yX8_out) ∈ wsL_law := wr_22 _ (List.mem_of_getElem? (i := 23) rfl)
theorem wm_23_0 : (Cond.code yX8_out cX8_out 3 (some .int)) ∈ wsL_law := wr_23 _ (List.mem_of_getElem? (i := 0) rfl)
theorem wm_23_1 : (Cond.methodLink RL 71 yX7_value) ∈ wsL_law := wr_23 _ (List.mem_of_getElem? (i := 1) rfl)
theorem wm_23_2 : (Cond.instanceMethod yX7_value) ∈ wsL_law := wr_23 _ (List.mem_of_getElem? (i := 2) rfl)
theorem wm_23_3 : (Cond.selects RX7 yX7_value yX7_value) ∈ wsL_law := wr_23 _ (List.mem_of_getElem? (i := 3) rfl)
theorem wm_23_4 : (Cond.code yX7_value cX7_value 2 (some .long)) ∈ wsL_law := wr_23 _ (List.mem_of_getElem? (i := 4) rfl)
theorem wm_23_5 : (Cond.methodLink RX7 199 yX4_valueOf) ∈ wsL_law := wr_23 _ (List.mem_of_getElem? (i := 5) rfl)
theorem wm_23_6 : (Cond.instanceMethod yX4_valueOf) ∈ wsL_law := wr_23 _ (List.mem_of_getElem? (i := 6) rfl)
theorem wm_23_7 : (Cond.selects RX4 yX4_valueOf yX4_valueOf) ∈ wsL_law := wr_23 _ (List.mem_of_getElem? (i := 7) rfl)
theorem wm_23_8 : (Cond.code yX4_valueOf cX4_valueOf 2 (some .long)) ∈ wsL_law := wr_23 _ (List.mem_of_getElem? (i := 8) rfl)
theorem wm_23_9 : (Cond.methodLink RL 75 yX8_value) ∈ wsL_law := wr_23 _ (List.mem_of_getElem? (i := 9) rfl)
theorem wm_23_10 : (Cond.instanceMethod yX8_value) ∈ wsL_law := wr_23 _ (List.mem_of_getElem? (i := 10) rfl)
theorem wm_23_11 : (Cond.selects RX8 yX8_value yX8_value) ∈ wsL_law := wr_23 _ (List.mem_of_getElem? (i := 11) rfl)
theorem wm_23_12 : (Cond.code yX8_value cX8_value 2 (some .long)) ∈ wsL_law := wr_23 _ (List.mem_of_getElem? (i := 12) rfl)
theorem wm_23_13 : (Cond.methodLink RX8 176 yX8_isItem) ∈ wsL_law := wr_23 _ (List.mem_of_getElem? (i := 13) rfl)
theorem wm_23_14 : (Cond.instanceMethod yX8_isItem) ∈ wsL_law := wr_23 _ (List.mem_of_getElem? (i := 14) rfl)
theorem wm_23_15 : (Cond.selects RX8 yX8_isItem yX8_isItem) ∈ wsL_law := wr_23 _ (List.mem_of_getElem? (i := 15) rfl)
theorem wm_23_16 : (Cond.code yX8_isItem cX8_isItem 2 (some .boolean)) ∈ wsL_law := wr_23 _ (List.mem_of_getElem? (i := 16) rfl)
theorem wm_23_17 : (Cond.methodLink RL 76 yX7_item) ∈ wsL_law := wr_23 _ (List.mem_of_getElem? (i := 17) rfl)
theorem wm_23_18 : (Cond.instanceMethod yX7_item) ∈ wsL_law := wr_23 _ (List.mem_of_getElem? (i := 18) rfl)
theorem wm_23_19 : (Cond.selects RX7 yX7_item yX7_item) ∈ wsL_law := wr_23 _ (List.mem_of_getElem? (i := 19) rfl)
theorem wm_23_20 : (Cond.code yX7_item cX7_item 3 (some .int)) ∈ wsL_law := wr_23 _ (List.mem_of_getElem? (i := 20) rfl)
theorem wm_23_21 : (Cond.methodLink RX7 200 yX4_hasItem) ∈ wsL_law := wr_23 _ (List.mem_of_getElem? (i := 21) rfl)
theorem wm_23_22 : (Cond.methodLink RL 79 yX8_item) ∈ wsL_law := wr_23 _ (List.mem_of_getElem? (i := 22) rfl)
theorem wm_23_23 : (Cond.instanceMethod yX8_item) ∈ wsL_law := wr_23 _ (List.mem_of_getElem? (i := 23) rfl)
theorem wm_24_0 : (Cond.selects RX8 yX8_item yX8_item) ∈ wsL_law := wr_24 _ (List.mem_of_getElem? (i := 0) rfl)
theorem wm_24_1 : (Cond.code yX8_item cX8_item 3 (some .int)) ∈ wsL_law := wr_24 _ (List.mem_of_getElem? (i := 1) rfl)
theorem wm_24_2 : (Cond.methodLink RL 80 yX7_count) ∈ wsL_law := wr_24 _ (List.mem_of_getElem? (i := 2) rfl)
theorem wm_24_3 : (Cond.instanceMethod yX7_count) ∈ wsL_law := wr_24 _ (List.mem_of_getElem? (i := 3) rfl)
theorem wm_24_4 : (Cond.selects RX7 yX7_count yX7_count) ∈ wsL_law := wr_24 _ (List.mem_of_getElem? (i := 4) rfl)
theorem wm_24_5 : (Cond.code yX7_count cX7_count 3 (some .int)) ∈ wsL_law := wr_24 _ (List.mem_of_getElem? (i := 5) rfl)
theorem wm_24_6 : (Cond.methodLink RX7 212 yX6_countOf) ∈ wsL_law := wr_24 _ (List.mem_of_getElem? (i := 6) rfl)
theorem wm_24_7 : (Cond.methodLink RL 84 yX8_count) ∈ wsL_law := wr_24 _ (List.mem_of_getElem? (i := 7) rfl)
theorem wm_24_8 : (Cond.instanceMethod yX8_count) ∈ wsL_law := wr_24 _ (List.mem_of_getElem? (i := 8) rfl)
theorem wm_24_9 : (Cond.selects RX8 yX8_count yX8_count) ∈ wsL_law := wr_24 _ (List.mem_of_getElem? (i := 9) rfl)
theorem wm_24_10 : (Cond.code yX8_count cX8_count 4 (some .int)) ∈ wsL_law := wr_24 _ (List.mem_of_getElem? (i := 10) rfl)
theorem wm_24_11 : (Cond.methodLink RL 85 yX7_kept) ∈ wsL_law := wr_24 _ (List.mem_of_getElem? (i := 11) rfl)
theorem wm_24_12 : (Cond.instanceMethod yX7_kept) ∈ wsL_law := wr_24 _ (List.mem_of_getElem? (i := 12) rfl)
theorem wm_24_13 : (Cond.selects RX7 yX7_kept yX7_kept) ∈ wsL_law := wr_24 _ (List.mem_of_getElem? (i := 13) rfl)
theorem wm_24_14 : (Cond.code yX7_kept cX7_kept 3 (some .int)) ∈ wsL_law := wr_24 _ (List.mem_of_getElem? (i := 14) rfl)
theorem wm_24_15 : (Cond.methodLink RL 88 yX8_kept) ∈ wsL_law := wr_24 _ (List.mem_of_getElem? (i := 15) rfl)
theorem wm_24_16 : (Cond.instanceMethod yX8_kept) ∈ wsL_law := wr_24 _ (List.mem_of_getElem? (i := 16) rfl)
theorem wm_24_17 : (Cond.selects RX8 yX8_kept yX8_kept) ∈ wsL_law := wr_24 _ (List.mem_of_getElem? (i := 17) rfl)
theorem wm_24_18 : (Cond.code yX8_kept cX8_kept 4 (some .int)) ∈ wsL_law := wr_24 _ (List.mem_of_getElem? (i := 18) rfl)
theorem wm_24_19 : (Cond.methodLink RL 89 yX7_save) ∈ wsL_law := wr_24 _ (List.mem_of_getElem? (i := 19) rfl)
theorem wm_24_20 : (Cond.instanceMethod yX7_save) ∈ wsL_law := wr_24 _ (List.mem_of_getElem? (i := 20) rfl)
theorem wm_24_21 : (Cond.selects RX7 yX7_save yX7_save) ∈ wsL_law := wr_24 _ (List.mem_of_getElem? (i := 21) rfl)
theorem wm_24_22 : (Cond.code yX7_save cX7_save 1 (some .int)) ∈ wsL_law := wr_24 _ (List.mem_of_getElem? (i := 22) rfl)
theorem wm_24_23 : (Cond.methodLink RX7 219 yX4_copyFrom) ∈ wsL_law := wr_24 _ (List.mem_of_getElem? (i := 23) rfl)
theorem wm_25_0 : (Cond.instanceMethod yX4_copyFrom) ∈ wsL_law := wr_25 _ (List.mem_of_getElem? (i := 0) rfl)
theorem wm_25_1 : (Cond.selects RX4 yX4_copyFrom yX4_copyFrom) ∈ wsL_law := wr_25 _ (List.mem_of_getElem? (i := 1) rfl)
theorem wm_25_2 : (Cond.code yX4_copyFrom cX4_copyFrom 2 none) ∈ wsL_law := wr_25 _ (List.mem_of_getElem? (i := 2) rfl)
theorem wm_25_3 : (Cond.methodLink RX4 43 yX4_copyItems) ∈ wsL_law := wr_25 _ (List.mem_of_getElem? (i := 3) rfl)
theorem wm_25_4 : (Cond.instanceMethod yX4_copyItems) ∈ wsL_law := wr_25 _ (List.mem_of_getElem? (i := 4) rfl)
theorem wm_25_5 : (Cond.selects RX4 yX4_copyItems yX4_copyItems) ∈ wsL_law := wr_25 _ (List.mem_of_getElem? (i := 5) rfl)
theorem wm_25_6 : (Cond.code yX4_copyItems cX4_copyItems 2 none) ∈ wsL_law := wr_25 _ (List.mem_of_getElem? (i := 6) rfl)
theorem wm_25_7 : (Cond.methodLink RX4 47 arraycopyName) ∈ wsL_law := wr_25 _ (List.mem_of_getElem? (i := 7) rfl)
theorem wm_25_8 : (Cond.methodLink RL 92 yX8_save) ∈ wsL_law := wr_25 _ (List.mem_of_getElem? (i := 8) rfl)
theorem wm_25_9 : (Cond.instanceMethod yX8_save) ∈ wsL_law := wr_25 _ (List.mem_of_getElem? (i := 9) rfl)
theorem wm_25_10 : (Cond.selects RX8 yX8_save yX8_save) ∈ wsL_law := wr_25 _ (List.mem_of_getElem? (i := 10) rfl)
theorem wm_25_11 : (Cond.code yX8_save cX8_save 3 (some .int)) ∈ wsL_law := wr_25 _ (List.mem_of_getElem? (i := 11) rfl)
theorem wm_25_12 : (Cond.fieldLink RX8 179 "OutsideAsksModel" "savedItems" "I") ∈ wsL_law := wr_25 _ (List.mem_of_getElem? (i := 12) rfl)
theorem wm_25_13 : (Cond.fieldLink RX8 182 "OutsideAsksModel" "savedOuts" "I") ∈ wsL_law := wr_25 _ (List.mem_of_getElem? (i := 13) rfl)
theorem wm_25_14 : (Cond.methodLink RL 93 yX7_restart) ∈ wsL_law := wr_25 _ (List.mem_of_getElem? (i := 14) rfl)
theorem wm_25_15 : (Cond.instanceMethod yX7_restart) ∈ wsL_law := wr_25 _ (List.mem_of_getElem? (i := 15) rfl)
theorem wm_25_16 : (Cond.selects RX7 yX7_restart yX7_restart) ∈ wsL_law := wr_25 _ (List.mem_of_getElem? (i := 16) rfl)
theorem wm_25_17 : (Cond.code yX7_restart cX7_restart 1 (some .int)) ∈ wsL_law := wr_25 _ (List.mem_of_getElem? (i := 17) rfl)
theorem wm_25_18 : (Cond.methodLink RX7 226 yX4_goBackTo) ∈ wsL_law := wr_25 _ (List.mem_of_getElem? (i := 18) rfl)
theorem wm_25_19 : (Cond.instanceMethod yX4_goBackTo) ∈ wsL_law := wr_25 _ (List.mem_of_getElem? (i := 19) rfl)
theorem wm_25_20 : (Cond.selects RX4 yX4_goBackTo yX4_goBackTo) ∈ wsL_law := wr_25 _ (List.mem_of_getElem? (i := 20) rfl)
theorem wm_25_21 : (Cond.code yX4_goBackTo cX4_goBackTo 3 none) ∈ wsL_law := wr_25 _ (List.mem_of_getElem? (i := 21) rfl)
theorem wm_25_22 : (Cond.methodLink RX7 229 yX1_forgetAll) ∈ wsL_law := wr_25 _ (List.mem_of_getElem? (i := 22) rfl)
theorem wm_25_23 : (Cond.instanceMethod yX1_forgetAll) ∈ wsL_law := wr_25 _ (List.mem_of_getElem? (i := 23) rfl)
theorem wm_26_0 : (Cond.selects RX1 yX1_forgetAll yX1_forgetAll) ∈ wsL_law := wr_26 _ (List.mem_of_getElem? (i := 0) rfl)
theorem wm_26_1 : (Cond.code yX1_forgetAll cX1_forgetAll 1 none) ∈ wsL_law := wr_26 _ (List.mem_of_getElem? (i := 1) rfl)
theorem wm_26_2 : (Cond.methodLink RX7 232 yX7_askAgainAllWorking) ∈ wsL_law := wr_26 _ (List.mem_of_getElem? (i := 2) rfl)
theorem wm_26_3 : (Cond.instanceMethod yX7_askAgainAllWorking) ∈ wsL_law := wr_26 _ (List.mem_of_getElem? (i := 3) rfl)
theorem wm_26_4 : (Cond.selects RX7 yX7_askAgainAllWorking yX7_askAgainAllWorking) ∈ wsL_law := wr_26 _ (List.mem_of_getElem? (i := 4) rfl)
theorem wm_26_5 : (Cond.code yX7_askAgainAllWorking cX7_askAgainAllWorking 2 none) ∈ wsL_law := wr_26 _ (List.mem_of_getElem? (i := 5) rfl)
theorem wm_26_6 : (Cond.methodLink RL 96 yX8_restart) ∈ wsL_law := wr_26 _ (List.mem_of_getElem? (i := 6) rfl)
theorem wm_26_7 : (Cond.instanceMethod yX8_restart) ∈ wsL_law := wr_26 _ (List.mem_of_getElem? (i := 7) rfl)
theorem wm_26_8 : (Cond.selects RX8 yX8_restart yX8_restart) ∈ wsL_law := wr_26 _ (List.mem_of_getElem? (i := 8) rfl)
theorem wm_26_9 : (Cond.code yX8_restart cX8_restart 2 (some .int)) ∈ wsL_law := wr_26 _ (List.mem_of_getElem? (i := 9) rfl)
theorem wm_26_10 : (Cond.fieldLink RX8 185 "OutsideAsksModel" "restarts" "I") ∈ wsL_law := wr_26 _ (List.mem_of_getElem? (i := 10) rfl)
theorem wm_26_11 : (Cond.methodLink RL 97 yX7_told) ∈ wsL_law := wr_26 _ (List.mem_of_getElem? (i := 11) rfl)
theorem wm_26_12 : (Cond.instanceMethod yX7_told) ∈ wsL_law := wr_26 _ (List.mem_of_getElem? (i := 12) rfl)
theorem wm_26_13 : (Cond.selects RX7 yX7_told yX7_told) ∈ wsL_law := wr_26 _ (List.mem_of_getElem? (i := 13) rfl)
theorem wm_26_14 : (Cond.code yX7_told cX7_told 2 (some .int)) ∈ wsL_law := wr_26 _ (List.mem_of_getElem? (i := 14) rfl)
theorem wm_26_15 : (Cond.methodLink RL 100 yX8_told) ∈ wsL_law := wr_26 _ (List.mem_of_getElem? (i := 15) rfl)
theorem wm_26_16 : (Cond.instanceMethod yX8_told) ∈ wsL_law := wr_26 _ (List.mem_of_getElem? (i := 16) rfl)
theorem wm_26_17 : (Cond.selects RX8 yX8_told yX8_told) ∈ wsL_law := wr_26 _ (List.mem_of_getElem? (i := 17) rfl)
theorem wm_26_18 : (Cond.code yX8_told cX8_told 2 (some .int)) ∈ wsL_law := wr_26 _ (List.mem_of_getElem? (i := 18) rfl)
end
section
theorem dX0_init_0 : decode cX0_init 0 = .ok (.aload_n 0, 1) := by decide +kernel
theorem dX0_init_1 : decode cX0_init 1 = .ok (.invokespecial 3, 3) := by decide +kernel
theorem dX0_init_4 : decode cX0_init 4 = .ok (.aload_n 0, 1) := by decide +kernel
theorem dX0_init_5 : decode cX0_init 5 = .ok (.sipush 300, 3) := by decide +kernel
theorem dX0_init_8 : decode cX0_init 8 = .ok (.newarray .long, 2) := by decide +kernel
theorem dX0_init_10 : decode cX0_init 10 = .ok (.putfield 9, 3) := by decide +kernel
theorem dX0_init_13 : decode cX0_init 13 = .ok (.aload_n 0, 1) := by decide +kernel
theorem dX0_init_14 : decode cX0_init 14 = .ok (.sipush 300, 3) := by decide +kernel
theorem dX0_init_17 : decode cX0_init 17 = .ok (.newarray .long, 2) := by decide +kernel
theorem dX0_init_19 : decode cX0_init 19 = .ok (.putfield 15, 3) := by decide +kernel
theorem dX0_init_22 : decode cX0_init 22 = .ok (.aload_n 0, 1) := by decide +kernel
theorem dX0_init_23 : decode cX0_init 23 = .ok (.sipush 300, 3) := by decide +kernel
theorem dX0_init_26 : decode cX0_init 26 = .ok (.newarray .boolean, 2) := by decide +kernel
theorem dX0_init_28 : decode cX0_init 28 = .ok (.putfield 18, 3) := by decide +kernel
theorem dX0_init_31 : decode cX0_init 31 = .ok (.aload_n 0, 1) := by decide +kernel
theorem dX0_init_32 : decode cX0_init 32 = .ok (.sipush 300, 3) := by decide +kernel
theorem dX0_init_35 : decode cX0_init 35 = .ok (.newarray .int, 2) := by decide +kernel
theorem dX0_init_37 : decode cX0_init 37 = .ok (.putfield 22, 3) := by decide +kernel
theorem dX0_init_40 : decode cX0_init 40 = .ok (.return_, 1) := by decide +kernel
theorem dX0_noteRow_0 : decode cX0_noteRow 0 = .ok (.aload_n 0, 1) := by decide +kernel
theorem dX0_noteRow_1 : decode cX0_noteRow 1 = .ok (.iload_n 1, 1) := by decide +kernel
theorem dX0_noteRow_2 : decode cX0_noteRow 2 = .ok (.invokevirtual 26, 3) := by decide +kernel
theorem dX0_noteRow_5 : decode cX0_noteRow 5 = .ok (.ifCond .eq 18, 3) := by decide +kernel
theorem dX0_noteRow_8 : decode cX0_noteRow 8 = .ok (.aload_n 0, 1) := by decide +kernel
theorem dX0_noteRow_9 : decode cX0_noteRow 9 = .ok (.getfield 9, 3) := by decide +kernel
theorem dX0_noteRow_12 : decode cX0_noteRow 12 = .ok (.iload_n 1, 1) := by decide +kernel
theorem dX0_noteRow_13 : decode cX0_noteRow 13 = .ok (.lload_n 2, 1) := by decide +kernel
theorem dX0_noteRow_14 : decode cX0_noteRow 14 = .ok (.lastore, 1) := by decide +kernel
theorem dX0_noteRow_15 : decode cX0_noteRow 15 = .ok (.aload_n 0, 1) := by decide +kernel
theorem dX0_noteRow_16 : decode cX0_noteRow 16 = .ok (.getfield 15, 3) := by decide +kernel
theorem dX0_noteRow_19 : decode cX0_noteRow 19 = .ok (.iload_n 1, 1) := by decide +kernel
theorem dX0_noteRow_20 : decode cX0_noteRow 20 = .ok (.lload 4, 2) := by decide +kernel
theorem dX0_noteRow_22 : decode cX0_noteRow 22 = .ok (.lastore, 1) := by decide +kernel
theorem dX0_noteRow_23 : decode cX0_noteRow 23 = .ok (.return_, 1) := by decide +kernel
theorem dX0_noteMark_0 : decode cX0_noteMark 0 = .ok (.aload_n 0, 1) := by decide +kernel
theorem dX0_noteMark_1 : decode cX0_noteMark 1 = .ok (.iload_n 1, 1) := by decide +kernel
theorem dX0_noteMark_2 : decode cX0_noteMark 2 = .ok (.invokevirtual 26, 3) := by decide +kernel
theorem dX0_noteMark_5 : decode cX0_noteMark 5 = .ok (.ifCond .eq 10, 3) := by decide +kernel
theorem dX0_noteMark_8 : decode cX0_noteMark 8 = .ok (.aload_n 0, 1) := by decide +kernel
theorem dX0_noteMark_9 : decode cX0_noteMark 9 = .ok (.getfield 18, 3) := by decide +kernel
theorem dX0_noteMark_12 : decode cX0_noteMark 12 = .ok (.iload_n 1, 1) := by decide +kernel
theorem dX0_noteMark_13 : decode cX0_noteMark 13 = .ok (.iconst 1, 1) := by decide +kernel
theorem dX0_noteMark_14 : decode cX0_noteMark 14 = .ok (.bastore, 1) := by decide +kernel
theorem dX0_noteMark_15 : decode cX0_noteMark 15 = .ok (.return_, 1) := by decide +kernel
theorem dX0_keyOf_0 : decode cX0_keyOf 0 = .ok (.aload_n 0, 1) := by decide +kernel
theorem dX0_keyOf_1 : decode cX0_keyOf 1 = .ok (.iload_n 1, 1) := by decide +kernel
theorem dX0_keyOf_2 : decode cX0_keyOf 2 = .ok (.invokevirtual 26, 3) := by decide +kernel
theorem dX0_keyOf_5 : decode cX0_keyOf 5 = .ok (.ifCond .eq 12, 3) := by decide +kernel
theorem dX0_keyOf_8 : decode cX0_keyOf 8 = .ok (.aload_n 0, 1) := by decide +kernel
theorem dX0_keyOf_9 : decode cX0_keyOf 9 = .ok (.getfield 9, 3) := by decide +kernel
theorem dX0_keyOf_12 : decode cX0_keyOf 12 = .ok (.iload_n 1, 1) := by decide +kernel
theorem dX0_keyOf_13 : decode cX0_keyOf 13 = .ok (.laload, 1) := by decide +kernel
theorem dX0_keyOf_14 : decode cX0_keyOf 14 = .ok (.goto 4, 3) := by decide +kernel
theorem dX0_keyOf_17 : decode cX0_keyOf 17 = .ok (.lconst 0, 1) := by decide +kernel
theorem dX0_keyOf_18 : decode cX0_keyOf 18 = .ok (.lreturn, 1) := by decide +kernel
theorem dX0_valueOf_0 : decode cX0_valueOf 0 = .ok (.aload_n 0, 1) := by decide +kernel
theorem dX0_valueOf_1 : decode cX0_valueOf 1 = .ok (.iload_n 1, 1) := by decide +kernel
theorem dX0_valueOf_2 : decode cX0_valueOf 2 = .ok (.invokevirtual 26, 3) := by decide +kernel
theorem dX0_valueOf_5 : decode cX0_valueOf 5 = .ok (.ifCond .eq 12, 3) := by decide +kernel
theorem dX0_valueOf_8 : decode cX0_valueOf 8 = .ok (.aload_n 0, 1) := by decide +kernel
theorem dX0_valueOf_9 : decode cX0_valueOf 9 = .ok (.getfield 15, 3) := by decide +kernel
theorem dX0_valueOf_12 : decode cX0_valueOf 12 = .ok (.iload_n 1, 1) := by decide +kernel
theorem dX0_valueOf_13 : decode cX0_valueOf 13 = .ok (.laload, 1) := by decide +kernel
theorem dX0_valueOf_14 : decode cX0_valueOf 14 = .ok (.goto 4, 3) := by decide +kernel
theorem dX0_valueOf_17 : decode cX0_valueOf 17 = .ok (.lconst 0, 1) := by decide +kernel
theorem dX0_valueOf_18 : decode cX0_valueOf 18 = .ok (.lreturn, 1) := by decide +kernel
theorem dX0_isMark_0 : decode cX0_isMark 0 = .ok (.aload_n 0, 1) := by decide +kernel
theorem dX0_isMark_1 : decode cX0_isMark 1 = .ok (.iload_n 1, 1) := by decide +kernel
theorem dX0_isMark_2 : decode cX0_isMark 2 = .ok (.invokevirtual 26, 3) := by decide +kernel
theorem dX0_isMark_5 : decode cX0_isMark 5 = .ok (.ifCond .eq 16, 3) := by decide +kernel
theorem dX0_isMark_8 : decode cX0_isMark 8 = .ok (.aload_n 0, 1) := by decide +kernel
theorem dX0_isMark_9 : decode cX0_isMark 9 = .ok (.getfield 18, 3) := by decide +kernel
theorem dX0_isMark_12 : decode cX0_isMark 12 = .ok (.iload_n 1, 1) := by decide +kernel
theorem dX0_isMark_13 : decode cX0_isMark 13 = .ok (.baload, 1) := by decide +kernel
theorem dX0_isMark_14 : decode cX0_isMark 14 = .ok (.ifCond .eq 7, 3) := by decide +kernel
theorem dX0_isMark_17 : decode cX0_isMark 17 = .ok (.iconst 1, 1) := by decide +kernel
theorem dX0_isMark_18 : decode cX0_isMark 18 = .ok (.goto 4, 3) := by decide +kernel
theorem dX0_isMark_21 : decode cX0_isMark 21 = .ok (.iconst 0, 1) := by decide +kernel
theorem dX0_isMark_22 : decode cX0_isMark 22 = .ok (.ireturn, 1) := by decide +kernel
theorem dX0_dueOf_0 : decode cX0_dueOf 0 = .ok (.aload_n 0, 1) := by decide +kernel
theorem dX0_dueOf_1 : decode cX0_dueOf 1 = .ok (.iload_n 1, 1) := by decide +kernel
theorem dX0_dueOf_2 : decode cX0_dueOf 2 = .ok (.invokevirtual 26, 3) := by decide +kernel
theorem dX0_dueOf_5 : decode cX0_dueOf 5 = .ok (.ifCond .eq 12, 3) := by decide +kernel
theorem dX0_dueOf_8 : decode cX0_dueOf 8 = .ok (.aload_n 0, 1) := by decide +kernel
theorem dX0_dueOf_9 : decode cX0_dueOf 9 = .ok (.getfield 22, 3) := by decide +kernel
theorem dX0_dueOf_12 : decode cX0_dueOf 12 = .ok (.iload_n 1, 1) := by decide +kernel
theorem dX0_dueOf_13 : decode cX0_dueOf 13 = .ok (.iaload, 1) := by decide +kernel
theorem dX0_dueOf_14 : decode cX0_dueOf 14 = .ok (.goto 4, 3) := by decide +kernel
theorem dX0_dueOf_17 : decode cX0_dueOf 17 = .ok (.iconst (-1), 1) := by decide +kernel
theorem dX0_dueOf_18 : decode cX0_dueOf 18 = .ok (.ireturn, 1) := by decide +kernel
theorem dX0_setDue_0 : decode cX0_setDue 0 = .ok (.aload_n 0, 1) := by decide +kernel
theorem dX0_setDue_1 : decode cX0_setDue 1 = .ok (.iload_n 1, 1) := by decide +kernel
theorem dX0_setDue_2 : decode cX0_setDue 2 = .ok (.invokevirtual 26, 3) := by decide +kernel
theorem dX0_setDue_5 : decode cX0_setDue 5 = .ok (.ifCond .eq 10, 3) := by decide +kernel
theorem dX0_setDue_8 : decode cX0_setDue 8 = .ok (.aload_n 0, 1) := by decide +kernel
theorem dX0_setDue_9 : decode cX0_setDue 9 = .ok (.getfield 22, 3) := by decide +kernel
theorem dX0_setDue_12 : decode cX0_setDue 12 = .ok (.iload_n 1, 1) := by decide +kernel
theorem dX0_setDue_13 : decode cX0_setDue 13 = .ok (.iload_n 2, 1) := by decide +kernel
theorem dX0_setDue_14 : decode cX0_setDue 14 = .ok (.iastore, 1) := by decide +kernel
theorem dX0_setDue_15 : decode cX0_setDue 15 = .ok (.return_, 1) := by decide +kernel
theorem dX0_mayHave_0 : decode cX0_mayHave 0 = .ok (.iload_n 1, 1) := by decide +kernel
theorem dX0_mayHave_1 : decode cX0_mayHave 1 = .ok (.ifCond .lt 14, 3) := by decide +kernel
theorem dX0_mayHave_4 : decode cX0_mayHave 4 = .ok (.iload_n 1, 1) := by decide +kernel
theorem dX0_mayHave_5 : decode cX0_mayHave 5 = .ok (.sipush 300, 3) := by decide +kernel
theorem dX0_mayHave_8 : decode cX0_mayHave 8 = .ok (.if_icmp .ge 7, 3) := by decide +kernel
theorem dX0_mayHave_11 : decode cX0_mayHave 11 = .ok (.iconst 1, 1) := by decide +kernel
theorem dX0_mayHave_12 : decode cX0_mayHave 12 = .ok (.goto 4, 3) := by decide +kernel
theorem dX0_mayHave_15 : decode cX0_mayHave 15 = .ok (.iconst 0, 1) := by decide +kernel
theorem dX0_mayHave_16 : decode cX0_mayHave 16 = .ok (.ireturn, 1) := by decide +kernel
theorem dX1_init_0 : decode cX1_init 0 = .ok (.aload_n 0, 1) := by decide +kernel
theorem dX1_init_1 : decode cX1_init 1 = .ok (.invokespecial 3, 3) := by decide +kernel
theorem dX1_init_4 : decode cX1_init 4 = .ok (.aload_n 0, 1) := by decide +kernel
theorem dX1_init_5 : decode cX1_init 5 = .ok (.bipush 8, 2) := by decide +kernel
theorem dX1_init_7 : decode cX1_init 7 = .ok (.newarray .long, 2) := by decide +kernel
theorem dX1_init_9 : decode cX1_init 9 = .ok (.putfield 9, 3) := by decide +kernel
theorem dX1_init_12 : decode cX1_init 12 = .ok (.aload_n 0, 1) := by decide +kernel
theorem dX1_init_13 : decode cX1_init 13 = .ok (.bipush 8, 2) := by decide +kernel
theorem dX1_init_15 : decode cX1_init 15 = .ok (.newarray .long, 2) := by decide +kernel
theorem dX1_init_17 : decode cX1_init 17 = .ok (.putfield 15, 3) := by decide +kernel
theorem dX1_init_20 : decode cX1_init 20 = .ok (.aload_n 0, 1) := by decide +kernel
theorem dX1_init_21 : decode cX1_init 21 = .ok (.bipush 8, 2) := by decide +kernel
theorem dX1_init_23 : decode cX1_init 23 = .ok (.newarray .int, 2) := by decide +kernel
theorem dX1_init_25 : decode cX1_init 25 = .ok (.putfield 18, 3) := by decide +kernel
theorem dX1_init_28 : decode cX1_init 28 = .ok (.aload_n 0, 1) := by decide +kernel
theorem dX1_init_29 : decode cX1_init 29 = .ok (.iconst 0, 1) := by decide +kernel
theorem dX1_init_30 : decode cX1_init 30 = .ok (.putfield 22, 3) := by decide +kernel
theorem dX1_init_33 : decode cX1_init 33 = .ok (.return_, 1) := by decide +kernel
theorem dX1_endOf_0 : decode cX1_endOf 0 = .ok (.aload_n 0, 1) := by decide +kernel
theorem dX1_endOf_1 : decode cX1_endOf 1 = .ok (.lload_n 1, 1) := by decide +kernel
theorem dX1_endOf_2 : decode cX1_endOf 2 = .ok (.invokevirtual 26, 3) := by decide +kernel
theorem dX1_endOf_5 : decode cX1_endOf 5 = .ok (.istore_n 3, 1) := by decide +kernel
theorem dX1_endOf_6 : decode cX1_endOf 6 = .ok (.iload_n 3, 1) := by decide +kernel
theorem dX1_endOf_7 : decode cX1_endOf 7 = .ok (.iconst (-1), 1) := by decide +kernel
theorem dX1_endOf_8 : decode cX1_endOf 8 = .ok (.if_icmp .ne 7, 3) := by decide +kernel
theorem dX1_endOf_11 : decode cX1_endOf 11 = .ok (.iconst (-1), 1) := by decide +kernel
theorem dX1_endOf_12 : decode cX1_endOf 12 = .ok (.goto 9, 3) := by decide +kernel
theorem dX1_endOf_15 : decode cX1_endOf 15 = .ok (.aload_n 0, 1) := by decide +kernel
theorem dX1_endOf_16 : decode cX1_endOf 16 = .ok (.getfield 18, 3) := by decide +kernel
theorem dX1_endOf_19 : decode cX1_endOf 19 = .ok (.iload_n 3, 1) := by decide +kernel
theorem dX1_endOf_20 : decode cX1_endOf 20 = .ok (.iaload, 1) := by decide +kernel
theorem dX1_endOf_21 : decode cX1_endOf 21 = .ok (.ireturn, 1) := by decide +kernel
theorem dX1_valueOf_0 : decode cX1_valueOf 0 = .ok (.aload_n 0, 1) := by decide +kernel
theorem dX1_valueOf_1 : decode cX1_valueOf 1 = .ok (.lload_n 1, 1) := by decide +kernel
theorem dX1_valueOf_2 : decode cX1_valueOf 2 = .ok (.invokevirtual 26, 3) := by decide +kernel
theorem dX1_valueOf_5 : decode cX1_valueOf 5 = .ok (.istore_n 3, 1) := by decide +kernel
theorem dX1_valueOf_6 : decode cX1_valueOf 6 = .ok (.iload_n 3, 1) := by decide +kernel
theorem dX1_valueOf_7 : decode cX1_valueOf 7 = .ok (.iconst (-1), 1) := by decide +kernel
theorem dX1_valueOf_8 : decode cX1_valueOf 8 = .ok (.if_icmp .ne 7, 3) := by decide +kernel
theorem dX1_valueOf_11 : decode cX1_valueOf 11 = .ok (.lconst 0, 1) := by decide +kernel
theorem dX1_valueOf_12 : decode cX1_valueOf 12 = .ok (.goto 9, 3) := by decide +kernel
theorem dX1_valueOf_15 : decode cX1_valueOf 15 = .ok (.aload_n 0, 1) := by decide +kernel
theorem dX1_valueOf_16 : decode cX1_valueOf 16 = .ok (.getfield 15, 3) := by decide +kernel
theorem dX1_valueOf_19 : decode cX1_valueOf 19 = .ok (.iload_n 3, 1) := by decide +kernel
theorem dX1_valueOf_20 : decode cX1_valueOf 20 = .ok (.laload, 1) := by decide +kernel
theorem dX1_valueOf_21 : decode cX1_valueOf 21 = .ok (.lreturn, 1) := by decide +kernel
theorem dX1_keep_0 : decode cX1_keep 0 = .ok (.aload_n 0, 1) := by decide +kernel
theorem dX1_keep_1 : decode cX1_keep 1 = .ok (.lload_n 1, 1) := by decide +kernel
theorem dX1_keep_2 : decode cX1_keep 2 = .ok (.invokevirtual 30, 3) := by decide +kernel
theorem dX1_keep_5 : decode cX1_keep 5 = .ok (.istore 6, 2) := by decide +kernel
theorem dX1_keep_7 : decode cX1_keep 7 = .ok (.aload_n 0, 1) := by decide +kernel
theorem dX1_keep_8 : decode cX1_keep 8 = .ok (.getfield 9, 3) := by decide +kernel
theorem dX1_keep_11 : decode cX1_keep 11 = .ok (.iload 6, 2) := by decide +kernel
theorem dX1_keep_13 : decode cX1_keep 13 = .ok (.lload_n 1, 1) := by decide +kernel
theorem dX1_keep_14 : decode cX1_keep 14 = .ok (.lastore, 1) := by decide +kernel
theorem dX1_keep_15 : decode cX1_keep 15 = .ok (.aload_n 0, 1) := by decide +kernel
theorem dX1_keep_16 : decode cX1_keep 16 = .ok (.getfield 15, 3) := by decide +kernel
theorem dX1_keep_19 : decode cX1_keep 19 = .ok (.iload 6, 2) := by decide +kernel
theorem dX1_keep_21 : decode cX1_keep 21 = .ok (.lload_n 3, 1) := by decide +kernel
theorem dX1_keep_22 : decode cX1_keep 22 = .ok (.lastore, 1) := by decide +kernel
theorem dX1_keep_23 : decode cX1_keep 23 = .ok (.aload_n 0, 1) := by decide +kernel
theorem dX1_keep_24 : decode cX1_keep 24 = .ok (.getfield 18, 3) := by decide +kernel
theorem dX1_keep_27 : decode cX1_keep 27 = .ok (.iload 6, 2) := by decide +kernel
theorem dX1_keep_29 : decode cX1_keep 29 = .ok (.iload 5, 2) := by decide +kernel
theorem dX1_keep_31 : decode cX1_keep 31 = .ok (.iastore, 1) := by decide +kernel
theorem dX1_keep_32 : decode cX1_keep 32 = .ok (.return_, 1) := by decide +kernel
theorem dX1_forgetAll_0 : decode cX1_forgetAll 0 = .ok (.aload_n 0, 1) := by decide +kernel
theorem dX1_forgetAll_1 : decode cX1_forgetAll 1 = .ok (.iconst 0, 1) := by decide +kernel
theorem dX1_forgetAll_2 : decode cX1_forgetAll 2 = .ok (.putfield 22, 3) := by decide +kernel
theorem dX1_forgetAll_5 : decode cX1_forgetAll 5 = .ok (.return_, 1) := by decide +kernel
theorem dX1_placeFor_0 : decode cX1_placeFor 0 = .ok (.aload_n 0, 1) := by decide +kernel
theorem dX1_placeFor_1 : decode cX1_placeFor 1 = .ok (.lload_n 1, 1) := by decide +kernel
theorem dX1_placeFor_2 : decode cX1_placeFor 2 = .ok (.invokevirtual 26, 3) := by decide +kernel
theorem dX1_placeFor_5 : decode cX1_placeFor 5 = .ok (.istore_n 3, 1) := by decide +kernel
theorem dX1_placeFor_6 : decode cX1_placeFor 6 = .ok (.iload_n 3, 1) := by decide +kernel
theorem dX1_placeFor_7 : decode cX1_placeFor 7 = .ok (.iconst (-1), 1) := by decide +kernel
theorem dX1_placeFor_8 : decode cX1_placeFor 8 = .ok (.if_icmp .eq 5, 3) := by decide +kernel
theorem dX1_placeFor_11 : decode cX1_placeFor 11 = .ok (.iload_n 3, 1) := by decide +kernel
theorem dX1_placeFor_12 : decode cX1_placeFor 12 = .ok (.ireturn, 1) := by decide +kernel
theorem dX1_placeFor_13 : decode cX1_placeFor 13 = .ok (.aload_n 0, 1) := by decide +kernel
theorem dX1_placeFor_14 : decode cX1_placeFor 14 = .ok (.getfield 22, 3) := by decide +kernel
theorem dX1_placeFor_17 : decode cX1_placeFor 17 = .ok (.bipush 8, 2) := by decide +kernel
theorem dX1_placeFor_19 : decode cX1_placeFor 19 = .ok (.if_icmp .lt 8, 3) := by decide +kernel
theorem dX1_placeFor_22 : decode cX1_placeFor 22 = .ok (.aload_n 0, 1) := by decide +kernel
theorem dX1_placeFor_23 : decode cX1_placeFor 23 = .ok (.invokevirtual 33, 3) := by decide +kernel
theorem dX1_placeFor_26 : decode cX1_placeFor 26 = .ok (.ireturn, 1) := by decide +kernel
theorem dX1_placeFor_27 : decode cX1_placeFor 27 = .ok (.aload_n 0, 1) := by decide +kernel
theorem dX1_placeFor_28 : decode cX1_placeFor 28 = .ok (.dup, 1) := by decide +kernel
theorem dX1_placeFor_29 : decode cX1_placeFor 29 = .ok (.getfield 22, 3) := by decide +kernel
theorem dX1_placeFor_32 : decode cX1_placeFor 32 = .ok (.iconst 1, 1) := by decide +kernel
theorem dX1_placeFor_33 : decode cX1_placeFor 33 = .ok (.iadd, 1) := by decide +kernel
theorem dX1_placeFor_34 : decode cX1_placeFor 34 = .ok (.putfield 22, 3) := by decide +kernel
theorem dX1_placeFor_37 : decode cX1_placeFor 37 = .ok (.aload_n 0, 1) := by decide +kernel
theorem dX1_placeFor_38 : decode cX1_placeFor 38 = .ok (.getfield 22, 3) := by decide +kernel
theorem dX1_placeFor_41 : decode cX1_placeFor 41 = .ok (.iconst 1, 1) := by decide +kernel
theorem dX1_placeFor_42 : decode cX1_placeFor 42 = .ok (.isub, 1) := by decide +kernel
theorem dX1_placeFor_43 : decode cX1_placeFor 43 = .ok (.ireturn, 1) := by decide +kernel
theorem dX1_firstToGo_0 : decode cX1_firstToGo 0 = .ok (.iconst 0, 1) := by decide +kernel
theorem dX1_firstToGo_1 : decode cX1_firstToGo 1 = .ok (.istore_n 1, 1) := by decide +kernel
theorem dX1_firstToGo_2 : decode cX1_firstToGo 2 = .ok (.iconst 1, 1) := by decide +kernel
theorem dX1_firstToGo_3 : decode cX1_firstToGo 3 = .ok (.istore_n 2, 1) := by decide +kernel
theorem dX1_firstToGo_4 : decode cX1_firstToGo 4 = .ok (.iload_n 2, 1) := by decide +kernel
theorem dX1_firstToGo_5 : decode cX1_firstToGo 5 = .ok (.aload_n 0, 1) := by decide +kernel
theorem dX1_firstToGo_6 : decode cX1_firstToGo 6 = .ok (.getfield 22, 3) := by decide +kernel
theorem dX1_firstToGo_9 : decode cX1_firstToGo 9 = .ok (.if_icmp .ge 67, 3) := by decide +kernel
theorem dX1_firstToGo_12 : decode cX1_firstToGo 12 = .ok (.aload_n 0, 1) := by decide +kernel
theorem dX1_firstToGo_13 : decode cX1_firstToGo 13 = .ok (.getfield 18, 3) := by decide +kernel
theorem dX1_firstToGo_16 : decode cX1_firstToGo 16 = .ok (.iload_n 2, 1) := by decide +kernel
theorem dX1_firstToGo_17 : decode cX1_firstToGo 17 = .ok (.iaload, 1) := by decide +kernel
theorem dX1_firstToGo_18 : decode cX1_firstToGo 18 = .ok (.aload_n 0, 1) := by decide +kernel
theorem dX1_firstToGo_19 : decode cX1_firstToGo 19 = .ok (.getfield 18, 3) := by decide +kernel
theorem dX1_firstToGo_22 : decode cX1_firstToGo 22 = .ok (.iload_n 1, 1) := by decide +kernel
theorem dX1_firstToGo_23 : decode cX1_firstToGo 23 = .ok (.iaload, 1) := by decide +kernel
theorem dX1_firstToGo_24 : decode cX1_firstToGo 24 = .ok (.if_icmp .ge 7, 3) := by decide +kernel
theorem dX1_firstToGo_27 : decode cX1_firstToGo 27 = .ok (.iconst 1, 1) := by decide +kernel
theorem dX1_firstToGo_28 : decode cX1_firstToGo 28 = .ok (.goto 4, 3) := by decide +kernel
theorem dX1_firstToGo_31 : decode cX1_firstToGo 31 = .ok (.iconst 0, 1) := by decide +kernel
theorem dX1_firstToGo_32 : decode cX1_firstToGo 32 = .ok (.istore_n 3, 1) := by decide +kernel
theorem dX1_firstToGo_33 : decode cX1_firstToGo 33 = .ok (.iload_n 3, 1) := by decide +kernel
theorem dX1_firstToGo_34 : decode cX1_firstToGo 34 = .ok (.ifCond .ne 34, 3) := by decide +kernel
theorem dX1_firstToGo_37 : decode cX1_firstToGo 37 = .ok (.aload_n 0, 1) := by decide +kernel
theorem dX1_firstToGo_38 : decode cX1_firstToGo 38 = .ok (.getfield 18, 3) := by decide +kernel
theorem dX1_firstToGo_41 : decode cX1_firstToGo 41 = .ok (.iload_n 2, 1) := by decide +kernel
theorem dX1_firstToGo_42 : decode cX1_firstToGo 42 = .ok (.iaload, 1) := by decide +kernel
theorem dX1_firstToGo_43 : decode cX1_firstToGo 43 = .ok (.aload_n 0, 1) := by decide +kernel
theorem dX1_firstToGo_44 : decode cX1_firstToGo 44 = .ok (.getfield 18, 3) := by decide +kernel
theorem dX1_firstToGo_47 : decode cX1_firstToGo 47 = .ok (.iload_n 1, 1) := by decide +kernel
theorem dX1_firstToGo_48 : decode cX1_firstToGo 48 = .ok (.iaload, 1) := by decide +kernel
theorem dX1_firstToGo_49 : decode cX1_firstToGo 49 = .ok (.if_icmp .ne 21, 3) := by decide +kernel
theorem dX1_firstToGo_52 : decode cX1_firstToGo 52 = .ok (.aload_n 0, 1) := by decide +kernel
theorem dX1_firstToGo_53 : decode cX1_firstToGo 53 = .ok (.getfield 9, 3) := by decide +kernel
theorem dX1_firstToGo_56 : decode cX1_firstToGo 56 = .ok (.iload_n 2, 1) := by decide +kernel
theorem dX1_firstToGo_57 : decode cX1_firstToGo 57 = .ok (.laload, 1) := by decide +kernel
theorem dX1_firstToGo_58 : decode cX1_firstToGo 58 = .ok (.aload_n 0, 1) := by decide +kernel
theorem dX1_firstToGo_59 : decode cX1_firstToGo 59 = .ok (.getfield 9, 3) := by decide +kernel
theorem dX1_firstToGo_62 : decode cX1_firstToGo 62 = .ok (.iload_n 1, 1) := by decide +kernel
theorem dX1_firstToGo_63 : decode cX1_firstToGo 63 = .ok (.laload, 1) := by decide +kernel
theorem dX1_firstToGo_64 : decode cX1_firstToGo 64 = .ok (.lcmp, 1) := by decide +kernel
theorem dX1_firstToGo_65 : decode cX1_firstToGo 65 = .ok (.ifCond .ge 5, 3) := by decide +kernel
theorem dX1_firstToGo_68 : decode cX1_firstToGo 68 = .ok (.iload_n 2, 1) := by decide +kernel
theorem dX1_firstToGo_69 : decode cX1_firstToGo 69 = .ok (.istore_n 1, 1) := by decide +kernel
theorem dX1_firstToGo_70 : decode cX1_firstToGo 70 = .ok (.iinc 2 1, 3) := by decide +kernel
theorem dX1_firstToGo_73 : decode cX1_firstToGo 73 = .ok (.goto (-69), 3) := by decide +kernel
theorem dX1_firstToGo_76 : decode cX1_firstToGo 76 = .ok (.iload_n 1, 1) := by decide +kernel
theorem dX1_firstToGo_77 : decode cX1_firstToGo 77 = .ok (.ireturn, 1) := by decide +kernel
theorem dX1_find_0 : decode cX1_find 0 = .ok (.iconst 0, 1) := by decide +kernel
theorem dX1_find_1 : decode cX1_find 1 = .ok (.istore_n 3, 1) := by decide +kernel
theorem dX1_find_2 : decode cX1_find 2 = .ok (.iload_n 3, 1) := by decide +kernel
theorem dX1_find_3 : decode cX1_find 3 = .ok (.aload_n 0, 1) := by decide +kernel
theorem dX1_find_4 : decode cX1_find 4 = .ok (.getfield 22, 3) := by decide +kernel
theorem dX1_find_7 : decode cX1_find 7 = .ok (.if_icmp .ge 22, 3) := by decide +kernel
theorem dX1_find_10 : decode cX1_find 10 = .ok (.aload_n 0, 1) := by decide +kernel
theorem dX1_find_11 : decode cX1_find 11 = .ok (.getfield 9, 3) := by decide +kernel
theorem dX1_find_14 : decode cX1_find 14 = .ok (.iload_n 3, 1) := by decide +kernel
theorem dX1_find_15 : decode cX1_find 15 = .ok (.laload, 1) := by decide +kernel
theorem dX1_find_16 : decode cX1_find 16 = .ok (.lload_n 1, 1) := by decide +kernel
theorem dX1_find_17 : decode cX1_find 17 = .ok (.lcmp, 1) := by decide +kernel
theorem dX1_find_18 : decode cX1_find 18 = .ok (.ifCond .ne 5, 3) := by decide +kernel
theorem dX1_find_21 : decode cX1_find 21 = .ok (.iload_n 3, 1) := by decide +kernel
theorem dX1_find_22 : decode cX1_find 22 = .ok (.ireturn, 1) := by decide +kernel
theorem dX1_find_23 : decode cX1_find 23 = .ok (.iinc 3 1, 3) := by decide +kernel
theorem dX1_find_26 : decode cX1_find 26 = .ok (.goto (-24), 3) := by decide +kernel
theorem dX1_find_29 : decode cX1_find 29 = .ok (.iconst (-1), 1) := by decide +kernel
theorem dX1_find_30 : decode cX1_find 30 = .ok (.ireturn, 1) := by decide +kernel
theorem dX2_init_0 : decode cX2_init 0 = .ok (.aload_n 0, 1) := by decide +kernel
theorem dX2_init_1 : decode cX2_init 1 = .ok (.invokespecial 3, 3) := by decide +kernel
theorem dX2_init_4 : decode cX2_init 4 = .ok (.aload_n 0, 1) := by decide +kernel
theorem dX2_init_5 : decode cX2_init 5 = .ok (.bipush 100, 2) := by decide +kernel
theorem dX2_init_7 : decode cX2_init 7 = .ok (.newarray .int, 2) := by decide +kernel
theorem dX2_init_9 : decode cX2_init 9 = .ok (.putfield 9, 3) := by decide +kernel
theorem dX2_init_12 : decode cX2_init 12 = .ok (.aload_n 0, 1) := by decide +kernel
theorem dX2_init_13 : decode cX2_init 13 = .ok (.bipush 100, 2) := by decide +kernel
theorem dX2_init_15 : decode cX2_init 15 = .ok (.newarray .int, 2) := by decide +kernel
theorem dX2_init_17 : decode cX2_init 17 = .ok (.putfield 15, 3) := by decide +kernel
theorem dX2_init_20 : decode cX2_init 20 = .ok (.aload_n 0, 1) := by decide +kernel
theorem dX2_init_21 : decode cX2_init 21 = .ok (.bipush 100, 2) := by decide +kernel
theorem dX2_init_23 : decode cX2_init 23 = .ok (.newarray .long, 2) := by decide +kernel
theorem dX2_init_25 : decode cX2_init 25 = .ok (.putfield 18, 3) := by decide +kernel
theorem dX2_init_28 : decode cX2_init 28 = .ok (.aload_n 0, 1) := by decide +kernel
theorem dX2_init_29 : decode cX2_init 29 = .ok (.iconst 0, 1) := by decide +kernel
theorem dX2_init_30 : decode cX2_init 30 = .ok (.putfield 22, 3) := by decide +kernel
theorem dX2_init_33 : decode cX2_init 33 = .ok (.return_, 1) := by decide +kernel
theorem dX2_has_0 : decode cX2_has 0 = .ok (.iload_n 1, 1) := by decide +kernel
theorem dX2_has_1 : decode cX2_has 1 = .ok (.ifCond .lt 15, 3) := by decide +kernel
theorem dX2_has_4 : decode cX2_has 4 = .ok (.iload_n 1, 1) := by decide +kernel
theorem dX2_has_5 : decode cX2_has 5 = .ok (.aload_n 0, 1) := by decide +kernel
theorem dX2_has_6 : decode cX2_has 6 = .ok (.getfield 22, 3) := by decide +kernel
theorem dX2_has_9 : decode cX2_has 9 = .ok (.if_icmp .ge 7, 3) := by decide +kernel
theorem dX2_has_12 : decode cX2_has 12 = .ok (.iconst 1, 1) := by decide +kernel
theorem dX2_has_13 : decode cX2_has 13 = .ok (.goto 4, 3) := by decide +kernel
theorem dX2_has_16 : decode cX2_has 16 = .ok (.iconst 0, 1) := by decide +kernel
theorem dX2_has_17 : decode cX2_has 17 = .ok (.ireturn, 1) := by decide +kernel
theorem dX2_rowAt_0 : decode cX2_rowAt 0 = .ok (.aload_n 0, 1) := by decide +kernel
theorem dX2_rowAt_1 : decode cX2_rowAt 1 = .ok (.iload_n 1, 1) := by decide +kernel
theorem dX2_rowAt_2 : decode cX2_rowAt 2 = .ok (.invokevirtual 26, 3) := by decide +kernel
theorem dX2_rowAt_5 : decode cX2_rowAt 5 = .ok (.ifCond .eq 12, 3) := by decide +kernel
theorem dX2_rowAt_8 : decode cX2_rowAt 8 = .ok (.aload_n 0, 1) := by decide +kernel
theorem dX2_rowAt_9 : decode cX2_rowAt 9 = .ok (.getfield 9, 3) := by decide +kernel
theorem dX2_rowAt_12 : decode cX2_rowAt 12 = .ok (.iload_n 1, 1) := by decide +kernel
theorem dX2_rowAt_13 : decode cX2_rowAt 13 = .ok (.iaload, 1) := by decide +kernel
theorem dX2_rowAt_14 : decode cX2_rowAt 14 = .ok (.goto 4, 3) := by decide +kernel
theorem dX2_rowAt_17 : decode cX2_rowAt 17 = .ok (.iconst (-1), 1) := by decide +kernel
theorem dX2_rowAt_18 : decode cX2_rowAt 18 = .ok (.ireturn, 1) := by decide +kernel
theorem dX2_causeAt_0 : decode cX2_causeAt 0 = .ok (.aload_n 0, 1) := by decide +kernel
theorem dX2_causeAt_1 : decode cX2_causeAt 1 = .ok (.iload_n 1, 1) := by decide +kernel
theorem dX2_causeAt_2 : decode cX2_causeAt 2 = .ok (.invokevirtual 26, 3) := by decide +kernel
theorem dX2_causeAt_5 : decode cX2_causeAt 5 = .ok (.ifCond .eq 12, 3) := by decide +kernel
theorem dX2_causeAt_8 : decode cX2_causeAt 8 = .ok (.aload_n 0, 1) := by decide +kernel
theorem dX2_causeAt_9 : decode cX2_causeAt 9 = .ok (.getfield 15, 3) := by decide +kernel
theorem dX2_causeAt_12 : decode cX2_causeAt 12 = .ok (.iload_n 1, 1) := by decide +kernel
theorem dX2_causeAt_13 : decode cX2_causeAt 13 = .ok (.iaload, 1) := by decide +kernel
theorem dX2_causeAt_14 : decode cX2_causeAt 14 = .ok (.goto 4, 3) := by decide +kernel
theorem dX2_causeAt_17 : decode cX2_causeAt 17 = .ok (.iconst 0, 1) := by decide +kernel
theorem dX2_causeAt_18 : decode cX2_causeAt 18 = .ok (.ireturn, 1) := by decide +kernel
theorem dX2_valueAt_0 : decode cX2_valueAt 0 = .ok (.aload_n 0, 1) := by decide +kernel
theorem dX2_valueAt_1 : decode cX2_valueAt 1 = .ok (.iload_n 1, 1) := by decide +kernel
theorem dX2_valueAt_2 : decode cX2_valueAt 2 = .ok (.invokevirtual 26, 3) := by decide +kernel
theorem dX2_valueAt_5 : decode cX2_valueAt 5 = .ok (.ifCond .eq 12, 3) := by decide +kernel
theorem dX2_valueAt_8 : decode cX2_valueAt 8 = .ok (.aload_n 0, 1) := by decide +kernel
theorem dX2_valueAt_9 : decode cX2_valueAt 9 = .ok (.getfield 18, 3) := by decide +kernel
theorem dX2_valueAt_12 : decode cX2_valueAt 12 = .ok (.iload_n 1, 1) := by decide +kernel
theorem dX2_valueAt_13 : decode cX2_valueAt 13 = .ok (.laload, 1) := by decide +kernel
theorem dX2_valueAt_14 : decode cX2_valueAt 14 = .ok (.goto 4, 3) := by decide +kernel
theorem dX2_valueAt_17 : decode cX2_valueAt 17 = .ok (.lconst 0, 1) := by decide +kernel
theorem dX2_valueAt_18 : decode cX2_valueAt 18 = .ok (.lreturn, 1) := by decide +kernel
theorem dX2_setOut_0 : decode cX2_setOut 0 = .ok (.aload_n 0, 1) := by decide +kernel
theorem dX2_setOut_1 : decode cX2_setOut 1 = .ok (.getfield 22, 3) := by decide +kernel
theorem dX2_setOut_4 : decode cX2_setOut 4 = .ok (.bipush 100, 2) := by decide +kernel
theorem dX2_setOut_6 : decode cX2_setOut 6 = .ok (.if_icmp .lt 4, 3) := by decide +kernel
theorem dX2_setOut_9 : decode cX2_setOut 9 = .ok (.return_, 1) := by decide +kernel
theorem dX2_setOut_10 : decode cX2_setOut 10 = .ok (.aload_n 0, 1) := by decide +kernel
theorem dX2_setOut_11 : decode cX2_setOut 11 = .ok (.getfield 9, 3) := by decide +kernel
theorem dX2_setOut_14 : decode cX2_setOut 14 = .ok (.aload_n 0, 1) := by decide +kernel
theorem dX2_setOut_15 : decode cX2_setOut 15 = .ok (.getfield 22, 3) := by decide +kernel
theorem dX2_setOut_18 : decode cX2_setOut 18 = .ok (.iload_n 1, 1) := by decide +kernel
theorem dX2_setOut_19 : decode cX2_setOut 19 = .ok (.iastore, 1) := by decide +kernel
theorem dX2_setOut_20 : decode cX2_setOut 20 = .ok (.aload_n 0, 1) := by decide +kernel
theorem dX2_setOut_21 : decode cX2_setOut 21 = .ok (.getfield 15, 3) := by decide +kernel
theorem dX2_setOut_24 : decode cX2_setOut 24 = .ok (.aload_n 0, 1) := by decide +kernel
theorem dX2_setOut_25 : decode cX2_setOut 25 = .ok (.getfield 22, 3) := by decide +kernel
theorem dX2_setOut_28 : decode cX2_setOut 28 = .ok (.iload_n 2, 1) := by decide +kernel
theorem dX2_setOut_29 : decode cX2_setOut 29 = .ok (.iastore, 1) := by decide +kernel
theorem dX2_setOut_30 : decode cX2_setOut 30 = .ok (.aload_n 0, 1) := by decide +kernel
theorem dX2_setOut_31 : decode cX2_setOut 31 = .ok (.getfield 18, 3) := by decide +kernel
theorem dX2_setOut_34 : decode cX2_setOut 34 = .ok (.aload_n 0, 1) := by decide +kernel
theorem dX2_setOut_35 : decode cX2_setOut 35 = .ok (.getfield 22, 3) := by decide +kernel
theorem dX2_setOut_38 : decode cX2_setOut 38 = .ok (.lload_n 3, 1) := by decide +kernel
theorem dX2_setOut_39 : decode cX2_setOut 39 = .ok (.lastore, 1) := by decide +kernel
theorem dX2_setOut_40 : decode cX2_setOut 40 = .ok (.aload_n 0, 1) := by decide +kernel
theorem dX2_setOut_41 : decode cX2_setOut 41 = .ok (.dup, 1) := by decide +kernel
theorem dX2_setOut_42 : decode cX2_setOut 42 = .ok (.getfield 22, 3) := by decide +kernel
theorem dX2_setOut_45 : decode cX2_setOut 45 = .ok (.iconst 1, 1) := by decide +kernel
theorem dX2_setOut_46 : decode cX2_setOut 46 = .ok (.iadd, 1) := by decide +kernel
theorem dX2_setOut_47 : decode cX2_setOut 47 = .ok (.putfield 22, 3) := by decide +kernel
theorem dX2_setOut_50 : decode cX2_setOut 50 = .ok (.return_, 1) := by decide +kernel
theorem dX2_removeAt_0 : decode cX2_removeAt 0 = .ok (.aload_n 0, 1) := by decide +kernel
theorem dX2_removeAt_1 : decode cX2_removeAt 1 = .ok (.iload_n 1, 1) := by decide +kernel
theorem dX2_removeAt_2 : decode cX2_removeAt 2 = .ok (.invokevirtual 26, 3) := by decide +kernel
theorem dX2_removeAt_5 : decode cX2_removeAt 5 = .ok (.ifCond .ne 4, 3) := by decide +kernel
theorem dX2_removeAt_8 : decode cX2_removeAt 8 = .ok (.return_, 1) := by decide +kernel
theorem dX2_removeAt_9 : decode cX2_removeAt 9 = .ok (.aload_n 0, 1) := by decide +kernel
theorem dX2_removeAt_10 : decode cX2_removeAt 10 = .ok (.getfield 22, 3) := by decide +kernel
theorem dX2_removeAt_13 : decode cX2_removeAt 13 = .ok (.iload_n 1, 1) := by decide +kernel
theorem dX2_removeAt_14 : decode cX2_removeAt 14 = .ok (.isub, 1) := by decide +kernel
theorem dX2_removeAt_15 : decode cX2_removeAt 15 = .ok (.iconst 1, 1) := by decide +kernel
theorem dX2_removeAt_16 : decode cX2_removeAt 16 = .ok (.isub, 1) := by decide +kernel
theorem dX2_removeAt_17 : decode cX2_removeAt 17 = .ok (.istore_n 2, 1) := by decide +kernel
theorem dX2_removeAt_18 : decode cX2_removeAt 18 = .ok (.aload_n 0, 1) := by decide +kernel
theorem dX2_removeAt_19 : decode cX2_removeAt 19 = .ok (.getfield 9, 3) := by decide +kernel
theorem dX2_removeAt_22 : decode cX2_removeAt 22 = .ok (.iload_n 1, 1) := by decide +kernel
theorem dX2_removeAt_23 : decode cX2_removeAt 23 = .ok (.iconst 1, 1) := by decide +kernel
theorem dX2_removeAt_24 : decode cX2_removeAt 24 = .ok (.iadd, 1) := by decide +kernel
theorem dX2_removeAt_25 : decode cX2_removeAt 25 = .ok (.aload_n 0, 1) := by decide +kernel
theorem dX2_removeAt_26 : decode cX2_removeAt 26 = .ok (.getfield 9, 3) := by decide +kernel
theorem dX2_removeAt_29 : decode cX2_removeAt 29 = .ok (.iload_n 1, 1) := by decide +kernel
theorem dX2_removeAt_30 : decode cX2_removeAt 30 = .ok (.iload_n 2, 1) := by decide +kernel
theorem dX2_removeAt_31 : decode cX2_removeAt 31 = .ok (.invokestatic 30, 3) := by decide +kernel
theorem dX2_removeAt_34 : decode cX2_removeAt 34 = .ok (.aload_n 0, 1) := by decide +kernel
theorem dX2_removeAt_35 : decode cX2_removeAt 35 = .ok (.getfield 15, 3) := by decide +kernel
theorem dX2_removeAt_38 : decode cX2_removeAt 38 = .ok (.iload_n 1, 1) := by decide +kernel
theorem dX2_removeAt_39 : decode cX2_removeAt 39 = .ok (.iconst 1, 1) := by decide +kernel
theorem dX2_removeAt_40 : decode cX2_removeAt 40 = .ok (.iadd, 1) := by decide +kernel
theorem dX2_removeAt_41 : decode cX2_removeAt 41 = .ok (.aload_n 0, 1) := by decide +kernel
theorem dX2_removeAt_42 : decode cX2_removeAt 42 = .ok (.getfield 15, 3) := by decide +kernel
theorem dX2_removeAt_45 : decode cX2_removeAt 45 = .ok (.iload_n 1, 1) := by decide +kernel
theorem dX2_removeAt_46 : decode cX2_removeAt 46 = .ok (.iload_n 2, 1) := by decide +kernel
theorem dX2_removeAt_47 : decode cX2_removeAt 47 = .ok (.invokestatic 30, 3) := by decide +kernel
theorem dX2_removeAt_50 : decode cX2_removeAt 50 = .ok (.aload_n 0, 1) := by decide +kernel
theorem dX2_removeAt_51 : decode cX2_removeAt 51 = .ok (.getfield 18, 3) := by decide +kernel
theorem dX2_removeAt_54 : decode cX2_removeAt 54 = .ok (.iload_n 1, 1) := by decide +kernel
theorem dX2_removeAt_55 : decode cX2_removeAt 55 = .ok (.iconst 1, 1) := by decide +kernel
theorem dX2_removeAt_56 : decode cX2_removeAt 56 = .ok (.iadd, 1) := by decide +kernel
theorem dX2_removeAt_57 : decode cX2_removeAt 57 = .ok (.aload_n 0, 1) := by decide +kernel
theorem dX2_removeAt_58 : decode cX2_removeAt 58 = .ok (.getfield 18, 3) := by decide +kernel
theorem dX2_removeAt_61 : decode cX2_removeAt 61 = .ok (.iload_n 1, 1) := by decide +kernel
theorem dX2_removeAt_62 : decode cX2_removeAt 62 = .ok (.iload_n 2, 1) := by decide +kernel
theorem dX2_removeAt_63 : decode cX2_removeAt 63 = .ok (.invokestatic 30, 3) := by decide +kernel
theorem dX2_removeAt_66 : decode cX2_removeAt 66 = .ok (.aload_n 0, 1) := by decide +kernel
theorem dX2_removeAt_67 : decode cX2_removeAt 67 = .ok (.dup, 1) := by decide +kernel
theorem dX2_removeAt_68 : decode cX2_removeAt 68 = .ok (.getfield 22, 3) := by decide +kernel
theorem dX2_removeAt_71 : decode cX2_removeAt 71 = .ok (.iconst 1, 1) := by decide +kernel
theorem dX2_removeAt_72 : decode cX2_removeAt 72 = .ok (.isub, 1) := by decide +kernel
theorem dX2_removeAt_73 : decode cX2_removeAt 73 = .ok (.putfield 22, 3) := by decide +kernel
theorem dX2_removeAt_76 : decode cX2_removeAt 76 = .ok (.return_, 1) := by decide +kernel
theorem dX3_init_0 : decode cX3_init 0 = .ok (.aload_n 0, 1) := by decide +kernel
theorem dX3_init_1 : decode cX3_init 1 = .ok (.invokespecial 3, 3) := by decide +kernel
theorem dX3_init_4 : decode cX3_init 4 = .ok (.aload_n 0, 1) := by decide +kernel
theorem dX3_init_5 : decode cX3_init 5 = .ok (.sipush 300, 3) := by decide +kernel
theorem dX3_init_8 : decode cX3_init 8 = .ok (.newarray .int, 2) := by decide +kernel
theorem dX3_init_10 : decode cX3_init 10 = .ok (.putfield 9, 3) := by decide +kernel
theorem dX3_init_13 : decode cX3_init 13 = .ok (.aload_n 0, 1) := by decide +kernel
theorem dX3_init_14 : decode cX3_init 14 = .ok (.sipush 300, 3) := by decide +kernel
theorem dX3_init_17 : decode cX3_init 17 = .ok (.newarray .int, 2) := by decide +kernel
theorem dX3_init_19 : decode cX3_init 19 = .ok (.putfield 15, 3) := by decide +kernel
theorem dX3_init_22 : decode cX3_init 22 = .ok (.return_, 1) := by decide +kernel
theorem dX3_write_0 : decode cX3_write 0 = .ok (.iload_n 1, 1) := by decide +kernel
theorem dX3_write_1 : decode cX3_write 1 = .ok (.ifCond .lt 24, 3) := by decide +kernel
theorem dX3_write_4 : decode cX3_write 4 = .ok (.iload_n 1, 1) := by decide +kernel
theorem dX3_write_5 : decode cX3_write 5 = .ok (.sipush 300, 3) := by decide +kernel
theorem dX3_write_8 : decode cX3_write 8 = .ok (.if_icmp .ge 17, 3) := by decide +kernel
theorem dX3_write_11 : decode cX3_write 11 = .ok (.aload_n 0, 1) := by decide +kernel
theorem dX3_write_12 : decode cX3_write 12 = .ok (.getfield 9, 3) := by decide +kernel
theorem dX3_write_15 : decode cX3_write 15 = .ok (.iload_n 1, 1) := by decide +kernel
theorem dX3_write_16 : decode cX3_write 16 = .ok (.iload_n 2, 1) := by decide +kernel
theorem dX3_write_17 : decode cX3_write 17 = .ok (.iastore, 1) := by decide +kernel
theorem dX3_write_18 : decode cX3_write 18 = .ok (.aload_n 0, 1) := by decide +kernel
theorem dX3_write_19 : decode cX3_write 19 = .ok (.getfield 15, 3) := by decide +kernel
theorem dX3_write_22 : decode cX3_write 22 = .ok (.iload_n 1, 1) := by decide +kernel
theorem dX3_write_23 : decode cX3_write 23 = .ok (.iload_n 3, 1) := by decide +kernel
theorem dX3_write_24 : decode cX3_write 24 = .ok (.iastore, 1) := by decide +kernel
theorem dX3_write_25 : decode cX3_write 25 = .ok (.return_, 1) := by decide +kernel
theorem dX3_itemAt_0 : decode cX3_itemAt 0 = .ok (.iload_n 1, 1) := by decide +kernel
theorem dX3_itemAt_1 : decode cX3_itemAt 1 = .ok (.ifCond .lt 19, 3) := by decide +kernel
theorem dX3_itemAt_4 : decode cX3_itemAt 4 = .ok (.iload_n 1, 1) := by decide +kernel
theorem dX3_itemAt_5 : decode cX3_itemAt 5 = .ok (.sipush 300, 3) := by decide +kernel
theorem dX3_itemAt_8 : decode cX3_itemAt 8 = .ok (.if_icmp .ge 12, 3) := by decide +kernel
theorem dX3_itemAt_11 : decode cX3_itemAt 11 = .ok (.aload_n 0, 1) := by decide +kernel
theorem dX3_itemAt_12 : decode cX3_itemAt 12 = .ok (.getfield 9, 3) := by decide +kernel
theorem dX3_itemAt_15 : decode cX3_itemAt 15 = .ok (.iload_n 1, 1) := by decide +kernel
theorem dX3_itemAt_16 : decode cX3_itemAt 16 = .ok (.iaload, 1) := by decide +kernel
theorem dX3_itemAt_17 : decode cX3_itemAt 17 = .ok (.goto 4, 3) := by decide +kernel
theorem dX3_itemAt_20 : decode cX3_itemAt 20 = .ok (.iconst (-1), 1) := by decide +kernel
theorem dX3_itemAt_21 : decode cX3_itemAt 21 = .ok (.ireturn, 1) := by decide +kernel
theorem dX3_tickAt_0 : decode cX3_tickAt 0 = .ok (.iload_n 1, 1) := by decide +kernel
theorem dX3_tickAt_1 : decode cX3_tickAt 1 = .ok (.ifCond .lt 19, 3) := by decide +kernel
theorem dX3_tickAt_4 : decode cX3_tickAt 4 = .ok (.iload_n 1, 1) := by decide +kernel
theorem dX3_tickAt_5 : decode cX3_tickAt 5 = .ok (.sipush 300, 3) := by decide +kernel
theorem dX3_tickAt_8 : decode cX3_tickAt 8 = .ok (.if_icmp .ge 12, 3) := by decide +kernel
theorem dX3_tickAt_11 : decode cX3_tickAt 11 = .ok (.aload_n 0, 1) := by decide +kernel
theorem dX3_tickAt_12 : decode cX3_tickAt 12 = .ok (.getfield 15, 3) := by decide +kernel
theorem dX3_tickAt_15 : decode cX3_tickAt 15 = .ok (.iload_n 1, 1) := by decide +kernel
theorem dX3_tickAt_16 : decode cX3_tickAt 16 = .ok (.iaload, 1) := by decide +kernel
theorem dX3_tickAt_17 : decode cX3_tickAt 17 = .ok (.goto 4, 3) := by decide +kernel
theorem dX3_tickAt_20 : decode cX3_tickAt 20 = .ok (.iconst (-1), 1) := by decide +kernel
theorem dX3_tickAt_21 : decode cX3_tickAt 21 = .ok (.ireturn, 1) := by decide +kernel
theorem dX4_init_0 : decode cX4_init 0 = .ok (.aload_n 0, 1) := by decide +kernel
theorem dX4_init_1 : decode cX4_init 1 = .ok (.invokespecial 3, 3) := by decide +kernel
theorem dX4_init_4 : decode cX4_init 4 = .ok (.aload_n 0, 1) := by decide +kernel
theorem dX4_init_5 : decode cX4_init 5 = .ok (.sipush 300, 3) := by decide +kernel
theorem dX4_init_8 : decode cX4_init 8 = .ok (.newarray .int, 2) := by decide +kernel
theorem dX4_init_10 : decode cX4_init 10 = .ok (.putfield 9, 3) := by decide +kernel
theorem dX4_init_13 : decode cX4_init 13 = .ok (.aload_n 0, 1) := by decide +kernel
theorem dX4_init_14 : decode cX4_init 14 = .ok (.sipush 300, 3) := by decide +kernel
theorem dX4_init_17 : decode cX4_init 17 = .ok (.newarray .int, 2) := by decide +kernel
theorem dX4_init_19 : decode cX4_init 19 = .ok (.putfield 15, 3) := by decide +kernel
theorem dX4_init_22 : decode cX4_init 22 = .ok (.aload_n 0, 1) := by decide +kernel
theorem dX4_init_23 : decode cX4_init 23 = .ok (.sipush 300, 3) := by decide +kernel
theorem dX4_init_26 : decode cX4_init 26 = .ok (.newarray .int, 2) := by decide +kernel
theorem dX4_init_28 : decode cX4_init 28 = .ok (.putfield 18, 3) := by decide +kernel
theorem dX4_init_31 : decode cX4_init 31 = .ok (.aload_n 0, 1) := by decide +kernel
theorem dX4_init_32 : decode cX4_init 32 = .ok (.sipush 300, 3) := by decide +kernel
theorem dX4_init_35 : decode cX4_init 35 = .ok (.newarray .long, 2) := by decide +kernel
theorem dX4_init_37 : decode cX4_init 37 = .ok (.putfield 21, 3) := by decide +kernel
theorem dX4_init_40 : decode cX4_init 40 = .ok (.aload_n 0, 1) := by decide +kernel
theorem dX4_init_41 : decode cX4_init 41 = .ok (.iconst 5, 1) := by decide +kernel
theorem dX4_init_42 : decode cX4_init 42 = .ok (.newarray .int, 2) := by decide +kernel
theorem dX4_init_44 : decode cX4_init 44 = .ok (.putfield 25, 3) := by decide +kernel
theorem dX4_init_47 : decode cX4_init 47 = .ok (.aload_n 0, 1) := by decide +kernel
theorem dX4_init_48 : decode cX4_init 48 = .ok (.iconst 0, 1) := by decide +kernel
theorem dX4_init_49 : decode cX4_init 49 = .ok (.putfield 28, 3) := by decide +kernel
theorem dX4_init_52 : decode cX4_init 52 = .ok (.aload_n 0, 1) := by decide +kernel
theorem dX4_init_53 : decode cX4_init 53 = .ok (.iconst 0, 1) := by decide +kernel
theorem dX4_init_54 : decode cX4_init 54 = .ok (.putfield 32, 3) := by decide +kernel
theorem dX4_init_57 : decode cX4_init 57 = .ok (.return_, 1) := by decide +kernel
theorem dX4_hasItem_0 : decode cX4_hasItem 0 = .ok (.iload_n 1, 1) := by decide +kernel
theorem dX4_hasItem_1 : decode cX4_hasItem 1 = .ok (.ifCond .lt 15, 3) := by decide +kernel
theorem dX4_hasItem_4 : decode cX4_hasItem 4 = .ok (.iload_n 1, 1) := by decide +kernel
theorem dX4_hasItem_5 : decode cX4_hasItem 5 = .ok (.aload_n 0, 1) := by decide +kernel
theorem dX4_hasItem_6 : decode cX4_hasItem 6 = .ok (.getfield 28, 3) := by decide +kernel
theorem dX4_hasItem_9 : decode cX4_hasItem 9 = .ok (.if_icmp .ge 7, 3) := by decide +kernel
theorem dX4_hasItem_12 : decode cX4_hasItem 12 = .ok (.iconst 1, 1) := by decide +kernel
theorem dX4_hasItem_13 : decode cX4_hasItem 13 = .ok (.goto 4, 3) := by decide +kernel
theorem dX4_hasItem_16 : decode cX4_hasItem 16 = .ok (.iconst 0, 1) := by decide +kernel
theorem dX4_hasItem_17 : decode cX4_hasItem 17 = .ok (.ireturn, 1) := by decide +kernel
theorem dX4_stateOf_0 : decode cX4_stateOf 0 = .ok (.aload_n 0, 1) := by decide +kernel
theorem dX4_stateOf_1 : decode cX4_stateOf 1 = .ok (.iload_n 1, 1) := by decide +kernel
theorem dX4_stateOf_2 : decode cX4_stateOf 2 = .ok (.invokevirtual 35, 3) := by decide +kernel
theorem dX4_stateOf_5 : decode cX4_stateOf 5 = .ok (.ifCond .eq 12, 3) := by decide +kernel
theorem dX4_stateOf_8 : decode cX4_stateOf 8 = .ok (.aload_n 0, 1) := by decide +kernel
theorem dX4_stateOf_9 : decode cX4_stateOf 9 = .ok (.getfield 9, 3) := by decide +kernel
theorem dX4_stateOf_12 : decode cX4_stateOf 12 = .ok (.iload_n 1, 1) := by decide +kernel
theorem dX4_stateOf_13 : decode cX4_stateOf 13 = .ok (.iaload, 1) := by decide +kernel
theorem dX4_stateOf_14 : decode cX4_stateOf 14 = .ok (.goto 4, 3) := by decide +kernel
theorem dX4_stateOf_17 : decode cX4_stateOf 17 = .ok (.iconst (-1), 1) := by decide +kernel
theorem dX4_stateOf_18 : decode cX4_stateOf 18 = .ok (.ireturn, 1) := by decide +kernel
theorem dX4_resultOf_0 : decode cX4_resultOf 0 = .ok (.aload_n 0, 1) := by decide +kernel
theorem dX4_resultOf_1 : decode cX4_resultOf 1 = .ok (.iload_n 1, 1) := by decide +kernel
theorem dX4_resultOf_2 : decode cX4_resultOf 2 = .ok (.invokevirtual 35, 3) := by decide +kernel
theorem dX4_resultOf_5 : decode cX4_resultOf 5 = .ok (.ifCond .eq 12, 3) := by decide +kernel
theorem dX4_resultOf_8 : decode cX4_resultOf 8 = .ok (.aload_n 0, 1) := by decide +kernel
theorem dX4_resultOf_9 : decode cX4_resultOf 9 = .ok (.getfield 15, 3) := by decide +kernel
theorem dX4_resultOf_12 : decode cX4_resultOf 12 = .ok (.iload_n 1, 1) := by decide +kernel
theorem dX4_resultOf_13 : decode cX4_resultOf 13 = .ok (.iaload, 1) := by decide +kernel
theorem dX4_resultOf_14 : decode cX4_resultOf 14 = .ok (.goto 4, 3) := by decide +kernel
theorem dX4_resultOf_17 : decode cX4_resultOf 17 = .ok (.iconst (-1), 1) := by decide +kernel
theorem dX4_resultOf_18 : decode cX4_resultOf 18 = .ok (.ireturn, 1) := by decide +kernel
theorem dX4_triesOf_0 : decode cX4_triesOf 0 = .ok (.aload_n 0, 1) := by decide +kernel
theorem dX4_triesOf_1 : decode cX4_triesOf 1 = .ok (.iload_n 1, 1) := by decide +kernel
theorem dX4_triesOf_2 : decode cX4_triesOf 2 = .ok (.invokevirtual 35, 3) := by decide +kernel
theorem dX4_triesOf_5 : decode cX4_triesOf 5 = .ok (.ifCond .eq 12, 3) := by decide +kernel
theorem dX4_triesOf_8 : decode cX4_triesOf 8 = .ok (.aload_n 0, 1) := by decide +kernel
theorem dX4_triesOf_9 : decode cX4_triesOf 9 = .ok (.getfield 18, 3) := by decide +kernel
theorem dX4_triesOf_12 : decode cX4_triesOf 12 = .ok (.iload_n 1, 1) := by decide +kernel
theorem dX4_triesOf_13 : decode cX4_triesOf 13 = .ok (.iaload, 1) := by decide +kernel
theorem dX4_triesOf_14 : decode cX4_triesOf 14 = .ok (.goto 4, 3) := by decide +kernel
theorem dX4_triesOf_17 : decode cX4_triesOf 17 = .ok (.iconst 0, 1) := by decide +kernel
theorem dX4_triesOf_18 : decode cX4_triesOf 18 = .ok (.ireturn, 1) := by decide +kernel
theorem dX4_valueOf_0 : decode cX4_valueOf 0 = .ok (.aload_n 0, 1) := by decide +kernel
theorem dX4_valueOf_1 : decode cX4_valueOf 1 = .ok (.iload_n 1, 1) := by decide +kernel
theorem dX4_valueOf_2 : decode cX4_valueOf 2 = .ok (.invokevirtual 35, 3) := by decide +kernel
theorem dX4_valueOf_5 : decode cX4_valueOf 5 = .ok (.ifCond .eq 12, 3) := by decide +kernel
theorem dX4_valueOf_8 : decode cX4_valueOf 8 = .ok (.aload_n 0, 1) := by decide +kernel
theorem dX4_valueOf_9 : decode cX4_valueOf 9 = .ok (.getfield 21, 3) := by decide +kernel
theorem dX4_valueOf_12 : decode cX4_valueOf 12 = .ok (.iload_n 1, 1) := by decide +kernel
theorem dX4_valueOf_13 : decode cX4_valueOf 13 = .ok (.laload, 1) := by decide +kernel
theorem dX4_valueOf_14 : decode cX4_valueOf 14 = .ok (.goto 4, 3) := by decide +kernel
theorem dX4_valueOf_17 : decode cX4_valueOf 17 = .ok (.lconst 0, 1) := by decide +kernel
theorem dX4_valueOf_18 : decode cX4_valueOf 18 = .ok (.lreturn, 1) := by decide +kernel
theorem dX4_addItem_0 : decode cX4_addItem 0 = .ok (.aload_n 0, 1) := by decide +kernel
theorem dX4_addItem_1 : decode cX4_addItem 1 = .ok (.getfield 28, 3) := by decide +kernel
theorem dX4_addItem_4 : decode cX4_addItem 4 = .ok (.sipush 300, 3) := by decide +kernel
theorem dX4_addItem_7 : decode cX4_addItem 7 = .ok (.if_icmp .lt 4, 3) := by decide +kernel
theorem dX4_addItem_10 : decode cX4_addItem 10 = .ok (.return_, 1) := by decide +kernel
theorem dX4_addItem_11 : decode cX4_addItem 11 = .ok (.aload_n 0, 1) := by decide +kernel
theorem dX4_addItem_12 : decode cX4_addItem 12 = .ok (.getfield 9, 3) := by decide +kernel
theorem dX4_addItem_15 : decode cX4_addItem 15 = .ok (.aload_n 0, 1) := by decide +kernel
theorem dX4_addItem_16 : decode cX4_addItem 16 = .ok (.getfield 28, 3) := by decide +kernel
theorem dX4_addItem_19 : decode cX4_addItem 19 = .ok (.iload_n 1, 1) := by decide +kernel
theorem dX4_addItem_20 : decode cX4_addItem 20 = .ok (.iastore, 1) := by decide +kernel
theorem dX4_addItem_21 : decode cX4_addItem 21 = .ok (.aload_n 0, 1) := by decide +kernel
theorem dX4_addItem_22 : decode cX4_addItem 22 = .ok (.getfield 15, 3) := by decide +kernel
theorem dX4_addItem_25 : decode cX4_addItem 25 = .ok (.aload_n 0, 1) := by decide +kernel
theorem dX4_addItem_26 : decode cX4_addItem 26 = .ok (.getfield 28, 3) := by decide +kernel
theorem dX4_addItem_29 : decode cX4_addItem 29 = .ok (.iload_n 2, 1) := by decide +kernel
theorem dX4_addItem_30 : decode cX4_addItem 30 = .ok (.iastore, 1) := by decide +kernel
theorem dX4_addItem_31 : decode cX4_addItem 31 = .ok (.aload_n 0, 1) := by decide +kernel
theorem dX4_addItem_32 : decode cX4_addItem 32 = .ok (.getfield 25, 3) := by decide +kernel
theorem dX4_addItem_35 : decode cX4_addItem 35 = .ok (.iload_n 1, 1) := by decide +kernel
theorem dX4_addItem_36 : decode cX4_addItem 36 = .ok (.dup2, 1) := by decide +kernel
theorem dX4_addItem_37 : decode cX4_addItem 37 = .ok (.iaload, 1) := by decide +kernel
theorem dX4_addItem_38 : decode cX4_addItem 38 = .ok (.iconst 1, 1) := by decide +kernel
theorem dX4_addItem_39 : decode cX4_addItem 39 = .ok (.iadd, 1) := by decide +kernel
theorem dX4_addItem_40 : decode cX4_addItem 40 = .ok (.iastore, 1) := by decide +kernel
theorem dX4_addItem_41 : decode cX4_addItem 41 = .ok (.aload_n 0, 1) := by decide +kernel
theorem dX4_addItem_42 : decode cX4_addItem 42 = .ok (.dup, 1) := by decide +kernel
theorem dX4_addItem_43 : decode cX4_addItem 43 = .ok (.getfield 28, 3) := by decide +kernel
theorem dX4_addItem_46 : decode cX4_addItem 46 = .ok (.iconst 1, 1) := by decide +kernel
theorem dX4_addItem_47 : decode cX4_addItem 47 = .ok (.iadd, 1) := by decide +kernel
theorem dX4_addItem_48 : decode cX4_addItem 48 = .ok (.putfield 28, 3) := by decide +kernel
theorem dX4_addItem_51 : decode cX4_addItem 51 = .ok (.return_, 1) := by decide +kernel
theorem dX4_startTrying_0 : decode cX4_startTrying 0 = .ok (.aload_n 0, 1) := by decide +kernel
theorem dX4_startTrying_1 : decode cX4_startTrying 1 = .ok (.iload_n 1, 1) := by decide +kernel
theorem dX4_startTrying_2 : decode cX4_startTrying 2 = .ok (.invokevirtual 35, 3) := by decide +kernel
theorem dX4_startTrying_5 : decode cX4_startTrying 5 = .ok (.ifCond .eq 16, 3) := by decide +kernel
theorem dX4_startTrying_8 : decode cX4_startTrying 8 = .ok (.aload_n 0, 1) := by decide +kernel
theorem dX4_startTrying_9 : decode cX4_startTrying 9 = .ok (.iload_n 1, 1) := by decide +kernel
theorem dX4_startTrying_10 : decode cX4_startTrying 10 = .ok (.iconst 1, 1) := by decide +kernel
theorem dX4_startTrying_11 : decode cX4_startTrying 11 = .ok (.invokevirtual 39, 3) := by decide +kernel
theorem dX4_startTrying_14 : decode cX4_startTrying 14 = .ok (.aload_n 0, 1) := by decide +kernel
theorem dX4_startTrying_15 : decode cX4_startTrying 15 = .ok (.getfield 18, 3) := by decide +kernel
theorem dX4_startTrying_18 : decode cX4_startTrying 18 = .ok (.iload_n 1, 1) := by decide +kernel
theorem dX4_startTrying_19 : decode cX4_startTrying 19 = .ok (.iconst 1, 1) := by decide +kernel
theorem dX4_startTrying_20 : decode cX4_startTrying 20 = .ok (.iastore, 1) := by decide +kernel
theorem dX4_startTrying_21 : decode cX4_startTrying 21 = .ok (.return_, 1) := by decide +kernel
theorem dX4_addTry_0 : decode cX4_addTry 0 = .ok (.aload_n 0, 1) := by decide +kernel
theorem dX4_addTry_1 : decode cX4_addTry 1 = .ok (.iload_n 1, 1) := by decide +kernel
theorem dX4_addTry_2 : decode cX4_addTry 2 = .ok (.invokevirtual 35, 3) := by decide +kernel
theorem dX4_addTry_5 : decode cX4_addTry 5 = .ok (.ifCond .eq 13, 3) := by decide +kernel
theorem dX4_addTry_8 : decode cX4_addTry 8 = .ok (.aload_n 0, 1) := by decide +kernel
theorem dX4_addTry_9 : decode cX4_addTry 9 = .ok (.getfield 18, 3) := by decide +kernel
theorem dX4_addTry_12 : decode cX4_addTry 12 = .ok (.iload_n 1, 1) := by decide +kernel
theorem dX4_addTry_13 : decode cX4_addTry 13 = .ok (.dup2, 1) := by decide +kernel
theorem dX4_addTry_14 : decode cX4_addTry 14 = .ok (.iaload, 1) := by decide +kernel
theorem dX4_addTry_15 : decode cX4_addTry 15 = .ok (.iconst 1, 1) := by decide +kernel
theorem dX4_addTry_16 : decode cX4_addTry 16 = .ok (.iadd, 1) := by decide +kernel
theorem dX4_addTry_17 : decode cX4_addTry 17 = .ok (.iastore, 1) := by decide +kernel
theorem dX4_addTry_18 : decode cX4_addTry 18 = .ok (.return_, 1) := by decide +kernel
theorem dX4_settleRow_0 : decode cX4_settleRow 0 = .ok (.aload_n 0, 1) := by decide +kernel
theorem dX4_settleRow_1 : decode cX4_settleRow 1 = .ok (.iload_n 1, 1) := by decide +kernel
theorem dX4_settleRow_2 : decode cX4_settleRow 2 = .ok (.invokevirtual 35, 3) := by decide +kernel
theorem dX4_settleRow_5 : decode cX4_settleRow 5 = .ok (.ifCond .eq 23, 3) := by decide +kernel
theorem dX4_settleRow_8 : decode cX4_settleRow 8 = .ok (.aload_n 0, 1) := by decide +kernel
theorem dX4_settleRow_9 : decode cX4_settleRow 9 = .ok (.iload_n 1, 1) := by decide +kernel
theorem dX4_settleRow_10 : decode cX4_settleRow 10 = .ok (.iconst 2, 1) := by decide +kernel
theorem dX4_settleRow_11 : decode cX4_settleRow 11 = .ok (.invokevirtual 39, 3) := by decide +kernel
theorem dX4_settleRow_14 : decode cX4_settleRow 14 = .ok (.aload_n 0, 1) := by decide +kernel
theorem dX4_settleRow_15 : decode cX4_settleRow 15 = .ok (.getfield 15, 3) := by decide +kernel
theorem dX4_settleRow_18 : decode cX4_settleRow 18 = .ok (.iload_n 1, 1) := by decide +kernel
theorem dX4_settleRow_19 : decode cX4_settleRow 19 = .ok (.iload_n 2, 1) := by decide +kernel
theorem dX4_settleRow_20 : decode cX4_settleRow 20 = .ok (.iastore, 1) := by decide +kernel
theorem dX4_settleRow_21 : decode cX4_settleRow 21 = .ok (.aload_n 0, 1) := by decide +kernel
theorem dX4_settleRow_22 : decode cX4_settleRow 22 = .ok (.getfield 21, 3) := by decide +kernel
theorem dX4_settleRow_25 : decode cX4_settleRow 25 = .ok (.iload_n 1, 1) := by decide +kernel
theorem dX4_settleRow_26 : decode cX4_settleRow 26 = .ok (.lload_n 3, 1) := by decide +kernel
theorem dX4_settleRow_27 : decode cX4_settleRow 27 = .ok (.lastore, 1) := by decide +kernel
theorem dX4_settleRow_28 : decode cX4_settleRow 28 = .ok (.return_, 1) := by decide +kernel
theorem dX4_goOut_0 : decode cX4_goOut 0 = .ok (.aload_n 0, 1) := by decide +kernel
theorem dX4_goOut_1 : decode cX4_goOut 1 = .ok (.iload_n 1, 1) := by decide +kernel
theorem dX4_goOut_2 : decode cX4_goOut 2 = .ok (.invokevirtual 35, 3) := by decide +kernel
theorem dX4_goOut_5 : decode cX4_goOut 5 = .ok (.ifCond .eq 19, 3) := by decide +kernel
theorem dX4_goOut_8 : decode cX4_goOut 8 = .ok (.aload_n 0, 1) := by decide +kernel
theorem dX4_goOut_9 : decode cX4_goOut 9 = .ok (.iload_n 1, 1) := by decide +kernel
theorem dX4_goOut_10 : decode cX4_goOut 10 = .ok (.iconst 3, 1) := by decide +kernel
theorem dX4_goOut_11 : decode cX4_goOut 11 = .ok (.invokevirtual 39, 3) := by decide +kernel
theorem dX4_goOut_14 : decode cX4_goOut 14 = .ok (.aload_n 0, 1) := by decide +kernel
theorem dX4_goOut_15 : decode cX4_goOut 15 = .ok (.dup, 1) := by decide +kernel
theorem dX4_goOut_16 : decode cX4_goOut 16 = .ok (.getfield 32, 3) := by decide +kernel
theorem dX4_goOut_19 : decode cX4_goOut 19 = .ok (.iconst 1, 1) := by decide +kernel
theorem dX4_goOut_20 : decode cX4_goOut 20 = .ok (.iadd, 1) := by decide +kernel
theorem dX4_goOut_21 : decode cX4_goOut 21 = .ok (.putfield 32, 3) := by decide +kernel
theorem dX4_goOut_24 : decode cX4_goOut 24 = .ok (.return_, 1) := by decide +kernel
theorem dX4_moveTo_0 : decode cX4_moveTo 0 = .ok (.aload_n 0, 1) := by decide +kernel
theorem dX4_moveTo_1 : decode cX4_moveTo 1 = .ok (.getfield 25, 3) := by decide +kernel
theorem dX4_moveTo_4 : decode cX4_moveTo 4 = .ok (.aload_n 0, 1) := by decide +kernel
theorem dX4_moveTo_5 : decode cX4_moveTo 5 = .ok (.getfield 9, 3) := by decide +kernel
theorem dX4_moveTo_8 : decode cX4_moveTo 8 = .ok (.iload_n 1, 1) := by decide +kernel
theorem dX4_moveTo_9 : decode cX4_moveTo 9 = .ok (.iaload, 1) := by decide +kernel
theorem dX4_moveTo_10 : decode cX4_moveTo 10 = .ok (.dup2, 1) := by decide +kernel
theorem dX4_moveTo_11 : decode cX4_moveTo 11 = .ok (.iaload, 1) := by decide +kernel
theorem dX4_moveTo_12 : decode cX4_moveTo 12 = .ok (.iconst 1, 1) := by decide +kernel
theorem dX4_moveTo_13 : decode cX4_moveTo 13 = .ok (.isub, 1) := by decide +kernel
theorem dX4_moveTo_14 : decode cX4_moveTo 14 = .ok (.iastore, 1) := by decide +kernel
theorem dX4_moveTo_15 : decode cX4_moveTo 15 = .ok (.aload_n 0, 1) := by decide +kernel
theorem dX4_moveTo_16 : decode cX4_moveTo 16 = .ok (.getfield 25, 3) := by decide +kernel
theorem dX4_moveTo_19 : decode cX4_moveTo 19 = .ok (.iload_n 2, 1) := by decide +kernel
theorem dX4_moveTo_20 : decode cX4_moveTo 20 = .ok (.dup2, 1) := by decide +kernel
theorem dX4_moveTo_21 : decode cX4_moveTo 21 = .ok (.iaload, 1) := by decide +kernel
theorem dX4_moveTo_22 : decode cX4_moveTo 22 = .ok (.iconst 1, 1) := by decide +kernel
theorem dX4_moveTo_23 : decode cX4_moveTo 23 = .ok (.iadd, 1) := by decide +kernel
theorem dX4_moveTo_24 : decode cX4_moveTo 24 = .ok (.iastore, 1) := by decide +kernel
theorem dX4_moveTo_25 : decode cX4_moveTo 25 = .ok (.aload_n 0, 1) := by decide +kernel
theorem dX4_moveTo_26 : decode cX4_moveTo 26 = .ok (.getfield 9, 3) := by decide +kernel
theorem dX4_moveTo_29 : decode cX4_moveTo 29 = .ok (.iload_n 1, 1) := by decide +kernel
theorem dX4_moveTo_30 : decode cX4_moveTo 30 = .ok (.iload_n 2, 1) := by decide +kernel
theorem dX4_moveTo_31 : decode cX4_moveTo 31 = .ok (.iastore, 1) := by decide +kernel
theorem dX4_moveTo_32 : decode cX4_moveTo 32 = .ok (.return_, 1) := by decide +kernel
theorem dX4_copyFrom_0 : decode cX4_copyFrom 0 = .ok (.aload_n 0, 1) := by decide +kernel
theorem dX4_copyFrom_1 : decode cX4_copyFrom 1 = .ok (.aload_n 1, 1) := by decide +kernel
theorem dX4_copyFrom_2 : decode cX4_copyFrom 2 = .ok (.invokevirtual 43, 3) := by decide +kernel
theorem dX4_copyFrom_5 : decode cX4_copyFrom 5 = .ok (.aload_n 0, 1) := by decide +kernel
theorem dX4_copyFrom_6 : decode cX4_copyFrom 6 = .ok (.aload_n 1, 1) := by decide +kernel
theorem dX4_copyFrom_7 : decode cX4_copyFrom 7 = .ok (.getfield 28, 3) := by decide +kernel
theorem dX4_copyFrom_10 : decode cX4_copyFrom 10 = .ok (.putfield 28, 3) := by decide +kernel
theorem dX4_copyFrom_13 : decode cX4_copyFrom 13 = .ok (.return_, 1) := by decide +kernel
theorem dX4_goBackTo_0 : decode cX4_goBackTo 0 = .ok (.aload_n 0, 1) := by decide +kernel
theorem dX4_goBackTo_1 : decode cX4_goBackTo 1 = .ok (.aload_n 1, 1) := by decide +kernel
theorem dX4_goBackTo_2 : decode cX4_goBackTo 2 = .ok (.invokevirtual 43, 3) := by decide +kernel
theorem dX4_goBackTo_5 : decode cX4_goBackTo 5 = .ok (.aload_n 1, 1) := by decide +kernel
theorem dX4_goBackTo_6 : decode cX4_goBackTo 6 = .ok (.getfield 28, 3) := by decide +kernel
theorem dX4_goBackTo_9 : decode cX4_goBackTo 9 = .ok (.istore_n 2, 1) := by decide +kernel
theorem dX4_goBackTo_10 : decode cX4_goBackTo 10 = .ok (.iload_n 2, 1) := by decide +kernel
theorem dX4_goBackTo_11 : decode cX4_goBackTo 11 = .ok (.aload_n 0, 1) := by decide +kernel
theorem dX4_goBackTo_12 : decode cX4_goBackTo 12 = .ok (.getfield 28, 3) := by decide +kernel
theorem dX4_goBackTo_15 : decode cX4_goBackTo 15 = .ok (.if_icmp .ge 37, 3) := by decide +kernel
theorem dX4_goBackTo_18 : decode cX4_goBackTo 18 = .ok (.aload_n 0, 1) := by decide +kernel
theorem dX4_goBackTo_19 : decode cX4_goBackTo 19 = .ok (.getfield 9, 3) := by decide +kernel
theorem dX4_goBackTo_22 : decode cX4_goBackTo 22 = .ok (.iload_n 2, 1) := by decide +kernel
theorem dX4_goBackTo_23 : decode cX4_goBackTo 23 = .ok (.iconst 4, 1) := by decide +kernel
theorem dX4_goBackTo_24 : decode cX4_goBackTo 24 = .ok (.iastore, 1) := by decide +kernel
theorem dX4_goBackTo_25 : decode cX4_goBackTo 25 = .ok (.aload_n 0, 1) := by decide +kernel
theorem dX4_goBackTo_26 : decode cX4_goBackTo 26 = .ok (.getfield 15, 3) := by decide +kernel
theorem dX4_goBackTo_29 : decode cX4_goBackTo 29 = .ok (.iload_n 2, 1) := by decide +kernel
theorem dX4_goBackTo_30 : decode cX4_goBackTo 30 = .ok (.iconst (-1), 1) := by decide +kernel
theorem dX4_goBackTo_31 : decode cX4_goBackTo 31 = .ok (.iastore, 1) := by decide +kernel
theorem dX4_goBackTo_32 : decode cX4_goBackTo 32 = .ok (.aload_n 0, 1) := by decide +kernel
theorem dX4_goBackTo_33 : decode cX4_goBackTo 33 = .ok (.getfield 18, 3) := by decide +kernel
theorem dX4_goBackTo_36 : decode cX4_goBackTo 36 = .ok (.iload_n 2, 1) := by decide +kernel
theorem dX4_goBackTo_37 : decode cX4_goBackTo 37 = .ok (.iconst 0, 1) := by decide +kernel
theorem dX4_goBackTo_38 : decode cX4_goBackTo 38 = .ok (.iastore, 1) := by decide +kernel
theorem dX4_goBackTo_39 : decode cX4_goBackTo 39 = .ok (.aload_n 0, 1) := by decide +kernel
theorem dX4_goBackTo_40 : decode cX4_goBackTo 40 = .ok (.getfield 21, 3) := by decide +kernel
theorem dX4_goBackTo_43 : decode cX4_goBackTo 43 = .ok (.iload_n 2, 1) := by decide +kernel
theorem dX4_goBackTo_44 : decode cX4_goBackTo 44 = .ok (.lconst 0, 1) := by decide +kernel
theorem dX4_goBackTo_45 : decode cX4_goBackTo 45 = .ok (.lastore, 1) := by decide +kernel
theorem dX4_goBackTo_46 : decode cX4_goBackTo 46 = .ok (.iinc 2 1, 3) := by decide +kernel
theorem dX4_goBackTo_49 : decode cX4_goBackTo 49 = .ok (.goto (-39), 3) := by decide +kernel
theorem dX4_goBackTo_52 : decode cX4_goBackTo 52 = .ok (.aload_n 0, 1) := by decide +kernel
theorem dX4_goBackTo_53 : decode cX4_goBackTo 53 = .ok (.getfield 25, 3) := by decide +kernel
theorem dX4_goBackTo_56 : decode cX4_goBackTo 56 = .ok (.iconst 4, 1) := by decide +kernel
theorem dX4_goBackTo_57 : decode cX4_goBackTo 57 = .ok (.dup2, 1) := by decide +kernel
theorem dX4_goBackTo_58 : decode cX4_goBackTo 58 = .ok (.iaload, 1) := by decide +kernel
theorem dX4_goBackTo_59 : decode cX4_goBackTo 59 = .ok (.aload_n 0, 1) := by decide +kernel
theorem dX4_goBackTo_60 : decode cX4_goBackTo 60 = .ok (.getfield 28, 3) := by decide +kernel
theorem dX4_goBackTo_63 : decode cX4_goBackTo 63 = .ok (.aload_n 1, 1) := by decide +kernel
theorem dX4_goBackTo_64 : decode cX4_goBackTo 64 = .ok (.getfield 28, 3) := by decide +kernel
theorem dX4_goBackTo_67 : decode cX4_goBackTo 67 = .ok (.isub, 1) := by decide +kernel
theorem dX4_goBackTo_68 : decode cX4_goBackTo 68 = .ok (.iadd, 1) := by decide +kernel
theorem dX4_goBackTo_69 : decode cX4_goBackTo 69 = .ok (.iastore, 1) := by decide +kernel
theorem dX4_goBackTo_70 : decode cX4_goBackTo 70 = .ok (.return_, 1) := by decide +kernel
theorem dX4_copyItems_0 : decode cX4_copyItems 0 = .ok (.aload_n 1, 1) := by decide +kernel
theorem dX4_copyItems_1 : decode cX4_copyItems 1 = .ok (.getfield 9, 3) := by decide +kernel
theorem dX4_copyItems_4 : decode cX4_copyItems 4 = .ok (.iconst 0, 1) := by decide +kernel
theorem dX4_copyItems_5 : decode cX4_copyItems 5 = .ok (.aload_n 0, 1) := by decide +kernel
theorem dX4_copyItems_6 : decode cX4_copyItems 6 = .ok (.getfield 9, 3) := by decide +kernel
theorem dX4_copyItems_9 : decode cX4_copyItems 9 = .ok (.iconst 0, 1) := by decide +kernel
theorem dX4_copyItems_10 : decode cX4_copyItems 10 = .ok (.aload_n 1, 1) := by decide +kernel
theorem dX4_copyItems_11 : decode cX4_copyItems 11 = .ok (.getfield 28, 3) := by decide +kernel
theorem dX4_copyItems_14 : decode cX4_copyItems 14 = .ok (.invokestatic 47, 3) := by decide +kernel
theorem dX4_copyItems_17 : decode cX4_copyItems 17 = .ok (.aload_n 1, 1) := by decide +kernel
theorem dX4_copyItems_18 : decode cX4_copyItems 18 = .ok (.getfield 15, 3) := by decide +kernel
theorem dX4_copyItems_21 : decode cX4_copyItems 21 = .ok (.iconst 0, 1) := by decide +kernel
theorem dX4_copyItems_22 : decode cX4_copyItems 22 = .ok (.aload_n 0, 1) := by decide +kernel
theorem dX4_copyItems_23 : decode cX4_copyItems 23 = .ok (.getfield 15, 3) := by decide +kernel
theorem dX4_copyItems_26 : decode cX4_copyItems 26 = .ok (.iconst 0, 1) := by decide +kernel
theorem dX4_copyItems_27 : decode cX4_copyItems 27 = .ok (.aload_n 1, 1) := by decide +kernel
theorem dX4_copyItems_28 : decode cX4_copyItems 28 = .ok (.getfield 28, 3) := by decide +kernel
theorem dX4_copyItems_31 : decode cX4_copyItems 31 = .ok (.invokestatic 47, 3) := by decide +kernel
theorem dX4_copyItems_34 : decode cX4_copyItems 34 = .ok (.aload_n 1, 1) := by decide +kernel
theorem dX4_copyItems_35 : decode cX4_copyItems 35 = .ok (.getfield 18, 3) := by decide +kernel
theorem dX4_copyItems_38 : decode cX4_copyItems 38 = .ok (.iconst 0, 1) := by decide +kernel
theorem dX4_copyItems_39 : decode cX4_copyItems 39 = .ok (.aload_n 0, 1) := by decide +kernel
theorem dX4_copyItems_40 : decode cX4_copyItems 40 = .ok (.getfield 18, 3) := by decide +kernel
theorem dX4_copyItems_43 : decode cX4_copyItems 43 = .ok (.iconst 0, 1) := by decide +kernel
theorem dX4_copyItems_44 : decode cX4_copyItems 44 = .ok (.aload_n 1, 1) := by decide +kernel
theorem dX4_copyItems_45 : decode cX4_copyItems 45 = .ok (.getfield 28, 3) := by decide +kernel
theorem dX4_copyItems_48 : decode cX4_copyItems 48 = .ok (.invokestatic 47, 3) := by decide +kernel
theorem dX4_copyItems_51 : decode cX4_copyItems 51 = .ok (.aload_n 1, 1) := by decide +kernel
theorem dX4_copyItems_52 : decode cX4_copyItems 52 = .ok (.getfield 21, 3) := by decide +kernel
theorem dX4_copyItems_55 : decode cX4_copyItems 55 = .ok (.iconst 0, 1) := by decide +kernel
theorem dX4_copyItems_56 : decode cX4_copyItems 56 = .ok (.aload_n 0, 1) := by decide +kernel
theorem dX4_copyItems_57 : decode cX4_copyItems 57 = .ok (.getfield 21, 3) := by decide +kernel
theorem dX4_copyItems_60 : decode cX4_copyItems 60 = .ok (.iconst 0, 1) := by decide +kernel
theorem dX4_copyItems_61 : decode cX4_copyItems 61 = .ok (.aload_n 1, 1) := by decide +kernel
theorem dX4_copyItems_62 : decode cX4_copyItems 62 = .ok (.getfield 28, 3) := by decide +kernel
theorem dX4_copyItems_65 : decode cX4_copyItems 65 = .ok (.invokestatic 47, 3) := by decide +kernel
theorem dX4_copyItems_68 : decode cX4_copyItems 68 = .ok (.aload_n 1, 1) := by decide +kernel
theorem dX4_copyItems_69 : decode cX4_copyItems 69 = .ok (.getfield 25, 3) := by decide +kernel
theorem dX4_copyItems_72 : decode cX4_copyItems 72 = .ok (.iconst 0, 1) := by decide +kernel
theorem dX4_copyItems_73 : decode cX4_copyItems 73 = .ok (.aload_n 0, 1) := by decide +kernel
theorem dX4_copyItems_74 : decode cX4_copyItems 74 = .ok (.getfield 25, 3) := by decide +kernel
theorem dX4_copyItems_77 : decode cX4_copyItems 77 = .ok (.iconst 0, 1) := by decide +kernel
theorem dX4_copyItems_78 : decode cX4_copyItems 78 = .ok (.iconst 5, 1) := by decide +kernel
theorem dX4_copyItems_79 : decode cX4_copyItems 79 = .ok (.invokestatic 47, 3) := by decide +kernel
theorem dX4_copyItems_82 : decode cX4_copyItems 82 = .ok (.aload_n 0, 1) := by decide +kernel
theorem dX4_copyItems_83 : decode cX4_copyItems 83 = .ok (.aload_n 1, 1) := by decide +kernel
theorem dX4_copyItems_84 : decode cX4_copyItems 84 = .ok (.getfield 32, 3) := by decide +kernel
theorem dX4_copyItems_87 : decode cX4_copyItems 87 = .ok (.putfield 32, 3) := by decide +kernel
theorem dX4_copyItems_90 : decode cX4_copyItems 90 = .ok (.return_, 1) := by decide +kernel
theorem dX5_init_0 : decode cX5_init 0 = .ok (.aload_n 0, 1) := by decide +kernel
theorem dX5_init_1 : decode cX5_init 1 = .ok (.invokespecial 3, 3) := by decide +kernel
theorem dX5_init_4 : decode cX5_init 4 = .ok (.aload_n 0, 1) := by decide +kernel
theorem dX5_init_5 : decode cX5_init 5 = .ok (.bipush 16, 2) := by decide +kernel
theorem dX5_init_7 : decode cX5_init 7 = .ok (.newarray .int, 2) := by decide +kernel
theorem dX5_init_9 : decode cX5_init 9 = .ok (.putfield 9, 3) := by decide +kernel
theorem dX5_init_12 : decode cX5_init 12 = .ok (.aload_n 0, 1) := by decide +kernel
theorem dX5_init_13 : decode cX5_init 13 = .ok (.iconst 0, 1) := by decide +kernel
theorem dX5_init_14 : decode cX5_init 14 = .ok (.putfield 15, 3) := by decide +kernel
theorem dX5_init_17 : decode cX5_init 17 = .ok (.return_, 1) := by decide +kernel
theorem dX5_at_0 : decode cX5_at 0 = .ok (.iload_n 1, 1) := by decide +kernel
theorem dX5_at_1 : decode cX5_at 1 = .ok (.ifCond .lt 20, 3) := by decide +kernel
theorem dX5_at_4 : decode cX5_at 4 = .ok (.iload_n 1, 1) := by decide +kernel
theorem dX5_at_5 : decode cX5_at 5 = .ok (.aload_n 0, 1) := by decide +kernel
theorem dX5_at_6 : decode cX5_at 6 = .ok (.getfield 15, 3) := by decide +kernel
theorem dX5_at_9 : decode cX5_at 9 = .ok (.if_icmp .ge 12, 3) := by decide +kernel
theorem dX5_at_12 : decode cX5_at 12 = .ok (.aload_n 0, 1) := by decide +kernel
theorem dX5_at_13 : decode cX5_at 13 = .ok (.getfield 9, 3) := by decide +kernel
theorem dX5_at_16 : decode cX5_at 16 = .ok (.iload_n 1, 1) := by decide +kernel
theorem dX5_at_17 : decode cX5_at 17 = .ok (.iaload, 1) := by decide +kernel
theorem dX5_at_18 : decode cX5_at 18 = .ok (.goto 4, 3) := by decide +kernel
theorem dX5_at_21 : decode cX5_at 21 = .ok (.iconst (-1), 1) := by decide +kernel
theorem dX5_at_22 : decode cX5_at 22 = .ok (.ireturn, 1) := by decide +kernel
theorem dX5_find_0 : decode cX5_find 0 = .ok (.iconst 0, 1) := by decide +kernel
theorem dX5_find_1 : decode cX5_find 1 = .ok (.istore_n 2, 1) := by decide +kernel
theorem dX5_find_2 : decode cX5_find 2 = .ok (.iload_n 2, 1) := by decide +kernel
theorem dX5_find_3 : decode cX5_find 3 = .ok (.aload_n 0, 1) := by decide +kernel
theorem dX5_find_4 : decode cX5_find 4 = .ok (.getfield 15, 3) := by decide +kernel
theorem dX5_find_7 : decode cX5_find 7 = .ok (.if_icmp .ge 21, 3) := by decide +kernel
theorem dX5_find_10 : decode cX5_find 10 = .ok (.aload_n 0, 1) := by decide +kernel
theorem dX5_find_11 : decode cX5_find 11 = .ok (.getfield 9, 3) := by decide +kernel
theorem dX5_find_14 : decode cX5_find 14 = .ok (.iload_n 2, 1) := by decide +kernel
theorem dX5_find_15 : decode cX5_find 15 = .ok (.iaload, 1) := by decide +kernel
theorem dX5_find_16 : decode cX5_find 16 = .ok (.iload_n 1, 1) := by decide +kernel
theorem dX5_find_17 : decode cX5_find 17 = .ok (.if_icmp .ne 5, 3) := by decide +kernel
theorem dX5_find_20 : decode cX5_find 20 = .ok (.iload_n 2, 1) := by decide +kernel
theorem dX5_find_21 : decode cX5_find 21 = .ok (.ireturn, 1) := by decide +kernel
theorem dX5_find_22 : decode cX5_find 22 = .ok (.iinc 2 1, 3) := by decide +kernel
theorem dX5_find_25 : decode cX5_find 25 = .ok (.goto (-23), 3) := by decide +kernel
theorem dX5_find_28 : decode cX5_find 28 = .ok (.iconst (-1), 1) := by decide +kernel
theorem dX5_find_29 : decode cX5_find 29 = .ok (.ireturn, 1) := by decide +kernel
theorem dX5_append_0 : decode cX5_append 0 = .ok (.aload_n 0, 1) := by decide +kernel
theorem dX5_append_1 : decode cX5_append 1 = .ok (.getfield 15, 3) := by decide +kernel
theorem dX5_append_4 : decode cX5_append 4 = .ok (.bipush 16, 2) := by decide +kernel
theorem dX5_append_6 : decode cX5_append 6 = .ok (.if_icmp .ge 23, 3) := by decide +kernel
theorem dX5_append_9 : decode cX5_append 9 = .ok (.aload_n 0, 1) := by decide +kernel
theorem dX5_append_10 : decode cX5_append 10 = .ok (.getfield 9, 3) := by decide +kernel
theorem dX5_append_13 : decode cX5_append 13 = .ok (.aload_n 0, 1) := by decide +kernel
theorem dX5_append_14 : decode cX5_append 14 = .ok (.getfield 15, 3) := by decide +kernel
theorem dX5_append_17 : decode cX5_append 17 = .ok (.iload_n 1, 1) := by decide +kernel
theorem dX5_append_18 : decode cX5_append 18 = .ok (.iastore, 1) := by decide +kernel
theorem dX5_append_19 : decode cX5_append 19 = .ok (.aload_n 0, 1) := by decide +kernel
theorem dX5_append_20 : decode cX5_append 20 = .ok (.dup, 1) := by decide +kernel
theorem dX5_append_21 : decode cX5_append 21 = .ok (.getfield 15, 3) := by decide +kernel
theorem dX5_append_24 : decode cX5_append 24 = .ok (.iconst 1, 1) := by decide +kernel
theorem dX5_append_25 : decode cX5_append 25 = .ok (.iadd, 1) := by decide +kernel
theorem dX5_append_26 : decode cX5_append 26 = .ok (.putfield 15, 3) := by decide +kernel
theorem dX5_append_29 : decode cX5_append 29 = .ok (.return_, 1) := by decide +kernel
theorem dX5_removeAt_0 : decode cX5_removeAt 0 = .ok (.iload_n 1, 1) := by decide +kernel
theorem dX5_removeAt_1 : decode cX5_removeAt 1 = .ok (.ifCond .lt 11, 3) := by decide +kernel
theorem dX5_removeAt_4 : decode cX5_removeAt 4 = .ok (.iload_n 1, 1) := by decide +kernel
theorem dX5_removeAt_5 : decode cX5_removeAt 5 = .ok (.aload_n 0, 1) := by decide +kernel
theorem dX5_removeAt_6 : decode cX5_removeAt 6 = .ok (.getfield 15, 3) := by decide +kernel
theorem dX5_removeAt_9 : decode cX5_removeAt 9 = .ok (.if_icmp .lt 4, 3) := by decide +kernel
theorem dX5_removeAt_12 : decode cX5_removeAt 12 = .ok (.return_, 1) := by decide +kernel
theorem dX5_removeAt_13 : decode cX5_removeAt 13 = .ok (.aload_n 0, 1) := by decide +kernel
theorem dX5_removeAt_14 : decode cX5_removeAt 14 = .ok (.getfield 9, 3) := by decide +kernel
theorem dX5_removeAt_17 : decode cX5_removeAt 17 = .ok (.iload_n 1, 1) := by decide +kernel
theorem dX5_removeAt_18 : decode cX5_removeAt 18 = .ok (.iconst 1, 1) := by decide +kernel
theorem dX5_removeAt_19 : decode cX5_removeAt 19 = .ok (.iadd, 1) := by decide +kernel
theorem dX5_removeAt_20 : decode cX5_removeAt 20 = .ok (.aload_n 0, 1) := by decide +kernel
theorem dX5_removeAt_21 : decode cX5_removeAt 21 = .ok (.getfield 9, 3) := by decide +kernel
theorem dX5_removeAt_24 : decode cX5_removeAt 24 = .ok (.iload_n 1, 1) := by decide +kernel
theorem dX5_removeAt_25 : decode cX5_removeAt 25 = .ok (.aload_n 0, 1) := by decide +kernel
theorem dX5_removeAt_26 : decode cX5_removeAt 26 = .ok (.getfield 15, 3) := by decide +kernel
theorem dX5_removeAt_29 : decode cX5_removeAt 29 = .ok (.iload_n 1, 1) := by decide +kernel
theorem dX5_removeAt_30 : decode cX5_removeAt 30 = .ok (.isub, 1) := by decide +kernel
theorem dX5_removeAt_31 : decode cX5_removeAt 31 = .ok (.iconst 1, 1) := by decide +kernel
theorem dX5_removeAt_32 : decode cX5_removeAt 32 = .ok (.isub, 1) := by decide +kernel
theorem dX5_removeAt_33 : decode cX5_removeAt 33 = .ok (.invokestatic 19, 3) := by decide +kernel
theorem dX5_removeAt_36 : decode cX5_removeAt 36 = .ok (.aload_n 0, 1) := by decide +kernel
theorem dX5_removeAt_37 : decode cX5_removeAt 37 = .ok (.dup, 1) := by decide +kernel
theorem dX5_removeAt_38 : decode cX5_removeAt 38 = .ok (.getfield 15, 3) := by decide +kernel
theorem dX5_removeAt_41 : decode cX5_removeAt 41 = .ok (.iconst 1, 1) := by decide +kernel
theorem dX5_removeAt_42 : decode cX5_removeAt 42 = .ok (.isub, 1) := by decide +kernel
theorem dX5_removeAt_43 : decode cX5_removeAt 43 = .ok (.putfield 15, 3) := by decide +kernel
theorem dX5_removeAt_46 : decode cX5_removeAt 46 = .ok (.return_, 1) := by decide +kernel
theorem dX5_clear_0 : decode cX5_clear 0 = .ok (.aload_n 0, 1) := by decide +kernel
theorem dX5_clear_1 : decode cX5_clear 1 = .ok (.iconst 0, 1) := by decide +kernel
theorem dX5_clear_2 : decode cX5_clear 2 = .ok (.putfield 15, 3) := by decide +kernel
theorem dX5_clear_5 : decode cX5_clear 5 = .ok (.return_, 1) := by decide +kernel
theorem dX6_init_0 : decode cX6_init 0 = .ok (.aload_n 0, 1) := by decide +kernel
theorem dX6_init_1 : decode cX6_init 1 = .ok (.invokespecial 3, 3) := by decide +kernel
theorem dX6_init_4 : decode cX6_init 4 = .ok (.aload_n 0, 1) := by decide +kernel
theorem dX6_init_5 : decode cX6_init 5 = .ok (.sipush 300, 3) := by decide +kernel
theorem dX6_init_8 : decode cX6_init 8 = .ok (.newarray .long, 2) := by decide +kernel
theorem dX6_init_10 : decode cX6_init 10 = .ok (.putfield 9, 3) := by decide +kernel
theorem dX6_init_13 : decode cX6_init 13 = .ok (.aload_n 0, 1) := by decide +kernel
theorem dX6_init_14 : decode cX6_init 14 = .ok (.sipush 300, 3) := by decide +kernel
theorem dX6_init_17 : decode cX6_init 17 = .ok (.newarray .int, 2) := by decide +kernel
theorem dX6_init_19 : decode cX6_init 19 = .ok (.putfield 15, 3) := by decide +kernel
theorem dX6_init_22 : decode cX6_init 22 = .ok (.aload_n 0, 1) := by decide +kernel
theorem dX6_init_23 : decode cX6_init 23 = .ok (.sipush 300, 3) := by decide +kernel
theorem dX6_init_26 : decode cX6_init 26 = .ok (.newarray .long, 2) := by decide +kernel
theorem dX6_init_28 : decode cX6_init 28 = .ok (.putfield 19, 3) := by decide +kernel
theorem dX6_init_31 : decode cX6_init 31 = .ok (.return_, 1) := by decide +kernel
theorem dX6_countOf_0 : decode cX6_countOf 0 = .ok (.iconst 0, 1) := by decide +kernel
theorem dX6_countOf_1 : decode cX6_countOf 1 = .ok (.istore_n 3, 1) := by decide +kernel
theorem dX6_countOf_2 : decode cX6_countOf 2 = .ok (.iconst 0, 1) := by decide +kernel
theorem dX6_countOf_3 : decode cX6_countOf 3 = .ok (.istore 4, 2) := by decide +kernel
theorem dX6_countOf_5 : decode cX6_countOf 5 = .ok (.iload 4, 2) := by decide +kernel
theorem dX6_countOf_7 : decode cX6_countOf 7 = .ok (.sipush 300, 3) := by decide +kernel
theorem dX6_countOf_10 : decode cX6_countOf 10 = .ok (.if_icmp .ge 31, 3) := by decide +kernel
theorem dX6_countOf_13 : decode cX6_countOf 13 = .ok (.aload_n 0, 1) := by decide +kernel
theorem dX6_countOf_14 : decode cX6_countOf 14 = .ok (.getfield 9, 3) := by decide +kernel
theorem dX6_countOf_17 : decode cX6_countOf 17 = .ok (.iload 4, 2) := by decide +kernel
theorem dX6_countOf_19 : decode cX6_countOf 19 = .ok (.laload, 1) := by decide +kernel
theorem dX6_countOf_20 : decode cX6_countOf 20 = .ok (.lload_n 1, 1) := by decide +kernel
theorem dX6_countOf_21 : decode cX6_countOf 21 = .ok (.lcmp, 1) := by decide +kernel
theorem dX6_countOf_22 : decode cX6_countOf 22 = .ok (.ifCond .ne 13, 3) := by decide +kernel
theorem dX6_countOf_25 : decode cX6_countOf 25 = .ok (.iload_n 3, 1) := by decide +kernel
theorem dX6_countOf_26 : decode cX6_countOf 26 = .ok (.aload_n 0, 1) := by decide +kernel
theorem dX6_countOf_27 : decode cX6_countOf 27 = .ok (.getfield 15, 3) := by decide +kernel
theorem dX6_countOf_30 : decode cX6_countOf 30 = .ok (.iload 4, 2) := by decide +kernel
theorem dX6_countOf_32 : decode cX6_countOf 32 = .ok (.iaload, 1) := by decide +kernel
theorem dX6_countOf_33 : decode cX6_countOf 33 = .ok (.iadd, 1) := by decide +kernel
theorem dX6_countOf_34 : decode cX6_countOf 34 = .ok (.istore_n 3, 1) := by decide +kernel
theorem dX6_countOf_35 : decode cX6_countOf 35 = .ok (.iinc 4 1, 3) := by decide +kernel
theorem dX6_countOf_38 : decode cX6_countOf 38 = .ok (.goto (-33), 3) := by decide +kernel
theorem dX6_countOf_41 : decode cX6_countOf 41 = .ok (.iload_n 3, 1) := by decide +kernel
theorem dX6_countOf_42 : decode cX6_countOf 42 = .ok (.ireturn, 1) := by decide +kernel
theorem dX6_answerTo_0 : decode cX6_answerTo 0 = .ok (.iload_n 1, 1) := by decide +kernel
theorem dX6_answerTo_1 : decode cX6_answerTo 1 = .ok (.ifCond .lt 19, 3) := by decide +kernel
theorem dX6_answerTo_4 : decode cX6_answerTo 4 = .ok (.iload_n 1, 1) := by decide +kernel
theorem dX6_answerTo_5 : decode cX6_answerTo 5 = .ok (.sipush 300, 3) := by decide +kernel
theorem dX6_answerTo_8 : decode cX6_answerTo 8 = .ok (.if_icmp .ge 12, 3) := by decide +kernel
theorem dX6_answerTo_11 : decode cX6_answerTo 11 = .ok (.aload_n 0, 1) := by decide +kernel
theorem dX6_answerTo_12 : decode cX6_answerTo 12 = .ok (.getfield 19, 3) := by decide +kernel
theorem dX6_answerTo_15 : decode cX6_answerTo 15 = .ok (.iload_n 1, 1) := by decide +kernel
theorem dX6_answerTo_16 : decode cX6_answerTo 16 = .ok (.laload, 1) := by decide +kernel
theorem dX6_answerTo_17 : decode cX6_answerTo 17 = .ok (.goto 4, 3) := by decide +kernel
theorem dX6_answerTo_20 : decode cX6_answerTo 20 = .ok (.lconst 0, 1) := by decide +kernel
theorem dX6_answerTo_21 : decode cX6_answerTo 21 = .ok (.lreturn, 1) := by decide +kernel
theorem dX6_takeAsk_0 : decode cX6_takeAsk 0 = .ok (.iload_n 1, 1) := by decide +kernel
theorem dX6_takeAsk_1 : decode cX6_takeAsk 1 = .ok (.ifCond .lt 24, 3) := by decide +kernel
theorem dX6_takeAsk_4 : decode cX6_takeAsk 4 = .ok (.iload_n 1, 1) := by decide +kernel
theorem dX6_takeAsk_5 : decode cX6_takeAsk 5 = .ok (.sipush 300, 3) := by decide +kernel
theorem dX6_takeAsk_8 : decode cX6_takeAsk 8 = .ok (.if_icmp .ge 17, 3) := by decide +kernel
theorem dX6_takeAsk_11 : decode cX6_takeAsk 11 = .ok (.iload 6, 2) := by decide +kernel
theorem dX6_takeAsk_13 : decode cX6_takeAsk 13 = .ok (.ifCond .eq 14, 3) := by decide +kernel
theorem dX6_takeAsk_16 : decode cX6_takeAsk 16 = .ok (.aload_n 0, 1) := by decide +kernel
theorem dX6_takeAsk_17 : decode cX6_takeAsk 17 = .ok (.getfield 15, 3) := by decide +kernel
theorem dX6_takeAsk_20 : decode cX6_takeAsk 20 = .ok (.iload_n 1, 1) := by decide +kernel
theorem dX6_takeAsk_21 : decode cX6_takeAsk 21 = .ok (.iaload, 1) := by decide +kernel
theorem dX6_takeAsk_22 : decode cX6_takeAsk 22 = .ok (.ifCond .le 5, 3) := by decide +kernel
theorem dX6_takeAsk_25 : decode cX6_takeAsk 25 = .ok (.iconst 0, 1) := by decide +kernel
theorem dX6_takeAsk_26 : decode cX6_takeAsk 26 = .ok (.ireturn, 1) := by decide +kernel
theorem dX6_takeAsk_27 : decode cX6_takeAsk 27 = .ok (.aload_n 0, 1) := by decide +kernel
theorem dX6_takeAsk_28 : decode cX6_takeAsk 28 = .ok (.getfield 9, 3) := by decide +kernel
theorem dX6_takeAsk_31 : decode cX6_takeAsk 31 = .ok (.iload_n 1, 1) := by decide +kernel
theorem dX6_takeAsk_32 : decode cX6_takeAsk 32 = .ok (.lload_n 2, 1) := by decide +kernel
theorem dX6_takeAsk_33 : decode cX6_takeAsk 33 = .ok (.lastore, 1) := by decide +kernel
theorem dX6_takeAsk_34 : decode cX6_takeAsk 34 = .ok (.aload_n 0, 1) := by decide +kernel
theorem dX6_takeAsk_35 : decode cX6_takeAsk 35 = .ok (.getfield 15, 3) := by decide +kernel
theorem dX6_takeAsk_38 : decode cX6_takeAsk 38 = .ok (.iload_n 1, 1) := by decide +kernel
theorem dX6_takeAsk_39 : decode cX6_takeAsk 39 = .ok (.dup2, 1) := by decide +kernel
theorem dX6_takeAsk_40 : decode cX6_takeAsk 40 = .ok (.iaload, 1) := by decide +kernel
theorem dX6_takeAsk_41 : decode cX6_takeAsk 41 = .ok (.iconst 1, 1) := by decide +kernel
theorem dX6_takeAsk_42 : decode cX6_takeAsk 42 = .ok (.iadd, 1) := by decide +kernel
theorem dX6_takeAsk_43 : decode cX6_takeAsk 43 = .ok (.iastore, 1) := by decide +kernel
theorem dX6_takeAsk_44 : decode cX6_takeAsk 44 = .ok (.aload_n 0, 1) := by decide +kernel
theorem dX6_takeAsk_45 : decode cX6_takeAsk 45 = .ok (.getfield 19, 3) := by decide +kernel
theorem dX6_takeAsk_48 : decode cX6_takeAsk 48 = .ok (.iload_n 1, 1) := by decide +kernel
theorem dX6_takeAsk_49 : decode cX6_takeAsk 49 = .ok (.lload 4, 2) := by decide +kernel
theorem dX6_takeAsk_51 : decode cX6_takeAsk 51 = .ok (.aload_n 0, 1) := by decide +kernel
theorem dX6_takeAsk_52 : decode cX6_takeAsk 52 = .ok (.lload_n 2, 1) := by decide +kernel
theorem dX6_takeAsk_53 : decode cX6_takeAsk 53 = .ok (.invokevirtual 22, 3) := by decide +kernel
theorem dX6_takeAsk_56 : decode cX6_takeAsk 56 = .ok (.i2l, 1) := by decide +kernel
theorem dX6_takeAsk_57 : decode cX6_takeAsk 57 = .ok (.ladd, 1) := by decide +kernel
theorem dX6_takeAsk_58 : decode cX6_takeAsk 58 = .ok (.lastore, 1) := by decide +kernel
theorem dX6_takeAsk_59 : decode cX6_takeAsk 59 = .ok (.iconst 1, 1) := by decide +kernel
theorem dX6_takeAsk_60 : decode cX6_takeAsk 60 = .ok (.ireturn, 1) := by decide +kernel
end
section
theorem dX7_init_0 : decode cX7_init 0 = .ok (.aload_n 0, 1) := by decide +kernel
theorem dX7_init_1 : decode cX7_init 1 = .ok (.invokespecial 1, 3) := by decide +kernel
theorem dX7_init_4 : decode cX7_init 4 = .ok (.aload_n 0, 1) := by decide +kernel
theorem dX7_init_5 : decode cX7_init 5 = .ok (.getstatic 7, 3) := by decide +kernel
theorem dX7_init_8 : decode cX7_init 8 = .ok (.invokevirtual 13, 3) := by decide +kernel
theorem dX7_init_11 : decode cX7_init 11 = .ok (.checkcast 14, 3) := by decide +kernel
theorem dX7_init_14 : decode cX7_init 14 = .ok (.putfield 18, 3) := by decide +kernel
theorem dX7_init_17 : decode cX7_init 17 = .ok (.aload_n 0, 1) := by decide +kernel
theorem dX7_init_18 : decode cX7_init 18 = .ok (.new 21, 3) := by decide +kernel
theorem dX7_init_21 : decode cX7_init 21 = .ok (.dup, 1) := by decide +kernel
theorem dX7_init_22 : decode cX7_init 22 = .ok (.invokespecial 23, 3) := by decide +kernel
theorem dX7_init_25 : decode cX7_init 25 = .ok (.putfield 24, 3) := by decide +kernel
theorem dX7_init_28 : decode cX7_init 28 = .ok (.aload_n 0, 1) := by decide +kernel
theorem dX7_init_29 : decode cX7_init 29 = .ok (.new 28, 3) := by decide +kernel
theorem dX7_init_32 : decode cX7_init 32 = .ok (.dup, 1) := by decide +kernel
theorem dX7_init_33 : decode cX7_init 33 = .ok (.invokespecial 30, 3) := by decide +kernel
theorem dX7_init_36 : decode cX7_init 36 = .ok (.putfield 31, 3) := by decide +kernel
theorem dX7_init_39 : decode cX7_init 39 = .ok (.aload_n 0, 1) := by decide +kernel
theorem dX7_init_40 : decode cX7_init 40 = .ok (.new 28, 3) := by decide +kernel
theorem dX7_init_43 : decode cX7_init 43 = .ok (.dup, 1) := by decide +kernel
theorem dX7_init_44 : decode cX7_init 44 = .ok (.invokespecial 30, 3) := by decide +kernel
theorem dX7_init_47 : decode cX7_init 47 = .ok (.putfield 35, 3) := by decide +kernel
theorem dX7_init_50 : decode cX7_init 50 = .ok (.aload_n 0, 1) := by decide +kernel
theorem dX7_init_51 : decode cX7_init 51 = .ok (.new 38, 3) := by decide +kernel
theorem dX7_init_54 : decode cX7_init 54 = .ok (.dup, 1) := by decide +kernel
theorem dX7_init_55 : decode cX7_init 55 = .ok (.invokespecial 40, 3) := by decide +kernel
theorem dX7_init_58 : decode cX7_init 58 = .ok (.putfield 41, 3) := by decide +kernel
theorem dX7_init_61 : decode cX7_init 61 = .ok (.aload_n 0, 1) := by decide +kernel
theorem dX7_init_62 : decode cX7_init 62 = .ok (.new 45, 3) := by decide +kernel
theorem dX7_init_65 : decode cX7_init 65 = .ok (.dup, 1) := by decide +kernel
theorem dX7_init_66 : decode cX7_init 66 = .ok (.invokespecial 47, 3) := by decide +kernel
theorem dX7_init_69 : decode cX7_init 69 = .ok (.putfield 48, 3) := by decide +kernel
theorem dX7_init_72 : decode cX7_init 72 = .ok (.aload_n 0, 1) := by decide +kernel
theorem dX7_init_73 : decode cX7_init 73 = .ok (.new 45, 3) := by decide +kernel
theorem dX7_init_76 : decode cX7_init 76 = .ok (.dup, 1) := by decide +kernel
theorem dX7_init_77 : decode cX7_init 77 = .ok (.invokespecial 47, 3) := by decide +kernel
theorem dX7_init_80 : decode cX7_init 80 = .ok (.putfield 52, 3) := by decide +kernel
theorem dX7_init_83 : decode cX7_init 83 = .ok (.aload_n 0, 1) := by decide +kernel
theorem dX7_init_84 : decode cX7_init 84 = .ok (.new 45, 3) := by decide +kernel
theorem dX7_init_87 : decode cX7_init 87 = .ok (.dup, 1) := by decide +kernel
theorem dX7_init_88 : decode cX7_init 88 = .ok (.invokespecial 47, 3) := by decide +kernel
theorem dX7_init_91 : decode cX7_init 91 = .ok (.putfield 55, 3) := by decide +kernel
theorem dX7_init_94 : decode cX7_init 94 = .ok (.aload_n 0, 1) := by decide +kernel
theorem dX7_init_95 : decode cX7_init 95 = .ok (.new 58, 3) := by decide +kernel
theorem dX7_init_98 : decode cX7_init 98 = .ok (.dup, 1) := by decide +kernel
theorem dX7_init_99 : decode cX7_init 99 = .ok (.invokespecial 60, 3) := by decide +kernel
theorem dX7_init_102 : decode cX7_init 102 = .ok (.putfield 61, 3) := by decide +kernel
theorem dX7_init_105 : decode cX7_init 105 = .ok (.aload_n 0, 1) := by decide +kernel
theorem dX7_init_106 : decode cX7_init 106 = .ok (.new 58, 3) := by decide +kernel
theorem dX7_init_109 : decode cX7_init 109 = .ok (.dup, 1) := by decide +kernel
theorem dX7_init_110 : decode cX7_init 110 = .ok (.invokespecial 60, 3) := by decide +kernel
theorem dX7_init_113 : decode cX7_init 113 = .ok (.putfield 65, 3) := by decide +kernel
theorem dX7_init_116 : decode cX7_init 116 = .ok (.aload_n 0, 1) := by decide +kernel
theorem dX7_init_117 : decode cX7_init 117 = .ok (.new 68, 3) := by decide +kernel
theorem dX7_init_120 : decode cX7_init 120 = .ok (.dup, 1) := by decide +kernel
theorem dX7_init_121 : decode cX7_init 121 = .ok (.invokespecial 70, 3) := by decide +kernel
theorem dX7_init_124 : decode cX7_init 124 = .ok (.putfield 71, 3) := by decide +kernel
theorem dX7_init_127 : decode cX7_init 127 = .ok (.aload_n 0, 1) := by decide +kernel
theorem dX7_init_128 : decode cX7_init 128 = .ok (.new 75, 3) := by decide +kernel
theorem dX7_init_131 : decode cX7_init 131 = .ok (.dup, 1) := by decide +kernel
theorem dX7_init_132 : decode cX7_init 132 = .ok (.invokespecial 77, 3) := by decide +kernel
theorem dX7_init_135 : decode cX7_init 135 = .ok (.putfield 78, 3) := by decide +kernel
theorem dX7_init_138 : decode cX7_init 138 = .ok (.aload_n 0, 1) := by decide +kernel
theorem dX7_init_139 : decode cX7_init 139 = .ok (.iconst 0, 1) := by decide +kernel
theorem dX7_init_140 : decode cX7_init 140 = .ok (.putfield 82, 3) := by decide +kernel
theorem dX7_init_143 : decode cX7_init 143 = .ok (.aload_n 0, 1) := by decide +kernel
theorem dX7_init_144 : decode cX7_init 144 = .ok (.iconst 0, 1) := by decide +kernel
theorem dX7_init_145 : decode cX7_init 145 = .ok (.putfield 86, 3) := by decide +kernel
theorem dX7_init_148 : decode cX7_init 148 = .ok (.aload_n 0, 1) := by decide +kernel
theorem dX7_init_149 : decode cX7_init 149 = .ok (.iconst 0, 1) := by decide +kernel
theorem dX7_init_150 : decode cX7_init 150 = .ok (.putfield 89, 3) := by decide +kernel
theorem dX7_init_153 : decode cX7_init 153 = .ok (.aload_n 0, 1) := by decide +kernel
theorem dX7_init_154 : decode cX7_init 154 = .ok (.iconst 0, 1) := by decide +kernel
theorem dX7_init_155 : decode cX7_init 155 = .ok (.putfield 92, 3) := by decide +kernel
theorem dX7_init_158 : decode cX7_init 158 = .ok (.aload_n 0, 1) := by decide +kernel
theorem dX7_init_159 : decode cX7_init 159 = .ok (.iconst 1, 1) := by decide +kernel
theorem dX7_init_160 : decode cX7_init 160 = .ok (.bipush 16, 2) := by decide +kernel
theorem dX7_init_162 : decode cX7_init 162 = .ok (.iload_n 1, 1) := by decide +kernel
theorem dX7_init_163 : decode cX7_init 163 = .ok (.invokestatic 95, 3) := by decide +kernel
theorem dX7_init_166 : decode cX7_init 166 = .ok (.invokestatic 101, 3) := by decide +kernel
theorem dX7_init_169 : decode cX7_init 169 = .ok (.putfield 104, 3) := by decide +kernel
theorem dX7_init_172 : decode cX7_init 172 = .ok (.aload_n 0, 1) := by decide +kernel
theorem dX7_init_173 : decode cX7_init 173 = .ok (.iload_n 2, 1) := by decide +kernel
theorem dX7_init_174 : decode cX7_init 174 = .ok (.iconst 1, 1) := by decide +kernel
theorem dX7_init_175 : decode cX7_init 175 = .ok (.iand, 1) := by decide +kernel
theorem dX7_init_176 : decode cX7_init 176 = .ok (.ifCond .eq 7, 3) := by decide +kernel
theorem dX7_init_179 : decode cX7_init 179 = .ok (.iconst 1, 1) := by decide +kernel
theorem dX7_init_180 : decode cX7_init 180 = .ok (.goto 4, 3) := by decide +kernel
theorem dX7_init_183 : decode cX7_init 183 = .ok (.iconst 0, 1) := by decide +kernel
theorem dX7_init_184 : decode cX7_init 184 = .ok (.putfield 107, 3) := by decide +kernel
theorem dX7_init_187 : decode cX7_init 187 = .ok (.return_, 1) := by decide +kernel
theorem dX7_set_0 : decode cX7_set 0 = .ok (.iload_n 1, 1) := by decide +kernel
theorem dX7_set_1 : decode cX7_set 1 = .ok (.ifCond .lt 12, 3) := by decide +kernel
theorem dX7_set_4 : decode cX7_set 4 = .ok (.iload_n 1, 1) := by decide +kernel
theorem dX7_set_5 : decode cX7_set 5 = .ok (.aload_n 0, 1) := by decide +kernel
theorem dX7_set_6 : decode cX7_set 6 = .ok (.getfield 18, 3) := by decide +kernel
theorem dX7_set_9 : decode cX7_set 9 = .ok (.arraylength, 1) := by decide +kernel
theorem dX7_set_10 : decode cX7_set 10 = .ok (.if_icmp .lt 5, 3) := by decide +kernel
theorem dX7_set_13 : decode cX7_set 13 = .ok (.iconst (-1), 1) := by decide +kernel
theorem dX7_set_14 : decode cX7_set 14 = .ok (.ireturn, 1) := by decide +kernel
theorem dX7_set_15 : decode cX7_set 15 = .ok (.iload_n 2, 1) := by decide +kernel
theorem dX7_set_16 : decode cX7_set 16 = .ok (.getstatic 111, 3) := by decide +kernel
theorem dX7_set_19 : decode cX7_set 19 = .ok (.iload_n 1, 1) := by decide +kernel
theorem dX7_set_20 : decode cX7_set 20 = .ok (.iaload, 1) := by decide +kernel
theorem dX7_set_21 : decode cX7_set 21 = .ok (.if_icmp .lt 12, 3) := by decide +kernel
theorem dX7_set_24 : decode cX7_set 24 = .ok (.iload_n 2, 1) := by decide +kernel
theorem dX7_set_25 : decode cX7_set 25 = .ok (.getstatic 114, 3) := by decide +kernel
theorem dX7_set_28 : decode cX7_set 28 = .ok (.iload_n 1, 1) := by decide +kernel
theorem dX7_set_29 : decode cX7_set 29 = .ok (.iaload, 1) := by decide +kernel
theorem dX7_set_30 : decode cX7_set 30 = .ok (.if_icmp .le 5, 3) := by decide +kernel
theorem dX7_set_33 : decode cX7_set 33 = .ok (.iconst (-1), 1) := by decide +kernel
theorem dX7_set_34 : decode cX7_set 34 = .ok (.ireturn, 1) := by decide +kernel
theorem dX7_set_35 : decode cX7_set 35 = .ok (.aload_n 0, 1) := by decide +kernel
theorem dX7_set_36 : decode cX7_set 36 = .ok (.getfield 18, 3) := by decide +kernel
theorem dX7_set_39 : decode cX7_set 39 = .ok (.iload_n 1, 1) := by decide +kernel
theorem dX7_set_40 : decode cX7_set 40 = .ok (.iaload, 1) := by decide +kernel
theorem dX7_set_41 : decode cX7_set 41 = .ok (.istore_n 3, 1) := by decide +kernel
theorem dX7_set_42 : decode cX7_set 42 = .ok (.aload_n 0, 1) := by decide +kernel
theorem dX7_set_43 : decode cX7_set 43 = .ok (.getfield 18, 3) := by decide +kernel
theorem dX7_set_46 : decode cX7_set 46 = .ok (.iload_n 1, 1) := by decide +kernel
theorem dX7_set_47 : decode cX7_set 47 = .ok (.iload_n 2, 1) := by decide +kernel
theorem dX7_set_48 : decode cX7_set 48 = .ok (.iastore, 1) := by decide +kernel
theorem dX7_set_49 : decode cX7_set 49 = .ok (.aload_n 0, 1) := by decide +kernel
theorem dX7_set_50 : decode cX7_set 50 = .ok (.invokevirtual 117, 3) := by decide +kernel
theorem dX7_set_53 : decode cX7_set 53 = .ok (.iload_n 3, 1) := by decide +kernel
theorem dX7_set_54 : decode cX7_set 54 = .ok (.ireturn, 1) := by decide +kernel
theorem dX7_row_0 : decode cX7_row 0 = .ok (.aload_n 0, 1) := by decide +kernel
theorem dX7_row_1 : decode cX7_row 1 = .ok (.getfield 31, 3) := by decide +kernel
theorem dX7_row_4 : decode cX7_row 4 = .ok (.getfield 120, 3) := by decide +kernel
theorem dX7_row_7 : decode cX7_row 7 = .ok (.istore 5, 2) := by decide +kernel
theorem dX7_row_9 : decode cX7_row 9 = .ok (.iload 5, 2) := by decide +kernel
theorem dX7_row_11 : decode cX7_row 11 = .ok (.sipush 300, 3) := by decide +kernel
theorem dX7_row_14 : decode cX7_row 14 = .ok (.if_icmp .lt 6, 3) := by decide +kernel
theorem dX7_row_17 : decode cX7_row 17 = .ok (.bipush (-4), 2) := by decide +kernel
theorem dX7_row_19 : decode cX7_row 19 = .ok (.ireturn, 1) := by decide +kernel
theorem dX7_row_20 : decode cX7_row 20 = .ok (.aload_n 0, 1) := by decide +kernel
theorem dX7_row_21 : decode cX7_row 21 = .ok (.getfield 24, 3) := by decide +kernel
theorem dX7_row_24 : decode cX7_row 24 = .ok (.iload 5, 2) := by decide +kernel
theorem dX7_row_26 : decode cX7_row 26 = .ok (.lload_n 1, 1) := by decide +kernel
theorem dX7_row_27 : decode cX7_row 27 = .ok (.lload_n 3, 1) := by decide +kernel
theorem dX7_row_28 : decode cX7_row 28 = .ok (.invokevirtual 122, 3) := by decide +kernel
theorem dX7_row_31 : decode cX7_row 31 = .ok (.aload_n 0, 1) := by decide +kernel
theorem dX7_row_32 : decode cX7_row 32 = .ok (.getfield 31, 3) := by decide +kernel
theorem dX7_row_35 : decode cX7_row 35 = .ok (.iconst 0, 1) := by decide +kernel
theorem dX7_row_36 : decode cX7_row 36 = .ok (.iconst (-1), 1) := by decide +kernel
theorem dX7_row_37 : decode cX7_row 37 = .ok (.invokevirtual 126, 3) := by decide +kernel
theorem dX7_row_40 : decode cX7_row 40 = .ok (.aload_n 0, 1) := by decide +kernel
theorem dX7_row_41 : decode cX7_row 41 = .ok (.invokevirtual 117, 3) := by decide +kernel
theorem dX7_row_44 : decode cX7_row 44 = .ok (.iload 5, 2) := by decide +kernel
theorem dX7_row_46 : decode cX7_row 46 = .ok (.ireturn, 1) := by decide +kernel
theorem dX7_mark_0 : decode cX7_mark 0 = .ok (.aload_n 0, 1) := by decide +kernel
theorem dX7_mark_1 : decode cX7_mark 1 = .ok (.getfield 31, 3) := by decide +kernel
theorem dX7_mark_4 : decode cX7_mark 4 = .ok (.getfield 120, 3) := by decide +kernel
theorem dX7_mark_7 : decode cX7_mark 7 = .ok (.istore_n 1, 1) := by decide +kernel
theorem dX7_mark_8 : decode cX7_mark 8 = .ok (.iload_n 1, 1) := by decide +kernel
theorem dX7_mark_9 : decode cX7_mark 9 = .ok (.sipush 300, 3) := by decide +kernel
theorem dX7_mark_12 : decode cX7_mark 12 = .ok (.if_icmp .lt 6, 3) := by decide +kernel
theorem dX7_mark_15 : decode cX7_mark 15 = .ok (.bipush (-4), 2) := by decide +kernel
theorem dX7_mark_17 : decode cX7_mark 17 = .ok (.ireturn, 1) := by decide +kernel
theorem dX7_mark_18 : decode cX7_mark 18 = .ok (.aload_n 0, 1) := by decide +kernel
theorem dX7_mark_19 : decode cX7_mark 19 = .ok (.getfield 24, 3) := by decide +kernel
theorem dX7_mark_22 : decode cX7_mark 22 = .ok (.iload_n 1, 1) := by decide +kernel
theorem dX7_mark_23 : decode cX7_mark 23 = .ok (.invokevirtual 130, 3) := by decide +kernel
theorem dX7_mark_26 : decode cX7_mark 26 = .ok (.aload_n 0, 1) := by decide +kernel
theorem dX7_mark_27 : decode cX7_mark 27 = .ok (.getfield 31, 3) := by decide +kernel
theorem dX7_mark_30 : decode cX7_mark 30 = .ok (.iconst 2, 1) := by decide +kernel
theorem dX7_mark_31 : decode cX7_mark 31 = .ok (.iconst 5, 1) := by decide +kernel
theorem dX7_mark_32 : decode cX7_mark 32 = .ok (.invokevirtual 126, 3) := by decide +kernel
theorem dX7_mark_35 : decode cX7_mark 35 = .ok (.aload_n 0, 1) := by decide +kernel
theorem dX7_mark_36 : decode cX7_mark 36 = .ok (.invokevirtual 117, 3) := by decide +kernel
theorem dX7_mark_39 : decode cX7_mark 39 = .ok (.iload_n 1, 1) := by decide +kernel
theorem dX7_mark_40 : decode cX7_mark 40 = .ok (.ireturn, 1) := by decide +kernel
theorem dX7_tick_0 : decode cX7_tick 0 = .ok (.iload_n 1, 1) := by decide +kernel
theorem dX7_tick_1 : decode cX7_tick 1 = .ok (.ifCond .lt 21, 3) := by decide +kernel
theorem dX7_tick_4 : decode cX7_tick 4 = .ok (.iload_n 1, 1) := by decide +kernel
theorem dX7_tick_5 : decode cX7_tick 5 = .ok (.sipush 1000, 3) := by decide +kernel
theorem dX7_tick_8 : decode cX7_tick 8 = .ok (.if_icmp .gt 14, 3) := by decide +kernel
theorem dX7_tick_11 : decode cX7_tick 11 = .ok (.aload_n 0, 1) := by decide +kernel
theorem dX7_tick_12 : decode cX7_tick 12 = .ok (.getfield 82, 3) := by decide +kernel
theorem dX7_tick_15 : decode cX7_tick 15 = .ok (.iload_n 1, 1) := by decide +kernel
theorem dX7_tick_16 : decode cX7_tick 16 = .ok (.iadd, 1) := by decide +kernel
theorem dX7_tick_17 : decode cX7_tick 17 = .ok (.ldc 134, 2) := by decide +kernel
theorem dX7_tick_19 : decode cX7_tick 19 = .ok (.if_icmp .le 5, 3) := by decide +kernel
theorem dX7_tick_22 : decode cX7_tick 22 = .ok (.iconst (-1), 1) := by decide +kernel
theorem dX7_tick_23 : decode cX7_tick 23 = .ok (.ireturn, 1) := by decide +kernel
theorem dX7_tick_24 : decode cX7_tick 24 = .ok (.iconst 0, 1) := by decide +kernel
theorem dX7_tick_25 : decode cX7_tick 25 = .ok (.istore_n 2, 1) := by decide +kernel
theorem dX7_tick_26 : decode cX7_tick 26 = .ok (.iload_n 2, 1) := by decide +kernel
theorem dX7_tick_27 : decode cX7_tick 27 = .ok (.iload_n 1, 1) := by decide +kernel
theorem dX7_tick_28 : decode cX7_tick 28 = .ok (.if_icmp .ge 13, 3) := by decide +kernel
theorem dX7_tick_31 : decode cX7_tick 31 = .ok (.aload_n 0, 1) := by decide +kernel
theorem dX7_tick_32 : decode cX7_tick 32 = .ok (.invokevirtual 135, 3) := by decide +kernel
theorem dX7_tick_35 : decode cX7_tick 35 = .ok (.iinc 2 1, 3) := by decide +kernel
theorem dX7_tick_38 : decode cX7_tick 38 = .ok (.goto (-12), 3) := by decide +kernel
theorem dX7_tick_41 : decode cX7_tick 41 = .ok (.aload_n 0, 1) := by decide +kernel
theorem dX7_tick_42 : decode cX7_tick 42 = .ok (.getfield 82, 3) := by decide +kernel
theorem dX7_tick_45 : decode cX7_tick 45 = .ok (.ireturn, 1) := by decide +kernel
theorem dX7_serve_0 : decode cX7_serve 0 = .ok (.aload_n 0, 1) := by decide +kernel
theorem dX7_serve_1 : decode cX7_serve 1 = .ok (.getfield 61, 3) := by decide +kernel
theorem dX7_serve_4 : decode cX7_serve 4 = .ok (.iload_n 1, 1) := by decide +kernel
theorem dX7_serve_5 : decode cX7_serve 5 = .ok (.invokevirtual 138, 3) := by decide +kernel
theorem dX7_serve_8 : decode cX7_serve 8 = .ok (.ifCond .ne 5, 3) := by decide +kernel
theorem dX7_serve_11 : decode cX7_serve 11 = .ok (.iconst (-1), 1) := by decide +kernel
theorem dX7_serve_12 : decode cX7_serve 12 = .ok (.ireturn, 1) := by decide +kernel
theorem dX7_serve_13 : decode cX7_serve 13 = .ok (.aload_n 0, 1) := by decide +kernel
theorem dX7_serve_14 : decode cX7_serve 14 = .ok (.getfield 61, 3) := by decide +kernel
theorem dX7_serve_17 : decode cX7_serve 17 = .ok (.iload_n 1, 1) := by decide +kernel
theorem dX7_serve_18 : decode cX7_serve 18 = .ok (.invokevirtual 142, 3) := by decide +kernel
theorem dX7_serve_21 : decode cX7_serve 21 = .ok (.istore_n 2, 1) := by decide +kernel
theorem dX7_serve_22 : decode cX7_serve 22 = .ok (.aload_n 0, 1) := by decide +kernel
theorem dX7_serve_23 : decode cX7_serve 23 = .ok (.getfield 61, 3) := by decide +kernel
theorem dX7_serve_26 : decode cX7_serve 26 = .ok (.iload_n 1, 1) := by decide +kernel
theorem dX7_serve_27 : decode cX7_serve 27 = .ok (.invokevirtual 146, 3) := by decide +kernel
theorem dX7_serve_30 : decode cX7_serve 30 = .ok (.aload_n 0, 1) := by decide +kernel
theorem dX7_serve_31 : decode cX7_serve 31 = .ok (.getfield 18, 3) := by decide +kernel
theorem dX7_serve_34 : decode cX7_serve 34 = .ok (.bipush 7, 2) := by decide +kernel
theorem dX7_serve_36 : decode cX7_serve 36 = .ok (.iaload, 1) := by decide +kernel
theorem dX7_serve_37 : decode cX7_serve 37 = .ok (.iconst 1, 1) := by decide +kernel
theorem dX7_serve_38 : decode cX7_serve 38 = .ok (.if_icmp .ne 7, 3) := by decide +kernel
theorem dX7_serve_41 : decode cX7_serve 41 = .ok (.iconst 1, 1) := by decide +kernel
theorem dX7_serve_42 : decode cX7_serve 42 = .ok (.goto 4, 3) := by decide +kernel
theorem dX7_serve_45 : decode cX7_serve 45 = .ok (.iconst 0, 1) := by decide +kernel
theorem dX7_serve_46 : decode cX7_serve 46 = .ok (.istore_n 3, 1) := by decide +kernel
theorem dX7_serve_47 : decode cX7_serve 47 = .ok (.aload_n 0, 1) := by decide +kernel
theorem dX7_serve_48 : decode cX7_serve 48 = .ok (.getfield 71, 3) := by decide +kernel
theorem dX7_serve_51 : decode cX7_serve 51 = .ok (.iload_n 2, 1) := by decide +kernel
theorem dX7_serve_52 : decode cX7_serve 52 = .ok (.aload_n 0, 1) := by decide +kernel
theorem dX7_serve_53 : decode cX7_serve 53 = .ok (.getfield 24, 3) := by decide +kernel
theorem dX7_serve_56 : decode cX7_serve 56 = .ok (.iload_n 2, 1) := by decide +kernel
theorem dX7_serve_57 : decode cX7_serve 57 = .ok (.invokevirtual 149, 3) := by decide +kernel
theorem dX7_serve_60 : decode cX7_serve 60 = .ok (.aload_n 0, 1) := by decide +kernel
theorem dX7_serve_61 : decode cX7_serve 61 = .ok (.getfield 24, 3) := by decide +kernel
theorem dX7_serve_64 : decode cX7_serve 64 = .ok (.iload_n 2, 1) := by decide +kernel
theorem dX7_serve_65 : decode cX7_serve 65 = .ok (.invokevirtual 153, 3) := by decide +kernel
theorem dX7_serve_68 : decode cX7_serve 68 = .ok (.iload_n 3, 1) := by decide +kernel
theorem dX7_serve_69 : decode cX7_serve 69 = .ok (.invokevirtual 156, 3) := by decide +kernel
theorem dX7_serve_72 : decode cX7_serve 72 = .ok (.istore 4, 2) := by decide +kernel
theorem dX7_serve_74 : decode cX7_serve 74 = .ok (.aload_n 0, 1) := by decide +kernel
theorem dX7_serve_75 : decode cX7_serve 75 = .ok (.getfield 65, 3) := by decide +kernel
theorem dX7_serve_78 : decode cX7_serve 78 = .ok (.iload_n 2, 1) := by decide +kernel
theorem dX7_serve_79 : decode cX7_serve 79 = .ok (.iconst 0, 1) := by decide +kernel
theorem dX7_serve_80 : decode cX7_serve 80 = .ok (.aload_n 0, 1) := by decide +kernel
theorem dX7_serve_81 : decode cX7_serve 81 = .ok (.getfield 71, 3) := by decide +kernel
theorem dX7_serve_84 : decode cX7_serve 84 = .ok (.iload_n 2, 1) := by decide +kernel
theorem dX7_serve_85 : decode cX7_serve 85 = .ok (.invokevirtual 160, 3) := by decide +kernel
theorem dX7_serve_88 : decode cX7_serve 88 = .ok (.invokevirtual 163, 3) := by decide +kernel
theorem dX7_serve_91 : decode cX7_serve 91 = .ok (.aload_n 0, 1) := by decide +kernel
theorem dX7_serve_92 : decode cX7_serve 92 = .ok (.invokevirtual 117, 3) := by decide +kernel
theorem dX7_serve_95 : decode cX7_serve 95 = .ok (.iload 4, 2) := by decide +kernel
theorem dX7_serve_97 : decode cX7_serve 97 = .ok (.ifCond .eq 7, 3) := by decide +kernel
theorem dX7_serve_100 : decode cX7_serve 100 = .ok (.iconst 1, 1) := by decide +kernel
theorem dX7_serve_101 : decode cX7_serve 101 = .ok (.goto 4, 3) := by decide +kernel
theorem dX7_serve_104 : decode cX7_serve 104 = .ok (.iconst 0, 1) := by decide +kernel
theorem dX7_serve_105 : decode cX7_serve 105 = .ok (.ireturn, 1) := by decide +kernel
theorem dX7_refuse_0 : decode cX7_refuse 0 = .ok (.aload_n 0, 1) := by decide +kernel
theorem dX7_refuse_1 : decode cX7_refuse 1 = .ok (.getfield 61, 3) := by decide +kernel
theorem dX7_refuse_4 : decode cX7_refuse 4 = .ok (.iload_n 1, 1) := by decide +kernel
theorem dX7_refuse_5 : decode cX7_refuse 5 = .ok (.invokevirtual 138, 3) := by decide +kernel
theorem dX7_refuse_8 : decode cX7_refuse 8 = .ok (.ifCond .eq 13, 3) := by decide +kernel
theorem dX7_refuse_11 : decode cX7_refuse 11 = .ok (.iload_n 2, 1) := by decide +kernel
theorem dX7_refuse_12 : decode cX7_refuse 12 = .ok (.iconst 1, 1) := by decide +kernel
theorem dX7_refuse_13 : decode cX7_refuse 13 = .ok (.if_icmp .lt 8, 3) := by decide +kernel
theorem dX7_refuse_16 : decode cX7_refuse 16 = .ok (.iload_n 2, 1) := by decide +kernel
theorem dX7_refuse_17 : decode cX7_refuse 17 = .ok (.iconst 3, 1) := by decide +kernel
theorem dX7_refuse_18 : decode cX7_refuse 18 = .ok (.if_icmp .le 5, 3) := by decide +kernel
theorem dX7_refuse_21 : decode cX7_refuse 21 = .ok (.iconst (-1), 1) := by decide +kernel
theorem dX7_refuse_22 : decode cX7_refuse 22 = .ok (.ireturn, 1) := by decide +kernel
theorem dX7_refuse_23 : decode cX7_refuse 23 = .ok (.aload_n 0, 1) := by decide +kernel
theorem dX7_refuse_24 : decode cX7_refuse 24 = .ok (.getfield 61, 3) := by decide +kernel
theorem dX7_refuse_27 : decode cX7_refuse 27 = .ok (.iload_n 1, 1) := by decide +kernel
theorem dX7_refuse_28 : decode cX7_refuse 28 = .ok (.invokevirtual 142, 3) := by decide +kernel
theorem dX7_refuse_31 : decode cX7_refuse 31 = .ok (.istore_n 3, 1) := by decide +kernel
theorem dX7_refuse_32 : decode cX7_refuse 32 = .ok (.aload_n 0, 1) := by decide +kernel
theorem dX7_refuse_33 : decode cX7_refuse 33 = .ok (.getfield 61, 3) := by decide +kernel
theorem dX7_refuse_36 : decode cX7_refuse 36 = .ok (.iload_n 1, 1) := by decide +kernel
theorem dX7_refuse_37 : decode cX7_refuse 37 = .ok (.invokevirtual 146, 3) := by decide +kernel
theorem dX7_refuse_40 : decode cX7_refuse 40 = .ok (.aload_n 0, 1) := by decide +kernel
theorem dX7_refuse_41 : decode cX7_refuse 41 = .ok (.getfield 65, 3) := by decide +kernel
theorem dX7_refuse_44 : decode cX7_refuse 44 = .ok (.iload_n 3, 1) := by decide +kernel
theorem dX7_refuse_45 : decode cX7_refuse 45 = .ok (.iload_n 2, 1) := by decide +kernel
theorem dX7_refuse_46 : decode cX7_refuse 46 = .ok (.lconst 0, 1) := by decide +kernel
theorem dX7_refuse_47 : decode cX7_refuse 47 = .ok (.invokevirtual 163, 3) := by decide +kernel
theorem dX7_refuse_50 : decode cX7_refuse 50 = .ok (.aload_n 0, 1) := by decide +kernel
theorem dX7_refuse_51 : decode cX7_refuse 51 = .ok (.invokevirtual 117, 3) := by decide +kernel
theorem dX7_refuse_54 : decode cX7_refuse 54 = .ok (.iconst 0, 1) := by decide +kernel
theorem dX7_refuse_55 : decode cX7_refuse 55 = .ok (.ireturn, 1) := by decide +kernel
theorem dX7_arrive_0 : decode cX7_arrive 0 = .ok (.aload_n 0, 1) := by decide +kernel
theorem dX7_arrive_1 : decode cX7_arrive 1 = .ok (.getfield 65, 3) := by decide +kernel
theorem dX7_arrive_4 : decode cX7_arrive 4 = .ok (.iload_n 1, 1) := by decide +kernel
theorem dX7_arrive_5 : decode cX7_arrive 5 = .ok (.invokevirtual 138, 3) := by decide +kernel
theorem dX7_arrive_8 : decode cX7_arrive 8 = .ok (.ifCond .ne 5, 3) := by decide +kernel
theorem dX7_arrive_11 : decode cX7_arrive 11 = .ok (.iconst (-1), 1) := by decide +kernel
theorem dX7_arrive_12 : decode cX7_arrive 12 = .ok (.ireturn, 1) := by decide +kernel
theorem dX7_arrive_13 : decode cX7_arrive 13 = .ok (.aload_n 0, 1) := by decide +kernel
theorem dX7_arrive_14 : decode cX7_arrive 14 = .ok (.getfield 65, 3) := by decide +kernel
theorem dX7_arrive_17 : decode cX7_arrive 17 = .ok (.iload_n 1, 1) := by decide +kernel
theorem dX7_arrive_18 : decode cX7_arrive 18 = .ok (.invokevirtual 142, 3) := by decide +kernel
theorem dX7_arrive_21 : decode cX7_arrive 21 = .ok (.istore_n 2, 1) := by decide +kernel
theorem dX7_arrive_22 : decode cX7_arrive 22 = .ok (.aload_n 0, 1) := by decide +kernel
theorem dX7_arrive_23 : decode cX7_arrive 23 = .ok (.getfield 65, 3) := by decide +kernel
theorem dX7_arrive_26 : decode cX7_arrive 26 = .ok (.iload_n 1, 1) := by decide +kernel
theorem dX7_arrive_27 : decode cX7_arrive 27 = .ok (.invokevirtual 167, 3) := by decide +kernel
theorem dX7_arrive_30 : decode cX7_arrive 30 = .ok (.istore_n 3, 1) := by decide +kernel
theorem dX7_arrive_31 : decode cX7_arrive 31 = .ok (.aload_n 0, 1) := by decide +kernel
theorem dX7_arrive_32 : decode cX7_arrive 32 = .ok (.getfield 65, 3) := by decide +kernel
theorem dX7_arrive_35 : decode cX7_arrive 35 = .ok (.iload_n 1, 1) := by decide +kernel
theorem dX7_arrive_36 : decode cX7_arrive 36 = .ok (.invokevirtual 170, 3) := by decide +kernel
theorem dX7_arrive_39 : decode cX7_arrive 39 = .ok (.lstore 4, 2) := by decide +kernel
theorem dX7_arrive_41 : decode cX7_arrive 41 = .ok (.aload_n 0, 1) := by decide +kernel
theorem dX7_arrive_42 : decode cX7_arrive 42 = .ok (.getfield 65, 3) := by decide +kernel
theorem dX7_arrive_45 : decode cX7_arrive 45 = .ok (.iload_n 1, 1) := by decide +kernel
theorem dX7_arrive_46 : decode cX7_arrive 46 = .ok (.invokevirtual 146, 3) := by decide +kernel
theorem dX7_arrive_49 : decode cX7_arrive 49 = .ok (.aload_n 0, 1) := by decide +kernel
theorem dX7_arrive_50 : decode cX7_arrive 50 = .ok (.getfield 31, 3) := by decide +kernel
theorem dX7_arrive_53 : decode cX7_arrive 53 = .ok (.iload_n 2, 1) := by decide +kernel
theorem dX7_arrive_54 : decode cX7_arrive 54 = .ok (.invokevirtual 173, 3) := by decide +kernel
theorem dX7_arrive_57 : decode cX7_arrive 57 = .ok (.iconst 1, 1) := by decide +kernel
theorem dX7_arrive_58 : decode cX7_arrive 58 = .ok (.if_icmp .ne 18, 3) := by decide +kernel
theorem dX7_arrive_61 : decode cX7_arrive 61 = .ok (.aload_n 0, 1) := by decide +kernel
theorem dX7_arrive_62 : decode cX7_arrive 62 = .ok (.iload_n 2, 1) := by decide +kernel
theorem dX7_arrive_63 : decode cX7_arrive 63 = .ok (.iload_n 3, 1) := by decide +kernel
theorem dX7_arrive_64 : decode cX7_arrive 64 = .ok (.lload 4, 2) := by decide +kernel
theorem dX7_arrive_66 : decode cX7_arrive 66 = .ok (.invokevirtual 176, 3) := by decide +kernel
theorem dX7_arrive_69 : decode cX7_arrive 69 = .ok (.ifCond .eq 7, 3) := by decide +kernel
theorem dX7_arrive_72 : decode cX7_arrive 72 = .ok (.iconst 1, 1) := by decide +kernel
theorem dX7_arrive_73 : decode cX7_arrive 73 = .ok (.goto 4, 3) := by decide +kernel
theorem dX7_arrive_76 : decode cX7_arrive 76 = .ok (.iconst 0, 1) := by decide +kernel
theorem dX7_arrive_77 : decode cX7_arrive 77 = .ok (.istore 6, 2) := by decide +kernel
theorem dX7_arrive_79 : decode cX7_arrive 79 = .ok (.aload_n 0, 1) := by decide +kernel
theorem dX7_arrive_80 : decode cX7_arrive 80 = .ok (.invokevirtual 117, 3) := by decide +kernel
theorem dX7_arrive_83 : decode cX7_arrive 83 = .ok (.iload 6, 2) := by decide +kernel
theorem dX7_arrive_85 : decode cX7_arrive 85 = .ok (.ifCond .eq 7, 3) := by decide +kernel
theorem dX7_arrive_88 : decode cX7_arrive 88 = .ok (.iconst 1, 1) := by decide +kernel
theorem dX7_arrive_89 : decode cX7_arrive 89 = .ok (.goto 4, 3) := by decide +kernel
theorem dX7_arrive_92 : decode cX7_arrive 92 = .ok (.iconst 0, 1) := by decide +kernel
theorem dX7_arrive_93 : decode cX7_arrive 93 = .ok (.ireturn, 1) := by decide +kernel
theorem dX7_lose_0 : decode cX7_lose 0 = .ok (.aload_n 0, 1) := by decide +kernel
theorem dX7_lose_1 : decode cX7_lose 1 = .ok (.iload_n 1, 1) := by decide +kernel
theorem dX7_lose_2 : decode cX7_lose 2 = .ok (.invokevirtual 180, 3) := by decide +kernel
theorem dX7_lose_5 : decode cX7_lose 5 = .ok (.astore_n 3, 1) := by decide +kernel
theorem dX7_lose_6 : decode cX7_lose 6 = .ok (.aload_n 3, 1) := by decide +kernel
theorem dX7_lose_7 : decode cX7_lose 7 = .ok (.ifnull 11, 3) := by decide +kernel
theorem dX7_lose_10 : decode cX7_lose 10 = .ok (.aload_n 3, 1) := by decide +kernel
theorem dX7_lose_11 : decode cX7_lose 11 = .ok (.iload_n 2, 1) := by decide +kernel
theorem dX7_lose_12 : decode cX7_lose 12 = .ok (.invokevirtual 138, 3) := by decide +kernel
theorem dX7_lose_15 : decode cX7_lose 15 = .ok (.ifCond .ne 5, 3) := by decide +kernel
theorem dX7_lose_18 : decode cX7_lose 18 = .ok (.iconst (-1), 1) := by decide +kernel
theorem dX7_lose_19 : decode cX7_lose 19 = .ok (.ireturn, 1) := by decide +kernel
theorem dX7_lose_20 : decode cX7_lose 20 = .ok (.aload_n 3, 1) := by decide +kernel
theorem dX7_lose_21 : decode cX7_lose 21 = .ok (.iload_n 2, 1) := by decide +kernel
theorem dX7_lose_22 : decode cX7_lose 22 = .ok (.invokevirtual 146, 3) := by decide +kernel
theorem dX7_lose_25 : decode cX7_lose 25 = .ok (.aload_n 0, 1) := by decide +kernel
theorem dX7_lose_26 : decode cX7_lose 26 = .ok (.invokevirtual 117, 3) := by decide +kernel
theorem dX7_lose_29 : decode cX7_lose 29 = .ok (.aload_n 3, 1) := by decide +kernel
theorem dX7_lose_30 : decode cX7_lose 30 = .ok (.getfield 184, 3) := by decide +kernel
theorem dX7_lose_33 : decode cX7_lose 33 = .ok (.ireturn, 1) := by decide +kernel
theorem dX7_twice_0 : decode cX7_twice 0 = .ok (.aload_n 0, 1) := by decide +kernel
theorem dX7_twice_1 : decode cX7_twice 1 = .ok (.iload_n 1, 1) := by decide +kernel
theorem dX7_twice_2 : decode cX7_twice 2 = .ok (.invokevirtual 180, 3) := by decide +kernel
theorem dX7_twice_5 : decode cX7_twice 5 = .ok (.astore_n 3, 1) := by decide +kernel
theorem dX7_twice_6 : decode cX7_twice 6 = .ok (.aload_n 3, 1) := by decide +kernel
theorem dX7_twice_7 : decode cX7_twice 7 = .ok (.ifnull 11, 3) := by decide +kernel
theorem dX7_twice_10 : decode cX7_twice 10 = .ok (.aload_n 3, 1) := by decide +kernel
theorem dX7_twice_11 : decode cX7_twice 11 = .ok (.iload_n 2, 1) := by decide +kernel
theorem dX7_twice_12 : decode cX7_twice 12 = .ok (.invokevirtual 138, 3) := by decide +kernel
theorem dX7_twice_15 : decode cX7_twice 15 = .ok (.ifCond .ne 5, 3) := by decide +kernel
theorem dX7_twice_18 : decode cX7_twice 18 = .ok (.iconst (-1), 1) := by decide +kernel
theorem dX7_twice_19 : decode cX7_twice 19 = .ok (.ireturn, 1) := by decide +kernel
theorem dX7_twice_20 : decode cX7_twice 20 = .ok (.aload_n 3, 1) := by decide +kernel
theorem dX7_twice_21 : decode cX7_twice 21 = .ok (.getfield 184, 3) := by decide +kernel
theorem dX7_twice_24 : decode cX7_twice 24 = .ok (.bipush 100, 2) := by decide +kernel
theorem dX7_twice_26 : decode cX7_twice 26 = .ok (.if_icmp .lt 6, 3) := by decide +kernel
theorem dX7_twice_29 : decode cX7_twice 29 = .ok (.bipush (-4), 2) := by decide +kernel
theorem dX7_twice_31 : decode cX7_twice 31 = .ok (.ireturn, 1) := by decide +kernel
theorem dX7_twice_32 : decode cX7_twice 32 = .ok (.aload_n 3, 1) := by decide +kernel
theorem dX7_twice_33 : decode cX7_twice 33 = .ok (.aload_n 3, 1) := by decide +kernel
theorem dX7_twice_34 : decode cX7_twice 34 = .ok (.iload_n 2, 1) := by decide +kernel
theorem dX7_twice_35 : decode cX7_twice 35 = .ok (.invokevirtual 142, 3) := by decide +kernel
theorem dX7_twice_38 : decode cX7_twice 38 = .ok (.aload_n 3, 1) := by decide +kernel
theorem dX7_twice_39 : decode cX7_twice 39 = .ok (.iload_n 2, 1) := by decide +kernel
theorem dX7_twice_40 : decode cX7_twice 40 = .ok (.invokevirtual 167, 3) := by decide +kernel
theorem dX7_twice_43 : decode cX7_twice 43 = .ok (.aload_n 3, 1) := by decide +kernel
theorem dX7_twice_44 : decode cX7_twice 44 = .ok (.iload_n 2, 1) := by decide +kernel
theorem dX7_twice_45 : decode cX7_twice 45 = .ok (.invokevirtual 170, 3) := by decide +kernel
theorem dX7_twice_48 : decode cX7_twice 48 = .ok (.invokevirtual 163, 3) := by decide +kernel
theorem dX7_twice_51 : decode cX7_twice 51 = .ok (.aload_n 0, 1) := by decide +kernel
theorem dX7_twice_52 : decode cX7_twice 52 = .ok (.invokevirtual 117, 3) := by decide +kernel
theorem dX7_twice_55 : decode cX7_twice 55 = .ok (.aload_n 3, 1) := by decide +kernel
theorem dX7_twice_56 : decode cX7_twice 56 = .ok (.getfield 184, 3) := by decide +kernel
theorem dX7_twice_59 : decode cX7_twice 59 = .ok (.ireturn, 1) := by decide +kernel
theorem dX7_under_0 : decode cX7_under 0 = .ok (.aload_n 0, 1) := by decide +kernel
theorem dX7_under_1 : decode cX7_under 1 = .ok (.iload_n 1, 1) := by decide +kernel
theorem dX7_under_2 : decode cX7_under 2 = .ok (.invokevirtual 180, 3) := by decide +kernel
theorem dX7_under_5 : decode cX7_under 5 = .ok (.astore_n 3, 1) := by decide +kernel
theorem dX7_under_6 : decode cX7_under 6 = .ok (.aload_n 3, 1) := by decide +kernel
theorem dX7_under_7 : decode cX7_under 7 = .ok (.ifnonnull 7, 3) := by decide +kernel
theorem dX7_under_10 : decode cX7_under 10 = .ok (.iconst (-1), 1) := by decide +kernel
theorem dX7_under_11 : decode cX7_under 11 = .ok (.goto 8, 3) := by decide +kernel
theorem dX7_under_14 : decode cX7_under 14 = .ok (.aload_n 3, 1) := by decide +kernel
theorem dX7_under_15 : decode cX7_under 15 = .ok (.iload_n 2, 1) := by decide +kernel
theorem dX7_under_16 : decode cX7_under 16 = .ok (.invokevirtual 142, 3) := by decide +kernel
theorem dX7_under_19 : decode cX7_under 19 = .ok (.ireturn, 1) := by decide +kernel
theorem dX7_out_0 : decode cX7_out 0 = .ok (.iload_n 1, 1) := by decide +kernel
theorem dX7_out_1 : decode cX7_out 1 = .ok (.ifCond .lt 14, 3) := by decide +kernel
theorem dX7_out_4 : decode cX7_out 4 = .ok (.iload_n 1, 1) := by decide +kernel
theorem dX7_out_5 : decode cX7_out 5 = .ok (.aload_n 0, 1) := by decide +kernel
theorem dX7_out_6 : decode cX7_out 6 = .ok (.getfield 31, 3) := by decide +kernel
theorem dX7_out_9 : decode cX7_out 9 = .ok (.getfield 187, 3) := by decide +kernel
theorem dX7_out_12 : decode cX7_out 12 = .ok (.if_icmp .lt 5, 3) := by decide +kernel
theorem dX7_out_15 : decode cX7_out 15 = .ok (.iconst (-1), 1) := by decide +kernel
theorem dX7_out_16 : decode cX7_out 16 = .ok (.ireturn, 1) := by decide +kernel
theorem dX7_out_17 : decode cX7_out 17 = .ok (.iload_n 2, 1) := by decide +kernel
theorem dX7_out_18 : decode cX7_out 18 = .ok (.tableswitch 60 0 2 #[26, 35, 51], 26) := by decide +kernel
theorem dX7_out_44 : decode cX7_out 44 = .ok (.aload_n 0, 1) := by decide +kernel
theorem dX7_out_45 : decode cX7_out 45 = .ok (.getfield 41, 3) := by decide +kernel
theorem dX7_out_48 : decode cX7_out 48 = .ok (.iload_n 1, 1) := by decide +kernel
theorem dX7_out_49 : decode cX7_out 49 = .ok (.invokevirtual 190, 3) := by decide +kernel
theorem dX7_out_52 : decode cX7_out 52 = .ok (.ireturn, 1) := by decide +kernel
theorem dX7_out_53 : decode cX7_out 53 = .ok (.aload_n 0, 1) := by decide +kernel
theorem dX7_out_54 : decode cX7_out 54 = .ok (.getfield 31, 3) := by decide +kernel
theorem dX7_out_57 : decode cX7_out 57 = .ok (.aload_n 0, 1) := by decide +kernel
theorem dX7_out_58 : decode cX7_out 58 = .ok (.getfield 41, 3) := by decide +kernel
theorem dX7_out_61 : decode cX7_out 61 = .ok (.iload_n 1, 1) := by decide +kernel
theorem dX7_out_62 : decode cX7_out 62 = .ok (.invokevirtual 190, 3) := by decide +kernel
theorem dX7_out_65 : decode cX7_out 65 = .ok (.invokevirtual 193, 3) := by decide +kernel
theorem dX7_out_68 : decode cX7_out 68 = .ok (.ireturn, 1) := by decide +kernel
theorem dX7_out_69 : decode cX7_out 69 = .ok (.aload_n 0, 1) := by decide +kernel
theorem dX7_out_70 : decode cX7_out 70 = .ok (.getfield 41, 3) := by decide +kernel
theorem dX7_out_73 : decode cX7_out 73 = .ok (.iload_n 1, 1) := by decide +kernel
theorem dX7_out_74 : decode cX7_out 74 = .ok (.invokevirtual 196, 3) := by decide +kernel
theorem dX7_out_77 : decode cX7_out 77 = .ok (.ireturn, 1) := by decide +kernel
theorem dX7_out_78 : decode cX7_out 78 = .ok (.iconst (-1), 1) := by decide +kernel
theorem dX7_out_79 : decode cX7_out 79 = .ok (.ireturn, 1) := by decide +kernel
theorem dX7_value_0 : decode cX7_value 0 = .ok (.aload_n 0, 1) := by decide +kernel
theorem dX7_value_1 : decode cX7_value 1 = .ok (.getfield 31, 3) := by decide +kernel
theorem dX7_value_4 : decode cX7_value 4 = .ok (.iload_n 1, 1) := by decide +kernel
theorem dX7_value_5 : decode cX7_value 5 = .ok (.invokevirtual 199, 3) := by decide +kernel
theorem dX7_value_8 : decode cX7_value 8 = .ok (.lreturn, 1) := by decide +kernel
theorem dX7_item_0 : decode cX7_item 0 = .ok (.aload_n 0, 1) := by decide +kernel
theorem dX7_item_1 : decode cX7_item 1 = .ok (.getfield 31, 3) := by decide +kernel
theorem dX7_item_4 : decode cX7_item 4 = .ok (.iload_n 1, 1) := by decide +kernel
theorem dX7_item_5 : decode cX7_item 5 = .ok (.invokevirtual 200, 3) := by decide +kernel
theorem dX7_item_8 : decode cX7_item 8 = .ok (.ifCond .ne 5, 3) := by decide +kernel
theorem dX7_item_11 : decode cX7_item 11 = .ok (.iconst (-1), 1) := by decide +kernel
theorem dX7_item_12 : decode cX7_item 12 = .ok (.ireturn, 1) := by decide +kernel
theorem dX7_item_13 : decode cX7_item 13 = .ok (.iload_n 2, 1) := by decide +kernel
theorem dX7_item_14 : decode cX7_item 14 = .ok (.tableswitch 96 0 4 #[34, 43, 52, 61, 78], 34) := by decide +kernel
theorem dX7_item_48 : decode cX7_item 48 = .ok (.aload_n 0, 1) := by decide +kernel
theorem dX7_item_49 : decode cX7_item 49 = .ok (.getfield 31, 3) := by decide +kernel
theorem dX7_item_52 : decode cX7_item 52 = .ok (.iload_n 1, 1) := by decide +kernel
theorem dX7_item_53 : decode cX7_item 53 = .ok (.invokevirtual 173, 3) := by decide +kernel
theorem dX7_item_56 : decode cX7_item 56 = .ok (.ireturn, 1) := by decide +kernel
theorem dX7_item_57 : decode cX7_item 57 = .ok (.aload_n 0, 1) := by decide +kernel
theorem dX7_item_58 : decode cX7_item 58 = .ok (.getfield 31, 3) := by decide +kernel
theorem dX7_item_61 : decode cX7_item 61 = .ok (.iload_n 1, 1) := by decide +kernel
theorem dX7_item_62 : decode cX7_item 62 = .ok (.invokevirtual 193, 3) := by decide +kernel
theorem dX7_item_65 : decode cX7_item 65 = .ok (.ireturn, 1) := by decide +kernel
theorem dX7_item_66 : decode cX7_item 66 = .ok (.aload_n 0, 1) := by decide +kernel
theorem dX7_item_67 : decode cX7_item 67 = .ok (.getfield 31, 3) := by decide +kernel
theorem dX7_item_70 : decode cX7_item 70 = .ok (.iload_n 1, 1) := by decide +kernel
theorem dX7_item_71 : decode cX7_item 71 = .ok (.invokevirtual 203, 3) := by decide +kernel
theorem dX7_item_74 : decode cX7_item 74 = .ok (.ireturn, 1) := by decide +kernel
theorem dX7_item_75 : decode cX7_item 75 = .ok (.aload_n 0, 1) := by decide +kernel
theorem dX7_item_76 : decode cX7_item 76 = .ok (.getfield 24, 3) := by decide +kernel
theorem dX7_item_79 : decode cX7_item 79 = .ok (.iload_n 1, 1) := by decide +kernel
theorem dX7_item_80 : decode cX7_item 80 = .ok (.invokevirtual 206, 3) := by decide +kernel
theorem dX7_item_83 : decode cX7_item 83 = .ok (.ifCond .eq 7, 3) := by decide +kernel
theorem dX7_item_86 : decode cX7_item 86 = .ok (.iconst 1, 1) := by decide +kernel
theorem dX7_item_87 : decode cX7_item 87 = .ok (.goto 4, 3) := by decide +kernel
theorem dX7_item_90 : decode cX7_item 90 = .ok (.iconst 0, 1) := by decide +kernel
theorem dX7_item_91 : decode cX7_item 91 = .ok (.ireturn, 1) := by decide +kernel
theorem dX7_item_92 : decode cX7_item 92 = .ok (.aload_n 0, 1) := by decide +kernel
theorem dX7_item_93 : decode cX7_item 93 = .ok (.getfield 52, 3) := by decide +kernel
theorem dX7_item_96 : decode cX7_item 96 = .ok (.iload_n 1, 1) := by decide +kernel
theorem dX7_item_97 : decode cX7_item 97 = .ok (.invokevirtual 209, 3) := by decide +kernel
theorem dX7_item_100 : decode cX7_item 100 = .ok (.iconst (-1), 1) := by decide +kernel
theorem dX7_item_101 : decode cX7_item 101 = .ok (.if_icmp .eq 7, 3) := by decide +kernel
theorem dX7_item_104 : decode cX7_item 104 = .ok (.iconst 1, 1) := by decide +kernel
theorem dX7_item_105 : decode cX7_item 105 = .ok (.goto 4, 3) := by decide +kernel
theorem dX7_item_108 : decode cX7_item 108 = .ok (.iconst 0, 1) := by decide +kernel
theorem dX7_item_109 : decode cX7_item 109 = .ok (.ireturn, 1) := by decide +kernel
theorem dX7_item_110 : decode cX7_item 110 = .ok (.iconst (-1), 1) := by decide +kernel
theorem dX7_item_111 : decode cX7_item 111 = .ok (.ireturn, 1) := by decide +kernel
theorem dX7_count_0 : decode cX7_count 0 = .ok (.aload_n 0, 1) := by decide +kernel
theorem dX7_count_1 : decode cX7_count 1 = .ok (.getfield 71, 3) := by decide +kernel
theorem dX7_count_4 : decode cX7_count 4 = .ok (.lload_n 1, 1) := by decide +kernel
theorem dX7_count_5 : decode cX7_count 5 = .ok (.invokevirtual 212, 3) := by decide +kernel
theorem dX7_count_8 : decode cX7_count 8 = .ok (.ireturn, 1) := by decide +kernel
theorem dX7_kept_0 : decode cX7_kept 0 = .ok (.aload_n 0, 1) := by decide +kernel
theorem dX7_kept_1 : decode cX7_kept 1 = .ok (.getfield 78, 3) := by decide +kernel
theorem dX7_kept_4 : decode cX7_kept 4 = .ok (.lload_n 1, 1) := by decide +kernel
theorem dX7_kept_5 : decode cX7_kept 5 = .ok (.invokevirtual 216, 3) := by decide +kernel
theorem dX7_kept_8 : decode cX7_kept 8 = .ok (.ireturn, 1) := by decide +kernel
theorem dX7_save_0 : decode cX7_save 0 = .ok (.aload_n 0, 1) := by decide +kernel
theorem dX7_save_1 : decode cX7_save 1 = .ok (.getfield 35, 3) := by decide +kernel
theorem dX7_save_4 : decode cX7_save 4 = .ok (.aload_n 0, 1) := by decide +kernel
theorem dX7_save_5 : decode cX7_save 5 = .ok (.getfield 31, 3) := by decide +kernel
theorem dX7_save_8 : decode cX7_save 8 = .ok (.invokevirtual 219, 3) := by decide +kernel
theorem dX7_save_11 : decode cX7_save 11 = .ok (.aload_n 0, 1) := by decide +kernel
theorem dX7_save_12 : decode cX7_save 12 = .ok (.invokevirtual 117, 3) := by decide +kernel
theorem dX7_save_15 : decode cX7_save 15 = .ok (.aload_n 0, 1) := by decide +kernel
theorem dX7_save_16 : decode cX7_save 16 = .ok (.getfield 31, 3) := by decide +kernel
theorem dX7_save_19 : decode cX7_save 19 = .ok (.getfield 223, 3) := by decide +kernel
theorem dX7_save_22 : decode cX7_save 22 = .ok (.iconst 0, 1) := by decide +kernel
theorem dX7_save_23 : decode cX7_save 23 = .ok (.iaload, 1) := by decide +kernel
theorem dX7_save_24 : decode cX7_save 24 = .ok (.aload_n 0, 1) := by decide +kernel
theorem dX7_save_25 : decode cX7_save 25 = .ok (.getfield 31, 3) := by decide +kernel
theorem dX7_save_28 : decode cX7_save 28 = .ok (.getfield 223, 3) := by decide +kernel
theorem dX7_save_31 : decode cX7_save 31 = .ok (.iconst 1, 1) := by decide +kernel
theorem dX7_save_32 : decode cX7_save 32 = .ok (.iaload, 1) := by decide +kernel
theorem dX7_save_33 : decode cX7_save 33 = .ok (.iadd, 1) := by decide +kernel
theorem dX7_save_34 : decode cX7_save 34 = .ok (.aload_n 0, 1) := by decide +kernel
theorem dX7_save_35 : decode cX7_save 35 = .ok (.getfield 31, 3) := by decide +kernel
theorem dX7_save_38 : decode cX7_save 38 = .ok (.getfield 223, 3) := by decide +kernel
theorem dX7_save_41 : decode cX7_save 41 = .ok (.iconst 2, 1) := by decide +kernel
theorem dX7_save_42 : decode cX7_save 42 = .ok (.iaload, 1) := by decide +kernel
theorem dX7_save_43 : decode cX7_save 43 = .ok (.iadd, 1) := by decide +kernel
theorem dX7_save_44 : decode cX7_save 44 = .ok (.ireturn, 1) := by decide +kernel
theorem dX7_restart_0 : decode cX7_restart 0 = .ok (.aload_n 0, 1) := by decide +kernel
theorem dX7_restart_1 : decode cX7_restart 1 = .ok (.getfield 31, 3) := by decide +kernel
theorem dX7_restart_4 : decode cX7_restart 4 = .ok (.aload_n 0, 1) := by decide +kernel
theorem dX7_restart_5 : decode cX7_restart 5 = .ok (.getfield 35, 3) := by decide +kernel
theorem dX7_restart_8 : decode cX7_restart 8 = .ok (.invokevirtual 226, 3) := by decide +kernel
theorem dX7_restart_11 : decode cX7_restart 11 = .ok (.aload_n 0, 1) := by decide +kernel
theorem dX7_restart_12 : decode cX7_restart 12 = .ok (.getfield 78, 3) := by decide +kernel
theorem dX7_restart_15 : decode cX7_restart 15 = .ok (.invokevirtual 229, 3) := by decide +kernel
theorem dX7_restart_18 : decode cX7_restart 18 = .ok (.aload_n 0, 1) := by decide +kernel
theorem dX7_restart_19 : decode cX7_restart 19 = .ok (.invokevirtual 232, 3) := by decide +kernel
theorem dX7_restart_22 : decode cX7_restart 22 = .ok (.aload_n 0, 1) := by decide +kernel
theorem dX7_restart_23 : decode cX7_restart 23 = .ok (.dup, 1) := by decide +kernel
theorem dX7_restart_24 : decode cX7_restart 24 = .ok (.getfield 92, 3) := by decide +kernel
theorem dX7_restart_27 : decode cX7_restart 27 = .ok (.iconst 1, 1) := by decide +kernel
theorem dX7_restart_28 : decode cX7_restart 28 = .ok (.iadd, 1) := by decide +kernel
theorem dX7_restart_29 : decode cX7_restart 29 = .ok (.putfield 92, 3) := by decide +kernel
theorem dX7_restart_32 : decode cX7_restart 32 = .ok (.aload_n 0, 1) := by decide +kernel
theorem dX7_restart_33 : decode cX7_restart 33 = .ok (.invokevirtual 117, 3) := by decide +kernel
theorem dX7_restart_36 : decode cX7_restart 36 = .ok (.aload_n 0, 1) := by decide +kernel
theorem dX7_restart_37 : decode cX7_restart 37 = .ok (.getfield 31, 3) := by decide +kernel
theorem dX7_restart_40 : decode cX7_restart 40 = .ok (.getfield 223, 3) := by decide +kernel
theorem dX7_restart_43 : decode cX7_restart 43 = .ok (.iconst 1, 1) := by decide +kernel
theorem dX7_restart_44 : decode cX7_restart 44 = .ok (.iaload, 1) := by decide +kernel
theorem dX7_restart_45 : decode cX7_restart 45 = .ok (.ireturn, 1) := by decide +kernel
theorem dX7_told_0 : decode cX7_told 0 = .ok (.iload_n 1, 1) := by decide +kernel
theorem dX7_told_1 : decode cX7_told 1 = .ok (.tableswitch 165 0 12 #[67, 72, 80, 88, 98, 108, 118, 126, 134, 142, 150, 155, 160], 67) := by decide +kernel
theorem dX7_told_68 : decode cX7_told 68 = .ok (.aload_n 0, 1) := by decide +kernel
theorem dX7_told_69 : decode cX7_told 69 = .ok (.getfield 82, 3) := by decide +kernel
theorem dX7_told_72 : decode cX7_told 72 = .ok (.ireturn, 1) := by decide +kernel
theorem dX7_told_73 : decode cX7_told 73 = .ok (.aload_n 0, 1) := by decide +kernel
theorem dX7_told_74 : decode cX7_told 74 = .ok (.getfield 31, 3) := by decide +kernel
theorem dX7_told_77 : decode cX7_told 77 = .ok (.getfield 120, 3) := by decide +kernel
theorem dX7_told_80 : decode cX7_told 80 = .ok (.ireturn, 1) := by decide +kernel
theorem dX7_told_81 : decode cX7_told 81 = .ok (.aload_n 0, 1) := by decide +kernel
theorem dX7_told_82 : decode cX7_told 82 = .ok (.getfield 31, 3) := by decide +kernel
theorem dX7_told_85 : decode cX7_told 85 = .ok (.getfield 187, 3) := by decide +kernel
theorem dX7_told_88 : decode cX7_told 88 = .ok (.ireturn, 1) := by decide +kernel
theorem dX7_told_89 : decode cX7_told 89 = .ok (.aload_n 0, 1) := by decide +kernel
theorem dX7_told_90 : decode cX7_told 90 = .ok (.getfield 31, 3) := by decide +kernel
theorem dX7_told_93 : decode cX7_told 93 = .ok (.getfield 223, 3) := by decide +kernel
theorem dX7_told_96 : decode cX7_told 96 = .ok (.iconst 0, 1) := by decide +kernel
theorem dX7_told_97 : decode cX7_told 97 = .ok (.iaload, 1) := by decide +kernel
theorem dX7_told_98 : decode cX7_told 98 = .ok (.ireturn, 1) := by decide +kernel
theorem dX7_told_99 : decode cX7_told 99 = .ok (.aload_n 0, 1) := by decide +kernel
theorem dX7_told_100 : decode cX7_told 100 = .ok (.getfield 31, 3) := by decide +kernel
theorem dX7_told_103 : decode cX7_told 103 = .ok (.getfield 223, 3) := by decide +kernel
theorem dX7_told_106 : decode cX7_told 106 = .ok (.iconst 1, 1) := by decide +kernel
theorem dX7_told_107 : decode cX7_told 107 = .ok (.iaload, 1) := by decide +kernel
theorem dX7_told_108 : decode cX7_told 108 = .ok (.ireturn, 1) := by decide +kernel
theorem dX7_told_109 : decode cX7_told 109 = .ok (.aload_n 0, 1) := by decide +kernel
theorem dX7_told_110 : decode cX7_told 110 = .ok (.getfield 31, 3) := by decide +kernel
theorem dX7_told_113 : decode cX7_told 113 = .ok (.getfield 223, 3) := by decide +kernel
theorem dX7_told_116 : decode cX7_told 116 = .ok (.iconst 2, 1) := by decide +kernel
theorem dX7_told_117 : decode cX7_told 117 = .ok (.iaload, 1) := by decide +kernel
theorem dX7_told_118 : decode cX7_told 118 = .ok (.ireturn, 1) := by decide +kernel
theorem dX7_told_119 : decode cX7_told 119 = .ok (.aload_n 0, 1) := by decide +kernel
theorem dX7_told_120 : decode cX7_told 120 = .ok (.getfield 52, 3) := by decide +kernel
theorem dX7_told_123 : decode cX7_told 123 = .ok (.getfield 235, 3) := by decide +kernel
theorem dX7_told_126 : decode cX7_told 126 = .ok (.ireturn, 1) := by decide +kernel
theorem dX7_told_127 : decode cX7_told 127 = .ok (.aload_n 0, 1) := by decide +kernel
theorem dX7_told_128 : decode cX7_told 128 = .ok (.getfield 61, 3) := by decide +kernel
theorem dX7_told_131 : decode cX7_told 131 = .ok (.getfield 184, 3) := by decide +kernel
theorem dX7_told_134 : decode cX7_told 134 = .ok (.ireturn, 1) := by decide +kernel
theorem dX7_told_135 : decode cX7_told 135 = .ok (.aload_n 0, 1) := by decide +kernel
theorem dX7_told_136 : decode cX7_told 136 = .ok (.getfield 65, 3) := by decide +kernel
theorem dX7_told_139 : decode cX7_told 139 = .ok (.getfield 184, 3) := by decide +kernel
theorem dX7_told_142 : decode cX7_told 142 = .ok (.ireturn, 1) := by decide +kernel
theorem dX7_told_143 : decode cX7_told 143 = .ok (.aload_n 0, 1) := by decide +kernel
theorem dX7_told_144 : decode cX7_told 144 = .ok (.getfield 78, 3) := by decide +kernel
theorem dX7_told_147 : decode cX7_told 147 = .ok (.getfield 236, 3) := by decide +kernel
theorem dX7_told_150 : decode cX7_told 150 = .ok (.ireturn, 1) := by decide +kernel
theorem dX7_told_151 : decode cX7_told 151 = .ok (.aload_n 0, 1) := by decide +kernel
theorem dX7_told_152 : decode cX7_told 152 = .ok (.getfield 89, 3) := by decide +kernel
theorem dX7_told_155 : decode cX7_told 155 = .ok (.ireturn, 1) := by decide +kernel
theorem dX7_told_156 : decode cX7_told 156 = .ok (.aload_n 0, 1) := by decide +kernel
theorem dX7_told_157 : decode cX7_told 157 = .ok (.getfield 86, 3) := by decide +kernel
theorem dX7_told_160 : decode cX7_told 160 = .ok (.ireturn, 1) := by decide +kernel
theorem dX7_told_161 : decode cX7_told 161 = .ok (.aload_n 0, 1) := by decide +kernel
theorem dX7_told_162 : decode cX7_told 162 = .ok (.getfield 92, 3) := by decide +kernel
theorem dX7_told_165 : decode cX7_told 165 = .ok (.ireturn, 1) := by decide +kernel
theorem dX7_told_166 : decode cX7_told 166 = .ok (.iconst (-1), 1) := by decide +kernel
theorem dX7_told_167 : decode cX7_told 167 = .ok (.ireturn, 1) := by decide +kernel
theorem dX7_lineOf_0 : decode cX7_lineOf 0 = .ok (.iload_n 1, 1) := by decide +kernel
theorem dX7_lineOf_1 : decode cX7_lineOf 1 = .ok (.ifCond .ne 8, 3) := by decide +kernel
theorem dX7_lineOf_4 : decode cX7_lineOf 4 = .ok (.aload_n 0, 1) := by decide +kernel
theorem dX7_lineOf_5 : decode cX7_lineOf 5 = .ok (.getfield 61, 3) := by decide +kernel
theorem dX7_lineOf_8 : decode cX7_lineOf 8 = .ok (.areturn, 1) := by decide +kernel
theorem dX7_lineOf_9 : decode cX7_lineOf 9 = .ok (.iload_n 1, 1) := by decide +kernel
theorem dX7_lineOf_10 : decode cX7_lineOf 10 = .ok (.iconst 1, 1) := by decide +kernel
theorem dX7_lineOf_11 : decode cX7_lineOf 11 = .ok (.if_icmp .ne 10, 3) := by decide +kernel
theorem dX7_lineOf_14 : decode cX7_lineOf 14 = .ok (.aload_n 0, 1) := by decide +kernel
theorem dX7_lineOf_15 : decode cX7_lineOf 15 = .ok (.getfield 65, 3) := by decide +kernel
theorem dX7_lineOf_18 : decode cX7_lineOf 18 = .ok (.goto 4, 3) := by decide +kernel
theorem dX7_lineOf_21 : decode cX7_lineOf 21 = .ok (.aconst_null, 1) := by decide +kernel
theorem dX7_lineOf_22 : decode cX7_lineOf 22 = .ok (.areturn, 1) := by decide +kernel
theorem dX7_goOn_0 : decode cX7_goOn 0 = .ok (.aload_n 0, 1) := by decide +kernel
theorem dX7_goOn_1 : decode cX7_goOn 1 = .ok (.invokevirtual 237, 3) := by decide +kernel
theorem dX7_goOn_4 : decode cX7_goOn 4 = .ok (.aload_n 0, 1) := by decide +kernel
theorem dX7_goOn_5 : decode cX7_goOn 5 = .ok (.invokevirtual 240, 3) := by decide +kernel
theorem dX7_goOn_8 : decode cX7_goOn 8 = .ok (.aload_n 0, 1) := by decide +kernel
theorem dX7_goOn_9 : decode cX7_goOn 9 = .ok (.invokevirtual 243, 3) := by decide +kernel
theorem dX7_goOn_12 : decode cX7_goOn 12 = .ok (.return_, 1) := by decide +kernel
theorem dX7_startWaitingRows_0 : decode cX7_startWaitingRows 0 = .ok (.iconst 0, 1) := by decide +kernel
theorem dX7_startWaitingRows_1 : decode cX7_startWaitingRows 1 = .ok (.istore_n 1, 1) := by decide +kernel
theorem dX7_startWaitingRows_2 : decode cX7_startWaitingRows 2 = .ok (.iload_n 1, 1) := by decide +kernel
theorem dX7_startWaitingRows_3 : decode cX7_startWaitingRows 3 = .ok (.aload_n 0, 1) := by decide +kernel
theorem dX7_startWaitingRows_4 : decode cX7_startWaitingRows 4 = .ok (.getfield 31, 3) := by decide +kernel
theorem dX7_startWaitingRows_7 : decode cX7_startWaitingRows 7 = .ok (.getfield 120, 3) := by decide +kernel
theorem dX7_startWaitingRows_10 : decode cX7_startWaitingRows 10 = .ok (.if_icmp .ge 54, 3) := by decide +kernel
theorem dX7_startWaitingRows_13 : decode cX7_startWaitingRows 13 = .ok (.aload_n 0, 1) := by decide +kernel
theorem dX7_startWaitingRows_14 : decode cX7_startWaitingRows 14 = .ok (.getfield 31, 3) := by decide +kernel
theorem dX7_startWaitingRows_17 : decode cX7_startWaitingRows 17 = .ok (.getfield 223, 3) := by decide +kernel
theorem dX7_startWaitingRows_20 : decode cX7_startWaitingRows 20 = .ok (.iconst 0, 1) := by decide +kernel
theorem dX7_startWaitingRows_21 : decode cX7_startWaitingRows 21 = .ok (.iaload, 1) := by decide +kernel
theorem dX7_startWaitingRows_22 : decode cX7_startWaitingRows 22 = .ok (.ifCond .eq 19, 3) := by decide +kernel
theorem dX7_startWaitingRows_25 : decode cX7_startWaitingRows 25 = .ok (.aload_n 0, 1) := by decide +kernel
theorem dX7_startWaitingRows_26 : decode cX7_startWaitingRows 26 = .ok (.getfield 31, 3) := by decide +kernel
theorem dX7_startWaitingRows_29 : decode cX7_startWaitingRows 29 = .ok (.getfield 223, 3) := by decide +kernel
theorem dX7_startWaitingRows_32 : decode cX7_startWaitingRows 32 = .ok (.iconst 1, 1) := by decide +kernel
theorem dX7_startWaitingRows_33 : decode cX7_startWaitingRows 33 = .ok (.iaload, 1) := by decide +kernel
theorem dX7_startWaitingRows_34 : decode cX7_startWaitingRows 34 = .ok (.aload_n 0, 1) := by decide +kernel
theorem dX7_startWaitingRows_35 : decode cX7_startWaitingRows 35 = .ok (.getfield 104, 3) := by decide +kernel
theorem dX7_startWaitingRows_38 : decode cX7_startWaitingRows 38 = .ok (.if_icmp .lt 4, 3) := by decide +kernel
theorem dX7_startWaitingRows_41 : decode cX7_startWaitingRows 41 = .ok (.return_, 1) := by decide +kernel
theorem dX7_startWaitingRows_42 : decode cX7_startWaitingRows 42 = .ok (.aload_n 0, 1) := by decide +kernel
theorem dX7_startWaitingRows_43 : decode cX7_startWaitingRows 43 = .ok (.getfield 31, 3) := by decide +kernel
theorem dX7_startWaitingRows_46 : decode cX7_startWaitingRows 46 = .ok (.iload_n 1, 1) := by decide +kernel
theorem dX7_startWaitingRows_47 : decode cX7_startWaitingRows 47 = .ok (.invokevirtual 173, 3) := by decide +kernel
theorem dX7_startWaitingRows_50 : decode cX7_startWaitingRows 50 = .ok (.ifCond .ne 8, 3) := by decide +kernel
theorem dX7_startWaitingRows_53 : decode cX7_startWaitingRows 53 = .ok (.aload_n 0, 1) := by decide +kernel
theorem dX7_startWaitingRows_54 : decode cX7_startWaitingRows 54 = .ok (.iload_n 1, 1) := by decide +kernel
theorem dX7_startWaitingRows_55 : decode cX7_startWaitingRows 55 = .ok (.invokevirtual 246, 3) := by decide +kernel
theorem dX7_startWaitingRows_58 : decode cX7_startWaitingRows 58 = .ok (.iinc 1 1, 3) := by decide +kernel
theorem dX7_startWaitingRows_61 : decode cX7_startWaitingRows 61 = .ok (.goto (-59), 3) := by decide +kernel
theorem dX7_startWaitingRows_64 : decode cX7_startWaitingRows 64 = .ok (.return_, 1) := by decide +kernel
theorem dX7_startRow_0 : decode cX7_startRow 0 = .ok (.aload_n 0, 1) := by decide +kernel
theorem dX7_startRow_1 : decode cX7_startRow 1 = .ok (.getfield 24, 3) := by decide +kernel
theorem dX7_startRow_4 : decode cX7_startRow 4 = .ok (.iload_n 1, 1) := by decide +kernel
theorem dX7_startRow_5 : decode cX7_startRow 5 = .ok (.invokevirtual 149, 3) := by decide +kernel
theorem dX7_startRow_8 : decode cX7_startRow 8 = .ok (.lstore_n 2, 1) := by decide +kernel
theorem dX7_startRow_9 : decode cX7_startRow 9 = .ok (.aload_n 0, 1) := by decide +kernel
theorem dX7_startRow_10 : decode cX7_startRow 10 = .ok (.getfield 78, 3) := by decide +kernel
theorem dX7_startRow_13 : decode cX7_startRow 13 = .ok (.lload_n 2, 1) := by decide +kernel
theorem dX7_startRow_14 : decode cX7_startRow 14 = .ok (.invokevirtual 216, 3) := by decide +kernel
theorem dX7_startRow_17 : decode cX7_startRow 17 = .ok (.aload_n 0, 1) := by decide +kernel
theorem dX7_startRow_18 : decode cX7_startRow 18 = .ok (.getfield 82, 3) := by decide +kernel
theorem dX7_startRow_21 : decode cX7_startRow 21 = .ok (.if_icmp .lt 21, 3) := by decide +kernel
theorem dX7_startRow_24 : decode cX7_startRow 24 = .ok (.aload_n 0, 1) := by decide +kernel
theorem dX7_startRow_25 : decode cX7_startRow 25 = .ok (.getfield 31, 3) := by decide +kernel
theorem dX7_startRow_28 : decode cX7_startRow 28 = .ok (.iload_n 1, 1) := by decide +kernel
theorem dX7_startRow_29 : decode cX7_startRow 29 = .ok (.iconst 1, 1) := by decide +kernel
theorem dX7_startRow_30 : decode cX7_startRow 30 = .ok (.aload_n 0, 1) := by decide +kernel
theorem dX7_startRow_31 : decode cX7_startRow 31 = .ok (.getfield 78, 3) := by decide +kernel
theorem dX7_startRow_34 : decode cX7_startRow 34 = .ok (.lload_n 2, 1) := by decide +kernel
theorem dX7_startRow_35 : decode cX7_startRow 35 = .ok (.invokevirtual 249, 3) := by decide +kernel
theorem dX7_startRow_38 : decode cX7_startRow 38 = .ok (.invokevirtual 252, 3) := by decide +kernel
theorem dX7_startRow_41 : decode cX7_startRow 41 = .ok (.return_, 1) := by decide +kernel
theorem dX7_startRow_42 : decode cX7_startRow 42 = .ok (.aload_n 0, 1) := by decide +kernel
theorem dX7_startRow_43 : decode cX7_startRow 43 = .ok (.getfield 31, 3) := by decide +kernel
theorem dX7_startRow_46 : decode cX7_startRow 46 = .ok (.iload_n 1, 1) := by decide +kernel
theorem dX7_startRow_47 : decode cX7_startRow 47 = .ok (.invokevirtual 255, 3) := by decide +kernel
theorem dX7_startRow_50 : decode cX7_startRow 50 = .ok (.aload_n 0, 1) := by decide +kernel
theorem dX7_startRow_51 : decode cX7_startRow 51 = .ok (.getfield 48, 3) := by decide +kernel
theorem dX7_startRow_54 : decode cX7_startRow 54 = .ok (.iload_n 1, 1) := by decide +kernel
theorem dX7_startRow_55 : decode cX7_startRow 55 = .ok (.invokevirtual 258, 3) := by decide +kernel
theorem dX7_startRow_58 : decode cX7_startRow 58 = .ok (.aload_n 0, 1) := by decide +kernel
theorem dX7_startRow_59 : decode cX7_startRow 59 = .ok (.getfield 52, 3) := by decide +kernel
theorem dX7_startRow_62 : decode cX7_startRow 62 = .ok (.iload_n 1, 1) := by decide +kernel
theorem dX7_startRow_63 : decode cX7_startRow 63 = .ok (.invokevirtual 258, 3) := by decide +kernel
theorem dX7_startRow_66 : decode cX7_startRow 66 = .ok (.return_, 1) := by decide +kernel
theorem dX7_sendQueuedAsks_0 : decode cX7_sendQueuedAsks 0 = .ok (.aload_n 0, 1) := by decide +kernel
theorem dX7_sendQueuedAsks_1 : decode cX7_sendQueuedAsks 1 = .ok (.getfield 86, 3) := by decide +kernel
theorem dX7_sendQueuedAsks_4 : decode cX7_sendQueuedAsks 4 = .ok (.aload_n 0, 1) := by decide +kernel
theorem dX7_sendQueuedAsks_5 : decode cX7_sendQueuedAsks 5 = .ok (.getfield 18, 3) := by decide +kernel
theorem dX7_sendQueuedAsks_8 : decode cX7_sendQueuedAsks 8 = .ok (.iconst 2, 1) := by decide +kernel
theorem dX7_sendQueuedAsks_9 : decode cX7_sendQueuedAsks 9 = .ok (.iaload, 1) := by decide +kernel
theorem dX7_sendQueuedAsks_10 : decode cX7_sendQueuedAsks 10 = .ok (.if_icmp .ge 82, 3) := by decide +kernel
theorem dX7_sendQueuedAsks_13 : decode cX7_sendQueuedAsks 13 = .ok (.aload_n 0, 1) := by decide +kernel
theorem dX7_sendQueuedAsks_14 : decode cX7_sendQueuedAsks 14 = .ok (.getfield 52, 3) := by decide +kernel
theorem dX7_sendQueuedAsks_17 : decode cX7_sendQueuedAsks 17 = .ok (.getfield 235, 3) := by decide +kernel
theorem dX7_sendQueuedAsks_20 : decode cX7_sendQueuedAsks 20 = .ok (.ifCond .le 72, 3) := by decide +kernel
theorem dX7_sendQueuedAsks_23 : decode cX7_sendQueuedAsks 23 = .ok (.aload_n 0, 1) := by decide +kernel
theorem dX7_sendQueuedAsks_24 : decode cX7_sendQueuedAsks 24 = .ok (.getfield 52, 3) := by decide +kernel
theorem dX7_sendQueuedAsks_27 : decode cX7_sendQueuedAsks 27 = .ok (.iconst 0, 1) := by decide +kernel
theorem dX7_sendQueuedAsks_28 : decode cX7_sendQueuedAsks 28 = .ok (.invokevirtual 261, 3) := by decide +kernel
theorem dX7_sendQueuedAsks_31 : decode cX7_sendQueuedAsks 31 = .ok (.istore_n 1, 1) := by decide +kernel
theorem dX7_sendQueuedAsks_32 : decode cX7_sendQueuedAsks 32 = .ok (.aload_n 0, 1) := by decide +kernel
theorem dX7_sendQueuedAsks_33 : decode cX7_sendQueuedAsks 33 = .ok (.getfield 52, 3) := by decide +kernel
theorem dX7_sendQueuedAsks_36 : decode cX7_sendQueuedAsks 36 = .ok (.iconst 0, 1) := by decide +kernel
theorem dX7_sendQueuedAsks_37 : decode cX7_sendQueuedAsks 37 = .ok (.invokevirtual 264, 3) := by decide +kernel
theorem dX7_sendQueuedAsks_40 : decode cX7_sendQueuedAsks 40 = .ok (.aload_n 0, 1) := by decide +kernel
theorem dX7_sendQueuedAsks_41 : decode cX7_sendQueuedAsks 41 = .ok (.getfield 24, 3) := by decide +kernel
theorem dX7_sendQueuedAsks_44 : decode cX7_sendQueuedAsks 44 = .ok (.iload_n 1, 1) := by decide +kernel
theorem dX7_sendQueuedAsks_45 : decode cX7_sendQueuedAsks 45 = .ok (.aload_n 0, 1) := by decide +kernel
theorem dX7_sendQueuedAsks_46 : decode cX7_sendQueuedAsks 46 = .ok (.getfield 82, 3) := by decide +kernel
theorem dX7_sendQueuedAsks_49 : decode cX7_sendQueuedAsks 49 = .ok (.aload_n 0, 1) := by decide +kernel
theorem dX7_sendQueuedAsks_50 : decode cX7_sendQueuedAsks 50 = .ok (.getfield 18, 3) := by decide +kernel
theorem dX7_sendQueuedAsks_53 : decode cX7_sendQueuedAsks 53 = .ok (.iconst 0, 1) := by decide +kernel
theorem dX7_sendQueuedAsks_54 : decode cX7_sendQueuedAsks 54 = .ok (.iaload, 1) := by decide +kernel
theorem dX7_sendQueuedAsks_55 : decode cX7_sendQueuedAsks 55 = .ok (.iadd, 1) := by decide +kernel
theorem dX7_sendQueuedAsks_56 : decode cX7_sendQueuedAsks 56 = .ok (.invokevirtual 265, 3) := by decide +kernel
theorem dX7_sendQueuedAsks_59 : decode cX7_sendQueuedAsks 59 = .ok (.aload_n 0, 1) := by decide +kernel
theorem dX7_sendQueuedAsks_60 : decode cX7_sendQueuedAsks 60 = .ok (.getfield 61, 3) := by decide +kernel
theorem dX7_sendQueuedAsks_63 : decode cX7_sendQueuedAsks 63 = .ok (.iload_n 1, 1) := by decide +kernel
theorem dX7_sendQueuedAsks_64 : decode cX7_sendQueuedAsks 64 = .ok (.iconst 0, 1) := by decide +kernel
theorem dX7_sendQueuedAsks_65 : decode cX7_sendQueuedAsks 65 = .ok (.lconst 0, 1) := by decide +kernel
theorem dX7_sendQueuedAsks_66 : decode cX7_sendQueuedAsks 66 = .ok (.invokevirtual 163, 3) := by decide +kernel
theorem dX7_sendQueuedAsks_69 : decode cX7_sendQueuedAsks 69 = .ok (.aload_n 0, 1) := by decide +kernel
theorem dX7_sendQueuedAsks_70 : decode cX7_sendQueuedAsks 70 = .ok (.dup, 1) := by decide +kernel
theorem dX7_sendQueuedAsks_71 : decode cX7_sendQueuedAsks 71 = .ok (.getfield 86, 3) := by decide +kernel
theorem dX7_sendQueuedAsks_74 : decode cX7_sendQueuedAsks 74 = .ok (.iconst 1, 1) := by decide +kernel
theorem dX7_sendQueuedAsks_75 : decode cX7_sendQueuedAsks 75 = .ok (.iadd, 1) := by decide +kernel
theorem dX7_sendQueuedAsks_76 : decode cX7_sendQueuedAsks 76 = .ok (.putfield 86, 3) := by decide +kernel
theorem dX7_sendQueuedAsks_79 : decode cX7_sendQueuedAsks 79 = .ok (.aload_n 0, 1) := by decide +kernel
theorem dX7_sendQueuedAsks_80 : decode cX7_sendQueuedAsks 80 = .ok (.dup, 1) := by decide +kernel
theorem dX7_sendQueuedAsks_81 : decode cX7_sendQueuedAsks 81 = .ok (.getfield 89, 3) := by decide +kernel
theorem dX7_sendQueuedAsks_84 : decode cX7_sendQueuedAsks 84 = .ok (.iconst 1, 1) := by decide +kernel
theorem dX7_sendQueuedAsks_85 : decode cX7_sendQueuedAsks 85 = .ok (.iadd, 1) := by decide +kernel
theorem dX7_sendQueuedAsks_86 : decode cX7_sendQueuedAsks 86 = .ok (.putfield 89, 3) := by decide +kernel
theorem dX7_sendQueuedAsks_89 : decode cX7_sendQueuedAsks 89 = .ok (.goto (-89), 3) := by decide +kernel
theorem dX7_sendQueuedAsks_92 : decode cX7_sendQueuedAsks 92 = .ok (.return_, 1) := by decide +kernel
theorem dX7_letItemsOut_0 : decode cX7_letItemsOut 0 = .ok (.iconst 1, 1) := by decide +kernel
theorem dX7_letItemsOut_1 : decode cX7_letItemsOut 1 = .ok (.istore_n 1, 1) := by decide +kernel
theorem dX7_letItemsOut_2 : decode cX7_letItemsOut 2 = .ok (.iconst 0, 1) := by decide +kernel
theorem dX7_letItemsOut_3 : decode cX7_letItemsOut 3 = .ok (.istore_n 2, 1) := by decide +kernel
theorem dX7_letItemsOut_4 : decode cX7_letItemsOut 4 = .ok (.iload_n 2, 1) := by decide +kernel
theorem dX7_letItemsOut_5 : decode cX7_letItemsOut 5 = .ok (.aload_n 0, 1) := by decide +kernel
theorem dX7_letItemsOut_6 : decode cX7_letItemsOut 6 = .ok (.getfield 31, 3) := by decide +kernel
theorem dX7_letItemsOut_9 : decode cX7_letItemsOut 9 = .ok (.getfield 120, 3) := by decide +kernel
theorem dX7_letItemsOut_12 : decode cX7_letItemsOut 12 = .ok (.if_icmp .ge 103, 3) := by decide +kernel
theorem dX7_letItemsOut_15 : decode cX7_letItemsOut 15 = .ok (.aload_n 0, 1) := by decide +kernel
theorem dX7_letItemsOut_16 : decode cX7_letItemsOut 16 = .ok (.getfield 31, 3) := by decide +kernel
theorem dX7_letItemsOut_19 : decode cX7_letItemsOut 19 = .ok (.getfield 223, 3) := by decide +kernel
theorem dX7_letItemsOut_22 : decode cX7_letItemsOut 22 = .ok (.iconst 2, 1) := by decide +kernel
theorem dX7_letItemsOut_23 : decode cX7_letItemsOut 23 = .ok (.iaload, 1) := by decide +kernel
theorem dX7_letItemsOut_24 : decode cX7_letItemsOut 24 = .ok (.ifCond .le 91, 3) := by decide +kernel
theorem dX7_letItemsOut_27 : decode cX7_letItemsOut 27 = .ok (.aload_n 0, 1) := by decide +kernel
theorem dX7_letItemsOut_28 : decode cX7_letItemsOut 28 = .ok (.getfield 31, 3) := by decide +kernel
theorem dX7_letItemsOut_31 : decode cX7_letItemsOut 31 = .ok (.iload_n 2, 1) := by decide +kernel
theorem dX7_letItemsOut_32 : decode cX7_letItemsOut 32 = .ok (.invokevirtual 173, 3) := by decide +kernel
theorem dX7_letItemsOut_35 : decode cX7_letItemsOut 35 = .ok (.istore_n 3, 1) := by decide +kernel
theorem dX7_letItemsOut_36 : decode cX7_letItemsOut 36 = .ok (.iload_n 3, 1) := by decide +kernel
theorem dX7_letItemsOut_37 : decode cX7_letItemsOut 37 = .ok (.iconst 3, 1) := by decide +kernel
theorem dX7_letItemsOut_38 : decode cX7_letItemsOut 38 = .ok (.if_icmp .eq 71, 3) := by decide +kernel
theorem dX7_letItemsOut_41 : decode cX7_letItemsOut 41 = .ok (.iload_n 3, 1) := by decide +kernel
theorem dX7_letItemsOut_42 : decode cX7_letItemsOut 42 = .ok (.iconst 4, 1) := by decide +kernel
theorem dX7_letItemsOut_43 : decode cX7_letItemsOut 43 = .ok (.if_icmp .ne 6, 3) := by decide +kernel
theorem dX7_letItemsOut_46 : decode cX7_letItemsOut 46 = .ok (.goto 63, 3) := by decide +kernel
theorem dX7_letItemsOut_49 : decode cX7_letItemsOut 49 = .ok (.iload_n 1, 1) := by decide +kernel
theorem dX7_letItemsOut_50 : decode cX7_letItemsOut 50 = .ok (.ifCond .ne 22, 3) := by decide +kernel
theorem dX7_letItemsOut_53 : decode cX7_letItemsOut 53 = .ok (.aload_n 0, 1) := by decide +kernel
theorem dX7_letItemsOut_54 : decode cX7_letItemsOut 54 = .ok (.getfield 107, 3) := by decide +kernel
theorem dX7_letItemsOut_57 : decode cX7_letItemsOut 57 = .ok (.ifCond .ne 14, 3) := by decide +kernel
theorem dX7_letItemsOut_60 : decode cX7_letItemsOut 60 = .ok (.aload_n 0, 1) := by decide +kernel
theorem dX7_letItemsOut_61 : decode cX7_letItemsOut 61 = .ok (.getfield 24, 3) := by decide +kernel
theorem dX7_letItemsOut_64 : decode cX7_letItemsOut 64 = .ok (.iload_n 2, 1) := by decide +kernel
theorem dX7_letItemsOut_65 : decode cX7_letItemsOut 65 = .ok (.invokevirtual 206, 3) := by decide +kernel
theorem dX7_letItemsOut_68 : decode cX7_letItemsOut 68 = .ok (.ifCond .eq 4, 3) := by decide +kernel
theorem dX7_letItemsOut_71 : decode cX7_letItemsOut 71 = .ok (.return_, 1) := by decide +kernel
theorem dX7_letItemsOut_72 : decode cX7_letItemsOut 72 = .ok (.iload_n 3, 1) := by decide +kernel
theorem dX7_letItemsOut_73 : decode cX7_letItemsOut 73 = .ok (.iconst 2, 1) := by decide +kernel
theorem dX7_letItemsOut_74 : decode cX7_letItemsOut 74 = .ok (.if_icmp .ne 33, 3) := by decide +kernel
theorem dX7_letItemsOut_77 : decode cX7_letItemsOut 77 = .ok (.aload_n 0, 1) := by decide +kernel
theorem dX7_letItemsOut_78 : decode cX7_letItemsOut 78 = .ok (.getfield 41, 3) := by decide +kernel
theorem dX7_letItemsOut_81 : decode cX7_letItemsOut 81 = .ok (.aload_n 0, 1) := by decide +kernel
theorem dX7_letItemsOut_82 : decode cX7_letItemsOut 82 = .ok (.getfield 31, 3) := by decide +kernel
theorem dX7_letItemsOut_85 : decode cX7_letItemsOut 85 = .ok (.getfield 187, 3) := by decide +kernel
theorem dX7_letItemsOut_88 : decode cX7_letItemsOut 88 = .ok (.iload_n 2, 1) := by decide +kernel
theorem dX7_letItemsOut_89 : decode cX7_letItemsOut 89 = .ok (.aload_n 0, 1) := by decide +kernel
theorem dX7_letItemsOut_90 : decode cX7_letItemsOut 90 = .ok (.getfield 82, 3) := by decide +kernel
theorem dX7_letItemsOut_93 : decode cX7_letItemsOut 93 = .ok (.invokevirtual 268, 3) := by decide +kernel
theorem dX7_letItemsOut_96 : decode cX7_letItemsOut 96 = .ok (.aload_n 0, 1) := by decide +kernel
theorem dX7_letItemsOut_97 : decode cX7_letItemsOut 97 = .ok (.getfield 31, 3) := by decide +kernel
theorem dX7_letItemsOut_100 : decode cX7_letItemsOut 100 = .ok (.iload_n 2, 1) := by decide +kernel
theorem dX7_letItemsOut_101 : decode cX7_letItemsOut 101 = .ok (.invokevirtual 272, 3) := by decide +kernel
theorem dX7_letItemsOut_104 : decode cX7_letItemsOut 104 = .ok (.goto 5, 3) := by decide +kernel
theorem dX7_letItemsOut_107 : decode cX7_letItemsOut 107 = .ok (.iconst 0, 1) := by decide +kernel
theorem dX7_letItemsOut_108 : decode cX7_letItemsOut 108 = .ok (.istore_n 1, 1) := by decide +kernel
theorem dX7_letItemsOut_109 : decode cX7_letItemsOut 109 = .ok (.iinc 2 1, 3) := by decide +kernel
theorem dX7_letItemsOut_112 : decode cX7_letItemsOut 112 = .ok (.goto (-108), 3) := by decide +kernel
theorem dX7_letItemsOut_115 : decode cX7_letItemsOut 115 = .ok (.return_, 1) := by decide +kernel
theorem dX7_passTick_0 : decode cX7_passTick 0 = .ok (.aload_n 0, 1) := by decide +kernel
theorem dX7_passTick_1 : decode cX7_passTick 1 = .ok (.dup, 1) := by decide +kernel
theorem dX7_passTick_2 : decode cX7_passTick 2 = .ok (.getfield 82, 3) := by decide +kernel
theorem dX7_passTick_5 : decode cX7_passTick 5 = .ok (.iconst 1, 1) := by decide +kernel
theorem dX7_passTick_6 : decode cX7_passTick 6 = .ok (.iadd, 1) := by decide +kernel
theorem dX7_passTick_7 : decode cX7_passTick 7 = .ok (.putfield 82, 3) := by decide +kernel
theorem dX7_passTick_10 : decode cX7_passTick 10 = .ok (.aload_n 0, 1) := by decide +kernel
theorem dX7_passTick_11 : decode cX7_passTick 11 = .ok (.iconst 0, 1) := by decide +kernel
theorem dX7_passTick_12 : decode cX7_passTick 12 = .ok (.putfield 86, 3) := by decide +kernel
theorem dX7_passTick_15 : decode cX7_passTick 15 = .ok (.aload_n 0, 1) := by decide +kernel
theorem dX7_passTick_16 : decode cX7_passTick 16 = .ok (.invokevirtual 275, 3) := by decide +kernel
theorem dX7_passTick_19 : decode cX7_passTick 19 = .ok (.iconst 0, 1) := by decide +kernel
theorem dX7_passTick_20 : decode cX7_passTick 20 = .ok (.istore_n 1, 1) := by decide +kernel
theorem dX7_passTick_21 : decode cX7_passTick 21 = .ok (.iload_n 1, 1) := by decide +kernel
theorem dX7_passTick_22 : decode cX7_passTick 22 = .ok (.aload_n 0, 1) := by decide +kernel
theorem dX7_passTick_23 : decode cX7_passTick 23 = .ok (.getfield 55, 3) := by decide +kernel
theorem dX7_passTick_26 : decode cX7_passTick 26 = .ok (.getfield 235, 3) := by decide +kernel
theorem dX7_passTick_29 : decode cX7_passTick 29 = .ok (.if_icmp .ge 24, 3) := by decide +kernel
theorem dX7_passTick_32 : decode cX7_passTick 32 = .ok (.aload_n 0, 1) := by decide +kernel
theorem dX7_passTick_33 : decode cX7_passTick 33 = .ok (.aload_n 0, 1) := by decide +kernel
theorem dX7_passTick_34 : decode cX7_passTick 34 = .ok (.getfield 55, 3) := by decide +kernel
theorem dX7_passTick_37 : decode cX7_passTick 37 = .ok (.iload_n 1, 1) := by decide +kernel
theorem dX7_passTick_38 : decode cX7_passTick 38 = .ok (.invokevirtual 261, 3) := by decide +kernel
theorem dX7_passTick_41 : decode cX7_passTick 41 = .ok (.iconst 3, 1) := by decide +kernel
theorem dX7_passTick_42 : decode cX7_passTick 42 = .ok (.lconst 0, 1) := by decide +kernel
theorem dX7_passTick_43 : decode cX7_passTick 43 = .ok (.invokevirtual 278, 3) := by decide +kernel
theorem dX7_passTick_46 : decode cX7_passTick 46 = .ok (.pop, 1) := by decide +kernel
theorem dX7_passTick_47 : decode cX7_passTick 47 = .ok (.iinc 1 1, 3) := by decide +kernel
theorem dX7_passTick_50 : decode cX7_passTick 50 = .ok (.goto (-29), 3) := by decide +kernel
theorem dX7_passTick_53 : decode cX7_passTick 53 = .ok (.aload_n 0, 1) := by decide +kernel
theorem dX7_passTick_54 : decode cX7_passTick 54 = .ok (.getfield 55, 3) := by decide +kernel
theorem dX7_passTick_57 : decode cX7_passTick 57 = .ok (.getfield 235, 3) := by decide +kernel
theorem dX7_passTick_60 : decode cX7_passTick 60 = .ok (.ifCond .gt 13, 3) := by decide +kernel
theorem dX7_passTick_63 : decode cX7_passTick 63 = .ok (.aload_n 0, 1) := by decide +kernel
theorem dX7_passTick_64 : decode cX7_passTick 64 = .ok (.getfield 52, 3) := by decide +kernel
theorem dX7_passTick_67 : decode cX7_passTick 67 = .ok (.getfield 235, 3) := by decide +kernel
theorem dX7_passTick_70 : decode cX7_passTick 70 = .ok (.ifCond .le 7, 3) := by decide +kernel
theorem dX7_passTick_73 : decode cX7_passTick 73 = .ok (.aload_n 0, 1) := by decide +kernel
theorem dX7_passTick_74 : decode cX7_passTick 74 = .ok (.invokevirtual 117, 3) := by decide +kernel
theorem dX7_passTick_77 : decode cX7_passTick 77 = .ok (.return_, 1) := by decide +kernel
theorem dX7_findOverdue_0 : decode cX7_findOverdue 0 = .ok (.aload_n 0, 1) := by decide +kernel
theorem dX7_findOverdue_1 : decode cX7_findOverdue 1 = .ok (.getfield 55, 3) := by decide +kernel
theorem dX7_findOverdue_4 : decode cX7_findOverdue 4 = .ok (.invokevirtual 281, 3) := by decide +kernel
theorem dX7_findOverdue_7 : decode cX7_findOverdue 7 = .ok (.iconst 0, 1) := by decide +kernel
theorem dX7_findOverdue_8 : decode cX7_findOverdue 8 = .ok (.istore_n 1, 1) := by decide +kernel
theorem dX7_findOverdue_9 : decode cX7_findOverdue 9 = .ok (.iload_n 1, 1) := by decide +kernel
theorem dX7_findOverdue_10 : decode cX7_findOverdue 10 = .ok (.aload_n 0, 1) := by decide +kernel
theorem dX7_findOverdue_11 : decode cX7_findOverdue 11 = .ok (.getfield 48, 3) := by decide +kernel
theorem dX7_findOverdue_14 : decode cX7_findOverdue 14 = .ok (.getfield 235, 3) := by decide +kernel
theorem dX7_findOverdue_17 : decode cX7_findOverdue 17 = .ok (.if_icmp .ge 53, 3) := by decide +kernel
theorem dX7_findOverdue_20 : decode cX7_findOverdue 20 = .ok (.aload_n 0, 1) := by decide +kernel
theorem dX7_findOverdue_21 : decode cX7_findOverdue 21 = .ok (.getfield 48, 3) := by decide +kernel
theorem dX7_findOverdue_24 : decode cX7_findOverdue 24 = .ok (.iload_n 1, 1) := by decide +kernel
theorem dX7_findOverdue_25 : decode cX7_findOverdue 25 = .ok (.invokevirtual 261, 3) := by decide +kernel
theorem dX7_findOverdue_28 : decode cX7_findOverdue 28 = .ok (.istore_n 2, 1) := by decide +kernel
theorem dX7_findOverdue_29 : decode cX7_findOverdue 29 = .ok (.aload_n 0, 1) := by decide +kernel
theorem dX7_findOverdue_30 : decode cX7_findOverdue 30 = .ok (.getfield 24, 3) := by decide +kernel
theorem dX7_findOverdue_33 : decode cX7_findOverdue 33 = .ok (.iload_n 2, 1) := by decide +kernel
theorem dX7_findOverdue_34 : decode cX7_findOverdue 34 = .ok (.invokevirtual 284, 3) := by decide +kernel
theorem dX7_findOverdue_37 : decode cX7_findOverdue 37 = .ok (.aload_n 0, 1) := by decide +kernel
theorem dX7_findOverdue_38 : decode cX7_findOverdue 38 = .ok (.getfield 82, 3) := by decide +kernel
theorem dX7_findOverdue_41 : decode cX7_findOverdue 41 = .ok (.if_icmp .gt 23, 3) := by decide +kernel
theorem dX7_findOverdue_44 : decode cX7_findOverdue 44 = .ok (.aload_n 0, 1) := by decide +kernel
theorem dX7_findOverdue_45 : decode cX7_findOverdue 45 = .ok (.getfield 52, 3) := by decide +kernel
theorem dX7_findOverdue_48 : decode cX7_findOverdue 48 = .ok (.iload_n 2, 1) := by decide +kernel
theorem dX7_findOverdue_49 : decode cX7_findOverdue 49 = .ok (.invokevirtual 209, 3) := by decide +kernel
theorem dX7_findOverdue_52 : decode cX7_findOverdue 52 = .ok (.iconst (-1), 1) := by decide +kernel
theorem dX7_findOverdue_53 : decode cX7_findOverdue 53 = .ok (.if_icmp .ne 11, 3) := by decide +kernel
theorem dX7_findOverdue_56 : decode cX7_findOverdue 56 = .ok (.aload_n 0, 1) := by decide +kernel
theorem dX7_findOverdue_57 : decode cX7_findOverdue 57 = .ok (.getfield 55, 3) := by decide +kernel
theorem dX7_findOverdue_60 : decode cX7_findOverdue 60 = .ok (.iload_n 2, 1) := by decide +kernel
theorem dX7_findOverdue_61 : decode cX7_findOverdue 61 = .ok (.invokevirtual 258, 3) := by decide +kernel
theorem dX7_findOverdue_64 : decode cX7_findOverdue 64 = .ok (.iinc 1 1, 3) := by decide +kernel
theorem dX7_findOverdue_67 : decode cX7_findOverdue 67 = .ok (.goto (-58), 3) := by decide +kernel
theorem dX7_findOverdue_70 : decode cX7_findOverdue 70 = .ok (.return_, 1) := by decide +kernel
theorem dX7_tryAgain_0 : decode cX7_tryAgain 0 = .ok (.aload_n 0, 1) := by decide +kernel
theorem dX7_tryAgain_1 : decode cX7_tryAgain 1 = .ok (.getfield 31, 3) := by decide +kernel
theorem dX7_tryAgain_4 : decode cX7_tryAgain 4 = .ok (.iload_n 1, 1) := by decide +kernel
theorem dX7_tryAgain_5 : decode cX7_tryAgain 5 = .ok (.invokevirtual 203, 3) := by decide +kernel
theorem dX7_tryAgain_8 : decode cX7_tryAgain 8 = .ok (.aload_n 0, 1) := by decide +kernel
theorem dX7_tryAgain_9 : decode cX7_tryAgain 9 = .ok (.getfield 18, 3) := by decide +kernel
theorem dX7_tryAgain_12 : decode cX7_tryAgain 12 = .ok (.iconst 1, 1) := by decide +kernel
theorem dX7_tryAgain_13 : decode cX7_tryAgain 13 = .ok (.iaload, 1) := by decide +kernel
theorem dX7_tryAgain_14 : decode cX7_tryAgain 14 = .ok (.if_icmp .lt 12, 3) := by decide +kernel
theorem dX7_tryAgain_17 : decode cX7_tryAgain 17 = .ok (.aload_n 0, 1) := by decide +kernel
theorem dX7_tryAgain_18 : decode cX7_tryAgain 18 = .ok (.iload_n 1, 1) := by decide +kernel
theorem dX7_tryAgain_19 : decode cX7_tryAgain 19 = .ok (.iload_n 2, 1) := by decide +kernel
theorem dX7_tryAgain_20 : decode cX7_tryAgain 20 = .ok (.lload_n 3, 1) := by decide +kernel
theorem dX7_tryAgain_21 : decode cX7_tryAgain 21 = .ok (.invokevirtual 287, 3) := by decide +kernel
theorem dX7_tryAgain_24 : decode cX7_tryAgain 24 = .ok (.iconst 1, 1) := by decide +kernel
theorem dX7_tryAgain_25 : decode cX7_tryAgain 25 = .ok (.ireturn, 1) := by decide +kernel
theorem dX7_tryAgain_26 : decode cX7_tryAgain 26 = .ok (.aload_n 0, 1) := by decide +kernel
theorem dX7_tryAgain_27 : decode cX7_tryAgain 27 = .ok (.getfield 31, 3) := by decide +kernel
theorem dX7_tryAgain_30 : decode cX7_tryAgain 30 = .ok (.iload_n 1, 1) := by decide +kernel
theorem dX7_tryAgain_31 : decode cX7_tryAgain 31 = .ok (.invokevirtual 290, 3) := by decide +kernel
theorem dX7_tryAgain_34 : decode cX7_tryAgain 34 = .ok (.aload_n 0, 1) := by decide +kernel
theorem dX7_tryAgain_35 : decode cX7_tryAgain 35 = .ok (.getfield 52, 3) := by decide +kernel
theorem dX7_tryAgain_38 : decode cX7_tryAgain 38 = .ok (.iload_n 1, 1) := by decide +kernel
theorem dX7_tryAgain_39 : decode cX7_tryAgain 39 = .ok (.invokevirtual 258, 3) := by decide +kernel
theorem dX7_tryAgain_42 : decode cX7_tryAgain 42 = .ok (.iconst 0, 1) := by decide +kernel
theorem dX7_tryAgain_43 : decode cX7_tryAgain 43 = .ok (.ireturn, 1) := by decide +kernel
theorem dX7_takeAnswer_0 : decode cX7_takeAnswer 0 = .ok (.iload_n 2, 1) := by decide +kernel
theorem dX7_takeAnswer_1 : decode cX7_takeAnswer 1 = .ok (.ifCond .eq 10, 3) := by decide +kernel
theorem dX7_takeAnswer_4 : decode cX7_takeAnswer 4 = .ok (.aload_n 0, 1) := by decide +kernel
theorem dX7_takeAnswer_5 : decode cX7_takeAnswer 5 = .ok (.iload_n 1, 1) := by decide +kernel
theorem dX7_takeAnswer_6 : decode cX7_takeAnswer 6 = .ok (.iload_n 2, 1) := by decide +kernel
theorem dX7_takeAnswer_7 : decode cX7_takeAnswer 7 = .ok (.invokevirtual 293, 3) := by decide +kernel
theorem dX7_takeAnswer_10 : decode cX7_takeAnswer 10 = .ok (.ireturn, 1) := by decide +kernel
theorem dX7_takeAnswer_11 : decode cX7_takeAnswer 11 = .ok (.aload_n 0, 1) := by decide +kernel
theorem dX7_takeAnswer_12 : decode cX7_takeAnswer 12 = .ok (.iload_n 1, 1) := by decide +kernel
theorem dX7_takeAnswer_13 : decode cX7_takeAnswer 13 = .ok (.iconst 0, 1) := by decide +kernel
theorem dX7_takeAnswer_14 : decode cX7_takeAnswer 14 = .ok (.lload_n 3, 1) := by decide +kernel
theorem dX7_takeAnswer_15 : decode cX7_takeAnswer 15 = .ok (.invokevirtual 287, 3) := by decide +kernel
theorem dX7_takeAnswer_18 : decode cX7_takeAnswer 18 = .ok (.aload_n 0, 1) := by decide +kernel
theorem dX7_takeAnswer_19 : decode cX7_takeAnswer 19 = .ok (.getfield 18, 3) := by decide +kernel
theorem dX7_takeAnswer_22 : decode cX7_takeAnswer 22 = .ok (.iconst 3, 1) := by decide +kernel
theorem dX7_takeAnswer_23 : decode cX7_takeAnswer 23 = .ok (.iaload, 1) := by decide +kernel
theorem dX7_takeAnswer_24 : decode cX7_takeAnswer 24 = .ok (.ifCond .le 30, 3) := by decide +kernel
theorem dX7_takeAnswer_27 : decode cX7_takeAnswer 27 = .ok (.aload_n 0, 1) := by decide +kernel
theorem dX7_takeAnswer_28 : decode cX7_takeAnswer 28 = .ok (.getfield 78, 3) := by decide +kernel
theorem dX7_takeAnswer_31 : decode cX7_takeAnswer 31 = .ok (.aload_n 0, 1) := by decide +kernel
theorem dX7_takeAnswer_32 : decode cX7_takeAnswer 32 = .ok (.getfield 24, 3) := by decide +kernel
theorem dX7_takeAnswer_35 : decode cX7_takeAnswer 35 = .ok (.iload_n 1, 1) := by decide +kernel
theorem dX7_takeAnswer_36 : decode cX7_takeAnswer 36 = .ok (.invokevirtual 149, 3) := by decide +kernel
theorem dX7_takeAnswer_39 : decode cX7_takeAnswer 39 = .ok (.lload_n 3, 1) := by decide +kernel
theorem dX7_takeAnswer_40 : decode cX7_takeAnswer 40 = .ok (.aload_n 0, 1) := by decide +kernel
theorem dX7_takeAnswer_41 : decode cX7_takeAnswer 41 = .ok (.getfield 82, 3) := by decide +kernel
theorem dX7_takeAnswer_44 : decode cX7_takeAnswer 44 = .ok (.aload_n 0, 1) := by decide +kernel
theorem dX7_takeAnswer_45 : decode cX7_takeAnswer 45 = .ok (.getfield 18, 3) := by decide +kernel
theorem dX7_takeAnswer_48 : decode cX7_takeAnswer 48 = .ok (.iconst 3, 1) := by decide +kernel
theorem dX7_takeAnswer_49 : decode cX7_takeAnswer 49 = .ok (.iaload, 1) := by decide +kernel
theorem dX7_takeAnswer_50 : decode cX7_takeAnswer 50 = .ok (.iadd, 1) := by decide +kernel
theorem dX7_takeAnswer_51 : decode cX7_takeAnswer 51 = .ok (.invokevirtual 297, 3) := by decide +kernel
theorem dX7_takeAnswer_54 : decode cX7_takeAnswer 54 = .ok (.iconst 1, 1) := by decide +kernel
theorem dX7_takeAnswer_55 : decode cX7_takeAnswer 55 = .ok (.ireturn, 1) := by decide +kernel
theorem dX7_takeCause_0 : decode cX7_takeCause 0 = .ok (.aload_n 0, 1) := by decide +kernel
theorem dX7_takeCause_1 : decode cX7_takeCause 1 = .ok (.getfield 18, 3) := by decide +kernel
theorem dX7_takeCause_4 : decode cX7_takeCause 4 = .ok (.iconst 3, 1) := by decide +kernel
theorem dX7_takeCause_5 : decode cX7_takeCause 5 = .ok (.iload_n 2, 1) := by decide +kernel
theorem dX7_takeCause_6 : decode cX7_takeCause 6 = .ok (.iadd, 1) := by decide +kernel
theorem dX7_takeCause_7 : decode cX7_takeCause 7 = .ok (.iaload, 1) := by decide +kernel
theorem dX7_takeCause_8 : decode cX7_takeCause 8 = .ok (.istore_n 3, 1) := by decide +kernel
theorem dX7_takeCause_9 : decode cX7_takeCause 9 = .ok (.iload_n 3, 1) := by decide +kernel
theorem dX7_takeCause_10 : decode cX7_takeCause 10 = .ok (.iconst 1, 1) := by decide +kernel
theorem dX7_takeCause_11 : decode cX7_takeCause 11 = .ok (.if_icmp .ne 32, 3) := by decide +kernel
theorem dX7_takeCause_14 : decode cX7_takeCause 14 = .ok (.aload_n 0, 1) := by decide +kernel
theorem dX7_takeCause_15 : decode cX7_takeCause 15 = .ok (.getfield 52, 3) := by decide +kernel
theorem dX7_takeCause_18 : decode cX7_takeCause 18 = .ok (.iload_n 1, 1) := by decide +kernel
theorem dX7_takeCause_19 : decode cX7_takeCause 19 = .ok (.invokevirtual 209, 3) := by decide +kernel
theorem dX7_takeCause_22 : decode cX7_takeCause 22 = .ok (.iconst (-1), 1) := by decide +kernel
theorem dX7_takeCause_23 : decode cX7_takeCause 23 = .ok (.if_icmp .ne 18, 3) := by decide +kernel
theorem dX7_takeCause_26 : decode cX7_takeCause 26 = .ok (.aload_n 0, 1) := by decide +kernel
theorem dX7_takeCause_27 : decode cX7_takeCause 27 = .ok (.iload_n 1, 1) := by decide +kernel
theorem dX7_takeCause_28 : decode cX7_takeCause 28 = .ok (.iconst 2, 1) := by decide +kernel
theorem dX7_takeCause_29 : decode cX7_takeCause 29 = .ok (.iload_n 2, 1) := by decide +kernel
theorem dX7_takeCause_30 : decode cX7_takeCause 30 = .ok (.i2l, 1) := by decide +kernel
theorem dX7_takeCause_31 : decode cX7_takeCause 31 = .ok (.invokevirtual 278, 3) := by decide +kernel
theorem dX7_takeCause_34 : decode cX7_takeCause 34 = .ok (.ifCond .eq 7, 3) := by decide +kernel
theorem dX7_takeCause_37 : decode cX7_takeCause 37 = .ok (.iconst 1, 1) := by decide +kernel
theorem dX7_takeCause_38 : decode cX7_takeCause 38 = .ok (.goto 4, 3) := by decide +kernel
theorem dX7_takeCause_41 : decode cX7_takeCause 41 = .ok (.iconst 0, 1) := by decide +kernel
theorem dX7_takeCause_42 : decode cX7_takeCause 42 = .ok (.ireturn, 1) := by decide +kernel
theorem dX7_takeCause_43 : decode cX7_takeCause 43 = .ok (.iload_n 3, 1) := by decide +kernel
theorem dX7_takeCause_44 : decode cX7_takeCause 44 = .ok (.ifCond .ne 14, 3) := by decide +kernel
theorem dX7_takeCause_47 : decode cX7_takeCause 47 = .ok (.aload_n 0, 1) := by decide +kernel
theorem dX7_takeCause_48 : decode cX7_takeCause 48 = .ok (.iload_n 1, 1) := by decide +kernel
theorem dX7_takeCause_49 : decode cX7_takeCause 49 = .ok (.iconst 2, 1) := by decide +kernel
theorem dX7_takeCause_50 : decode cX7_takeCause 50 = .ok (.iload_n 2, 1) := by decide +kernel
theorem dX7_takeCause_51 : decode cX7_takeCause 51 = .ok (.i2l, 1) := by decide +kernel
theorem dX7_takeCause_52 : decode cX7_takeCause 52 = .ok (.invokevirtual 287, 3) := by decide +kernel
theorem dX7_takeCause_55 : decode cX7_takeCause 55 = .ok (.goto 10, 3) := by decide +kernel
theorem dX7_takeCause_58 : decode cX7_takeCause 58 = .ok (.aload_n 0, 1) := by decide +kernel
theorem dX7_takeCause_59 : decode cX7_takeCause 59 = .ok (.iload_n 1, 1) := by decide +kernel
theorem dX7_takeCause_60 : decode cX7_takeCause 60 = .ok (.iconst 4, 1) := by decide +kernel
theorem dX7_takeCause_61 : decode cX7_takeCause 61 = .ok (.lconst 0, 1) := by decide +kernel
theorem dX7_takeCause_62 : decode cX7_takeCause 62 = .ok (.invokevirtual 287, 3) := by decide +kernel
theorem dX7_takeCause_65 : decode cX7_takeCause 65 = .ok (.iconst 1, 1) := by decide +kernel
theorem dX7_takeCause_66 : decode cX7_takeCause 66 = .ok (.ireturn, 1) := by decide +kernel
theorem dX7_settle_0 : decode cX7_settle 0 = .ok (.aload_n 0, 1) := by decide +kernel
theorem dX7_settle_1 : decode cX7_settle 1 = .ok (.getfield 48, 3) := by decide +kernel
theorem dX7_settle_4 : decode cX7_settle 4 = .ok (.aload_n 0, 1) := by decide +kernel
theorem dX7_settle_5 : decode cX7_settle 5 = .ok (.getfield 48, 3) := by decide +kernel
theorem dX7_settle_8 : decode cX7_settle 8 = .ok (.iload_n 1, 1) := by decide +kernel
theorem dX7_settle_9 : decode cX7_settle 9 = .ok (.invokevirtual 209, 3) := by decide +kernel
theorem dX7_settle_12 : decode cX7_settle 12 = .ok (.invokevirtual 264, 3) := by decide +kernel
theorem dX7_settle_15 : decode cX7_settle 15 = .ok (.aload_n 0, 1) := by decide +kernel
theorem dX7_settle_16 : decode cX7_settle 16 = .ok (.getfield 52, 3) := by decide +kernel
theorem dX7_settle_19 : decode cX7_settle 19 = .ok (.aload_n 0, 1) := by decide +kernel
theorem dX7_settle_20 : decode cX7_settle 20 = .ok (.getfield 52, 3) := by decide +kernel
theorem dX7_settle_23 : decode cX7_settle 23 = .ok (.iload_n 1, 1) := by decide +kernel
theorem dX7_settle_24 : decode cX7_settle 24 = .ok (.invokevirtual 209, 3) := by decide +kernel
theorem dX7_settle_27 : decode cX7_settle 27 = .ok (.invokevirtual 264, 3) := by decide +kernel
theorem dX7_settle_30 : decode cX7_settle 30 = .ok (.aload_n 0, 1) := by decide +kernel
theorem dX7_settle_31 : decode cX7_settle 31 = .ok (.getfield 31, 3) := by decide +kernel
theorem dX7_settle_34 : decode cX7_settle 34 = .ok (.iload_n 1, 1) := by decide +kernel
theorem dX7_settle_35 : decode cX7_settle 35 = .ok (.iload_n 2, 1) := by decide +kernel
theorem dX7_settle_36 : decode cX7_settle 36 = .ok (.lload_n 3, 1) := by decide +kernel
theorem dX7_settle_37 : decode cX7_settle 37 = .ok (.invokevirtual 252, 3) := by decide +kernel
theorem dX7_settle_40 : decode cX7_settle 40 = .ok (.return_, 1) := by decide +kernel
theorem dX7_askAgainAllWorking_0 : decode cX7_askAgainAllWorking 0 = .ok (.aload_n 0, 1) := by decide +kernel
theorem dX7_askAgainAllWorking_1 : decode cX7_askAgainAllWorking 1 = .ok (.getfield 48, 3) := by decide +kernel
theorem dX7_askAgainAllWorking_4 : decode cX7_askAgainAllWorking 4 = .ok (.invokevirtual 281, 3) := by decide +kernel
theorem dX7_askAgainAllWorking_7 : decode cX7_askAgainAllWorking 7 = .ok (.aload_n 0, 1) := by decide +kernel
theorem dX7_askAgainAllWorking_8 : decode cX7_askAgainAllWorking 8 = .ok (.getfield 52, 3) := by decide +kernel
theorem dX7_askAgainAllWorking_11 : decode cX7_askAgainAllWorking 11 = .ok (.invokevirtual 281, 3) := by decide +kernel
theorem dX7_askAgainAllWorking_14 : decode cX7_askAgainAllWorking 14 = .ok (.iconst 0, 1) := by decide +kernel
theorem dX7_askAgainAllWorking_15 : decode cX7_askAgainAllWorking 15 = .ok (.istore_n 1, 1) := by decide +kernel
theorem dX7_askAgainAllWorking_16 : decode cX7_askAgainAllWorking 16 = .ok (.iload_n 1, 1) := by decide +kernel
theorem dX7_askAgainAllWorking_17 : decode cX7_askAgainAllWorking 17 = .ok (.aload_n 0, 1) := by decide +kernel
theorem dX7_askAgainAllWorking_18 : decode cX7_askAgainAllWorking 18 = .ok (.getfield 31, 3) := by decide +kernel
theorem dX7_askAgainAllWorking_21 : decode cX7_askAgainAllWorking 21 = .ok (.getfield 120, 3) := by decide +kernel
theorem dX7_askAgainAllWorking_24 : decode cX7_askAgainAllWorking 24 = .ok (.if_icmp .ge 45, 3) := by decide +kernel
theorem dX7_askAgainAllWorking_27 : decode cX7_askAgainAllWorking 27 = .ok (.aload_n 0, 1) := by decide +kernel
theorem dX7_askAgainAllWorking_28 : decode cX7_askAgainAllWorking 28 = .ok (.getfield 31, 3) := by decide +kernel
theorem dX7_askAgainAllWorking_31 : decode cX7_askAgainAllWorking 31 = .ok (.iload_n 1, 1) := by decide +kernel
theorem dX7_askAgainAllWorking_32 : decode cX7_askAgainAllWorking 32 = .ok (.invokevirtual 173, 3) := by decide +kernel
theorem dX7_askAgainAllWorking_35 : decode cX7_askAgainAllWorking 35 = .ok (.iconst 1, 1) := by decide +kernel
theorem dX7_askAgainAllWorking_36 : decode cX7_askAgainAllWorking 36 = .ok (.if_icmp .ne 27, 3) := by decide +kernel
theorem dX7_askAgainAllWorking_39 : decode cX7_askAgainAllWorking 39 = .ok (.aload_n 0, 1) := by decide +kernel
theorem dX7_askAgainAllWorking_40 : decode cX7_askAgainAllWorking 40 = .ok (.getfield 31, 3) := by decide +kernel
theorem dX7_askAgainAllWorking_43 : decode cX7_askAgainAllWorking 43 = .ok (.iload_n 1, 1) := by decide +kernel
theorem dX7_askAgainAllWorking_44 : decode cX7_askAgainAllWorking 44 = .ok (.invokevirtual 290, 3) := by decide +kernel
theorem dX7_askAgainAllWorking_47 : decode cX7_askAgainAllWorking 47 = .ok (.aload_n 0, 1) := by decide +kernel
theorem dX7_askAgainAllWorking_48 : decode cX7_askAgainAllWorking 48 = .ok (.getfield 48, 3) := by decide +kernel
theorem dX7_askAgainAllWorking_51 : decode cX7_askAgainAllWorking 51 = .ok (.iload_n 1, 1) := by decide +kernel
theorem dX7_askAgainAllWorking_52 : decode cX7_askAgainAllWorking 52 = .ok (.invokevirtual 258, 3) := by decide +kernel
theorem dX7_askAgainAllWorking_55 : decode cX7_askAgainAllWorking 55 = .ok (.aload_n 0, 1) := by decide +kernel
theorem dX7_askAgainAllWorking_56 : decode cX7_askAgainAllWorking 56 = .ok (.getfield 52, 3) := by decide +kernel
theorem dX7_askAgainAllWorking_59 : decode cX7_askAgainAllWorking 59 = .ok (.iload_n 1, 1) := by decide +kernel
theorem dX7_askAgainAllWorking_60 : decode cX7_askAgainAllWorking 60 = .ok (.invokevirtual 258, 3) := by decide +kernel
theorem dX7_askAgainAllWorking_63 : decode cX7_askAgainAllWorking 63 = .ok (.iinc 1 1, 3) := by decide +kernel
theorem dX7_askAgainAllWorking_66 : decode cX7_askAgainAllWorking 66 = .ok (.goto (-50), 3) := by decide +kernel
theorem dX7_askAgainAllWorking_69 : decode cX7_askAgainAllWorking 69 = .ok (.return_, 1) := by decide +kernel
end
section
theorem dX8_init_0 : decode cX8_init 0 = .ok (.aload_n 0, 1) := by decide +kernel
theorem dX8_init_1 : decode cX8_init 1 = .ok (.invokespecial 1, 3) := by decide +kernel
theorem dX8_init_4 : decode cX8_init 4 = .ok (.aload_n 0, 1) := by decide +kernel
theorem dX8_init_5 : decode cX8_init 5 = .ok (.bipush 8, 2) := by decide +kernel
theorem dX8_init_7 : decode cX8_init 7 = .ok (.newarray .int, 2) := by decide +kernel
theorem dX8_init_9 : decode cX8_init 9 = .ok (.putfield 7, 3) := by decide +kernel
theorem dX8_init_12 : decode cX8_init 12 = .ok (.aload_n 0, 1) := by decide +kernel
theorem dX8_init_13 : decode cX8_init 13 = .ok (.sipush 300, 3) := by decide +kernel
theorem dX8_init_16 : decode cX8_init 16 = .ok (.newarray .boolean, 2) := by decide +kernel
theorem dX8_init_18 : decode cX8_init 18 = .ok (.putfield 13, 3) := by decide +kernel
theorem dX8_init_21 : decode cX8_init 21 = .ok (.aload_n 0, 1) := by decide +kernel
theorem dX8_init_22 : decode cX8_init 22 = .ok (.sipush 300, 3) := by decide +kernel
theorem dX8_init_25 : decode cX8_init 25 = .ok (.newarray .long, 2) := by decide +kernel
theorem dX8_init_27 : decode cX8_init 27 = .ok (.putfield 17, 3) := by decide +kernel
theorem dX8_init_30 : decode cX8_init 30 = .ok (.aload_n 0, 1) := by decide +kernel
theorem dX8_init_31 : decode cX8_init 31 = .ok (.sipush 300, 3) := by decide +kernel
theorem dX8_init_34 : decode cX8_init 34 = .ok (.newarray .long, 2) := by decide +kernel
theorem dX8_init_36 : decode cX8_init 36 = .ok (.putfield 21, 3) := by decide +kernel
theorem dX8_init_39 : decode cX8_init 39 = .ok (.aload_n 0, 1) := by decide +kernel
theorem dX8_init_40 : decode cX8_init 40 = .ok (.sipush 300, 3) := by decide +kernel
theorem dX8_init_43 : decode cX8_init 43 = .ok (.newarray .int, 2) := by decide +kernel
theorem dX8_init_45 : decode cX8_init 45 = .ok (.putfield 24, 3) := by decide +kernel
theorem dX8_init_48 : decode cX8_init 48 = .ok (.aload_n 0, 1) := by decide +kernel
theorem dX8_init_49 : decode cX8_init 49 = .ok (.sipush 300, 3) := by decide +kernel
theorem dX8_init_52 : decode cX8_init 52 = .ok (.newarray .int, 2) := by decide +kernel
theorem dX8_init_54 : decode cX8_init 54 = .ok (.putfield 27, 3) := by decide +kernel
theorem dX8_init_57 : decode cX8_init 57 = .ok (.aload_n 0, 1) := by decide +kernel
theorem dX8_init_58 : decode cX8_init 58 = .ok (.sipush 300, 3) := by decide +kernel
theorem dX8_init_61 : decode cX8_init 61 = .ok (.newarray .long, 2) := by decide +kernel
theorem dX8_init_63 : decode cX8_init 63 = .ok (.putfield 30, 3) := by decide +kernel
theorem dX8_init_66 : decode cX8_init 66 = .ok (.aload_n 0, 1) := by decide +kernel
theorem dX8_init_67 : decode cX8_init 67 = .ok (.sipush 300, 3) := by decide +kernel
theorem dX8_init_70 : decode cX8_init 70 = .ok (.newarray .int, 2) := by decide +kernel
theorem dX8_init_72 : decode cX8_init 72 = .ok (.putfield 33, 3) := by decide +kernel
theorem dX8_init_75 : decode cX8_init 75 = .ok (.aload_n 0, 1) := by decide +kernel
theorem dX8_init_76 : decode cX8_init 76 = .ok (.sipush 300, 3) := by decide +kernel
theorem dX8_init_79 : decode cX8_init 79 = .ok (.newarray .int, 2) := by decide +kernel
theorem dX8_init_81 : decode cX8_init 81 = .ok (.putfield 36, 3) := by decide +kernel
theorem dX8_init_84 : decode cX8_init 84 = .ok (.aload_n 0, 1) := by decide +kernel
theorem dX8_init_85 : decode cX8_init 85 = .ok (.sipush 300, 3) := by decide +kernel
theorem dX8_init_88 : decode cX8_init 88 = .ok (.newarray .int, 2) := by decide +kernel
theorem dX8_init_90 : decode cX8_init 90 = .ok (.putfield 39, 3) := by decide +kernel
theorem dX8_init_93 : decode cX8_init 93 = .ok (.aload_n 0, 1) := by decide +kernel
theorem dX8_init_94 : decode cX8_init 94 = .ok (.sipush 300, 3) := by decide +kernel
theorem dX8_init_97 : decode cX8_init 97 = .ok (.newarray .int, 2) := by decide +kernel
theorem dX8_init_99 : decode cX8_init 99 = .ok (.putfield 42, 3) := by decide +kernel
theorem dX8_init_102 : decode cX8_init 102 = .ok (.aload_n 0, 1) := by decide +kernel
theorem dX8_init_103 : decode cX8_init 103 = .ok (.sipush 300, 3) := by decide +kernel
theorem dX8_init_106 : decode cX8_init 106 = .ok (.newarray .int, 2) := by decide +kernel
theorem dX8_init_108 : decode cX8_init 108 = .ok (.putfield 45, 3) := by decide +kernel
theorem dX8_init_111 : decode cX8_init 111 = .ok (.aload_n 0, 1) := by decide +kernel
theorem dX8_init_112 : decode cX8_init 112 = .ok (.sipush 200, 3) := by decide +kernel
theorem dX8_init_115 : decode cX8_init 115 = .ok (.newarray .int, 2) := by decide +kernel
theorem dX8_init_117 : decode cX8_init 117 = .ok (.putfield 48, 3) := by decide +kernel
theorem dX8_init_120 : decode cX8_init 120 = .ok (.aload_n 0, 1) := by decide +kernel
theorem dX8_init_121 : decode cX8_init 121 = .ok (.sipush 200, 3) := by decide +kernel
theorem dX8_init_124 : decode cX8_init 124 = .ok (.newarray .int, 2) := by decide +kernel
theorem dX8_init_126 : decode cX8_init 126 = .ok (.putfield 51, 3) := by decide +kernel
theorem dX8_init_129 : decode cX8_init 129 = .ok (.aload_n 0, 1) := by decide +kernel
theorem dX8_init_130 : decode cX8_init 130 = .ok (.sipush 200, 3) := by decide +kernel
theorem dX8_init_133 : decode cX8_init 133 = .ok (.newarray .long, 2) := by decide +kernel
theorem dX8_init_135 : decode cX8_init 135 = .ok (.putfield 54, 3) := by decide +kernel
theorem dX8_init_138 : decode cX8_init 138 = .ok (.aload_n 0, 1) := by decide +kernel
theorem dX8_init_139 : decode cX8_init 139 = .ok (.iconst 2, 1) := by decide +kernel
theorem dX8_init_140 : decode cX8_init 140 = .ok (.newarray .int, 2) := by decide +kernel
theorem dX8_init_142 : decode cX8_init 142 = .ok (.putfield 57, 3) := by decide +kernel
theorem dX8_init_145 : decode cX8_init 145 = .ok (.aload_n 0, 1) := by decide +kernel
theorem dX8_init_146 : decode cX8_init 146 = .ok (.sipush 300, 3) := by decide +kernel
theorem dX8_init_149 : decode cX8_init 149 = .ok (.newarray .int, 2) := by decide +kernel
theorem dX8_init_151 : decode cX8_init 151 = .ok (.putfield 60, 3) := by decide +kernel
theorem dX8_init_154 : decode cX8_init 154 = .ok (.aload_n 0, 1) := by decide +kernel
theorem dX8_init_155 : decode cX8_init 155 = .ok (.sipush 300, 3) := by decide +kernel
theorem dX8_init_158 : decode cX8_init 158 = .ok (.newarray .boolean, 2) := by decide +kernel
theorem dX8_init_160 : decode cX8_init 160 = .ok (.putfield 63, 3) := by decide +kernel
theorem dX8_init_163 : decode cX8_init 163 = .ok (.aload_n 0, 1) := by decide +kernel
theorem dX8_init_164 : decode cX8_init 164 = .ok (.sipush 300, 3) := by decide +kernel
theorem dX8_init_167 : decode cX8_init 167 = .ok (.newarray .long, 2) := by decide +kernel
theorem dX8_init_169 : decode cX8_init 169 = .ok (.putfield 66, 3) := by decide +kernel
theorem dX8_init_172 : decode cX8_init 172 = .ok (.aload_n 0, 1) := by decide +kernel
theorem dX8_init_173 : decode cX8_init 173 = .ok (.bipush 8, 2) := by decide +kernel
theorem dX8_init_175 : decode cX8_init 175 = .ok (.newarray .long, 2) := by decide +kernel
theorem dX8_init_177 : decode cX8_init 177 = .ok (.putfield 69, 3) := by decide +kernel
theorem dX8_init_180 : decode cX8_init 180 = .ok (.aload_n 0, 1) := by decide +kernel
theorem dX8_init_181 : decode cX8_init 181 = .ok (.bipush 8, 2) := by decide +kernel
theorem dX8_init_183 : decode cX8_init 183 = .ok (.newarray .long, 2) := by decide +kernel
theorem dX8_init_185 : decode cX8_init 185 = .ok (.putfield 72, 3) := by decide +kernel
theorem dX8_init_188 : decode cX8_init 188 = .ok (.aload_n 0, 1) := by decide +kernel
theorem dX8_init_189 : decode cX8_init 189 = .ok (.bipush 8, 2) := by decide +kernel
theorem dX8_init_191 : decode cX8_init 191 = .ok (.newarray .int, 2) := by decide +kernel
theorem dX8_init_193 : decode cX8_init 193 = .ok (.putfield 75, 3) := by decide +kernel
theorem dX8_init_196 : decode cX8_init 196 = .ok (.aload_n 0, 1) := by decide +kernel
theorem dX8_init_197 : decode cX8_init 197 = .ok (.sipush 300, 3) := by decide +kernel
theorem dX8_init_200 : decode cX8_init 200 = .ok (.newarray .int, 2) := by decide +kernel
theorem dX8_init_202 : decode cX8_init 202 = .ok (.putfield 78, 3) := by decide +kernel
theorem dX8_init_205 : decode cX8_init 205 = .ok (.aload_n 0, 1) := by decide +kernel
theorem dX8_init_206 : decode cX8_init 206 = .ok (.sipush 300, 3) := by decide +kernel
theorem dX8_init_209 : decode cX8_init 209 = .ok (.newarray .int, 2) := by decide +kernel
theorem dX8_init_211 : decode cX8_init 211 = .ok (.putfield 81, 3) := by decide +kernel
theorem dX8_init_214 : decode cX8_init 214 = .ok (.aload_n 0, 1) := by decide +kernel
theorem dX8_init_215 : decode cX8_init 215 = .ok (.sipush 300, 3) := by decide +kernel
theorem dX8_init_218 : decode cX8_init 218 = .ok (.newarray .long, 2) := by decide +kernel
theorem dX8_init_220 : decode cX8_init 220 = .ok (.putfield 84, 3) := by decide +kernel
theorem dX8_init_223 : decode cX8_init 223 = .ok (.aload_n 0, 1) := by decide +kernel
theorem dX8_init_224 : decode cX8_init 224 = .ok (.sipush 300, 3) := by decide +kernel
theorem dX8_init_227 : decode cX8_init 227 = .ok (.newarray .int, 2) := by decide +kernel
theorem dX8_init_229 : decode cX8_init 229 = .ok (.putfield 87, 3) := by decide +kernel
theorem dX8_init_232 : decode cX8_init 232 = .ok (.aload_n 0, 1) := by decide +kernel
theorem dX8_init_233 : decode cX8_init 233 = .ok (.iload_n 1, 1) := by decide +kernel
theorem dX8_init_234 : decode cX8_init 234 = .ok (.iconst 1, 1) := by decide +kernel
theorem dX8_init_235 : decode cX8_init 235 = .ok (.if_icmp .ge 7, 3) := by decide +kernel
theorem dX8_init_238 : decode cX8_init 238 = .ok (.iconst 1, 1) := by decide +kernel
theorem dX8_init_239 : decode cX8_init 239 = .ok (.goto 15, 3) := by decide +kernel
theorem dX8_init_242 : decode cX8_init 242 = .ok (.iload_n 1, 1) := by decide +kernel
theorem dX8_init_243 : decode cX8_init 243 = .ok (.bipush 16, 2) := by decide +kernel
theorem dX8_init_245 : decode cX8_init 245 = .ok (.if_icmp .le 8, 3) := by decide +kernel
theorem dX8_init_248 : decode cX8_init 248 = .ok (.bipush 16, 2) := by decide +kernel
theorem dX8_init_250 : decode cX8_init 250 = .ok (.goto 4, 3) := by decide +kernel
theorem dX8_init_253 : decode cX8_init 253 = .ok (.iload_n 1, 1) := by decide +kernel
theorem dX8_init_254 : decode cX8_init 254 = .ok (.putfield 90, 3) := by decide +kernel
theorem dX8_init_257 : decode cX8_init 257 = .ok (.aload_n 0, 1) := by decide +kernel
theorem dX8_init_258 : decode cX8_init 258 = .ok (.iload_n 2, 1) := by decide +kernel
theorem dX8_init_259 : decode cX8_init 259 = .ok (.iconst 1, 1) := by decide +kernel
theorem dX8_init_260 : decode cX8_init 260 = .ok (.iand, 1) := by decide +kernel
theorem dX8_init_261 : decode cX8_init 261 = .ok (.iconst 1, 1) := by decide +kernel
theorem dX8_init_262 : decode cX8_init 262 = .ok (.if_icmp .ne 7, 3) := by decide +kernel
theorem dX8_init_265 : decode cX8_init 265 = .ok (.iconst 1, 1) := by decide +kernel
theorem dX8_init_266 : decode cX8_init 266 = .ok (.goto 4, 3) := by decide +kernel
theorem dX8_init_269 : decode cX8_init 269 = .ok (.iconst 0, 1) := by decide +kernel
theorem dX8_init_270 : decode cX8_init 270 = .ok (.putfield 94, 3) := by decide +kernel
theorem dX8_init_273 : decode cX8_init 273 = .ok (.aload_n 0, 1) := by decide +kernel
theorem dX8_init_274 : decode cX8_init 274 = .ok (.getfield 7, 3) := by decide +kernel
theorem dX8_init_277 : decode cX8_init 277 = .ok (.iconst 0, 1) := by decide +kernel
theorem dX8_init_278 : decode cX8_init 278 = .ok (.bipush 10, 2) := by decide +kernel
theorem dX8_init_280 : decode cX8_init 280 = .ok (.iastore, 1) := by decide +kernel
theorem dX8_init_281 : decode cX8_init 281 = .ok (.aload_n 0, 1) := by decide +kernel
theorem dX8_init_282 : decode cX8_init 282 = .ok (.getfield 7, 3) := by decide +kernel
theorem dX8_init_285 : decode cX8_init 285 = .ok (.iconst 1, 1) := by decide +kernel
theorem dX8_init_286 : decode cX8_init 286 = .ok (.iconst 2, 1) := by decide +kernel
theorem dX8_init_287 : decode cX8_init 287 = .ok (.iastore, 1) := by decide +kernel
theorem dX8_init_288 : decode cX8_init 288 = .ok (.aload_n 0, 1) := by decide +kernel
theorem dX8_init_289 : decode cX8_init 289 = .ok (.getfield 7, 3) := by decide +kernel
theorem dX8_init_292 : decode cX8_init 292 = .ok (.iconst 2, 1) := by decide +kernel
theorem dX8_init_293 : decode cX8_init 293 = .ok (.bipush 20, 2) := by decide +kernel
theorem dX8_init_295 : decode cX8_init 295 = .ok (.iastore, 1) := by decide +kernel
theorem dX8_init_296 : decode cX8_init 296 = .ok (.aload_n 0, 1) := by decide +kernel
theorem dX8_init_297 : decode cX8_init 297 = .ok (.getfield 7, 3) := by decide +kernel
theorem dX8_init_300 : decode cX8_init 300 = .ok (.bipush 7, 2) := by decide +kernel
theorem dX8_init_302 : decode cX8_init 302 = .ok (.iconst 1, 1) := by decide +kernel
theorem dX8_init_303 : decode cX8_init 303 = .ok (.iastore, 1) := by decide +kernel
theorem dX8_init_304 : decode cX8_init 304 = .ok (.return_, 1) := by decide +kernel
theorem dX8_countOf_0 : decode cX8_countOf 0 = .ok (.iconst 0, 1) := by decide +kernel
theorem dX8_countOf_1 : decode cX8_countOf 1 = .ok (.istore_n 2, 1) := by decide +kernel
theorem dX8_countOf_2 : decode cX8_countOf 2 = .ok (.iconst 0, 1) := by decide +kernel
theorem dX8_countOf_3 : decode cX8_countOf 3 = .ok (.istore_n 3, 1) := by decide +kernel
theorem dX8_countOf_4 : decode cX8_countOf 4 = .ok (.iload_n 3, 1) := by decide +kernel
theorem dX8_countOf_5 : decode cX8_countOf 5 = .ok (.aload_n 0, 1) := by decide +kernel
theorem dX8_countOf_6 : decode cX8_countOf 6 = .ok (.getfield 98, 3) := by decide +kernel
theorem dX8_countOf_9 : decode cX8_countOf 9 = .ok (.if_icmp .ge 27, 3) := by decide +kernel
theorem dX8_countOf_12 : decode cX8_countOf 12 = .ok (.iload_n 2, 1) := by decide +kernel
theorem dX8_countOf_13 : decode cX8_countOf 13 = .ok (.aload_n 0, 1) := by decide +kernel
theorem dX8_countOf_14 : decode cX8_countOf 14 = .ok (.getfield 24, 3) := by decide +kernel
theorem dX8_countOf_17 : decode cX8_countOf 17 = .ok (.iload_n 3, 1) := by decide +kernel
theorem dX8_countOf_18 : decode cX8_countOf 18 = .ok (.iaload, 1) := by decide +kernel
theorem dX8_countOf_19 : decode cX8_countOf 19 = .ok (.iload_n 1, 1) := by decide +kernel
theorem dX8_countOf_20 : decode cX8_countOf 20 = .ok (.if_icmp .ne 7, 3) := by decide +kernel
theorem dX8_countOf_23 : decode cX8_countOf 23 = .ok (.iconst 1, 1) := by decide +kernel
theorem dX8_countOf_24 : decode cX8_countOf 24 = .ok (.goto 4, 3) := by decide +kernel
theorem dX8_countOf_27 : decode cX8_countOf 27 = .ok (.iconst 0, 1) := by decide +kernel
theorem dX8_countOf_28 : decode cX8_countOf 28 = .ok (.iadd, 1) := by decide +kernel
theorem dX8_countOf_29 : decode cX8_countOf 29 = .ok (.istore_n 2, 1) := by decide +kernel
theorem dX8_countOf_30 : decode cX8_countOf 30 = .ok (.iinc 3 1, 3) := by decide +kernel
theorem dX8_countOf_33 : decode cX8_countOf 33 = .ok (.goto (-29), 3) := by decide +kernel
theorem dX8_countOf_36 : decode cX8_countOf 36 = .ok (.iload_n 2, 1) := by decide +kernel
theorem dX8_countOf_37 : decode cX8_countOf 37 = .ok (.ireturn, 1) := by decide +kernel
theorem dX8_first_0 : decode cX8_first 0 = .ok (.iconst 0, 1) := by decide +kernel
theorem dX8_first_1 : decode cX8_first 1 = .ok (.istore_n 2, 1) := by decide +kernel
theorem dX8_first_2 : decode cX8_first 2 = .ok (.iload_n 2, 1) := by decide +kernel
theorem dX8_first_3 : decode cX8_first 3 = .ok (.aload_n 0, 1) := by decide +kernel
theorem dX8_first_4 : decode cX8_first 4 = .ok (.getfield 98, 3) := by decide +kernel
theorem dX8_first_7 : decode cX8_first 7 = .ok (.if_icmp .ge 19, 3) := by decide +kernel
theorem dX8_first_10 : decode cX8_first 10 = .ok (.aload_n 0, 1) := by decide +kernel
theorem dX8_first_11 : decode cX8_first 11 = .ok (.getfield 24, 3) := by decide +kernel
theorem dX8_first_14 : decode cX8_first 14 = .ok (.iload_n 2, 1) := by decide +kernel
theorem dX8_first_15 : decode cX8_first 15 = .ok (.iaload, 1) := by decide +kernel
theorem dX8_first_16 : decode cX8_first 16 = .ok (.iload_n 1, 1) := by decide +kernel
theorem dX8_first_17 : decode cX8_first 17 = .ok (.if_icmp .eq 9, 3) := by decide +kernel
theorem dX8_first_20 : decode cX8_first 20 = .ok (.iinc 2 1, 3) := by decide +kernel
theorem dX8_first_23 : decode cX8_first 23 = .ok (.goto (-21), 3) := by decide +kernel
theorem dX8_first_26 : decode cX8_first 26 = .ok (.iload_n 2, 1) := by decide +kernel
theorem dX8_first_27 : decode cX8_first 27 = .ok (.ireturn, 1) := by decide +kernel
theorem dX8_keptFor_0 : decode cX8_keptFor 0 = .ok (.aload_n 0, 1) := by decide +kernel
theorem dX8_keptFor_1 : decode cX8_keptFor 1 = .ok (.getfield 101, 3) := by decide +kernel
theorem dX8_keptFor_4 : decode cX8_keptFor 4 = .ok (.iconst 1, 1) := by decide +kernel
theorem dX8_keptFor_5 : decode cX8_keptFor 5 = .ok (.isub, 1) := by decide +kernel
theorem dX8_keptFor_6 : decode cX8_keptFor 6 = .ok (.istore_n 3, 1) := by decide +kernel
theorem dX8_keptFor_7 : decode cX8_keptFor 7 = .ok (.iload_n 3, 1) := by decide +kernel
theorem dX8_keptFor_8 : decode cX8_keptFor 8 = .ok (.ifCond .lt 20, 3) := by decide +kernel
theorem dX8_keptFor_11 : decode cX8_keptFor 11 = .ok (.aload_n 0, 1) := by decide +kernel
theorem dX8_keptFor_12 : decode cX8_keptFor 12 = .ok (.getfield 69, 3) := by decide +kernel
theorem dX8_keptFor_15 : decode cX8_keptFor 15 = .ok (.iload_n 3, 1) := by decide +kernel
theorem dX8_keptFor_16 : decode cX8_keptFor 16 = .ok (.laload, 1) := by decide +kernel
theorem dX8_keptFor_17 : decode cX8_keptFor 17 = .ok (.lload_n 1, 1) := by decide +kernel
theorem dX8_keptFor_18 : decode cX8_keptFor 18 = .ok (.lcmp, 1) := by decide +kernel
theorem dX8_keptFor_19 : decode cX8_keptFor 19 = .ok (.ifCond .eq 9, 3) := by decide +kernel
theorem dX8_keptFor_22 : decode cX8_keptFor 22 = .ok (.iinc 3 (-1), 3) := by decide +kernel
theorem dX8_keptFor_25 : decode cX8_keptFor 25 = .ok (.goto (-18), 3) := by decide +kernel
theorem dX8_keptFor_28 : decode cX8_keptFor 28 = .ok (.iload_n 3, 1) := by decide +kernel
theorem dX8_keptFor_29 : decode cX8_keptFor 29 = .ok (.ireturn, 1) := by decide +kernel
theorem dX8_settle_0 : decode cX8_settle 0 = .ok (.aload_n 0, 1) := by decide +kernel
theorem dX8_settle_1 : decode cX8_settle 1 = .ok (.getfield 24, 3) := by decide +kernel
theorem dX8_settle_4 : decode cX8_settle 4 = .ok (.iload_n 1, 1) := by decide +kernel
theorem dX8_settle_5 : decode cX8_settle 5 = .ok (.iconst 2, 1) := by decide +kernel
theorem dX8_settle_6 : decode cX8_settle 6 = .ok (.iastore, 1) := by decide +kernel
theorem dX8_settle_7 : decode cX8_settle 7 = .ok (.aload_n 0, 1) := by decide +kernel
theorem dX8_settle_8 : decode cX8_settle 8 = .ok (.getfield 27, 3) := by decide +kernel
theorem dX8_settle_11 : decode cX8_settle 11 = .ok (.iload_n 1, 1) := by decide +kernel
theorem dX8_settle_12 : decode cX8_settle 12 = .ok (.iload_n 2, 1) := by decide +kernel
theorem dX8_settle_13 : decode cX8_settle 13 = .ok (.iastore, 1) := by decide +kernel
theorem dX8_settle_14 : decode cX8_settle 14 = .ok (.aload_n 0, 1) := by decide +kernel
theorem dX8_settle_15 : decode cX8_settle 15 = .ok (.getfield 30, 3) := by decide +kernel
theorem dX8_settle_18 : decode cX8_settle 18 = .ok (.iload_n 1, 1) := by decide +kernel
theorem dX8_settle_19 : decode cX8_settle 19 = .ok (.lload_n 3, 1) := by decide +kernel
theorem dX8_settle_20 : decode cX8_settle 20 = .ok (.lastore, 1) := by decide +kernel
theorem dX8_settle_21 : decode cX8_settle 21 = .ok (.aload_n 0, 1) := by decide +kernel
theorem dX8_settle_22 : decode cX8_settle 22 = .ok (.iload_n 1, 1) := by decide +kernel
theorem dX8_settle_23 : decode cX8_settle 23 = .ok (.invokevirtual 104, 3) := by decide +kernel
theorem dX8_settle_26 : decode cX8_settle 26 = .ok (.return_, 1) := by decide +kernel
theorem dX8_placeInQueue_0 : decode cX8_placeInQueue 0 = .ok (.aload_n 0, 1) := by decide +kernel
theorem dX8_placeInQueue_1 : decode cX8_placeInQueue 1 = .ok (.getfield 108, 3) := by decide +kernel
theorem dX8_placeInQueue_4 : decode cX8_placeInQueue 4 = .ok (.iconst 1, 1) := by decide +kernel
theorem dX8_placeInQueue_5 : decode cX8_placeInQueue 5 = .ok (.isub, 1) := by decide +kernel
theorem dX8_placeInQueue_6 : decode cX8_placeInQueue 6 = .ok (.istore_n 2, 1) := by decide +kernel
theorem dX8_placeInQueue_7 : decode cX8_placeInQueue 7 = .ok (.iload_n 2, 1) := by decide +kernel
theorem dX8_placeInQueue_8 : decode cX8_placeInQueue 8 = .ok (.ifCond .lt 19, 3) := by decide +kernel
theorem dX8_placeInQueue_11 : decode cX8_placeInQueue 11 = .ok (.aload_n 0, 1) := by decide +kernel
theorem dX8_placeInQueue_12 : decode cX8_placeInQueue 12 = .ok (.getfield 39, 3) := by decide +kernel
theorem dX8_placeInQueue_15 : decode cX8_placeInQueue 15 = .ok (.iload_n 2, 1) := by decide +kernel
theorem dX8_placeInQueue_16 : decode cX8_placeInQueue 16 = .ok (.iaload, 1) := by decide +kernel
theorem dX8_placeInQueue_17 : decode cX8_placeInQueue 17 = .ok (.iload_n 1, 1) := by decide +kernel
theorem dX8_placeInQueue_18 : decode cX8_placeInQueue 18 = .ok (.if_icmp .eq 9, 3) := by decide +kernel
theorem dX8_placeInQueue_21 : decode cX8_placeInQueue 21 = .ok (.iinc 2 (-1), 3) := by decide +kernel
theorem dX8_placeInQueue_24 : decode cX8_placeInQueue 24 = .ok (.goto (-17), 3) := by decide +kernel
theorem dX8_placeInQueue_27 : decode cX8_placeInQueue 27 = .ok (.iload_n 2, 1) := by decide +kernel
theorem dX8_placeInQueue_28 : decode cX8_placeInQueue 28 = .ok (.ireturn, 1) := by decide +kernel
theorem dX8_leave_0 : decode cX8_leave 0 = .ok (.aload_n 0, 1) := by decide +kernel
theorem dX8_leave_1 : decode cX8_leave 1 = .ok (.iload_n 1, 1) := by decide +kernel
theorem dX8_leave_2 : decode cX8_leave 2 = .ok (.invokevirtual 111, 3) := by decide +kernel
theorem dX8_leave_5 : decode cX8_leave 5 = .ok (.istore_n 2, 1) := by decide +kernel
theorem dX8_leave_6 : decode cX8_leave 6 = .ok (.iload_n 2, 1) := by decide +kernel
theorem dX8_leave_7 : decode cX8_leave 7 = .ok (.ifCond .lt 45, 3) := by decide +kernel
theorem dX8_leave_10 : decode cX8_leave 10 = .ok (.iload_n 2, 1) := by decide +kernel
theorem dX8_leave_11 : decode cX8_leave 11 = .ok (.istore_n 3, 1) := by decide +kernel
theorem dX8_leave_12 : decode cX8_leave 12 = .ok (.iload_n 3, 1) := by decide +kernel
theorem dX8_leave_13 : decode cX8_leave 13 = .ok (.iconst 1, 1) := by decide +kernel
theorem dX8_leave_14 : decode cX8_leave 14 = .ok (.iadd, 1) := by decide +kernel
theorem dX8_leave_15 : decode cX8_leave 15 = .ok (.aload_n 0, 1) := by decide +kernel
theorem dX8_leave_16 : decode cX8_leave 16 = .ok (.getfield 108, 3) := by decide +kernel
theorem dX8_leave_19 : decode cX8_leave 19 = .ok (.if_icmp .ge 23, 3) := by decide +kernel
theorem dX8_leave_22 : decode cX8_leave 22 = .ok (.aload_n 0, 1) := by decide +kernel
theorem dX8_leave_23 : decode cX8_leave 23 = .ok (.getfield 39, 3) := by decide +kernel
theorem dX8_leave_26 : decode cX8_leave 26 = .ok (.iload_n 3, 1) := by decide +kernel
theorem dX8_leave_27 : decode cX8_leave 27 = .ok (.aload_n 0, 1) := by decide +kernel
theorem dX8_leave_28 : decode cX8_leave 28 = .ok (.getfield 39, 3) := by decide +kernel
theorem dX8_leave_31 : decode cX8_leave 31 = .ok (.iload_n 3, 1) := by decide +kernel
theorem dX8_leave_32 : decode cX8_leave 32 = .ok (.iconst 1, 1) := by decide +kernel
theorem dX8_leave_33 : decode cX8_leave 33 = .ok (.iadd, 1) := by decide +kernel
theorem dX8_leave_34 : decode cX8_leave 34 = .ok (.iaload, 1) := by decide +kernel
theorem dX8_leave_35 : decode cX8_leave 35 = .ok (.iastore, 1) := by decide +kernel
theorem dX8_leave_36 : decode cX8_leave 36 = .ok (.iinc 3 1, 3) := by decide +kernel
theorem dX8_leave_39 : decode cX8_leave 39 = .ok (.goto (-27), 3) := by decide +kernel
theorem dX8_leave_42 : decode cX8_leave 42 = .ok (.aload_n 0, 1) := by decide +kernel
theorem dX8_leave_43 : decode cX8_leave 43 = .ok (.dup, 1) := by decide +kernel
theorem dX8_leave_44 : decode cX8_leave 44 = .ok (.getfield 108, 3) := by decide +kernel
theorem dX8_leave_47 : decode cX8_leave 47 = .ok (.iconst 1, 1) := by decide +kernel
theorem dX8_leave_48 : decode cX8_leave 48 = .ok (.isub, 1) := by decide +kernel
theorem dX8_leave_49 : decode cX8_leave 49 = .ok (.putfield 108, 3) := by decide +kernel
theorem dX8_leave_52 : decode cX8_leave 52 = .ok (.return_, 1) := by decide +kernel
theorem dX8_goOn_0 : decode cX8_goOn 0 = .ok (.aload_n 0, 1) := by decide +kernel
theorem dX8_goOn_1 : decode cX8_goOn 1 = .ok (.iconst 1, 1) := by decide +kernel
theorem dX8_goOn_2 : decode cX8_goOn 2 = .ok (.invokevirtual 115, 3) := by decide +kernel
theorem dX8_goOn_5 : decode cX8_goOn 5 = .ok (.aload_n 0, 1) := by decide +kernel
theorem dX8_goOn_6 : decode cX8_goOn 6 = .ok (.getfield 90, 3) := by decide +kernel
theorem dX8_goOn_9 : decode cX8_goOn 9 = .ok (.if_icmp .ge 97, 3) := by decide +kernel
theorem dX8_goOn_12 : decode cX8_goOn 12 = .ok (.aload_n 0, 1) := by decide +kernel
theorem dX8_goOn_13 : decode cX8_goOn 13 = .ok (.iconst 0, 1) := by decide +kernel
theorem dX8_goOn_14 : decode cX8_goOn 14 = .ok (.invokevirtual 115, 3) := by decide +kernel
theorem dX8_goOn_17 : decode cX8_goOn 17 = .ok (.ifCond .le 89, 3) := by decide +kernel
theorem dX8_goOn_20 : decode cX8_goOn 20 = .ok (.aload_n 0, 1) := by decide +kernel
theorem dX8_goOn_21 : decode cX8_goOn 21 = .ok (.iconst 0, 1) := by decide +kernel
theorem dX8_goOn_22 : decode cX8_goOn 22 = .ok (.invokevirtual 118, 3) := by decide +kernel
theorem dX8_goOn_25 : decode cX8_goOn 25 = .ok (.istore_n 1, 1) := by decide +kernel
theorem dX8_goOn_26 : decode cX8_goOn 26 = .ok (.aload_n 0, 1) := by decide +kernel
theorem dX8_goOn_27 : decode cX8_goOn 27 = .ok (.aload_n 0, 1) := by decide +kernel
theorem dX8_goOn_28 : decode cX8_goOn 28 = .ok (.getfield 17, 3) := by decide +kernel
theorem dX8_goOn_31 : decode cX8_goOn 31 = .ok (.iload_n 1, 1) := by decide +kernel
theorem dX8_goOn_32 : decode cX8_goOn 32 = .ok (.laload, 1) := by decide +kernel
theorem dX8_goOn_33 : decode cX8_goOn 33 = .ok (.invokevirtual 121, 3) := by decide +kernel
theorem dX8_goOn_36 : decode cX8_goOn 36 = .ok (.istore_n 2, 1) := by decide +kernel
theorem dX8_goOn_37 : decode cX8_goOn 37 = .ok (.iload_n 2, 1) := by decide +kernel
theorem dX8_goOn_38 : decode cX8_goOn 38 = .ok (.ifCond .lt 31, 3) := by decide +kernel
theorem dX8_goOn_41 : decode cX8_goOn 41 = .ok (.aload_n 0, 1) := by decide +kernel
theorem dX8_goOn_42 : decode cX8_goOn 42 = .ok (.getfield 75, 3) := by decide +kernel
theorem dX8_goOn_45 : decode cX8_goOn 45 = .ok (.iload_n 2, 1) := by decide +kernel
theorem dX8_goOn_46 : decode cX8_goOn 46 = .ok (.iaload, 1) := by decide +kernel
theorem dX8_goOn_47 : decode cX8_goOn 47 = .ok (.aload_n 0, 1) := by decide +kernel
theorem dX8_goOn_48 : decode cX8_goOn 48 = .ok (.getfield 125, 3) := by decide +kernel
theorem dX8_goOn_51 : decode cX8_goOn 51 = .ok (.if_icmp .lt 18, 3) := by decide +kernel
theorem dX8_goOn_54 : decode cX8_goOn 54 = .ok (.aload_n 0, 1) := by decide +kernel
theorem dX8_goOn_55 : decode cX8_goOn 55 = .ok (.iload_n 1, 1) := by decide +kernel
theorem dX8_goOn_56 : decode cX8_goOn 56 = .ok (.iconst 1, 1) := by decide +kernel
theorem dX8_goOn_57 : decode cX8_goOn 57 = .ok (.aload_n 0, 1) := by decide +kernel
theorem dX8_goOn_58 : decode cX8_goOn 58 = .ok (.getfield 72, 3) := by decide +kernel
theorem dX8_goOn_61 : decode cX8_goOn 61 = .ok (.iload_n 2, 1) := by decide +kernel
theorem dX8_goOn_62 : decode cX8_goOn 62 = .ok (.laload, 1) := by decide +kernel
theorem dX8_goOn_63 : decode cX8_goOn 63 = .ok (.invokevirtual 128, 3) := by decide +kernel
theorem dX8_goOn_66 : decode cX8_goOn 66 = .ok (.goto 37, 3) := by decide +kernel
theorem dX8_goOn_69 : decode cX8_goOn 69 = .ok (.aload_n 0, 1) := by decide +kernel
theorem dX8_goOn_70 : decode cX8_goOn 70 = .ok (.getfield 24, 3) := by decide +kernel
theorem dX8_goOn_73 : decode cX8_goOn 73 = .ok (.iload_n 1, 1) := by decide +kernel
theorem dX8_goOn_74 : decode cX8_goOn 74 = .ok (.iconst 1, 1) := by decide +kernel
theorem dX8_goOn_75 : decode cX8_goOn 75 = .ok (.iastore, 1) := by decide +kernel
theorem dX8_goOn_76 : decode cX8_goOn 76 = .ok (.aload_n 0, 1) := by decide +kernel
theorem dX8_goOn_77 : decode cX8_goOn 77 = .ok (.getfield 33, 3) := by decide +kernel
theorem dX8_goOn_80 : decode cX8_goOn 80 = .ok (.iload_n 1, 1) := by decide +kernel
theorem dX8_goOn_81 : decode cX8_goOn 81 = .ok (.iconst 1, 1) := by decide +kernel
theorem dX8_goOn_82 : decode cX8_goOn 82 = .ok (.iastore, 1) := by decide +kernel
theorem dX8_goOn_83 : decode cX8_goOn 83 = .ok (.aload_n 0, 1) := by decide +kernel
theorem dX8_goOn_84 : decode cX8_goOn 84 = .ok (.getfield 39, 3) := by decide +kernel
theorem dX8_goOn_87 : decode cX8_goOn 87 = .ok (.aload_n 0, 1) := by decide +kernel
theorem dX8_goOn_88 : decode cX8_goOn 88 = .ok (.getfield 108, 3) := by decide +kernel
theorem dX8_goOn_91 : decode cX8_goOn 91 = .ok (.iload_n 1, 1) := by decide +kernel
theorem dX8_goOn_92 : decode cX8_goOn 92 = .ok (.iastore, 1) := by decide +kernel
theorem dX8_goOn_93 : decode cX8_goOn 93 = .ok (.aload_n 0, 1) := by decide +kernel
theorem dX8_goOn_94 : decode cX8_goOn 94 = .ok (.dup, 1) := by decide +kernel
theorem dX8_goOn_95 : decode cX8_goOn 95 = .ok (.getfield 108, 3) := by decide +kernel
theorem dX8_goOn_98 : decode cX8_goOn 98 = .ok (.iconst 1, 1) := by decide +kernel
theorem dX8_goOn_99 : decode cX8_goOn 99 = .ok (.iadd, 1) := by decide +kernel
theorem dX8_goOn_100 : decode cX8_goOn 100 = .ok (.putfield 108, 3) := by decide +kernel
theorem dX8_goOn_103 : decode cX8_goOn 103 = .ok (.goto (-103), 3) := by decide +kernel
theorem dX8_goOn_106 : decode cX8_goOn 106 = .ok (.aload_n 0, 1) := by decide +kernel
theorem dX8_goOn_107 : decode cX8_goOn 107 = .ok (.getfield 132, 3) := by decide +kernel
theorem dX8_goOn_110 : decode cX8_goOn 110 = .ok (.aload_n 0, 1) := by decide +kernel
theorem dX8_goOn_111 : decode cX8_goOn 111 = .ok (.getfield 7, 3) := by decide +kernel
theorem dX8_goOn_114 : decode cX8_goOn 114 = .ok (.iconst 2, 1) := by decide +kernel
theorem dX8_goOn_115 : decode cX8_goOn 115 = .ok (.iaload, 1) := by decide +kernel
theorem dX8_goOn_116 : decode cX8_goOn 116 = .ok (.if_icmp .ge 70, 3) := by decide +kernel
theorem dX8_goOn_119 : decode cX8_goOn 119 = .ok (.aload_n 0, 1) := by decide +kernel
theorem dX8_goOn_120 : decode cX8_goOn 120 = .ok (.getfield 108, 3) := by decide +kernel
theorem dX8_goOn_123 : decode cX8_goOn 123 = .ok (.ifCond .le 63, 3) := by decide +kernel
theorem dX8_goOn_126 : decode cX8_goOn 126 = .ok (.aload_n 0, 1) := by decide +kernel
theorem dX8_goOn_127 : decode cX8_goOn 127 = .ok (.getfield 39, 3) := by decide +kernel
theorem dX8_goOn_130 : decode cX8_goOn 130 = .ok (.iconst 0, 1) := by decide +kernel
theorem dX8_goOn_131 : decode cX8_goOn 131 = .ok (.iaload, 1) := by decide +kernel
theorem dX8_goOn_132 : decode cX8_goOn 132 = .ok (.istore_n 1, 1) := by decide +kernel
theorem dX8_goOn_133 : decode cX8_goOn 133 = .ok (.aload_n 0, 1) := by decide +kernel
theorem dX8_goOn_134 : decode cX8_goOn 134 = .ok (.iload_n 1, 1) := by decide +kernel
theorem dX8_goOn_135 : decode cX8_goOn 135 = .ok (.invokevirtual 104, 3) := by decide +kernel
theorem dX8_goOn_138 : decode cX8_goOn 138 = .ok (.aload_n 0, 1) := by decide +kernel
theorem dX8_goOn_139 : decode cX8_goOn 139 = .ok (.getfield 36, 3) := by decide +kernel
theorem dX8_goOn_142 : decode cX8_goOn 142 = .ok (.iload_n 1, 1) := by decide +kernel
theorem dX8_goOn_143 : decode cX8_goOn 143 = .ok (.aload_n 0, 1) := by decide +kernel
theorem dX8_goOn_144 : decode cX8_goOn 144 = .ok (.getfield 125, 3) := by decide +kernel
theorem dX8_goOn_147 : decode cX8_goOn 147 = .ok (.aload_n 0, 1) := by decide +kernel
theorem dX8_goOn_148 : decode cX8_goOn 148 = .ok (.getfield 7, 3) := by decide +kernel
theorem dX8_goOn_151 : decode cX8_goOn 151 = .ok (.iconst 0, 1) := by decide +kernel
theorem dX8_goOn_152 : decode cX8_goOn 152 = .ok (.iaload, 1) := by decide +kernel
theorem dX8_goOn_153 : decode cX8_goOn 153 = .ok (.iadd, 1) := by decide +kernel
theorem dX8_goOn_154 : decode cX8_goOn 154 = .ok (.iastore, 1) := by decide +kernel
theorem dX8_goOn_155 : decode cX8_goOn 155 = .ok (.aload_n 0, 1) := by decide +kernel
theorem dX8_goOn_156 : decode cX8_goOn 156 = .ok (.dup, 1) := by decide +kernel
theorem dX8_goOn_157 : decode cX8_goOn 157 = .ok (.getfield 132, 3) := by decide +kernel
theorem dX8_goOn_160 : decode cX8_goOn 160 = .ok (.iconst 1, 1) := by decide +kernel
theorem dX8_goOn_161 : decode cX8_goOn 161 = .ok (.iadd, 1) := by decide +kernel
theorem dX8_goOn_162 : decode cX8_goOn 162 = .ok (.putfield 132, 3) := by decide +kernel
theorem dX8_goOn_165 : decode cX8_goOn 165 = .ok (.aload_n 0, 1) := by decide +kernel
theorem dX8_goOn_166 : decode cX8_goOn 166 = .ok (.dup, 1) := by decide +kernel
theorem dX8_goOn_167 : decode cX8_goOn 167 = .ok (.getfield 135, 3) := by decide +kernel
theorem dX8_goOn_170 : decode cX8_goOn 170 = .ok (.iconst 1, 1) := by decide +kernel
theorem dX8_goOn_171 : decode cX8_goOn 171 = .ok (.iadd, 1) := by decide +kernel
theorem dX8_goOn_172 : decode cX8_goOn 172 = .ok (.putfield 135, 3) := by decide +kernel
theorem dX8_goOn_175 : decode cX8_goOn 175 = .ok (.aload_n 0, 1) := by decide +kernel
theorem dX8_goOn_176 : decode cX8_goOn 176 = .ok (.iconst 0, 1) := by decide +kernel
theorem dX8_goOn_177 : decode cX8_goOn 177 = .ok (.iload_n 1, 1) := by decide +kernel
theorem dX8_goOn_178 : decode cX8_goOn 178 = .ok (.iconst 0, 1) := by decide +kernel
theorem dX8_goOn_179 : decode cX8_goOn 179 = .ok (.lconst 0, 1) := by decide +kernel
theorem dX8_goOn_180 : decode cX8_goOn 180 = .ok (.invokevirtual 138, 3) := by decide +kernel
theorem dX8_goOn_183 : decode cX8_goOn 183 = .ok (.goto (-77), 3) := by decide +kernel
theorem dX8_goOn_186 : decode cX8_goOn 186 = .ok (.aload_n 0, 1) := by decide +kernel
theorem dX8_goOn_187 : decode cX8_goOn 187 = .ok (.invokevirtual 142, 3) := by decide +kernel
theorem dX8_goOn_190 : decode cX8_goOn 190 = .ok (.istore_n 1, 1) := by decide +kernel
theorem dX8_goOn_191 : decode cX8_goOn 191 = .ok (.iload_n 1, 1) := by decide +kernel
theorem dX8_goOn_192 : decode cX8_goOn 192 = .ok (.ifCond .lt 51, 3) := by decide +kernel
theorem dX8_goOn_195 : decode cX8_goOn 195 = .ok (.aload_n 0, 1) := by decide +kernel
theorem dX8_goOn_196 : decode cX8_goOn 196 = .ok (.getfield 24, 3) := by decide +kernel
theorem dX8_goOn_199 : decode cX8_goOn 199 = .ok (.iload_n 1, 1) := by decide +kernel
theorem dX8_goOn_200 : decode cX8_goOn 200 = .ok (.iconst 3, 1) := by decide +kernel
theorem dX8_goOn_201 : decode cX8_goOn 201 = .ok (.iastore, 1) := by decide +kernel
theorem dX8_goOn_202 : decode cX8_goOn 202 = .ok (.aload_n 0, 1) := by decide +kernel
theorem dX8_goOn_203 : decode cX8_goOn 203 = .ok (.getfield 42, 3) := by decide +kernel
theorem dX8_goOn_206 : decode cX8_goOn 206 = .ok (.aload_n 0, 1) := by decide +kernel
theorem dX8_goOn_207 : decode cX8_goOn 207 = .ok (.getfield 146, 3) := by decide +kernel
theorem dX8_goOn_210 : decode cX8_goOn 210 = .ok (.iload_n 1, 1) := by decide +kernel
theorem dX8_goOn_211 : decode cX8_goOn 211 = .ok (.iastore, 1) := by decide +kernel
theorem dX8_goOn_212 : decode cX8_goOn 212 = .ok (.aload_n 0, 1) := by decide +kernel
theorem dX8_goOn_213 : decode cX8_goOn 213 = .ok (.getfield 45, 3) := by decide +kernel
theorem dX8_goOn_216 : decode cX8_goOn 216 = .ok (.aload_n 0, 1) := by decide +kernel
theorem dX8_goOn_217 : decode cX8_goOn 217 = .ok (.getfield 146, 3) := by decide +kernel
theorem dX8_goOn_220 : decode cX8_goOn 220 = .ok (.aload_n 0, 1) := by decide +kernel
theorem dX8_goOn_221 : decode cX8_goOn 221 = .ok (.getfield 125, 3) := by decide +kernel
theorem dX8_goOn_224 : decode cX8_goOn 224 = .ok (.iastore, 1) := by decide +kernel
theorem dX8_goOn_225 : decode cX8_goOn 225 = .ok (.aload_n 0, 1) := by decide +kernel
theorem dX8_goOn_226 : decode cX8_goOn 226 = .ok (.dup, 1) := by decide +kernel
theorem dX8_goOn_227 : decode cX8_goOn 227 = .ok (.getfield 146, 3) := by decide +kernel
theorem dX8_goOn_230 : decode cX8_goOn 230 = .ok (.iconst 1, 1) := by decide +kernel
theorem dX8_goOn_231 : decode cX8_goOn 231 = .ok (.iadd, 1) := by decide +kernel
theorem dX8_goOn_232 : decode cX8_goOn 232 = .ok (.putfield 146, 3) := by decide +kernel
theorem dX8_goOn_235 : decode cX8_goOn 235 = .ok (.aload_n 0, 1) := by decide +kernel
theorem dX8_goOn_236 : decode cX8_goOn 236 = .ok (.invokevirtual 142, 3) := by decide +kernel
theorem dX8_goOn_239 : decode cX8_goOn 239 = .ok (.istore_n 1, 1) := by decide +kernel
theorem dX8_goOn_240 : decode cX8_goOn 240 = .ok (.goto (-49), 3) := by decide +kernel
theorem dX8_goOn_243 : decode cX8_goOn 243 = .ok (.return_, 1) := by decide +kernel
theorem dX8_nextOut_0 : decode cX8_nextOut 0 = .ok (.iconst 1, 1) := by decide +kernel
theorem dX8_nextOut_1 : decode cX8_nextOut 1 = .ok (.istore_n 1, 1) := by decide +kernel
theorem dX8_nextOut_2 : decode cX8_nextOut 2 = .ok (.iconst 1, 1) := by decide +kernel
theorem dX8_nextOut_3 : decode cX8_nextOut 3 = .ok (.istore_n 2, 1) := by decide +kernel
theorem dX8_nextOut_4 : decode cX8_nextOut 4 = .ok (.iconst 0, 1) := by decide +kernel
theorem dX8_nextOut_5 : decode cX8_nextOut 5 = .ok (.istore_n 3, 1) := by decide +kernel
theorem dX8_nextOut_6 : decode cX8_nextOut 6 = .ok (.iload_n 3, 1) := by decide +kernel
theorem dX8_nextOut_7 : decode cX8_nextOut 7 = .ok (.aload_n 0, 1) := by decide +kernel
theorem dX8_nextOut_8 : decode cX8_nextOut 8 = .ok (.getfield 98, 3) := by decide +kernel
theorem dX8_nextOut_11 : decode cX8_nextOut 11 = .ok (.if_icmp .ge 103, 3) := by decide +kernel
theorem dX8_nextOut_14 : decode cX8_nextOut 14 = .ok (.aload_n 0, 1) := by decide +kernel
theorem dX8_nextOut_15 : decode cX8_nextOut 15 = .ok (.getfield 94, 3) := by decide +kernel
theorem dX8_nextOut_18 : decode cX8_nextOut 18 = .ok (.ifCond .ne 12, 3) := by decide +kernel
theorem dX8_nextOut_21 : decode cX8_nextOut 21 = .ok (.aload_n 0, 1) := by decide +kernel
theorem dX8_nextOut_22 : decode cX8_nextOut 22 = .ok (.getfield 13, 3) := by decide +kernel
theorem dX8_nextOut_25 : decode cX8_nextOut 25 = .ok (.iload_n 3, 1) := by decide +kernel
theorem dX8_nextOut_26 : decode cX8_nextOut 26 = .ok (.baload, 1) := by decide +kernel
theorem dX8_nextOut_27 : decode cX8_nextOut 27 = .ok (.ifCond .eq 7, 3) := by decide +kernel
theorem dX8_nextOut_30 : decode cX8_nextOut 30 = .ok (.iload_n 1, 1) := by decide +kernel
theorem dX8_nextOut_31 : decode cX8_nextOut 31 = .ok (.goto 4, 3) := by decide +kernel
theorem dX8_nextOut_34 : decode cX8_nextOut 34 = .ok (.iload_n 2, 1) := by decide +kernel
theorem dX8_nextOut_35 : decode cX8_nextOut 35 = .ok (.istore 4, 2) := by decide +kernel
theorem dX8_nextOut_37 : decode cX8_nextOut 37 = .ok (.aload_n 0, 1) := by decide +kernel
theorem dX8_nextOut_38 : decode cX8_nextOut 38 = .ok (.getfield 24, 3) := by decide +kernel
theorem dX8_nextOut_41 : decode cX8_nextOut 41 = .ok (.iload_n 3, 1) := by decide +kernel
theorem dX8_nextOut_42 : decode cX8_nextOut 42 = .ok (.iaload, 1) := by decide +kernel
theorem dX8_nextOut_43 : decode cX8_nextOut 43 = .ok (.iconst 2, 1) := by decide +kernel
theorem dX8_nextOut_44 : decode cX8_nextOut 44 = .ok (.if_icmp .ne 10, 3) := by decide +kernel
theorem dX8_nextOut_47 : decode cX8_nextOut 47 = .ok (.iload 4, 2) := by decide +kernel
theorem dX8_nextOut_49 : decode cX8_nextOut 49 = .ok (.ifCond .eq 5, 3) := by decide +kernel
theorem dX8_nextOut_52 : decode cX8_nextOut 52 = .ok (.iload_n 3, 1) := by decide +kernel
theorem dX8_nextOut_53 : decode cX8_nextOut 53 = .ok (.ireturn, 1) := by decide +kernel
theorem dX8_nextOut_54 : decode cX8_nextOut 54 = .ok (.aload_n 0, 1) := by decide +kernel
theorem dX8_nextOut_55 : decode cX8_nextOut 55 = .ok (.getfield 24, 3) := by decide +kernel
theorem dX8_nextOut_58 : decode cX8_nextOut 58 = .ok (.iload_n 3, 1) := by decide +kernel
theorem dX8_nextOut_59 : decode cX8_nextOut 59 = .ok (.iaload, 1) := by decide +kernel
theorem dX8_nextOut_60 : decode cX8_nextOut 60 = .ok (.iconst 3, 1) := by decide +kernel
theorem dX8_nextOut_61 : decode cX8_nextOut 61 = .ok (.if_icmp .eq 13, 3) := by decide +kernel
theorem dX8_nextOut_64 : decode cX8_nextOut 64 = .ok (.aload_n 0, 1) := by decide +kernel
theorem dX8_nextOut_65 : decode cX8_nextOut 65 = .ok (.getfield 24, 3) := by decide +kernel
theorem dX8_nextOut_68 : decode cX8_nextOut 68 = .ok (.iload_n 3, 1) := by decide +kernel
theorem dX8_nextOut_69 : decode cX8_nextOut 69 = .ok (.iaload, 1) := by decide +kernel
theorem dX8_nextOut_70 : decode cX8_nextOut 70 = .ok (.iconst 4, 1) := by decide +kernel
theorem dX8_nextOut_71 : decode cX8_nextOut 71 = .ok (.if_icmp .ne 7, 3) := by decide +kernel
theorem dX8_nextOut_74 : decode cX8_nextOut 74 = .ok (.iconst 1, 1) := by decide +kernel
theorem dX8_nextOut_75 : decode cX8_nextOut 75 = .ok (.goto 4, 3) := by decide +kernel
theorem dX8_nextOut_78 : decode cX8_nextOut 78 = .ok (.iconst 0, 1) := by decide +kernel
theorem dX8_nextOut_79 : decode cX8_nextOut 79 = .ok (.istore 5, 2) := by decide +kernel
theorem dX8_nextOut_81 : decode cX8_nextOut 81 = .ok (.iload_n 1, 1) := by decide +kernel
theorem dX8_nextOut_82 : decode cX8_nextOut 82 = .ok (.iload 5, 2) := by decide +kernel
theorem dX8_nextOut_84 : decode cX8_nextOut 84 = .ok (.iand, 1) := by decide +kernel
theorem dX8_nextOut_85 : decode cX8_nextOut 85 = .ok (.istore_n 1, 1) := by decide +kernel
theorem dX8_nextOut_86 : decode cX8_nextOut 86 = .ok (.iload_n 2, 1) := by decide +kernel
theorem dX8_nextOut_87 : decode cX8_nextOut 87 = .ok (.iload 5, 2) := by decide +kernel
theorem dX8_nextOut_89 : decode cX8_nextOut 89 = .ok (.ifCond .ne 12, 3) := by decide +kernel
theorem dX8_nextOut_92 : decode cX8_nextOut 92 = .ok (.aload_n 0, 1) := by decide +kernel
theorem dX8_nextOut_93 : decode cX8_nextOut 93 = .ok (.getfield 13, 3) := by decide +kernel
theorem dX8_nextOut_96 : decode cX8_nextOut 96 = .ok (.iload_n 3, 1) := by decide +kernel
theorem dX8_nextOut_97 : decode cX8_nextOut 97 = .ok (.baload, 1) := by decide +kernel
theorem dX8_nextOut_98 : decode cX8_nextOut 98 = .ok (.ifCond .ne 7, 3) := by decide +kernel
theorem dX8_nextOut_101 : decode cX8_nextOut 101 = .ok (.iconst 1, 1) := by decide +kernel
theorem dX8_nextOut_102 : decode cX8_nextOut 102 = .ok (.goto 4, 3) := by decide +kernel
theorem dX8_nextOut_105 : decode cX8_nextOut 105 = .ok (.iconst 0, 1) := by decide +kernel
theorem dX8_nextOut_106 : decode cX8_nextOut 106 = .ok (.iand, 1) := by decide +kernel
theorem dX8_nextOut_107 : decode cX8_nextOut 107 = .ok (.istore_n 2, 1) := by decide +kernel
theorem dX8_nextOut_108 : decode cX8_nextOut 108 = .ok (.iinc 3 1, 3) := by decide +kernel
theorem dX8_nextOut_111 : decode cX8_nextOut 111 = .ok (.goto (-105), 3) := by decide +kernel
theorem dX8_nextOut_114 : decode cX8_nextOut 114 = .ok (.iconst (-1), 1) := by decide +kernel
theorem dX8_nextOut_115 : decode cX8_nextOut 115 = .ok (.ireturn, 1) := by decide +kernel
theorem dX8_send_0 : decode cX8_send 0 = .ok (.aload_n 0, 1) := by decide +kernel
theorem dX8_send_1 : decode cX8_send 1 = .ok (.getfield 57, 3) := by decide +kernel
theorem dX8_send_4 : decode cX8_send 4 = .ok (.iload_n 1, 1) := by decide +kernel
theorem dX8_send_5 : decode cX8_send 5 = .ok (.iaload, 1) := by decide +kernel
theorem dX8_send_6 : decode cX8_send 6 = .ok (.istore 6, 2) := by decide +kernel
theorem dX8_send_8 : decode cX8_send 8 = .ok (.iload 6, 2) := by decide +kernel
theorem dX8_send_10 : decode cX8_send 10 = .ok (.bipush 100, 2) := by decide +kernel
theorem dX8_send_12 : decode cX8_send 12 = .ok (.if_icmp .ge 53, 3) := by decide +kernel
theorem dX8_send_15 : decode cX8_send 15 = .ok (.aload_n 0, 1) := by decide +kernel
theorem dX8_send_16 : decode cX8_send 16 = .ok (.getfield 48, 3) := by decide +kernel
theorem dX8_send_19 : decode cX8_send 19 = .ok (.bipush 100, 2) := by decide +kernel
theorem dX8_send_21 : decode cX8_send 21 = .ok (.iload_n 1, 1) := by decide +kernel
theorem dX8_send_22 : decode cX8_send 22 = .ok (.imul, 1) := by decide +kernel
theorem dX8_send_23 : decode cX8_send 23 = .ok (.iload 6, 2) := by decide +kernel
theorem dX8_send_25 : decode cX8_send 25 = .ok (.iadd, 1) := by decide +kernel
theorem dX8_send_26 : decode cX8_send 26 = .ok (.iload_n 2, 1) := by decide +kernel
theorem dX8_send_27 : decode cX8_send 27 = .ok (.iastore, 1) := by decide +kernel
theorem dX8_send_28 : decode cX8_send 28 = .ok (.aload_n 0, 1) := by decide +kernel
theorem dX8_send_29 : decode cX8_send 29 = .ok (.getfield 51, 3) := by decide +kernel
theorem dX8_send_32 : decode cX8_send 32 = .ok (.bipush 100, 2) := by decide +kernel
theorem dX8_send_34 : decode cX8_send 34 = .ok (.iload_n 1, 1) := by decide +kernel
theorem dX8_send_35 : decode cX8_send 35 = .ok (.imul, 1) := by decide +kernel
theorem dX8_send_36 : decode cX8_send 36 = .ok (.iload 6, 2) := by decide +kernel
theorem dX8_send_38 : decode cX8_send 38 = .ok (.iadd, 1) := by decide +kernel
theorem dX8_send_39 : decode cX8_send 39 = .ok (.iload_n 3, 1) := by decide +kernel
theorem dX8_send_40 : decode cX8_send 40 = .ok (.iastore, 1) := by decide +kernel
theorem dX8_send_41 : decode cX8_send 41 = .ok (.aload_n 0, 1) := by decide +kernel
theorem dX8_send_42 : decode cX8_send 42 = .ok (.getfield 54, 3) := by decide +kernel
theorem dX8_send_45 : decode cX8_send 45 = .ok (.bipush 100, 2) := by decide +kernel
theorem dX8_send_47 : decode cX8_send 47 = .ok (.iload_n 1, 1) := by decide +kernel
theorem dX8_send_48 : decode cX8_send 48 = .ok (.imul, 1) := by decide +kernel
theorem dX8_send_49 : decode cX8_send 49 = .ok (.iload 6, 2) := by decide +kernel
theorem dX8_send_51 : decode cX8_send 51 = .ok (.iadd, 1) := by decide +kernel
theorem dX8_send_52 : decode cX8_send 52 = .ok (.lload 4, 2) := by decide +kernel
theorem dX8_send_54 : decode cX8_send 54 = .ok (.lastore, 1) := by decide +kernel
theorem dX8_send_55 : decode cX8_send 55 = .ok (.aload_n 0, 1) := by decide +kernel
theorem dX8_send_56 : decode cX8_send 56 = .ok (.getfield 57, 3) := by decide +kernel
theorem dX8_send_59 : decode cX8_send 59 = .ok (.iload_n 1, 1) := by decide +kernel
theorem dX8_send_60 : decode cX8_send 60 = .ok (.dup2, 1) := by decide +kernel
theorem dX8_send_61 : decode cX8_send 61 = .ok (.iaload, 1) := by decide +kernel
theorem dX8_send_62 : decode cX8_send 62 = .ok (.iconst 1, 1) := by decide +kernel
theorem dX8_send_63 : decode cX8_send 63 = .ok (.iadd, 1) := by decide +kernel
theorem dX8_send_64 : decode cX8_send 64 = .ok (.iastore, 1) := by decide +kernel
theorem dX8_send_65 : decode cX8_send 65 = .ok (.return_, 1) := by decide +kernel
theorem dX8_take_0 : decode cX8_take 0 = .ok (.bipush 100, 2) := by decide +kernel
theorem dX8_take_2 : decode cX8_take 2 = .ok (.iload_n 1, 1) := by decide +kernel
theorem dX8_take_3 : decode cX8_take 3 = .ok (.imul, 1) := by decide +kernel
theorem dX8_take_4 : decode cX8_take 4 = .ok (.iload_n 2, 1) := by decide +kernel
theorem dX8_take_5 : decode cX8_take 5 = .ok (.iadd, 1) := by decide +kernel
theorem dX8_take_6 : decode cX8_take 6 = .ok (.istore_n 3, 1) := by decide +kernel
theorem dX8_take_7 : decode cX8_take 7 = .ok (.iload_n 3, 1) := by decide +kernel
theorem dX8_take_8 : decode cX8_take 8 = .ok (.iconst 1, 1) := by decide +kernel
theorem dX8_take_9 : decode cX8_take 9 = .ok (.iadd, 1) := by decide +kernel
theorem dX8_take_10 : decode cX8_take 10 = .ok (.bipush 100, 2) := by decide +kernel
theorem dX8_take_12 : decode cX8_take 12 = .ok (.iload_n 1, 1) := by decide +kernel
theorem dX8_take_13 : decode cX8_take 13 = .ok (.imul, 1) := by decide +kernel
theorem dX8_take_14 : decode cX8_take 14 = .ok (.aload_n 0, 1) := by decide +kernel
theorem dX8_take_15 : decode cX8_take 15 = .ok (.getfield 57, 3) := by decide +kernel
theorem dX8_take_18 : decode cX8_take 18 = .ok (.iload_n 1, 1) := by decide +kernel
theorem dX8_take_19 : decode cX8_take 19 = .ok (.iaload, 1) := by decide +kernel
theorem dX8_take_20 : decode cX8_take 20 = .ok (.iadd, 1) := by decide +kernel
theorem dX8_take_21 : decode cX8_take 21 = .ok (.if_icmp .ge 51, 3) := by decide +kernel
theorem dX8_take_24 : decode cX8_take 24 = .ok (.aload_n 0, 1) := by decide +kernel
theorem dX8_take_25 : decode cX8_take 25 = .ok (.getfield 48, 3) := by decide +kernel
theorem dX8_take_28 : decode cX8_take 28 = .ok (.iload_n 3, 1) := by decide +kernel
theorem dX8_take_29 : decode cX8_take 29 = .ok (.aload_n 0, 1) := by decide +kernel
theorem dX8_take_30 : decode cX8_take 30 = .ok (.getfield 48, 3) := by decide +kernel
theorem dX8_take_33 : decode cX8_take 33 = .ok (.iload_n 3, 1) := by decide +kernel
theorem dX8_take_34 : decode cX8_take 34 = .ok (.iconst 1, 1) := by decide +kernel
theorem dX8_take_35 : decode cX8_take 35 = .ok (.iadd, 1) := by decide +kernel
theorem dX8_take_36 : decode cX8_take 36 = .ok (.iaload, 1) := by decide +kernel
theorem dX8_take_37 : decode cX8_take 37 = .ok (.iastore, 1) := by decide +kernel
theorem dX8_take_38 : decode cX8_take 38 = .ok (.aload_n 0, 1) := by decide +kernel
theorem dX8_take_39 : decode cX8_take 39 = .ok (.getfield 51, 3) := by decide +kernel
theorem dX8_take_42 : decode cX8_take 42 = .ok (.iload_n 3, 1) := by decide +kernel
theorem dX8_take_43 : decode cX8_take 43 = .ok (.aload_n 0, 1) := by decide +kernel
theorem dX8_take_44 : decode cX8_take 44 = .ok (.getfield 51, 3) := by decide +kernel
theorem dX8_take_47 : decode cX8_take 47 = .ok (.iload_n 3, 1) := by decide +kernel
theorem dX8_take_48 : decode cX8_take 48 = .ok (.iconst 1, 1) := by decide +kernel
theorem dX8_take_49 : decode cX8_take 49 = .ok (.iadd, 1) := by decide +kernel
theorem dX8_take_50 : decode cX8_take 50 = .ok (.iaload, 1) := by decide +kernel
theorem dX8_take_51 : decode cX8_take 51 = .ok (.iastore, 1) := by decide +kernel
theorem dX8_take_52 : decode cX8_take 52 = .ok (.aload_n 0, 1) := by decide +kernel
theorem dX8_take_53 : decode cX8_take 53 = .ok (.getfield 54, 3) := by decide +kernel
theorem dX8_take_56 : decode cX8_take 56 = .ok (.iload_n 3, 1) := by decide +kernel
theorem dX8_take_57 : decode cX8_take 57 = .ok (.aload_n 0, 1) := by decide +kernel
theorem dX8_take_58 : decode cX8_take 58 = .ok (.getfield 54, 3) := by decide +kernel
theorem dX8_take_61 : decode cX8_take 61 = .ok (.iload_n 3, 1) := by decide +kernel
theorem dX8_take_62 : decode cX8_take 62 = .ok (.iconst 1, 1) := by decide +kernel
theorem dX8_take_63 : decode cX8_take 63 = .ok (.iadd, 1) := by decide +kernel
theorem dX8_take_64 : decode cX8_take 64 = .ok (.laload, 1) := by decide +kernel
theorem dX8_take_65 : decode cX8_take 65 = .ok (.lastore, 1) := by decide +kernel
theorem dX8_take_66 : decode cX8_take 66 = .ok (.iinc 3 1, 3) := by decide +kernel
theorem dX8_take_69 : decode cX8_take 69 = .ok (.goto (-62), 3) := by decide +kernel
theorem dX8_take_72 : decode cX8_take 72 = .ok (.aload_n 0, 1) := by decide +kernel
theorem dX8_take_73 : decode cX8_take 73 = .ok (.getfield 57, 3) := by decide +kernel
theorem dX8_take_76 : decode cX8_take 76 = .ok (.iload_n 1, 1) := by decide +kernel
theorem dX8_take_77 : decode cX8_take 77 = .ok (.dup2, 1) := by decide +kernel
theorem dX8_take_78 : decode cX8_take 78 = .ok (.iaload, 1) := by decide +kernel
theorem dX8_take_79 : decode cX8_take 79 = .ok (.iconst 1, 1) := by decide +kernel
theorem dX8_take_80 : decode cX8_take 80 = .ok (.isub, 1) := by decide +kernel
theorem dX8_take_81 : decode cX8_take 81 = .ok (.iastore, 1) := by decide +kernel
theorem dX8_take_82 : decode cX8_take 82 = .ok (.return_, 1) := by decide +kernel
theorem dX8_again_0 : decode cX8_again 0 = .ok (.aload_n 0, 1) := by decide +kernel
theorem dX8_again_1 : decode cX8_again 1 = .ok (.getfield 33, 3) := by decide +kernel
theorem dX8_again_4 : decode cX8_again 4 = .ok (.iload_n 1, 1) := by decide +kernel
theorem dX8_again_5 : decode cX8_again 5 = .ok (.iaload, 1) := by decide +kernel
theorem dX8_again_6 : decode cX8_again 6 = .ok (.aload_n 0, 1) := by decide +kernel
theorem dX8_again_7 : decode cX8_again 7 = .ok (.getfield 7, 3) := by decide +kernel
theorem dX8_again_10 : decode cX8_again 10 = .ok (.iconst 1, 1) := by decide +kernel
theorem dX8_again_11 : decode cX8_again 11 = .ok (.iaload, 1) := by decide +kernel
theorem dX8_again_12 : decode cX8_again 12 = .ok (.if_icmp .lt 5, 3) := by decide +kernel
theorem dX8_again_15 : decode cX8_again 15 = .ok (.iconst 0, 1) := by decide +kernel
theorem dX8_again_16 : decode cX8_again 16 = .ok (.ireturn, 1) := by decide +kernel
theorem dX8_again_17 : decode cX8_again 17 = .ok (.aload_n 0, 1) := by decide +kernel
theorem dX8_again_18 : decode cX8_again 18 = .ok (.getfield 33, 3) := by decide +kernel
theorem dX8_again_21 : decode cX8_again 21 = .ok (.iload_n 1, 1) := by decide +kernel
theorem dX8_again_22 : decode cX8_again 22 = .ok (.dup2, 1) := by decide +kernel
theorem dX8_again_23 : decode cX8_again 23 = .ok (.iaload, 1) := by decide +kernel
theorem dX8_again_24 : decode cX8_again 24 = .ok (.iconst 1, 1) := by decide +kernel
theorem dX8_again_25 : decode cX8_again 25 = .ok (.iadd, 1) := by decide +kernel
theorem dX8_again_26 : decode cX8_again 26 = .ok (.iastore, 1) := by decide +kernel
theorem dX8_again_27 : decode cX8_again 27 = .ok (.aload_n 0, 1) := by decide +kernel
theorem dX8_again_28 : decode cX8_again 28 = .ok (.getfield 39, 3) := by decide +kernel
theorem dX8_again_31 : decode cX8_again 31 = .ok (.aload_n 0, 1) := by decide +kernel
theorem dX8_again_32 : decode cX8_again 32 = .ok (.getfield 108, 3) := by decide +kernel
theorem dX8_again_35 : decode cX8_again 35 = .ok (.iload_n 1, 1) := by decide +kernel
theorem dX8_again_36 : decode cX8_again 36 = .ok (.iastore, 1) := by decide +kernel
theorem dX8_again_37 : decode cX8_again 37 = .ok (.aload_n 0, 1) := by decide +kernel
theorem dX8_again_38 : decode cX8_again 38 = .ok (.dup, 1) := by decide +kernel
theorem dX8_again_39 : decode cX8_again 39 = .ok (.getfield 108, 3) := by decide +kernel
theorem dX8_again_42 : decode cX8_again 42 = .ok (.iconst 1, 1) := by decide +kernel
theorem dX8_again_43 : decode cX8_again 43 = .ok (.iadd, 1) := by decide +kernel
theorem dX8_again_44 : decode cX8_again 44 = .ok (.putfield 108, 3) := by decide +kernel
theorem dX8_again_47 : decode cX8_again 47 = .ok (.iconst 1, 1) := by decide +kernel
theorem dX8_again_48 : decode cX8_again 48 = .ok (.ireturn, 1) := by decide +kernel
theorem dX8_set_0 : decode cX8_set 0 = .ok (.iload_n 1, 1) := by decide +kernel
theorem dX8_set_1 : decode cX8_set 1 = .ok (.ifCond .eq 13, 3) := by decide +kernel
theorem dX8_set_4 : decode cX8_set 4 = .ok (.iload_n 1, 1) := by decide +kernel
theorem dX8_set_5 : decode cX8_set 5 = .ok (.iconst 1, 1) := by decide +kernel
theorem dX8_set_6 : decode cX8_set 6 = .ok (.if_icmp .eq 8, 3) := by decide +kernel
theorem dX8_set_9 : decode cX8_set 9 = .ok (.iload_n 1, 1) := by decide +kernel
theorem dX8_set_10 : decode cX8_set 10 = .ok (.iconst 2, 1) := by decide +kernel
theorem dX8_set_11 : decode cX8_set 11 = .ok (.if_icmp .ne 7, 3) := by decide +kernel
theorem dX8_set_14 : decode cX8_set 14 = .ok (.iconst 1, 1) := by decide +kernel
theorem dX8_set_15 : decode cX8_set 15 = .ok (.goto 4, 3) := by decide +kernel
theorem dX8_set_18 : decode cX8_set 18 = .ok (.iconst 0, 1) := by decide +kernel
theorem dX8_set_19 : decode cX8_set 19 = .ok (.istore_n 3, 1) := by decide +kernel
theorem dX8_set_20 : decode cX8_set 20 = .ok (.iload_n 1, 1) := by decide +kernel
theorem dX8_set_21 : decode cX8_set 21 = .ok (.ifCond .eq 8, 3) := by decide +kernel
theorem dX8_set_24 : decode cX8_set 24 = .ok (.iload_n 1, 1) := by decide +kernel
theorem dX8_set_25 : decode cX8_set 25 = .ok (.iconst 3, 1) := by decide +kernel
theorem dX8_set_26 : decode cX8_set 26 = .ok (.if_icmp .ne 8, 3) := by decide +kernel
theorem dX8_set_29 : decode cX8_set 29 = .ok (.bipush 100, 2) := by decide +kernel
theorem dX8_set_31 : decode cX8_set 31 = .ok (.goto 33, 3) := by decide +kernel
theorem dX8_set_34 : decode cX8_set 34 = .ok (.iload_n 1, 1) := by decide +kernel
theorem dX8_set_35 : decode cX8_set 35 = .ok (.iconst 1, 1) := by decide +kernel
theorem dX8_set_36 : decode cX8_set 36 = .ok (.if_icmp .ne 7, 3) := by decide +kernel
theorem dX8_set_39 : decode cX8_set 39 = .ok (.iconst 5, 1) := by decide +kernel
theorem dX8_set_40 : decode cX8_set 40 = .ok (.goto 24, 3) := by decide +kernel
theorem dX8_set_43 : decode cX8_set 43 = .ok (.iload_n 1, 1) := by decide +kernel
theorem dX8_set_44 : decode cX8_set 44 = .ok (.iconst 2, 1) := by decide +kernel
theorem dX8_set_45 : decode cX8_set 45 = .ok (.if_icmp .ne 8, 3) := by decide +kernel
theorem dX8_set_48 : decode cX8_set 48 = .ok (.bipush 20, 2) := by decide +kernel
theorem dX8_set_50 : decode cX8_set 50 = .ok (.goto 14, 3) := by decide +kernel
theorem dX8_set_53 : decode cX8_set 53 = .ok (.iload_n 1, 1) := by decide +kernel
theorem dX8_set_54 : decode cX8_set 54 = .ok (.bipush 7, 2) := by decide +kernel
theorem dX8_set_56 : decode cX8_set 56 = .ok (.if_icmp .ne 7, 3) := by decide +kernel
theorem dX8_set_59 : decode cX8_set 59 = .ok (.iconst 1, 1) := by decide +kernel
theorem dX8_set_60 : decode cX8_set 60 = .ok (.goto 4, 3) := by decide +kernel
theorem dX8_set_63 : decode cX8_set 63 = .ok (.iconst 2, 1) := by decide +kernel
theorem dX8_set_64 : decode cX8_set 64 = .ok (.istore 4, 2) := by decide +kernel
theorem dX8_set_66 : decode cX8_set 66 = .ok (.iload_n 1, 1) := by decide +kernel
theorem dX8_set_67 : decode cX8_set 67 = .ok (.ifCond .lt 20, 3) := by decide +kernel
theorem dX8_set_70 : decode cX8_set 70 = .ok (.iload_n 1, 1) := by decide +kernel
theorem dX8_set_71 : decode cX8_set 71 = .ok (.bipush 7, 2) := by decide +kernel
theorem dX8_set_73 : decode cX8_set 73 = .ok (.if_icmp .gt 14, 3) := by decide +kernel
theorem dX8_set_76 : decode cX8_set 76 = .ok (.iload_n 2, 1) := by decide +kernel
theorem dX8_set_77 : decode cX8_set 77 = .ok (.iload_n 3, 1) := by decide +kernel
theorem dX8_set_78 : decode cX8_set 78 = .ok (.if_icmp .lt 9, 3) := by decide +kernel
theorem dX8_set_81 : decode cX8_set 81 = .ok (.iload_n 2, 1) := by decide +kernel
theorem dX8_set_82 : decode cX8_set 82 = .ok (.iload 4, 2) := by decide +kernel
theorem dX8_set_84 : decode cX8_set 84 = .ok (.if_icmp .le 5, 3) := by decide +kernel
theorem dX8_set_87 : decode cX8_set 87 = .ok (.iconst (-1), 1) := by decide +kernel
theorem dX8_set_88 : decode cX8_set 88 = .ok (.ireturn, 1) := by decide +kernel
theorem dX8_set_89 : decode cX8_set 89 = .ok (.aload_n 0, 1) := by decide +kernel
theorem dX8_set_90 : decode cX8_set 90 = .ok (.getfield 7, 3) := by decide +kernel
theorem dX8_set_93 : decode cX8_set 93 = .ok (.iload_n 1, 1) := by decide +kernel
theorem dX8_set_94 : decode cX8_set 94 = .ok (.iaload, 1) := by decide +kernel
theorem dX8_set_95 : decode cX8_set 95 = .ok (.istore 5, 2) := by decide +kernel
theorem dX8_set_97 : decode cX8_set 97 = .ok (.aload_n 0, 1) := by decide +kernel
theorem dX8_set_98 : decode cX8_set 98 = .ok (.getfield 7, 3) := by decide +kernel
theorem dX8_set_101 : decode cX8_set 101 = .ok (.iload_n 1, 1) := by decide +kernel
theorem dX8_set_102 : decode cX8_set 102 = .ok (.iload_n 2, 1) := by decide +kernel
theorem dX8_set_103 : decode cX8_set 103 = .ok (.iastore, 1) := by decide +kernel
theorem dX8_set_104 : decode cX8_set 104 = .ok (.aload_n 0, 1) := by decide +kernel
theorem dX8_set_105 : decode cX8_set 105 = .ok (.invokevirtual 149, 3) := by decide +kernel
theorem dX8_set_108 : decode cX8_set 108 = .ok (.iload 5, 2) := by decide +kernel
theorem dX8_set_110 : decode cX8_set 110 = .ok (.ireturn, 1) := by decide +kernel
theorem dX8_come_0 : decode cX8_come 0 = .ok (.aload_n 0, 1) := by decide +kernel
theorem dX8_come_1 : decode cX8_come 1 = .ok (.getfield 98, 3) := by decide +kernel
theorem dX8_come_4 : decode cX8_come 4 = .ok (.sipush 300, 3) := by decide +kernel
theorem dX8_come_7 : decode cX8_come 7 = .ok (.if_icmp .ne 6, 3) := by decide +kernel
theorem dX8_come_10 : decode cX8_come 10 = .ok (.bipush (-4), 2) := by decide +kernel
theorem dX8_come_12 : decode cX8_come 12 = .ok (.ireturn, 1) := by decide +kernel
theorem dX8_come_13 : decode cX8_come 13 = .ok (.aload_n 0, 1) := by decide +kernel
theorem dX8_come_14 : decode cX8_come 14 = .ok (.getfield 98, 3) := by decide +kernel
theorem dX8_come_17 : decode cX8_come 17 = .ok (.istore 6, 2) := by decide +kernel
theorem dX8_come_19 : decode cX8_come 19 = .ok (.aload_n 0, 1) := by decide +kernel
theorem dX8_come_20 : decode cX8_come 20 = .ok (.getfield 13, 3) := by decide +kernel
theorem dX8_come_23 : decode cX8_come 23 = .ok (.iload 6, 2) := by decide +kernel
theorem dX8_come_25 : decode cX8_come 25 = .ok (.iload_n 1, 1) := by decide +kernel
theorem dX8_come_26 : decode cX8_come 26 = .ok (.bastore, 1) := by decide +kernel
theorem dX8_come_27 : decode cX8_come 27 = .ok (.aload_n 0, 1) := by decide +kernel
theorem dX8_come_28 : decode cX8_come 28 = .ok (.getfield 17, 3) := by decide +kernel
theorem dX8_come_31 : decode cX8_come 31 = .ok (.iload 6, 2) := by decide +kernel
theorem dX8_come_33 : decode cX8_come 33 = .ok (.lload_n 2, 1) := by decide +kernel
theorem dX8_come_34 : decode cX8_come 34 = .ok (.lastore, 1) := by decide +kernel
theorem dX8_come_35 : decode cX8_come 35 = .ok (.aload_n 0, 1) := by decide +kernel
theorem dX8_come_36 : decode cX8_come 36 = .ok (.getfield 21, 3) := by decide +kernel
theorem dX8_come_39 : decode cX8_come 39 = .ok (.iload 6, 2) := by decide +kernel
theorem dX8_come_41 : decode cX8_come 41 = .ok (.lload 4, 2) := by decide +kernel
theorem dX8_come_43 : decode cX8_come 43 = .ok (.lastore, 1) := by decide +kernel
theorem dX8_come_44 : decode cX8_come 44 = .ok (.aload_n 0, 1) := by decide +kernel
theorem dX8_come_45 : decode cX8_come 45 = .ok (.getfield 24, 3) := by decide +kernel
theorem dX8_come_48 : decode cX8_come 48 = .ok (.iload 6, 2) := by decide +kernel
theorem dX8_come_50 : decode cX8_come 50 = .ok (.iload_n 1, 1) := by decide +kernel
theorem dX8_come_51 : decode cX8_come 51 = .ok (.ifCond .eq 7, 3) := by decide +kernel
theorem dX8_come_54 : decode cX8_come 54 = .ok (.iconst 2, 1) := by decide +kernel
theorem dX8_come_55 : decode cX8_come 55 = .ok (.goto 4, 3) := by decide +kernel
theorem dX8_come_58 : decode cX8_come 58 = .ok (.iconst 0, 1) := by decide +kernel
theorem dX8_come_59 : decode cX8_come 59 = .ok (.iastore, 1) := by decide +kernel
theorem dX8_come_60 : decode cX8_come 60 = .ok (.aload_n 0, 1) := by decide +kernel
theorem dX8_come_61 : decode cX8_come 61 = .ok (.getfield 27, 3) := by decide +kernel
theorem dX8_come_64 : decode cX8_come 64 = .ok (.iload 6, 2) := by decide +kernel
theorem dX8_come_66 : decode cX8_come 66 = .ok (.iload_n 1, 1) := by decide +kernel
theorem dX8_come_67 : decode cX8_come 67 = .ok (.ifCond .eq 7, 3) := by decide +kernel
theorem dX8_come_70 : decode cX8_come 70 = .ok (.iconst 5, 1) := by decide +kernel
theorem dX8_come_71 : decode cX8_come 71 = .ok (.goto 4, 3) := by decide +kernel
theorem dX8_come_74 : decode cX8_come 74 = .ok (.iconst (-1), 1) := by decide +kernel
theorem dX8_come_75 : decode cX8_come 75 = .ok (.iastore, 1) := by decide +kernel
theorem dX8_come_76 : decode cX8_come 76 = .ok (.aload_n 0, 1) := by decide +kernel
theorem dX8_come_77 : decode cX8_come 77 = .ok (.dup, 1) := by decide +kernel
theorem dX8_come_78 : decode cX8_come 78 = .ok (.getfield 98, 3) := by decide +kernel
theorem dX8_come_81 : decode cX8_come 81 = .ok (.iconst 1, 1) := by decide +kernel
theorem dX8_come_82 : decode cX8_come 82 = .ok (.iadd, 1) := by decide +kernel
theorem dX8_come_83 : decode cX8_come 83 = .ok (.putfield 98, 3) := by decide +kernel
theorem dX8_come_86 : decode cX8_come 86 = .ok (.aload_n 0, 1) := by decide +kernel
theorem dX8_come_87 : decode cX8_come 87 = .ok (.invokevirtual 149, 3) := by decide +kernel
theorem dX8_come_90 : decode cX8_come 90 = .ok (.iload 6, 2) := by decide +kernel
theorem dX8_come_92 : decode cX8_come 92 = .ok (.ireturn, 1) := by decide +kernel
theorem dX8_row_0 : decode cX8_row 0 = .ok (.aload_n 0, 1) := by decide +kernel
theorem dX8_row_1 : decode cX8_row 1 = .ok (.iconst 0, 1) := by decide +kernel
theorem dX8_row_2 : decode cX8_row 2 = .ok (.lload_n 1, 1) := by decide +kernel
theorem dX8_row_3 : decode cX8_row 3 = .ok (.lload_n 3, 1) := by decide +kernel
theorem dX8_row_4 : decode cX8_row 4 = .ok (.invokevirtual 152, 3) := by decide +kernel
theorem dX8_row_7 : decode cX8_row 7 = .ok (.ireturn, 1) := by decide +kernel
theorem dX8_mark_0 : decode cX8_mark 0 = .ok (.aload_n 0, 1) := by decide +kernel
theorem dX8_mark_1 : decode cX8_mark 1 = .ok (.iconst 1, 1) := by decide +kernel
theorem dX8_mark_2 : decode cX8_mark 2 = .ok (.lconst 0, 1) := by decide +kernel
theorem dX8_mark_3 : decode cX8_mark 3 = .ok (.lconst 0, 1) := by decide +kernel
theorem dX8_mark_4 : decode cX8_mark 4 = .ok (.invokevirtual 152, 3) := by decide +kernel
theorem dX8_mark_7 : decode cX8_mark 7 = .ok (.ireturn, 1) := by decide +kernel
theorem dX8_tick_0 : decode cX8_tick 0 = .ok (.iload_n 1, 1) := by decide +kernel
theorem dX8_tick_1 : decode cX8_tick 1 = .ok (.ifCond .lt 21, 3) := by decide +kernel
theorem dX8_tick_4 : decode cX8_tick 4 = .ok (.iload_n 1, 1) := by decide +kernel
theorem dX8_tick_5 : decode cX8_tick 5 = .ok (.sipush 1000, 3) := by decide +kernel
theorem dX8_tick_8 : decode cX8_tick 8 = .ok (.if_icmp .gt 14, 3) := by decide +kernel
theorem dX8_tick_11 : decode cX8_tick 11 = .ok (.aload_n 0, 1) := by decide +kernel
theorem dX8_tick_12 : decode cX8_tick 12 = .ok (.getfield 125, 3) := by decide +kernel
theorem dX8_tick_15 : decode cX8_tick 15 = .ok (.iload_n 1, 1) := by decide +kernel
theorem dX8_tick_16 : decode cX8_tick 16 = .ok (.iadd, 1) := by decide +kernel
theorem dX8_tick_17 : decode cX8_tick 17 = .ok (.ldc 156, 2) := by decide +kernel
theorem dX8_tick_19 : decode cX8_tick 19 = .ok (.if_icmp .le 5, 3) := by decide +kernel
theorem dX8_tick_22 : decode cX8_tick 22 = .ok (.iconst (-1), 1) := by decide +kernel
theorem dX8_tick_23 : decode cX8_tick 23 = .ok (.ireturn, 1) := by decide +kernel
theorem dX8_tick_24 : decode cX8_tick 24 = .ok (.iconst 0, 1) := by decide +kernel
theorem dX8_tick_25 : decode cX8_tick 25 = .ok (.istore_n 2, 1) := by decide +kernel
theorem dX8_tick_26 : decode cX8_tick 26 = .ok (.iload_n 2, 1) := by decide +kernel
theorem dX8_tick_27 : decode cX8_tick 27 = .ok (.iload_n 1, 1) := by decide +kernel
theorem dX8_tick_28 : decode cX8_tick 28 = .ok (.if_icmp .ge 90, 3) := by decide +kernel
theorem dX8_tick_31 : decode cX8_tick 31 = .ok (.aload_n 0, 1) := by decide +kernel
theorem dX8_tick_32 : decode cX8_tick 32 = .ok (.dup, 1) := by decide +kernel
theorem dX8_tick_33 : decode cX8_tick 33 = .ok (.getfield 125, 3) := by decide +kernel
theorem dX8_tick_36 : decode cX8_tick 36 = .ok (.iconst 1, 1) := by decide +kernel
theorem dX8_tick_37 : decode cX8_tick 37 = .ok (.iadd, 1) := by decide +kernel
theorem dX8_tick_38 : decode cX8_tick 38 = .ok (.putfield 125, 3) := by decide +kernel
theorem dX8_tick_41 : decode cX8_tick 41 = .ok (.aload_n 0, 1) := by decide +kernel
theorem dX8_tick_42 : decode cX8_tick 42 = .ok (.iconst 0, 1) := by decide +kernel
theorem dX8_tick_43 : decode cX8_tick 43 = .ok (.putfield 132, 3) := by decide +kernel
theorem dX8_tick_46 : decode cX8_tick 46 = .ok (.iconst 0, 1) := by decide +kernel
theorem dX8_tick_47 : decode cX8_tick 47 = .ok (.istore_n 3, 1) := by decide +kernel
theorem dX8_tick_48 : decode cX8_tick 48 = .ok (.iload_n 3, 1) := by decide +kernel
theorem dX8_tick_49 : decode cX8_tick 49 = .ok (.aload_n 0, 1) := by decide +kernel
theorem dX8_tick_50 : decode cX8_tick 50 = .ok (.getfield 98, 3) := by decide +kernel
theorem dX8_tick_53 : decode cX8_tick 53 = .ok (.if_icmp .ge 55, 3) := by decide +kernel
theorem dX8_tick_56 : decode cX8_tick 56 = .ok (.aload_n 0, 1) := by decide +kernel
theorem dX8_tick_57 : decode cX8_tick 57 = .ok (.getfield 24, 3) := by decide +kernel
theorem dX8_tick_60 : decode cX8_tick 60 = .ok (.iload_n 3, 1) := by decide +kernel
theorem dX8_tick_61 : decode cX8_tick 61 = .ok (.iaload, 1) := by decide +kernel
theorem dX8_tick_62 : decode cX8_tick 62 = .ok (.iconst 1, 1) := by decide +kernel
theorem dX8_tick_63 : decode cX8_tick 63 = .ok (.if_icmp .ne 39, 3) := by decide +kernel
theorem dX8_tick_66 : decode cX8_tick 66 = .ok (.aload_n 0, 1) := by decide +kernel
theorem dX8_tick_67 : decode cX8_tick 67 = .ok (.iload_n 3, 1) := by decide +kernel
theorem dX8_tick_68 : decode cX8_tick 68 = .ok (.invokevirtual 111, 3) := by decide +kernel
theorem dX8_tick_71 : decode cX8_tick 71 = .ok (.ifCond .ge 31, 3) := by decide +kernel
theorem dX8_tick_74 : decode cX8_tick 74 = .ok (.aload_n 0, 1) := by decide +kernel
theorem dX8_tick_75 : decode cX8_tick 75 = .ok (.getfield 36, 3) := by decide +kernel
theorem dX8_tick_78 : decode cX8_tick 78 = .ok (.iload_n 3, 1) := by decide +kernel
theorem dX8_tick_79 : decode cX8_tick 79 = .ok (.iaload, 1) := by decide +kernel
theorem dX8_tick_80 : decode cX8_tick 80 = .ok (.aload_n 0, 1) := by decide +kernel
theorem dX8_tick_81 : decode cX8_tick 81 = .ok (.getfield 125, 3) := by decide +kernel
theorem dX8_tick_84 : decode cX8_tick 84 = .ok (.if_icmp .gt 18, 3) := by decide +kernel
theorem dX8_tick_87 : decode cX8_tick 87 = .ok (.aload_n 0, 1) := by decide +kernel
theorem dX8_tick_88 : decode cX8_tick 88 = .ok (.iload_n 3, 1) := by decide +kernel
theorem dX8_tick_89 : decode cX8_tick 89 = .ok (.invokevirtual 157, 3) := by decide +kernel
theorem dX8_tick_92 : decode cX8_tick 92 = .ok (.ifCond .ne 10, 3) := by decide +kernel
theorem dX8_tick_95 : decode cX8_tick 95 = .ok (.aload_n 0, 1) := by decide +kernel
theorem dX8_tick_96 : decode cX8_tick 96 = .ok (.iload_n 3, 1) := by decide +kernel
theorem dX8_tick_97 : decode cX8_tick 97 = .ok (.iconst 3, 1) := by decide +kernel
theorem dX8_tick_98 : decode cX8_tick 98 = .ok (.lconst 0, 1) := by decide +kernel
theorem dX8_tick_99 : decode cX8_tick 99 = .ok (.invokevirtual 128, 3) := by decide +kernel
theorem dX8_tick_102 : decode cX8_tick 102 = .ok (.iinc 3 1, 3) := by decide +kernel
theorem dX8_tick_105 : decode cX8_tick 105 = .ok (.goto (-57), 3) := by decide +kernel
theorem dX8_tick_108 : decode cX8_tick 108 = .ok (.aload_n 0, 1) := by decide +kernel
theorem dX8_tick_109 : decode cX8_tick 109 = .ok (.invokevirtual 149, 3) := by decide +kernel
theorem dX8_tick_112 : decode cX8_tick 112 = .ok (.iinc 2 1, 3) := by decide +kernel
theorem dX8_tick_115 : decode cX8_tick 115 = .ok (.goto (-89), 3) := by decide +kernel
theorem dX8_tick_118 : decode cX8_tick 118 = .ok (.aload_n 0, 1) := by decide +kernel
theorem dX8_tick_119 : decode cX8_tick 119 = .ok (.getfield 125, 3) := by decide +kernel
theorem dX8_tick_122 : decode cX8_tick 122 = .ok (.ireturn, 1) := by decide +kernel
theorem dX8_isUnder_0 : decode cX8_isUnder 0 = .ok (.iload_n 1, 1) := by decide +kernel
theorem dX8_isUnder_1 : decode cX8_isUnder 1 = .ok (.ifCond .lt 26, 3) := by decide +kernel
theorem dX8_isUnder_4 : decode cX8_isUnder 4 = .ok (.iload_n 1, 1) := by decide +kernel
theorem dX8_isUnder_5 : decode cX8_isUnder 5 = .ok (.iconst 2, 1) := by decide +kernel
theorem dX8_isUnder_6 : decode cX8_isUnder 6 = .ok (.if_icmp .ge 21, 3) := by decide +kernel
theorem dX8_isUnder_9 : decode cX8_isUnder 9 = .ok (.iload_n 2, 1) := by decide +kernel
theorem dX8_isUnder_10 : decode cX8_isUnder 10 = .ok (.ifCond .lt 17, 3) := by decide +kernel
theorem dX8_isUnder_13 : decode cX8_isUnder 13 = .ok (.iload_n 2, 1) := by decide +kernel
theorem dX8_isUnder_14 : decode cX8_isUnder 14 = .ok (.aload_n 0, 1) := by decide +kernel
theorem dX8_isUnder_15 : decode cX8_isUnder 15 = .ok (.getfield 57, 3) := by decide +kernel
theorem dX8_isUnder_18 : decode cX8_isUnder 18 = .ok (.iload_n 1, 1) := by decide +kernel
theorem dX8_isUnder_19 : decode cX8_isUnder 19 = .ok (.iaload, 1) := by decide +kernel
theorem dX8_isUnder_20 : decode cX8_isUnder 20 = .ok (.if_icmp .ge 7, 3) := by decide +kernel
theorem dX8_isUnder_23 : decode cX8_isUnder 23 = .ok (.iconst 1, 1) := by decide +kernel
theorem dX8_isUnder_24 : decode cX8_isUnder 24 = .ok (.goto 4, 3) := by decide +kernel
theorem dX8_isUnder_27 : decode cX8_isUnder 27 = .ok (.iconst 0, 1) := by decide +kernel
theorem dX8_isUnder_28 : decode cX8_isUnder 28 = .ok (.ireturn, 1) := by decide +kernel
theorem dX8_keyAt_0 : decode cX8_keyAt 0 = .ok (.iconst 0, 1) := by decide +kernel
theorem dX8_keyAt_1 : decode cX8_keyAt 1 = .ok (.istore_n 3, 1) := by decide +kernel
theorem dX8_keyAt_2 : decode cX8_keyAt 2 = .ok (.iload_n 3, 1) := by decide +kernel
theorem dX8_keyAt_3 : decode cX8_keyAt 3 = .ok (.aload_n 0, 1) := by decide +kernel
theorem dX8_keyAt_4 : decode cX8_keyAt 4 = .ok (.getfield 98, 3) := by decide +kernel
theorem dX8_keyAt_7 : decode cX8_keyAt 7 = .ok (.if_icmp .ge 29, 3) := by decide +kernel
theorem dX8_keyAt_10 : decode cX8_keyAt 10 = .ok (.aload_n 0, 1) := by decide +kernel
theorem dX8_keyAt_11 : decode cX8_keyAt 11 = .ok (.getfield 13, 3) := by decide +kernel
theorem dX8_keyAt_14 : decode cX8_keyAt 14 = .ok (.iload_n 3, 1) := by decide +kernel
theorem dX8_keyAt_15 : decode cX8_keyAt 15 = .ok (.baload, 1) := by decide +kernel
theorem dX8_keyAt_16 : decode cX8_keyAt 16 = .ok (.ifCond .ne 14, 3) := by decide +kernel
theorem dX8_keyAt_19 : decode cX8_keyAt 19 = .ok (.aload_n 0, 1) := by decide +kernel
theorem dX8_keyAt_20 : decode cX8_keyAt 20 = .ok (.getfield 17, 3) := by decide +kernel
theorem dX8_keyAt_23 : decode cX8_keyAt 23 = .ok (.iload_n 3, 1) := by decide +kernel
theorem dX8_keyAt_24 : decode cX8_keyAt 24 = .ok (.laload, 1) := by decide +kernel
theorem dX8_keyAt_25 : decode cX8_keyAt 25 = .ok (.lload_n 1, 1) := by decide +kernel
theorem dX8_keyAt_26 : decode cX8_keyAt 26 = .ok (.lcmp, 1) := by decide +kernel
theorem dX8_keyAt_27 : decode cX8_keyAt 27 = .ok (.ifCond .eq 9, 3) := by decide +kernel
theorem dX8_keyAt_30 : decode cX8_keyAt 30 = .ok (.iinc 3 1, 3) := by decide +kernel
theorem dX8_keyAt_33 : decode cX8_keyAt 33 = .ok (.goto (-31), 3) := by decide +kernel
theorem dX8_keyAt_36 : decode cX8_keyAt 36 = .ok (.iload_n 3, 1) := by decide +kernel
theorem dX8_keyAt_37 : decode cX8_keyAt 37 = .ok (.aload_n 0, 1) := by decide +kernel
theorem dX8_keyAt_38 : decode cX8_keyAt 38 = .ok (.getfield 98, 3) := by decide +kernel
theorem dX8_keyAt_41 : decode cX8_keyAt 41 = .ok (.if_icmp .ge 7, 3) := by decide +kernel
theorem dX8_keyAt_44 : decode cX8_keyAt 44 = .ok (.iload_n 3, 1) := by decide +kernel
theorem dX8_keyAt_45 : decode cX8_keyAt 45 = .ok (.goto 4, 3) := by decide +kernel
theorem dX8_keyAt_48 : decode cX8_keyAt 48 = .ok (.iconst (-1), 1) := by decide +kernel
theorem dX8_keyAt_49 : decode cX8_keyAt 49 = .ok (.ireturn, 1) := by decide +kernel
theorem dX8_serve_0 : decode cX8_serve 0 = .ok (.aload_n 0, 1) := by decide +kernel
theorem dX8_serve_1 : decode cX8_serve 1 = .ok (.iconst 0, 1) := by decide +kernel
theorem dX8_serve_2 : decode cX8_serve 2 = .ok (.iload_n 1, 1) := by decide +kernel
theorem dX8_serve_3 : decode cX8_serve 3 = .ok (.invokevirtual 161, 3) := by decide +kernel
theorem dX8_serve_6 : decode cX8_serve 6 = .ok (.ifCond .ne 5, 3) := by decide +kernel
theorem dX8_serve_9 : decode cX8_serve 9 = .ok (.iconst (-1), 1) := by decide +kernel
theorem dX8_serve_10 : decode cX8_serve 10 = .ok (.ireturn, 1) := by decide +kernel
theorem dX8_serve_11 : decode cX8_serve 11 = .ok (.aload_n 0, 1) := by decide +kernel
theorem dX8_serve_12 : decode cX8_serve 12 = .ok (.getfield 48, 3) := by decide +kernel
theorem dX8_serve_15 : decode cX8_serve 15 = .ok (.iload_n 1, 1) := by decide +kernel
theorem dX8_serve_16 : decode cX8_serve 16 = .ok (.iaload, 1) := by decide +kernel
theorem dX8_serve_17 : decode cX8_serve 17 = .ok (.istore_n 2, 1) := by decide +kernel
theorem dX8_serve_18 : decode cX8_serve 18 = .ok (.aload_n 0, 1) := by decide +kernel
theorem dX8_serve_19 : decode cX8_serve 19 = .ok (.iconst 0, 1) := by decide +kernel
theorem dX8_serve_20 : decode cX8_serve 20 = .ok (.iload_n 1, 1) := by decide +kernel
theorem dX8_serve_21 : decode cX8_serve 21 = .ok (.invokevirtual 165, 3) := by decide +kernel
theorem dX8_serve_24 : decode cX8_serve 24 = .ok (.aload_n 0, 1) := by decide +kernel
theorem dX8_serve_25 : decode cX8_serve 25 = .ok (.getfield 7, 3) := by decide +kernel
theorem dX8_serve_28 : decode cX8_serve 28 = .ok (.bipush 7, 2) := by decide +kernel
theorem dX8_serve_30 : decode cX8_serve 30 = .ok (.iaload, 1) := by decide +kernel
theorem dX8_serve_31 : decode cX8_serve 31 = .ok (.ifCond .eq 12, 3) := by decide +kernel
theorem dX8_serve_34 : decode cX8_serve 34 = .ok (.aload_n 0, 1) := by decide +kernel
theorem dX8_serve_35 : decode cX8_serve 35 = .ok (.getfield 63, 3) := by decide +kernel
theorem dX8_serve_38 : decode cX8_serve 38 = .ok (.iload_n 2, 1) := by decide +kernel
theorem dX8_serve_39 : decode cX8_serve 39 = .ok (.baload, 1) := by decide +kernel
theorem dX8_serve_40 : decode cX8_serve 40 = .ok (.ifCond .ne 7, 3) := by decide +kernel
theorem dX8_serve_43 : decode cX8_serve 43 = .ok (.iconst 1, 1) := by decide +kernel
theorem dX8_serve_44 : decode cX8_serve 44 = .ok (.goto 4, 3) := by decide +kernel
theorem dX8_serve_47 : decode cX8_serve 47 = .ok (.iconst 0, 1) := by decide +kernel
theorem dX8_serve_48 : decode cX8_serve 48 = .ok (.istore_n 3, 1) := by decide +kernel
theorem dX8_serve_49 : decode cX8_serve 49 = .ok (.iload_n 3, 1) := by decide +kernel
theorem dX8_serve_50 : decode cX8_serve 50 = .ok (.ifCond .eq 54, 3) := by decide +kernel
theorem dX8_serve_53 : decode cX8_serve 53 = .ok (.aload_n 0, 1) := by decide +kernel
theorem dX8_serve_54 : decode cX8_serve 54 = .ok (.aload_n 0, 1) := by decide +kernel
theorem dX8_serve_55 : decode cX8_serve 55 = .ok (.getfield 17, 3) := by decide +kernel
theorem dX8_serve_58 : decode cX8_serve 58 = .ok (.iload_n 2, 1) := by decide +kernel
theorem dX8_serve_59 : decode cX8_serve 59 = .ok (.laload, 1) := by decide +kernel
theorem dX8_serve_60 : decode cX8_serve 60 = .ok (.invokevirtual 169, 3) := by decide +kernel
theorem dX8_serve_63 : decode cX8_serve 63 = .ok (.istore 4, 2) := by decide +kernel
theorem dX8_serve_65 : decode cX8_serve 65 = .ok (.aload_n 0, 1) := by decide +kernel
theorem dX8_serve_66 : decode cX8_serve 66 = .ok (.getfield 60, 3) := by decide +kernel
theorem dX8_serve_69 : decode cX8_serve 69 = .ok (.iload 4, 2) := by decide +kernel
theorem dX8_serve_71 : decode cX8_serve 71 = .ok (.dup2, 1) := by decide +kernel
theorem dX8_serve_72 : decode cX8_serve 72 = .ok (.iaload, 1) := by decide +kernel
theorem dX8_serve_73 : decode cX8_serve 73 = .ok (.iconst 1, 1) := by decide +kernel
theorem dX8_serve_74 : decode cX8_serve 74 = .ok (.iadd, 1) := by decide +kernel
theorem dX8_serve_75 : decode cX8_serve 75 = .ok (.iastore, 1) := by decide +kernel
theorem dX8_serve_76 : decode cX8_serve 76 = .ok (.aload_n 0, 1) := by decide +kernel
theorem dX8_serve_77 : decode cX8_serve 77 = .ok (.getfield 63, 3) := by decide +kernel
theorem dX8_serve_80 : decode cX8_serve 80 = .ok (.iload_n 2, 1) := by decide +kernel
theorem dX8_serve_81 : decode cX8_serve 81 = .ok (.iconst 1, 1) := by decide +kernel
theorem dX8_serve_82 : decode cX8_serve 82 = .ok (.bastore, 1) := by decide +kernel
theorem dX8_serve_83 : decode cX8_serve 83 = .ok (.aload_n 0, 1) := by decide +kernel
theorem dX8_serve_84 : decode cX8_serve 84 = .ok (.getfield 66, 3) := by decide +kernel
theorem dX8_serve_87 : decode cX8_serve 87 = .ok (.iload_n 2, 1) := by decide +kernel
theorem dX8_serve_88 : decode cX8_serve 88 = .ok (.aload_n 0, 1) := by decide +kernel
theorem dX8_serve_89 : decode cX8_serve 89 = .ok (.getfield 21, 3) := by decide +kernel
theorem dX8_serve_92 : decode cX8_serve 92 = .ok (.iload_n 2, 1) := by decide +kernel
theorem dX8_serve_93 : decode cX8_serve 93 = .ok (.laload, 1) := by decide +kernel
theorem dX8_serve_94 : decode cX8_serve 94 = .ok (.aload_n 0, 1) := by decide +kernel
theorem dX8_serve_95 : decode cX8_serve 95 = .ok (.getfield 60, 3) := by decide +kernel
theorem dX8_serve_98 : decode cX8_serve 98 = .ok (.iload 4, 2) := by decide +kernel
theorem dX8_serve_100 : decode cX8_serve 100 = .ok (.iaload, 1) := by decide +kernel
theorem dX8_serve_101 : decode cX8_serve 101 = .ok (.i2l, 1) := by decide +kernel
theorem dX8_serve_102 : decode cX8_serve 102 = .ok (.ladd, 1) := by decide +kernel
theorem dX8_serve_103 : decode cX8_serve 103 = .ok (.lastore, 1) := by decide +kernel
theorem dX8_serve_104 : decode cX8_serve 104 = .ok (.aload_n 0, 1) := by decide +kernel
theorem dX8_serve_105 : decode cX8_serve 105 = .ok (.iconst 1, 1) := by decide +kernel
theorem dX8_serve_106 : decode cX8_serve 106 = .ok (.iload_n 2, 1) := by decide +kernel
theorem dX8_serve_107 : decode cX8_serve 107 = .ok (.iconst 0, 1) := by decide +kernel
theorem dX8_serve_108 : decode cX8_serve 108 = .ok (.aload_n 0, 1) := by decide +kernel
theorem dX8_serve_109 : decode cX8_serve 109 = .ok (.getfield 66, 3) := by decide +kernel
theorem dX8_serve_112 : decode cX8_serve 112 = .ok (.iload_n 2, 1) := by decide +kernel
theorem dX8_serve_113 : decode cX8_serve 113 = .ok (.laload, 1) := by decide +kernel
theorem dX8_serve_114 : decode cX8_serve 114 = .ok (.invokevirtual 138, 3) := by decide +kernel
theorem dX8_serve_117 : decode cX8_serve 117 = .ok (.aload_n 0, 1) := by decide +kernel
theorem dX8_serve_118 : decode cX8_serve 118 = .ok (.invokevirtual 149, 3) := by decide +kernel
theorem dX8_serve_121 : decode cX8_serve 121 = .ok (.iload_n 3, 1) := by decide +kernel
theorem dX8_serve_122 : decode cX8_serve 122 = .ok (.ifCond .eq 7, 3) := by decide +kernel
theorem dX8_serve_125 : decode cX8_serve 125 = .ok (.iconst 1, 1) := by decide +kernel
theorem dX8_serve_126 : decode cX8_serve 126 = .ok (.goto 4, 3) := by decide +kernel
theorem dX8_serve_129 : decode cX8_serve 129 = .ok (.iconst 0, 1) := by decide +kernel
theorem dX8_serve_130 : decode cX8_serve 130 = .ok (.ireturn, 1) := by decide +kernel
theorem dX8_refuse_0 : decode cX8_refuse 0 = .ok (.aload_n 0, 1) := by decide +kernel
theorem dX8_refuse_1 : decode cX8_refuse 1 = .ok (.iconst 0, 1) := by decide +kernel
theorem dX8_refuse_2 : decode cX8_refuse 2 = .ok (.iload_n 1, 1) := by decide +kernel
theorem dX8_refuse_3 : decode cX8_refuse 3 = .ok (.invokevirtual 161, 3) := by decide +kernel
theorem dX8_refuse_6 : decode cX8_refuse 6 = .ok (.ifCond .eq 13, 3) := by decide +kernel
theorem dX8_refuse_9 : decode cX8_refuse 9 = .ok (.iload_n 2, 1) := by decide +kernel
theorem dX8_refuse_10 : decode cX8_refuse 10 = .ok (.iconst 1, 1) := by decide +kernel
theorem dX8_refuse_11 : decode cX8_refuse 11 = .ok (.if_icmp .lt 8, 3) := by decide +kernel
theorem dX8_refuse_14 : decode cX8_refuse 14 = .ok (.iload_n 2, 1) := by decide +kernel
theorem dX8_refuse_15 : decode cX8_refuse 15 = .ok (.iconst 3, 1) := by decide +kernel
theorem dX8_refuse_16 : decode cX8_refuse 16 = .ok (.if_icmp .le 5, 3) := by decide +kernel
theorem dX8_refuse_19 : decode cX8_refuse 19 = .ok (.iconst (-1), 1) := by decide +kernel
theorem dX8_refuse_20 : decode cX8_refuse 20 = .ok (.ireturn, 1) := by decide +kernel
theorem dX8_refuse_21 : decode cX8_refuse 21 = .ok (.aload_n 0, 1) := by decide +kernel
theorem dX8_refuse_22 : decode cX8_refuse 22 = .ok (.getfield 48, 3) := by decide +kernel
theorem dX8_refuse_25 : decode cX8_refuse 25 = .ok (.iload_n 1, 1) := by decide +kernel
theorem dX8_refuse_26 : decode cX8_refuse 26 = .ok (.iaload, 1) := by decide +kernel
theorem dX8_refuse_27 : decode cX8_refuse 27 = .ok (.istore_n 3, 1) := by decide +kernel
theorem dX8_refuse_28 : decode cX8_refuse 28 = .ok (.aload_n 0, 1) := by decide +kernel
theorem dX8_refuse_29 : decode cX8_refuse 29 = .ok (.iconst 0, 1) := by decide +kernel
theorem dX8_refuse_30 : decode cX8_refuse 30 = .ok (.iload_n 1, 1) := by decide +kernel
theorem dX8_refuse_31 : decode cX8_refuse 31 = .ok (.invokevirtual 165, 3) := by decide +kernel
theorem dX8_refuse_34 : decode cX8_refuse 34 = .ok (.aload_n 0, 1) := by decide +kernel
theorem dX8_refuse_35 : decode cX8_refuse 35 = .ok (.iconst 1, 1) := by decide +kernel
theorem dX8_refuse_36 : decode cX8_refuse 36 = .ok (.iload_n 3, 1) := by decide +kernel
theorem dX8_refuse_37 : decode cX8_refuse 37 = .ok (.iload_n 2, 1) := by decide +kernel
theorem dX8_refuse_38 : decode cX8_refuse 38 = .ok (.lconst 0, 1) := by decide +kernel
theorem dX8_refuse_39 : decode cX8_refuse 39 = .ok (.invokevirtual 138, 3) := by decide +kernel
theorem dX8_refuse_42 : decode cX8_refuse 42 = .ok (.aload_n 0, 1) := by decide +kernel
theorem dX8_refuse_43 : decode cX8_refuse 43 = .ok (.invokevirtual 149, 3) := by decide +kernel
theorem dX8_refuse_46 : decode cX8_refuse 46 = .ok (.iconst 0, 1) := by decide +kernel
theorem dX8_refuse_47 : decode cX8_refuse 47 = .ok (.ireturn, 1) := by decide +kernel
theorem dX8_arrive_0 : decode cX8_arrive 0 = .ok (.aload_n 0, 1) := by decide +kernel
theorem dX8_arrive_1 : decode cX8_arrive 1 = .ok (.iconst 1, 1) := by decide +kernel
theorem dX8_arrive_2 : decode cX8_arrive 2 = .ok (.iload_n 1, 1) := by decide +kernel
theorem dX8_arrive_3 : decode cX8_arrive 3 = .ok (.invokevirtual 161, 3) := by decide +kernel
theorem dX8_arrive_6 : decode cX8_arrive 6 = .ok (.ifCond .ne 5, 3) := by decide +kernel
theorem dX8_arrive_9 : decode cX8_arrive 9 = .ok (.iconst (-1), 1) := by decide +kernel
theorem dX8_arrive_10 : decode cX8_arrive 10 = .ok (.ireturn, 1) := by decide +kernel
theorem dX8_arrive_11 : decode cX8_arrive 11 = .ok (.aload_n 0, 1) := by decide +kernel
theorem dX8_arrive_12 : decode cX8_arrive 12 = .ok (.getfield 48, 3) := by decide +kernel
theorem dX8_arrive_15 : decode cX8_arrive 15 = .ok (.bipush 100, 2) := by decide +kernel
theorem dX8_arrive_17 : decode cX8_arrive 17 = .ok (.iload_n 1, 1) := by decide +kernel
theorem dX8_arrive_18 : decode cX8_arrive 18 = .ok (.iadd, 1) := by decide +kernel
theorem dX8_arrive_19 : decode cX8_arrive 19 = .ok (.iaload, 1) := by decide +kernel
theorem dX8_arrive_20 : decode cX8_arrive 20 = .ok (.istore_n 2, 1) := by decide +kernel
theorem dX8_arrive_21 : decode cX8_arrive 21 = .ok (.aload_n 0, 1) := by decide +kernel
theorem dX8_arrive_22 : decode cX8_arrive 22 = .ok (.getfield 51, 3) := by decide +kernel
theorem dX8_arrive_25 : decode cX8_arrive 25 = .ok (.bipush 100, 2) := by decide +kernel
theorem dX8_arrive_27 : decode cX8_arrive 27 = .ok (.iload_n 1, 1) := by decide +kernel
theorem dX8_arrive_28 : decode cX8_arrive 28 = .ok (.iadd, 1) := by decide +kernel
theorem dX8_arrive_29 : decode cX8_arrive 29 = .ok (.iaload, 1) := by decide +kernel
theorem dX8_arrive_30 : decode cX8_arrive 30 = .ok (.istore_n 3, 1) := by decide +kernel
theorem dX8_arrive_31 : decode cX8_arrive 31 = .ok (.aload_n 0, 1) := by decide +kernel
theorem dX8_arrive_32 : decode cX8_arrive 32 = .ok (.getfield 54, 3) := by decide +kernel
theorem dX8_arrive_35 : decode cX8_arrive 35 = .ok (.bipush 100, 2) := by decide +kernel
theorem dX8_arrive_37 : decode cX8_arrive 37 = .ok (.iload_n 1, 1) := by decide +kernel
theorem dX8_arrive_38 : decode cX8_arrive 38 = .ok (.iadd, 1) := by decide +kernel
theorem dX8_arrive_39 : decode cX8_arrive 39 = .ok (.laload, 1) := by decide +kernel
theorem dX8_arrive_40 : decode cX8_arrive 40 = .ok (.lstore 4, 2) := by decide +kernel
theorem dX8_arrive_42 : decode cX8_arrive 42 = .ok (.aload_n 0, 1) := by decide +kernel
theorem dX8_arrive_43 : decode cX8_arrive 43 = .ok (.iconst 1, 1) := by decide +kernel
theorem dX8_arrive_44 : decode cX8_arrive 44 = .ok (.iload_n 1, 1) := by decide +kernel
theorem dX8_arrive_45 : decode cX8_arrive 45 = .ok (.invokevirtual 165, 3) := by decide +kernel
theorem dX8_arrive_48 : decode cX8_arrive 48 = .ok (.iconst 0, 1) := by decide +kernel
theorem dX8_arrive_49 : decode cX8_arrive 49 = .ok (.istore 6, 2) := by decide +kernel
theorem dX8_arrive_51 : decode cX8_arrive 51 = .ok (.aload_n 0, 1) := by decide +kernel
theorem dX8_arrive_52 : decode cX8_arrive 52 = .ok (.getfield 24, 3) := by decide +kernel
theorem dX8_arrive_55 : decode cX8_arrive 55 = .ok (.iload_n 2, 1) := by decide +kernel
theorem dX8_arrive_56 : decode cX8_arrive 56 = .ok (.iaload, 1) := by decide +kernel
theorem dX8_arrive_57 : decode cX8_arrive 57 = .ok (.iconst 1, 1) := by decide +kernel
theorem dX8_arrive_58 : decode cX8_arrive 58 = .ok (.if_icmp .ne 117, 3) := by decide +kernel
theorem dX8_arrive_61 : decode cX8_arrive 61 = .ok (.iload_n 3, 1) := by decide +kernel
theorem dX8_arrive_62 : decode cX8_arrive 62 = .ok (.ifCond .ne 29, 3) := by decide +kernel
theorem dX8_arrive_65 : decode cX8_arrive 65 = .ok (.aload_n 0, 1) := by decide +kernel
theorem dX8_arrive_66 : decode cX8_arrive 66 = .ok (.iload_n 2, 1) := by decide +kernel
theorem dX8_arrive_67 : decode cX8_arrive 67 = .ok (.iconst 0, 1) := by decide +kernel
theorem dX8_arrive_68 : decode cX8_arrive 68 = .ok (.lload 4, 2) := by decide +kernel
theorem dX8_arrive_70 : decode cX8_arrive 70 = .ok (.invokevirtual 128, 3) := by decide +kernel
theorem dX8_arrive_73 : decode cX8_arrive 73 = .ok (.aload_n 0, 1) := by decide +kernel
theorem dX8_arrive_74 : decode cX8_arrive 74 = .ok (.aload_n 0, 1) := by decide +kernel
theorem dX8_arrive_75 : decode cX8_arrive 75 = .ok (.getfield 17, 3) := by decide +kernel
theorem dX8_arrive_78 : decode cX8_arrive 78 = .ok (.iload_n 2, 1) := by decide +kernel
theorem dX8_arrive_79 : decode cX8_arrive 79 = .ok (.laload, 1) := by decide +kernel
theorem dX8_arrive_80 : decode cX8_arrive 80 = .ok (.lload 4, 2) := by decide +kernel
theorem dX8_arrive_82 : decode cX8_arrive 82 = .ok (.invokevirtual 172, 3) := by decide +kernel
theorem dX8_arrive_85 : decode cX8_arrive 85 = .ok (.iconst 1, 1) := by decide +kernel
theorem dX8_arrive_86 : decode cX8_arrive 86 = .ok (.istore 6, 2) := by decide +kernel
theorem dX8_arrive_88 : decode cX8_arrive 88 = .ok (.goto 87, 3) := by decide +kernel
theorem dX8_arrive_91 : decode cX8_arrive 91 = .ok (.aload_n 0, 1) := by decide +kernel
theorem dX8_arrive_92 : decode cX8_arrive 92 = .ok (.getfield 7, 3) := by decide +kernel
theorem dX8_arrive_95 : decode cX8_arrive 95 = .ok (.iconst 3, 1) := by decide +kernel
theorem dX8_arrive_96 : decode cX8_arrive 96 = .ok (.iload_n 3, 1) := by decide +kernel
theorem dX8_arrive_97 : decode cX8_arrive 97 = .ok (.iadd, 1) := by decide +kernel
theorem dX8_arrive_98 : decode cX8_arrive 98 = .ok (.iaload, 1) := by decide +kernel
theorem dX8_arrive_99 : decode cX8_arrive 99 = .ok (.istore 7, 2) := by decide +kernel
theorem dX8_arrive_101 : decode cX8_arrive 101 = .ok (.iload 7, 2) := by decide +kernel
theorem dX8_arrive_103 : decode cX8_arrive 103 = .ok (.ifCond .eq 25, 3) := by decide +kernel
theorem dX8_arrive_106 : decode cX8_arrive 106 = .ok (.iload 7, 2) := by decide +kernel
theorem dX8_arrive_108 : decode cX8_arrive 108 = .ok (.iconst 1, 1) := by decide +kernel
theorem dX8_arrive_109 : decode cX8_arrive 109 = .ok (.if_icmp .ne 23, 3) := by decide +kernel
theorem dX8_arrive_112 : decode cX8_arrive 112 = .ok (.aload_n 0, 1) := by decide +kernel
theorem dX8_arrive_113 : decode cX8_arrive 113 = .ok (.iload_n 2, 1) := by decide +kernel
theorem dX8_arrive_114 : decode cX8_arrive 114 = .ok (.invokevirtual 111, 3) := by decide +kernel
theorem dX8_arrive_117 : decode cX8_arrive 117 = .ok (.ifCond .ge 15, 3) := by decide +kernel
theorem dX8_arrive_120 : decode cX8_arrive 120 = .ok (.aload_n 0, 1) := by decide +kernel
theorem dX8_arrive_121 : decode cX8_arrive 121 = .ok (.iload_n 2, 1) := by decide +kernel
theorem dX8_arrive_122 : decode cX8_arrive 122 = .ok (.invokevirtual 157, 3) := by decide +kernel
theorem dX8_arrive_125 : decode cX8_arrive 125 = .ok (.ifCond .ne 7, 3) := by decide +kernel
theorem dX8_arrive_128 : decode cX8_arrive 128 = .ok (.iconst 1, 1) := by decide +kernel
theorem dX8_arrive_129 : decode cX8_arrive 129 = .ok (.goto 4, 3) := by decide +kernel
theorem dX8_arrive_132 : decode cX8_arrive 132 = .ok (.iconst 0, 1) := by decide +kernel
theorem dX8_arrive_133 : decode cX8_arrive 133 = .ok (.istore 8, 2) := by decide +kernel
theorem dX8_arrive_135 : decode cX8_arrive 135 = .ok (.iload 8, 2) := by decide +kernel
theorem dX8_arrive_137 : decode cX8_arrive 137 = .ok (.ifCond .ne 9, 3) := by decide +kernel
theorem dX8_arrive_140 : decode cX8_arrive 140 = .ok (.iload 7, 2) := by decide +kernel
theorem dX8_arrive_142 : decode cX8_arrive 142 = .ok (.iconst 2, 1) := by decide +kernel
theorem dX8_arrive_143 : decode cX8_arrive 143 = .ok (.if_icmp .ne 32, 3) := by decide +kernel
theorem dX8_arrive_146 : decode cX8_arrive 146 = .ok (.aload_n 0, 1) := by decide +kernel
theorem dX8_arrive_147 : decode cX8_arrive 147 = .ok (.iload_n 2, 1) := by decide +kernel
theorem dX8_arrive_148 : decode cX8_arrive 148 = .ok (.iload 8, 2) := by decide +kernel
theorem dX8_arrive_150 : decode cX8_arrive 150 = .ok (.ifCond .eq 7, 3) := by decide +kernel
theorem dX8_arrive_153 : decode cX8_arrive 153 = .ok (.iconst 2, 1) := by decide +kernel
theorem dX8_arrive_154 : decode cX8_arrive 154 = .ok (.goto 4, 3) := by decide +kernel
theorem dX8_arrive_157 : decode cX8_arrive 157 = .ok (.iconst 4, 1) := by decide +kernel
theorem dX8_arrive_158 : decode cX8_arrive 158 = .ok (.iload 8, 2) := by decide +kernel
theorem dX8_arrive_160 : decode cX8_arrive 160 = .ok (.ifCond .eq 8, 3) := by decide +kernel
theorem dX8_arrive_163 : decode cX8_arrive 163 = .ok (.iload_n 3, 1) := by decide +kernel
theorem dX8_arrive_164 : decode cX8_arrive 164 = .ok (.i2l, 1) := by decide +kernel
theorem dX8_arrive_165 : decode cX8_arrive 165 = .ok (.goto 4, 3) := by decide +kernel
theorem dX8_arrive_168 : decode cX8_arrive 168 = .ok (.lconst 0, 1) := by decide +kernel
theorem dX8_arrive_169 : decode cX8_arrive 169 = .ok (.invokevirtual 128, 3) := by decide +kernel
theorem dX8_arrive_172 : decode cX8_arrive 172 = .ok (.iconst 1, 1) := by decide +kernel
theorem dX8_arrive_173 : decode cX8_arrive 173 = .ok (.istore 6, 2) := by decide +kernel
theorem dX8_arrive_175 : decode cX8_arrive 175 = .ok (.aload_n 0, 1) := by decide +kernel
theorem dX8_arrive_176 : decode cX8_arrive 176 = .ok (.invokevirtual 149, 3) := by decide +kernel
theorem dX8_arrive_179 : decode cX8_arrive 179 = .ok (.iload 6, 2) := by decide +kernel
theorem dX8_arrive_181 : decode cX8_arrive 181 = .ok (.ifCond .eq 7, 3) := by decide +kernel
theorem dX8_arrive_184 : decode cX8_arrive 184 = .ok (.iconst 1, 1) := by decide +kernel
theorem dX8_arrive_185 : decode cX8_arrive 185 = .ok (.goto 4, 3) := by decide +kernel
theorem dX8_arrive_188 : decode cX8_arrive 188 = .ok (.iconst 0, 1) := by decide +kernel
theorem dX8_arrive_189 : decode cX8_arrive 189 = .ok (.ireturn, 1) := by decide +kernel
theorem dX8_keep_0 : decode cX8_keep 0 = .ok (.aload_n 0, 1) := by decide +kernel
theorem dX8_keep_1 : decode cX8_keep 1 = .ok (.getfield 7, 3) := by decide +kernel
theorem dX8_keep_4 : decode cX8_keep 4 = .ok (.iconst 3, 1) := by decide +kernel
theorem dX8_keep_5 : decode cX8_keep 5 = .ok (.iaload, 1) := by decide +kernel
theorem dX8_keep_6 : decode cX8_keep 6 = .ok (.ifCond .ne 4, 3) := by decide +kernel
theorem dX8_keep_9 : decode cX8_keep 9 = .ok (.return_, 1) := by decide +kernel
theorem dX8_keep_10 : decode cX8_keep 10 = .ok (.aload_n 0, 1) := by decide +kernel
theorem dX8_keep_11 : decode cX8_keep 11 = .ok (.lload_n 1, 1) := by decide +kernel
theorem dX8_keep_12 : decode cX8_keep 12 = .ok (.invokevirtual 121, 3) := by decide +kernel
theorem dX8_keep_15 : decode cX8_keep 15 = .ok (.istore 5, 2) := by decide +kernel
theorem dX8_keep_17 : decode cX8_keep 17 = .ok (.iload 5, 2) := by decide +kernel
theorem dX8_keep_19 : decode cX8_keep 19 = .ok (.ifCond .ge 31, 3) := by decide +kernel
theorem dX8_keep_22 : decode cX8_keep 22 = .ok (.aload_n 0, 1) := by decide +kernel
theorem dX8_keep_23 : decode cX8_keep 23 = .ok (.getfield 101, 3) := by decide +kernel
theorem dX8_keep_26 : decode cX8_keep 26 = .ok (.bipush 8, 2) := by decide +kernel
theorem dX8_keep_28 : decode cX8_keep 28 = .ok (.if_icmp .ge 22, 3) := by decide +kernel
theorem dX8_keep_31 : decode cX8_keep 31 = .ok (.aload_n 0, 1) := by decide +kernel
theorem dX8_keep_32 : decode cX8_keep 32 = .ok (.getfield 101, 3) := by decide +kernel
theorem dX8_keep_35 : decode cX8_keep 35 = .ok (.istore 5, 2) := by decide +kernel
theorem dX8_keep_37 : decode cX8_keep 37 = .ok (.aload_n 0, 1) := by decide +kernel
theorem dX8_keep_38 : decode cX8_keep 38 = .ok (.dup, 1) := by decide +kernel
theorem dX8_keep_39 : decode cX8_keep 39 = .ok (.getfield 101, 3) := by decide +kernel
theorem dX8_keep_42 : decode cX8_keep 42 = .ok (.iconst 1, 1) := by decide +kernel
theorem dX8_keep_43 : decode cX8_keep 43 = .ok (.iadd, 1) := by decide +kernel
theorem dX8_keep_44 : decode cX8_keep 44 = .ok (.putfield 101, 3) := by decide +kernel
theorem dX8_keep_47 : decode cX8_keep 47 = .ok (.goto 88, 3) := by decide +kernel
theorem dX8_keep_50 : decode cX8_keep 50 = .ok (.iload 5, 2) := by decide +kernel
theorem dX8_keep_52 : decode cX8_keep 52 = .ok (.ifCond .ge 83, 3) := by decide +kernel
theorem dX8_keep_55 : decode cX8_keep 55 = .ok (.iconst 0, 1) := by decide +kernel
theorem dX8_keep_56 : decode cX8_keep 56 = .ok (.istore 5, 2) := by decide +kernel
theorem dX8_keep_58 : decode cX8_keep 58 = .ok (.iconst 1, 1) := by decide +kernel
theorem dX8_keep_59 : decode cX8_keep 59 = .ok (.istore 6, 2) := by decide +kernel
theorem dX8_keep_61 : decode cX8_keep 61 = .ok (.iload 6, 2) := by decide +kernel
theorem dX8_keep_63 : decode cX8_keep 63 = .ok (.bipush 8, 2) := by decide +kernel
theorem dX8_keep_65 : decode cX8_keep 65 = .ok (.if_icmp .ge 70, 3) := by decide +kernel
theorem dX8_keep_68 : decode cX8_keep 68 = .ok (.aload_n 0, 1) := by decide +kernel
theorem dX8_keep_69 : decode cX8_keep 69 = .ok (.getfield 75, 3) := by decide +kernel
theorem dX8_keep_72 : decode cX8_keep 72 = .ok (.iload 6, 2) := by decide +kernel
theorem dX8_keep_74 : decode cX8_keep 74 = .ok (.iaload, 1) := by decide +kernel
theorem dX8_keep_75 : decode cX8_keep 75 = .ok (.aload_n 0, 1) := by decide +kernel
theorem dX8_keep_76 : decode cX8_keep 76 = .ok (.getfield 75, 3) := by decide +kernel
theorem dX8_keep_79 : decode cX8_keep 79 = .ok (.iload 5, 2) := by decide +kernel
theorem dX8_keep_81 : decode cX8_keep 81 = .ok (.iaload, 1) := by decide +kernel
theorem dX8_keep_82 : decode cX8_keep 82 = .ok (.if_icmp .lt 38, 3) := by decide +kernel
theorem dX8_keep_85 : decode cX8_keep 85 = .ok (.aload_n 0, 1) := by decide +kernel
theorem dX8_keep_86 : decode cX8_keep 86 = .ok (.getfield 75, 3) := by decide +kernel
theorem dX8_keep_89 : decode cX8_keep 89 = .ok (.iload 6, 2) := by decide +kernel
theorem dX8_keep_91 : decode cX8_keep 91 = .ok (.iaload, 1) := by decide +kernel
theorem dX8_keep_92 : decode cX8_keep 92 = .ok (.aload_n 0, 1) := by decide +kernel
theorem dX8_keep_93 : decode cX8_keep 93 = .ok (.getfield 75, 3) := by decide +kernel
theorem dX8_keep_96 : decode cX8_keep 96 = .ok (.iload 5, 2) := by decide +kernel
theorem dX8_keep_98 : decode cX8_keep 98 = .ok (.iaload, 1) := by decide +kernel
theorem dX8_keep_99 : decode cX8_keep 99 = .ok (.if_icmp .ne 26, 3) := by decide +kernel
theorem dX8_keep_102 : decode cX8_keep 102 = .ok (.aload_n 0, 1) := by decide +kernel
theorem dX8_keep_103 : decode cX8_keep 103 = .ok (.getfield 69, 3) := by decide +kernel
theorem dX8_keep_106 : decode cX8_keep 106 = .ok (.iload 6, 2) := by decide +kernel
theorem dX8_keep_108 : decode cX8_keep 108 = .ok (.laload, 1) := by decide +kernel
theorem dX8_keep_109 : decode cX8_keep 109 = .ok (.aload_n 0, 1) := by decide +kernel
theorem dX8_keep_110 : decode cX8_keep 110 = .ok (.getfield 69, 3) := by decide +kernel
theorem dX8_keep_113 : decode cX8_keep 113 = .ok (.iload 5, 2) := by decide +kernel
theorem dX8_keep_115 : decode cX8_keep 115 = .ok (.laload, 1) := by decide +kernel
theorem dX8_keep_116 : decode cX8_keep 116 = .ok (.lcmp, 1) := by decide +kernel
theorem dX8_keep_117 : decode cX8_keep 117 = .ok (.ifCond .ge 8, 3) := by decide +kernel
theorem dX8_keep_120 : decode cX8_keep 120 = .ok (.iload 6, 2) := by decide +kernel
theorem dX8_keep_122 : decode cX8_keep 122 = .ok (.goto 5, 3) := by decide +kernel
theorem dX8_keep_125 : decode cX8_keep 125 = .ok (.iload 5, 2) := by decide +kernel
theorem dX8_keep_127 : decode cX8_keep 127 = .ok (.istore 5, 2) := by decide +kernel
theorem dX8_keep_129 : decode cX8_keep 129 = .ok (.iinc 6 1, 3) := by decide +kernel
theorem dX8_keep_132 : decode cX8_keep 132 = .ok (.goto (-71), 3) := by decide +kernel
theorem dX8_keep_135 : decode cX8_keep 135 = .ok (.aload_n 0, 1) := by decide +kernel
theorem dX8_keep_136 : decode cX8_keep 136 = .ok (.getfield 69, 3) := by decide +kernel
theorem dX8_keep_139 : decode cX8_keep 139 = .ok (.iload 5, 2) := by decide +kernel
theorem dX8_keep_141 : decode cX8_keep 141 = .ok (.lload_n 1, 1) := by decide +kernel
theorem dX8_keep_142 : decode cX8_keep 142 = .ok (.lastore, 1) := by decide +kernel
theorem dX8_keep_143 : decode cX8_keep 143 = .ok (.aload_n 0, 1) := by decide +kernel
theorem dX8_keep_144 : decode cX8_keep 144 = .ok (.getfield 72, 3) := by decide +kernel
theorem dX8_keep_147 : decode cX8_keep 147 = .ok (.iload 5, 2) := by decide +kernel
theorem dX8_keep_149 : decode cX8_keep 149 = .ok (.lload_n 3, 1) := by decide +kernel
theorem dX8_keep_150 : decode cX8_keep 150 = .ok (.lastore, 1) := by decide +kernel
theorem dX8_keep_151 : decode cX8_keep 151 = .ok (.aload_n 0, 1) := by decide +kernel
theorem dX8_keep_152 : decode cX8_keep 152 = .ok (.getfield 75, 3) := by decide +kernel
theorem dX8_keep_155 : decode cX8_keep 155 = .ok (.iload 5, 2) := by decide +kernel
theorem dX8_keep_157 : decode cX8_keep 157 = .ok (.aload_n 0, 1) := by decide +kernel
theorem dX8_keep_158 : decode cX8_keep 158 = .ok (.getfield 125, 3) := by decide +kernel
theorem dX8_keep_161 : decode cX8_keep 161 = .ok (.aload_n 0, 1) := by decide +kernel
theorem dX8_keep_162 : decode cX8_keep 162 = .ok (.getfield 7, 3) := by decide +kernel
theorem dX8_keep_165 : decode cX8_keep 165 = .ok (.iconst 3, 1) := by decide +kernel
theorem dX8_keep_166 : decode cX8_keep 166 = .ok (.iaload, 1) := by decide +kernel
theorem dX8_keep_167 : decode cX8_keep 167 = .ok (.iadd, 1) := by decide +kernel
theorem dX8_keep_168 : decode cX8_keep 168 = .ok (.iastore, 1) := by decide +kernel
theorem dX8_keep_169 : decode cX8_keep 169 = .ok (.return_, 1) := by decide +kernel
theorem dX8_lose_0 : decode cX8_lose 0 = .ok (.aload_n 0, 1) := by decide +kernel
theorem dX8_lose_1 : decode cX8_lose 1 = .ok (.iload_n 1, 1) := by decide +kernel
theorem dX8_lose_2 : decode cX8_lose 2 = .ok (.iload_n 2, 1) := by decide +kernel
theorem dX8_lose_3 : decode cX8_lose 3 = .ok (.invokevirtual 161, 3) := by decide +kernel
theorem dX8_lose_6 : decode cX8_lose 6 = .ok (.ifCond .ne 5, 3) := by decide +kernel
theorem dX8_lose_9 : decode cX8_lose 9 = .ok (.iconst (-1), 1) := by decide +kernel
theorem dX8_lose_10 : decode cX8_lose 10 = .ok (.ireturn, 1) := by decide +kernel
theorem dX8_lose_11 : decode cX8_lose 11 = .ok (.aload_n 0, 1) := by decide +kernel
theorem dX8_lose_12 : decode cX8_lose 12 = .ok (.iload_n 1, 1) := by decide +kernel
theorem dX8_lose_13 : decode cX8_lose 13 = .ok (.iload_n 2, 1) := by decide +kernel
theorem dX8_lose_14 : decode cX8_lose 14 = .ok (.invokevirtual 165, 3) := by decide +kernel
theorem dX8_lose_17 : decode cX8_lose 17 = .ok (.aload_n 0, 1) := by decide +kernel
theorem dX8_lose_18 : decode cX8_lose 18 = .ok (.invokevirtual 149, 3) := by decide +kernel
theorem dX8_lose_21 : decode cX8_lose 21 = .ok (.aload_n 0, 1) := by decide +kernel
theorem dX8_lose_22 : decode cX8_lose 22 = .ok (.getfield 57, 3) := by decide +kernel
theorem dX8_lose_25 : decode cX8_lose 25 = .ok (.iload_n 1, 1) := by decide +kernel
theorem dX8_lose_26 : decode cX8_lose 26 = .ok (.iaload, 1) := by decide +kernel
theorem dX8_lose_27 : decode cX8_lose 27 = .ok (.ireturn, 1) := by decide +kernel
theorem dX8_twice_0 : decode cX8_twice 0 = .ok (.aload_n 0, 1) := by decide +kernel
theorem dX8_twice_1 : decode cX8_twice 1 = .ok (.iload_n 1, 1) := by decide +kernel
theorem dX8_twice_2 : decode cX8_twice 2 = .ok (.iload_n 2, 1) := by decide +kernel
theorem dX8_twice_3 : decode cX8_twice 3 = .ok (.invokevirtual 161, 3) := by decide +kernel
theorem dX8_twice_6 : decode cX8_twice 6 = .ok (.ifCond .ne 5, 3) := by decide +kernel
theorem dX8_twice_9 : decode cX8_twice 9 = .ok (.iconst (-1), 1) := by decide +kernel
theorem dX8_twice_10 : decode cX8_twice 10 = .ok (.ireturn, 1) := by decide +kernel
theorem dX8_twice_11 : decode cX8_twice 11 = .ok (.aload_n 0, 1) := by decide +kernel
theorem dX8_twice_12 : decode cX8_twice 12 = .ok (.getfield 57, 3) := by decide +kernel
theorem dX8_twice_15 : decode cX8_twice 15 = .ok (.iload_n 1, 1) := by decide +kernel
theorem dX8_twice_16 : decode cX8_twice 16 = .ok (.iaload, 1) := by decide +kernel
theorem dX8_twice_17 : decode cX8_twice 17 = .ok (.bipush 100, 2) := by decide +kernel
theorem dX8_twice_19 : decode cX8_twice 19 = .ok (.if_icmp .ne 6, 3) := by decide +kernel
theorem dX8_twice_22 : decode cX8_twice 22 = .ok (.bipush (-4), 2) := by decide +kernel
theorem dX8_twice_24 : decode cX8_twice 24 = .ok (.ireturn, 1) := by decide +kernel
theorem dX8_twice_25 : decode cX8_twice 25 = .ok (.bipush 100, 2) := by decide +kernel
theorem dX8_twice_27 : decode cX8_twice 27 = .ok (.iload_n 1, 1) := by decide +kernel
theorem dX8_twice_28 : decode cX8_twice 28 = .ok (.imul, 1) := by decide +kernel
theorem dX8_twice_29 : decode cX8_twice 29 = .ok (.iload_n 2, 1) := by decide +kernel
theorem dX8_twice_30 : decode cX8_twice 30 = .ok (.iadd, 1) := by decide +kernel
theorem dX8_twice_31 : decode cX8_twice 31 = .ok (.istore_n 3, 1) := by decide +kernel
theorem dX8_twice_32 : decode cX8_twice 32 = .ok (.aload_n 0, 1) := by decide +kernel
theorem dX8_twice_33 : decode cX8_twice 33 = .ok (.iload_n 1, 1) := by decide +kernel
theorem dX8_twice_34 : decode cX8_twice 34 = .ok (.aload_n 0, 1) := by decide +kernel
theorem dX8_twice_35 : decode cX8_twice 35 = .ok (.getfield 48, 3) := by decide +kernel
theorem dX8_twice_38 : decode cX8_twice 38 = .ok (.iload_n 3, 1) := by decide +kernel
theorem dX8_twice_39 : decode cX8_twice 39 = .ok (.iaload, 1) := by decide +kernel
theorem dX8_twice_40 : decode cX8_twice 40 = .ok (.aload_n 0, 1) := by decide +kernel
theorem dX8_twice_41 : decode cX8_twice 41 = .ok (.getfield 51, 3) := by decide +kernel
theorem dX8_twice_44 : decode cX8_twice 44 = .ok (.iload_n 3, 1) := by decide +kernel
theorem dX8_twice_45 : decode cX8_twice 45 = .ok (.iaload, 1) := by decide +kernel
theorem dX8_twice_46 : decode cX8_twice 46 = .ok (.aload_n 0, 1) := by decide +kernel
theorem dX8_twice_47 : decode cX8_twice 47 = .ok (.getfield 54, 3) := by decide +kernel
theorem dX8_twice_50 : decode cX8_twice 50 = .ok (.iload_n 3, 1) := by decide +kernel
theorem dX8_twice_51 : decode cX8_twice 51 = .ok (.laload, 1) := by decide +kernel
theorem dX8_twice_52 : decode cX8_twice 52 = .ok (.invokevirtual 138, 3) := by decide +kernel
theorem dX8_twice_55 : decode cX8_twice 55 = .ok (.aload_n 0, 1) := by decide +kernel
theorem dX8_twice_56 : decode cX8_twice 56 = .ok (.invokevirtual 149, 3) := by decide +kernel
theorem dX8_twice_59 : decode cX8_twice 59 = .ok (.aload_n 0, 1) := by decide +kernel
theorem dX8_twice_60 : decode cX8_twice 60 = .ok (.getfield 57, 3) := by decide +kernel
theorem dX8_twice_63 : decode cX8_twice 63 = .ok (.iload_n 1, 1) := by decide +kernel
theorem dX8_twice_64 : decode cX8_twice 64 = .ok (.iaload, 1) := by decide +kernel
theorem dX8_twice_65 : decode cX8_twice 65 = .ok (.ireturn, 1) := by decide +kernel
theorem dX8_under_0 : decode cX8_under 0 = .ok (.aload_n 0, 1) := by decide +kernel
theorem dX8_under_1 : decode cX8_under 1 = .ok (.iload_n 1, 1) := by decide +kernel
theorem dX8_under_2 : decode cX8_under 2 = .ok (.iload_n 2, 1) := by decide +kernel
theorem dX8_under_3 : decode cX8_under 3 = .ok (.invokevirtual 161, 3) := by decide +kernel
theorem dX8_under_6 : decode cX8_under 6 = .ok (.ifCond .eq 17, 3) := by decide +kernel
theorem dX8_under_9 : decode cX8_under 9 = .ok (.aload_n 0, 1) := by decide +kernel
theorem dX8_under_10 : decode cX8_under 10 = .ok (.getfield 48, 3) := by decide +kernel
theorem dX8_under_13 : decode cX8_under 13 = .ok (.bipush 100, 2) := by decide +kernel
theorem dX8_under_15 : decode cX8_under 15 = .ok (.iload_n 1, 1) := by decide +kernel
theorem dX8_under_16 : decode cX8_under 16 = .ok (.imul, 1) := by decide +kernel
theorem dX8_under_17 : decode cX8_under 17 = .ok (.iload_n 2, 1) := by decide +kernel
theorem dX8_under_18 : decode cX8_under 18 = .ok (.iadd, 1) := by decide +kernel
theorem dX8_under_19 : decode cX8_under 19 = .ok (.iaload, 1) := by decide +kernel
theorem dX8_under_20 : decode cX8_under 20 = .ok (.goto 4, 3) := by decide +kernel
theorem dX8_under_23 : decode cX8_under 23 = .ok (.iconst (-1), 1) := by decide +kernel
theorem dX8_under_24 : decode cX8_under 24 = .ok (.ireturn, 1) := by decide +kernel
theorem dX8_out_0 : decode cX8_out 0 = .ok (.iload_n 1, 1) := by decide +kernel
theorem dX8_out_1 : decode cX8_out 1 = .ok (.ifCond .lt 20, 3) := by decide +kernel
theorem dX8_out_4 : decode cX8_out 4 = .ok (.iload_n 1, 1) := by decide +kernel
theorem dX8_out_5 : decode cX8_out 5 = .ok (.aload_n 0, 1) := by decide +kernel
theorem dX8_out_6 : decode cX8_out 6 = .ok (.getfield 146, 3) := by decide +kernel
theorem dX8_out_9 : decode cX8_out 9 = .ok (.if_icmp .ge 12, 3) := by decide +kernel
theorem dX8_out_12 : decode cX8_out 12 = .ok (.iload_n 2, 1) := by decide +kernel
theorem dX8_out_13 : decode cX8_out 13 = .ok (.ifCond .lt 8, 3) := by decide +kernel
theorem dX8_out_16 : decode cX8_out 16 = .ok (.iload_n 2, 1) := by decide +kernel
theorem dX8_out_17 : decode cX8_out 17 = .ok (.iconst 2, 1) := by decide +kernel
theorem dX8_out_18 : decode cX8_out 18 = .ok (.if_icmp .le 5, 3) := by decide +kernel
theorem dX8_out_21 : decode cX8_out 21 = .ok (.iconst (-1), 1) := by decide +kernel
theorem dX8_out_22 : decode cX8_out 22 = .ok (.ireturn, 1) := by decide +kernel
theorem dX8_out_23 : decode cX8_out 23 = .ok (.iload_n 2, 1) := by decide +kernel
theorem dX8_out_24 : decode cX8_out 24 = .ok (.ifCond .ne 12, 3) := by decide +kernel
theorem dX8_out_27 : decode cX8_out 27 = .ok (.aload_n 0, 1) := by decide +kernel
theorem dX8_out_28 : decode cX8_out 28 = .ok (.getfield 42, 3) := by decide +kernel
theorem dX8_out_31 : decode cX8_out 31 = .ok (.iload_n 1, 1) := by decide +kernel
theorem dX8_out_32 : decode cX8_out 32 = .ok (.iaload, 1) := by decide +kernel
theorem dX8_out_33 : decode cX8_out 33 = .ok (.goto 28, 3) := by decide +kernel
theorem dX8_out_36 : decode cX8_out 36 = .ok (.iload_n 2, 1) := by decide +kernel
theorem dX8_out_37 : decode cX8_out 37 = .ok (.iconst 1, 1) := by decide +kernel
theorem dX8_out_38 : decode cX8_out 38 = .ok (.if_icmp .ne 17, 3) := by decide +kernel
theorem dX8_out_41 : decode cX8_out 41 = .ok (.aload_n 0, 1) := by decide +kernel
theorem dX8_out_42 : decode cX8_out 42 = .ok (.getfield 27, 3) := by decide +kernel
theorem dX8_out_45 : decode cX8_out 45 = .ok (.aload_n 0, 1) := by decide +kernel
theorem dX8_out_46 : decode cX8_out 46 = .ok (.getfield 42, 3) := by decide +kernel
theorem dX8_out_49 : decode cX8_out 49 = .ok (.iload_n 1, 1) := by decide +kernel
theorem dX8_out_50 : decode cX8_out 50 = .ok (.iaload, 1) := by decide +kernel
theorem dX8_out_51 : decode cX8_out 51 = .ok (.iaload, 1) := by decide +kernel
theorem dX8_out_52 : decode cX8_out 52 = .ok (.goto 9, 3) := by decide +kernel
theorem dX8_out_55 : decode cX8_out 55 = .ok (.aload_n 0, 1) := by decide +kernel
theorem dX8_out_56 : decode cX8_out 56 = .ok (.getfield 45, 3) := by decide +kernel
theorem dX8_out_59 : decode cX8_out 59 = .ok (.iload_n 1, 1) := by decide +kernel
theorem dX8_out_60 : decode cX8_out 60 = .ok (.iaload, 1) := by decide +kernel
theorem dX8_out_61 : decode cX8_out 61 = .ok (.ireturn, 1) := by decide +kernel
theorem dX8_isItem_0 : decode cX8_isItem 0 = .ok (.iload_n 1, 1) := by decide +kernel
theorem dX8_isItem_1 : decode cX8_isItem 1 = .ok (.ifCond .lt 15, 3) := by decide +kernel
theorem dX8_isItem_4 : decode cX8_isItem 4 = .ok (.iload_n 1, 1) := by decide +kernel
theorem dX8_isItem_5 : decode cX8_isItem 5 = .ok (.aload_n 0, 1) := by decide +kernel
theorem dX8_isItem_6 : decode cX8_isItem 6 = .ok (.getfield 98, 3) := by decide +kernel
theorem dX8_isItem_9 : decode cX8_isItem 9 = .ok (.if_icmp .ge 7, 3) := by decide +kernel
theorem dX8_isItem_12 : decode cX8_isItem 12 = .ok (.iconst 1, 1) := by decide +kernel
theorem dX8_isItem_13 : decode cX8_isItem 13 = .ok (.goto 4, 3) := by decide +kernel
theorem dX8_isItem_16 : decode cX8_isItem 16 = .ok (.iconst 0, 1) := by decide +kernel
theorem dX8_isItem_17 : decode cX8_isItem 17 = .ok (.ireturn, 1) := by decide +kernel
theorem dX8_value_0 : decode cX8_value 0 = .ok (.aload_n 0, 1) := by decide +kernel
theorem dX8_value_1 : decode cX8_value 1 = .ok (.iload_n 1, 1) := by decide +kernel
theorem dX8_value_2 : decode cX8_value 2 = .ok (.invokevirtual 176, 3) := by decide +kernel
theorem dX8_value_5 : decode cX8_value 5 = .ok (.ifCond .eq 32, 3) := by decide +kernel
theorem dX8_value_8 : decode cX8_value 8 = .ok (.aload_n 0, 1) := by decide +kernel
theorem dX8_value_9 : decode cX8_value 9 = .ok (.getfield 24, 3) := by decide +kernel
theorem dX8_value_12 : decode cX8_value 12 = .ok (.iload_n 1, 1) := by decide +kernel
theorem dX8_value_13 : decode cX8_value 13 = .ok (.iaload, 1) := by decide +kernel
theorem dX8_value_14 : decode cX8_value 14 = .ok (.iconst 2, 1) := by decide +kernel
theorem dX8_value_15 : decode cX8_value 15 = .ok (.if_icmp .eq 13, 3) := by decide +kernel
theorem dX8_value_18 : decode cX8_value 18 = .ok (.aload_n 0, 1) := by decide +kernel
theorem dX8_value_19 : decode cX8_value 19 = .ok (.getfield 24, 3) := by decide +kernel
theorem dX8_value_22 : decode cX8_value 22 = .ok (.iload_n 1, 1) := by decide +kernel
theorem dX8_value_23 : decode cX8_value 23 = .ok (.iaload, 1) := by decide +kernel
theorem dX8_value_24 : decode cX8_value 24 = .ok (.iconst 3, 1) := by decide +kernel
theorem dX8_value_25 : decode cX8_value 25 = .ok (.if_icmp .ne 12, 3) := by decide +kernel
theorem dX8_value_28 : decode cX8_value 28 = .ok (.aload_n 0, 1) := by decide +kernel
theorem dX8_value_29 : decode cX8_value 29 = .ok (.getfield 30, 3) := by decide +kernel
theorem dX8_value_32 : decode cX8_value 32 = .ok (.iload_n 1, 1) := by decide +kernel
theorem dX8_value_33 : decode cX8_value 33 = .ok (.laload, 1) := by decide +kernel
theorem dX8_value_34 : decode cX8_value 34 = .ok (.goto 4, 3) := by decide +kernel
theorem dX8_value_37 : decode cX8_value 37 = .ok (.lconst 0, 1) := by decide +kernel
theorem dX8_value_38 : decode cX8_value 38 = .ok (.lreturn, 1) := by decide +kernel
theorem dX8_item_0 : decode cX8_item 0 = .ok (.aload_n 0, 1) := by decide +kernel
theorem dX8_item_1 : decode cX8_item 1 = .ok (.iload_n 1, 1) := by decide +kernel
theorem dX8_item_2 : decode cX8_item 2 = .ok (.invokevirtual 176, 3) := by decide +kernel
theorem dX8_item_5 : decode cX8_item 5 = .ok (.ifCond .eq 12, 3) := by decide +kernel
theorem dX8_item_8 : decode cX8_item 8 = .ok (.iload_n 2, 1) := by decide +kernel
theorem dX8_item_9 : decode cX8_item 9 = .ok (.ifCond .lt 8, 3) := by decide +kernel
theorem dX8_item_12 : decode cX8_item 12 = .ok (.iload_n 2, 1) := by decide +kernel
theorem dX8_item_13 : decode cX8_item 13 = .ok (.iconst 4, 1) := by decide +kernel
theorem dX8_item_14 : decode cX8_item 14 = .ok (.if_icmp .le 5, 3) := by decide +kernel
theorem dX8_item_17 : decode cX8_item 17 = .ok (.iconst (-1), 1) := by decide +kernel
theorem dX8_item_18 : decode cX8_item 18 = .ok (.ireturn, 1) := by decide +kernel
theorem dX8_item_19 : decode cX8_item 19 = .ok (.iload_n 2, 1) := by decide +kernel
theorem dX8_item_20 : decode cX8_item 20 = .ok (.iconst 1, 1) := by decide +kernel
theorem dX8_item_21 : decode cX8_item 21 = .ok (.if_icmp .ne 34, 3) := by decide +kernel
theorem dX8_item_24 : decode cX8_item 24 = .ok (.aload_n 0, 1) := by decide +kernel
theorem dX8_item_25 : decode cX8_item 25 = .ok (.getfield 24, 3) := by decide +kernel
theorem dX8_item_28 : decode cX8_item 28 = .ok (.iload_n 1, 1) := by decide +kernel
theorem dX8_item_29 : decode cX8_item 29 = .ok (.iaload, 1) := by decide +kernel
theorem dX8_item_30 : decode cX8_item 30 = .ok (.iconst 2, 1) := by decide +kernel
theorem dX8_item_31 : decode cX8_item 31 = .ok (.if_icmp .eq 13, 3) := by decide +kernel
theorem dX8_item_34 : decode cX8_item 34 = .ok (.aload_n 0, 1) := by decide +kernel
theorem dX8_item_35 : decode cX8_item 35 = .ok (.getfield 24, 3) := by decide +kernel
theorem dX8_item_38 : decode cX8_item 38 = .ok (.iload_n 1, 1) := by decide +kernel
theorem dX8_item_39 : decode cX8_item 39 = .ok (.iaload, 1) := by decide +kernel
theorem dX8_item_40 : decode cX8_item 40 = .ok (.iconst 3, 1) := by decide +kernel
theorem dX8_item_41 : decode cX8_item 41 = .ok (.if_icmp .ne 12, 3) := by decide +kernel
theorem dX8_item_44 : decode cX8_item 44 = .ok (.aload_n 0, 1) := by decide +kernel
theorem dX8_item_45 : decode cX8_item 45 = .ok (.getfield 27, 3) := by decide +kernel
theorem dX8_item_48 : decode cX8_item 48 = .ok (.iload_n 1, 1) := by decide +kernel
theorem dX8_item_49 : decode cX8_item 49 = .ok (.iaload, 1) := by decide +kernel
theorem dX8_item_50 : decode cX8_item 50 = .ok (.goto 4, 3) := by decide +kernel
theorem dX8_item_53 : decode cX8_item 53 = .ok (.iconst (-1), 1) := by decide +kernel
theorem dX8_item_54 : decode cX8_item 54 = .ok (.ireturn, 1) := by decide +kernel
theorem dX8_item_55 : decode cX8_item 55 = .ok (.iload_n 2, 1) := by decide +kernel
theorem dX8_item_56 : decode cX8_item 56 = .ok (.ifCond .ne 12, 3) := by decide +kernel
theorem dX8_item_59 : decode cX8_item 59 = .ok (.aload_n 0, 1) := by decide +kernel
theorem dX8_item_60 : decode cX8_item 60 = .ok (.getfield 24, 3) := by decide +kernel
theorem dX8_item_63 : decode cX8_item 63 = .ok (.iload_n 1, 1) := by decide +kernel
theorem dX8_item_64 : decode cX8_item 64 = .ok (.iaload, 1) := by decide +kernel
theorem dX8_item_65 : decode cX8_item 65 = .ok (.goto 52, 3) := by decide +kernel
theorem dX8_item_68 : decode cX8_item 68 = .ok (.iload_n 2, 1) := by decide +kernel
theorem dX8_item_69 : decode cX8_item 69 = .ok (.iconst 2, 1) := by decide +kernel
theorem dX8_item_70 : decode cX8_item 70 = .ok (.if_icmp .ne 12, 3) := by decide +kernel
theorem dX8_item_73 : decode cX8_item 73 = .ok (.aload_n 0, 1) := by decide +kernel
theorem dX8_item_74 : decode cX8_item 74 = .ok (.getfield 33, 3) := by decide +kernel
theorem dX8_item_77 : decode cX8_item 77 = .ok (.iload_n 1, 1) := by decide +kernel
theorem dX8_item_78 : decode cX8_item 78 = .ok (.iaload, 1) := by decide +kernel
theorem dX8_item_79 : decode cX8_item 79 = .ok (.goto 38, 3) := by decide +kernel
theorem dX8_item_82 : decode cX8_item 82 = .ok (.iload_n 2, 1) := by decide +kernel
theorem dX8_item_83 : decode cX8_item 83 = .ok (.iconst 3, 1) := by decide +kernel
theorem dX8_item_84 : decode cX8_item 84 = .ok (.if_icmp .ne 20, 3) := by decide +kernel
theorem dX8_item_87 : decode cX8_item 87 = .ok (.aload_n 0, 1) := by decide +kernel
theorem dX8_item_88 : decode cX8_item 88 = .ok (.getfield 13, 3) := by decide +kernel
theorem dX8_item_91 : decode cX8_item 91 = .ok (.iload_n 1, 1) := by decide +kernel
theorem dX8_item_92 : decode cX8_item 92 = .ok (.baload, 1) := by decide +kernel
theorem dX8_item_93 : decode cX8_item 93 = .ok (.ifCond .eq 7, 3) := by decide +kernel
theorem dX8_item_96 : decode cX8_item 96 = .ok (.iconst 1, 1) := by decide +kernel
theorem dX8_item_97 : decode cX8_item 97 = .ok (.goto 20, 3) := by decide +kernel
theorem dX8_item_100 : decode cX8_item 100 = .ok (.iconst 0, 1) := by decide +kernel
theorem dX8_item_101 : decode cX8_item 101 = .ok (.goto 16, 3) := by decide +kernel
theorem dX8_item_104 : decode cX8_item 104 = .ok (.aload_n 0, 1) := by decide +kernel
theorem dX8_item_105 : decode cX8_item 105 = .ok (.iload_n 1, 1) := by decide +kernel
theorem dX8_item_106 : decode cX8_item 106 = .ok (.invokevirtual 111, 3) := by decide +kernel
theorem dX8_item_109 : decode cX8_item 109 = .ok (.ifCond .lt 7, 3) := by decide +kernel
theorem dX8_item_112 : decode cX8_item 112 = .ok (.iconst 1, 1) := by decide +kernel
theorem dX8_item_113 : decode cX8_item 113 = .ok (.goto 4, 3) := by decide +kernel
theorem dX8_item_116 : decode cX8_item 116 = .ok (.iconst 0, 1) := by decide +kernel
theorem dX8_item_117 : decode cX8_item 117 = .ok (.ireturn, 1) := by decide +kernel
theorem dX8_count_0 : decode cX8_count 0 = .ok (.aload_n 0, 1) := by decide +kernel
theorem dX8_count_1 : decode cX8_count 1 = .ok (.lload_n 1, 1) := by decide +kernel
theorem dX8_count_2 : decode cX8_count 2 = .ok (.invokevirtual 169, 3) := by decide +kernel
theorem dX8_count_5 : decode cX8_count 5 = .ok (.istore_n 3, 1) := by decide +kernel
theorem dX8_count_6 : decode cX8_count 6 = .ok (.iload_n 3, 1) := by decide +kernel
theorem dX8_count_7 : decode cX8_count 7 = .ok (.ifCond .ge 7, 3) := by decide +kernel
theorem dX8_count_10 : decode cX8_count 10 = .ok (.iconst 0, 1) := by decide +kernel
theorem dX8_count_11 : decode cX8_count 11 = .ok (.goto 9, 3) := by decide +kernel
theorem dX8_count_14 : decode cX8_count 14 = .ok (.aload_n 0, 1) := by decide +kernel
theorem dX8_count_15 : decode cX8_count 15 = .ok (.getfield 60, 3) := by decide +kernel
theorem dX8_count_18 : decode cX8_count 18 = .ok (.iload_n 3, 1) := by decide +kernel
theorem dX8_count_19 : decode cX8_count 19 = .ok (.iaload, 1) := by decide +kernel
theorem dX8_count_20 : decode cX8_count 20 = .ok (.ireturn, 1) := by decide +kernel
theorem dX8_kept_0 : decode cX8_kept 0 = .ok (.aload_n 0, 1) := by decide +kernel
theorem dX8_kept_1 : decode cX8_kept 1 = .ok (.lload_n 1, 1) := by decide +kernel
theorem dX8_kept_2 : decode cX8_kept 2 = .ok (.invokevirtual 121, 3) := by decide +kernel
theorem dX8_kept_5 : decode cX8_kept 5 = .ok (.istore_n 3, 1) := by decide +kernel
theorem dX8_kept_6 : decode cX8_kept 6 = .ok (.iload_n 3, 1) := by decide +kernel
theorem dX8_kept_7 : decode cX8_kept 7 = .ok (.ifCond .ge 7, 3) := by decide +kernel
theorem dX8_kept_10 : decode cX8_kept 10 = .ok (.iconst (-1), 1) := by decide +kernel
theorem dX8_kept_11 : decode cX8_kept 11 = .ok (.goto 9, 3) := by decide +kernel
theorem dX8_kept_14 : decode cX8_kept 14 = .ok (.aload_n 0, 1) := by decide +kernel
theorem dX8_kept_15 : decode cX8_kept 15 = .ok (.getfield 75, 3) := by decide +kernel
theorem dX8_kept_18 : decode cX8_kept 18 = .ok (.iload_n 3, 1) := by decide +kernel
theorem dX8_kept_19 : decode cX8_kept 19 = .ok (.iaload, 1) := by decide +kernel
theorem dX8_kept_20 : decode cX8_kept 20 = .ok (.ireturn, 1) := by decide +kernel
theorem dX8_save_0 : decode cX8_save 0 = .ok (.iconst 0, 1) := by decide +kernel
theorem dX8_save_1 : decode cX8_save 1 = .ok (.istore_n 1, 1) := by decide +kernel
theorem dX8_save_2 : decode cX8_save 2 = .ok (.iconst 0, 1) := by decide +kernel
theorem dX8_save_3 : decode cX8_save 3 = .ok (.istore_n 2, 1) := by decide +kernel
theorem dX8_save_4 : decode cX8_save 4 = .ok (.iload_n 2, 1) := by decide +kernel
theorem dX8_save_5 : decode cX8_save 5 = .ok (.aload_n 0, 1) := by decide +kernel
theorem dX8_save_6 : decode cX8_save 6 = .ok (.getfield 98, 3) := by decide +kernel
theorem dX8_save_9 : decode cX8_save 9 = .ok (.if_icmp .ge 75, 3) := by decide +kernel
theorem dX8_save_12 : decode cX8_save 12 = .ok (.aload_n 0, 1) := by decide +kernel
theorem dX8_save_13 : decode cX8_save 13 = .ok (.getfield 78, 3) := by decide +kernel
theorem dX8_save_16 : decode cX8_save 16 = .ok (.iload_n 2, 1) := by decide +kernel
theorem dX8_save_17 : decode cX8_save 17 = .ok (.aload_n 0, 1) := by decide +kernel
theorem dX8_save_18 : decode cX8_save 18 = .ok (.getfield 24, 3) := by decide +kernel
theorem dX8_save_21 : decode cX8_save 21 = .ok (.iload_n 2, 1) := by decide +kernel
theorem dX8_save_22 : decode cX8_save 22 = .ok (.iaload, 1) := by decide +kernel
theorem dX8_save_23 : decode cX8_save 23 = .ok (.iastore, 1) := by decide +kernel
theorem dX8_save_24 : decode cX8_save 24 = .ok (.aload_n 0, 1) := by decide +kernel
theorem dX8_save_25 : decode cX8_save 25 = .ok (.getfield 81, 3) := by decide +kernel
theorem dX8_save_28 : decode cX8_save 28 = .ok (.iload_n 2, 1) := by decide +kernel
theorem dX8_save_29 : decode cX8_save 29 = .ok (.aload_n 0, 1) := by decide +kernel
theorem dX8_save_30 : decode cX8_save 30 = .ok (.getfield 27, 3) := by decide +kernel
theorem dX8_save_33 : decode cX8_save 33 = .ok (.iload_n 2, 1) := by decide +kernel
theorem dX8_save_34 : decode cX8_save 34 = .ok (.iaload, 1) := by decide +kernel
theorem dX8_save_35 : decode cX8_save 35 = .ok (.iastore, 1) := by decide +kernel
theorem dX8_save_36 : decode cX8_save 36 = .ok (.aload_n 0, 1) := by decide +kernel
theorem dX8_save_37 : decode cX8_save 37 = .ok (.getfield 84, 3) := by decide +kernel
theorem dX8_save_40 : decode cX8_save 40 = .ok (.iload_n 2, 1) := by decide +kernel
theorem dX8_save_41 : decode cX8_save 41 = .ok (.aload_n 0, 1) := by decide +kernel
theorem dX8_save_42 : decode cX8_save 42 = .ok (.getfield 30, 3) := by decide +kernel
theorem dX8_save_45 : decode cX8_save 45 = .ok (.iload_n 2, 1) := by decide +kernel
theorem dX8_save_46 : decode cX8_save 46 = .ok (.laload, 1) := by decide +kernel
theorem dX8_save_47 : decode cX8_save 47 = .ok (.lastore, 1) := by decide +kernel
theorem dX8_save_48 : decode cX8_save 48 = .ok (.aload_n 0, 1) := by decide +kernel
theorem dX8_save_49 : decode cX8_save 49 = .ok (.getfield 87, 3) := by decide +kernel
theorem dX8_save_52 : decode cX8_save 52 = .ok (.iload_n 2, 1) := by decide +kernel
theorem dX8_save_53 : decode cX8_save 53 = .ok (.aload_n 0, 1) := by decide +kernel
theorem dX8_save_54 : decode cX8_save 54 = .ok (.getfield 33, 3) := by decide +kernel
theorem dX8_save_57 : decode cX8_save 57 = .ok (.iload_n 2, 1) := by decide +kernel
theorem dX8_save_58 : decode cX8_save 58 = .ok (.iaload, 1) := by decide +kernel
theorem dX8_save_59 : decode cX8_save 59 = .ok (.iastore, 1) := by decide +kernel
theorem dX8_save_60 : decode cX8_save 60 = .ok (.iload_n 1, 1) := by decide +kernel
theorem dX8_save_61 : decode cX8_save 61 = .ok (.aload_n 0, 1) := by decide +kernel
theorem dX8_save_62 : decode cX8_save 62 = .ok (.getfield 24, 3) := by decide +kernel
theorem dX8_save_65 : decode cX8_save 65 = .ok (.iload_n 2, 1) := by decide +kernel
theorem dX8_save_66 : decode cX8_save 66 = .ok (.iaload, 1) := by decide +kernel
theorem dX8_save_67 : decode cX8_save 67 = .ok (.iconst 3, 1) := by decide +kernel
theorem dX8_save_68 : decode cX8_save 68 = .ok (.if_icmp .ge 7, 3) := by decide +kernel
theorem dX8_save_71 : decode cX8_save 71 = .ok (.iconst 1, 1) := by decide +kernel
theorem dX8_save_72 : decode cX8_save 72 = .ok (.goto 4, 3) := by decide +kernel
theorem dX8_save_75 : decode cX8_save 75 = .ok (.iconst 0, 1) := by decide +kernel
theorem dX8_save_76 : decode cX8_save 76 = .ok (.iadd, 1) := by decide +kernel
theorem dX8_save_77 : decode cX8_save 77 = .ok (.istore_n 1, 1) := by decide +kernel
theorem dX8_save_78 : decode cX8_save 78 = .ok (.iinc 2 1, 3) := by decide +kernel
theorem dX8_save_81 : decode cX8_save 81 = .ok (.goto (-77), 3) := by decide +kernel
theorem dX8_save_84 : decode cX8_save 84 = .ok (.aload_n 0, 1) := by decide +kernel
theorem dX8_save_85 : decode cX8_save 85 = .ok (.aload_n 0, 1) := by decide +kernel
theorem dX8_save_86 : decode cX8_save 86 = .ok (.getfield 98, 3) := by decide +kernel
theorem dX8_save_89 : decode cX8_save 89 = .ok (.putfield 179, 3) := by decide +kernel
theorem dX8_save_92 : decode cX8_save 92 = .ok (.aload_n 0, 1) := by decide +kernel
theorem dX8_save_93 : decode cX8_save 93 = .ok (.aload_n 0, 1) := by decide +kernel
theorem dX8_save_94 : decode cX8_save 94 = .ok (.getfield 146, 3) := by decide +kernel
theorem dX8_save_97 : decode cX8_save 97 = .ok (.putfield 182, 3) := by decide +kernel
theorem dX8_save_100 : decode cX8_save 100 = .ok (.iload_n 1, 1) := by decide +kernel
theorem dX8_save_101 : decode cX8_save 101 = .ok (.ireturn, 1) := by decide +kernel
theorem dX8_restart_0 : decode cX8_restart 0 = .ok (.aload_n 0, 1) := by decide +kernel
theorem dX8_restart_1 : decode cX8_restart 1 = .ok (.aload_n 0, 1) := by decide +kernel
theorem dX8_restart_2 : decode cX8_restart 2 = .ok (.getfield 182, 3) := by decide +kernel
theorem dX8_restart_5 : decode cX8_restart 5 = .ok (.putfield 146, 3) := by decide +kernel
theorem dX8_restart_8 : decode cX8_restart 8 = .ok (.aload_n 0, 1) := by decide +kernel
theorem dX8_restart_9 : decode cX8_restart 9 = .ok (.iconst 0, 1) := by decide +kernel
theorem dX8_restart_10 : decode cX8_restart 10 = .ok (.putfield 108, 3) := by decide +kernel
theorem dX8_restart_13 : decode cX8_restart 13 = .ok (.aload_n 0, 1) := by decide +kernel
theorem dX8_restart_14 : decode cX8_restart 14 = .ok (.iconst 0, 1) := by decide +kernel
theorem dX8_restart_15 : decode cX8_restart 15 = .ok (.putfield 101, 3) := by decide +kernel
theorem dX8_restart_18 : decode cX8_restart 18 = .ok (.iconst 0, 1) := by decide +kernel
theorem dX8_restart_19 : decode cX8_restart 19 = .ok (.istore_n 1, 1) := by decide +kernel
theorem dX8_restart_20 : decode cX8_restart 20 = .ok (.iload_n 1, 1) := by decide +kernel
theorem dX8_restart_21 : decode cX8_restart 21 = .ok (.aload_n 0, 1) := by decide +kernel
theorem dX8_restart_22 : decode cX8_restart 22 = .ok (.getfield 98, 3) := by decide +kernel
theorem dX8_restart_25 : decode cX8_restart 25 = .ok (.if_icmp .ge 122, 3) := by decide +kernel
theorem dX8_restart_28 : decode cX8_restart 28 = .ok (.iload_n 1, 1) := by decide +kernel
theorem dX8_restart_29 : decode cX8_restart 29 = .ok (.aload_n 0, 1) := by decide +kernel
theorem dX8_restart_30 : decode cX8_restart 30 = .ok (.getfield 179, 3) := by decide +kernel
theorem dX8_restart_33 : decode cX8_restart 33 = .ok (.if_icmp .lt 20, 3) := by decide +kernel
theorem dX8_restart_36 : decode cX8_restart 36 = .ok (.aload_n 0, 1) := by decide +kernel
theorem dX8_restart_37 : decode cX8_restart 37 = .ok (.getfield 24, 3) := by decide +kernel
theorem dX8_restart_40 : decode cX8_restart 40 = .ok (.iload_n 1, 1) := by decide +kernel
theorem dX8_restart_41 : decode cX8_restart 41 = .ok (.iconst 4, 1) := by decide +kernel
theorem dX8_restart_42 : decode cX8_restart 42 = .ok (.iastore, 1) := by decide +kernel
theorem dX8_restart_43 : decode cX8_restart 43 = .ok (.aload_n 0, 1) := by decide +kernel
theorem dX8_restart_44 : decode cX8_restart 44 = .ok (.getfield 33, 3) := by decide +kernel
theorem dX8_restart_47 : decode cX8_restart 47 = .ok (.iload_n 1, 1) := by decide +kernel
theorem dX8_restart_48 : decode cX8_restart 48 = .ok (.iconst 0, 1) := by decide +kernel
theorem dX8_restart_49 : decode cX8_restart 49 = .ok (.iastore, 1) := by decide +kernel
theorem dX8_restart_50 : decode cX8_restart 50 = .ok (.goto 91, 3) := by decide +kernel
theorem dX8_restart_53 : decode cX8_restart 53 = .ok (.aload_n 0, 1) := by decide +kernel
theorem dX8_restart_54 : decode cX8_restart 54 = .ok (.getfield 24, 3) := by decide +kernel
theorem dX8_restart_57 : decode cX8_restart 57 = .ok (.iload_n 1, 1) := by decide +kernel
theorem dX8_restart_58 : decode cX8_restart 58 = .ok (.aload_n 0, 1) := by decide +kernel
theorem dX8_restart_59 : decode cX8_restart 59 = .ok (.getfield 78, 3) := by decide +kernel
theorem dX8_restart_62 : decode cX8_restart 62 = .ok (.iload_n 1, 1) := by decide +kernel
theorem dX8_restart_63 : decode cX8_restart 63 = .ok (.iaload, 1) := by decide +kernel
theorem dX8_restart_64 : decode cX8_restart 64 = .ok (.iastore, 1) := by decide +kernel
theorem dX8_restart_65 : decode cX8_restart 65 = .ok (.aload_n 0, 1) := by decide +kernel
theorem dX8_restart_66 : decode cX8_restart 66 = .ok (.getfield 27, 3) := by decide +kernel
theorem dX8_restart_69 : decode cX8_restart 69 = .ok (.iload_n 1, 1) := by decide +kernel
theorem dX8_restart_70 : decode cX8_restart 70 = .ok (.aload_n 0, 1) := by decide +kernel
theorem dX8_restart_71 : decode cX8_restart 71 = .ok (.getfield 81, 3) := by decide +kernel
theorem dX8_restart_74 : decode cX8_restart 74 = .ok (.iload_n 1, 1) := by decide +kernel
theorem dX8_restart_75 : decode cX8_restart 75 = .ok (.iaload, 1) := by decide +kernel
theorem dX8_restart_76 : decode cX8_restart 76 = .ok (.iastore, 1) := by decide +kernel
theorem dX8_restart_77 : decode cX8_restart 77 = .ok (.aload_n 0, 1) := by decide +kernel
theorem dX8_restart_78 : decode cX8_restart 78 = .ok (.getfield 30, 3) := by decide +kernel
theorem dX8_restart_81 : decode cX8_restart 81 = .ok (.iload_n 1, 1) := by decide +kernel
theorem dX8_restart_82 : decode cX8_restart 82 = .ok (.aload_n 0, 1) := by decide +kernel
theorem dX8_restart_83 : decode cX8_restart 83 = .ok (.getfield 84, 3) := by decide +kernel
theorem dX8_restart_86 : decode cX8_restart 86 = .ok (.iload_n 1, 1) := by decide +kernel
theorem dX8_restart_87 : decode cX8_restart 87 = .ok (.laload, 1) := by decide +kernel
theorem dX8_restart_88 : decode cX8_restart 88 = .ok (.lastore, 1) := by decide +kernel
theorem dX8_restart_89 : decode cX8_restart 89 = .ok (.aload_n 0, 1) := by decide +kernel
theorem dX8_restart_90 : decode cX8_restart 90 = .ok (.getfield 33, 3) := by decide +kernel
theorem dX8_restart_93 : decode cX8_restart 93 = .ok (.iload_n 1, 1) := by decide +kernel
theorem dX8_restart_94 : decode cX8_restart 94 = .ok (.aload_n 0, 1) := by decide +kernel
theorem dX8_restart_95 : decode cX8_restart 95 = .ok (.getfield 87, 3) := by decide +kernel
theorem dX8_restart_98 : decode cX8_restart 98 = .ok (.iload_n 1, 1) := by decide +kernel
theorem dX8_restart_99 : decode cX8_restart 99 = .ok (.iaload, 1) := by decide +kernel
theorem dX8_restart_100 : decode cX8_restart 100 = .ok (.iastore, 1) := by decide +kernel
theorem dX8_restart_101 : decode cX8_restart 101 = .ok (.aload_n 0, 1) := by decide +kernel
theorem dX8_restart_102 : decode cX8_restart 102 = .ok (.getfield 24, 3) := by decide +kernel
theorem dX8_restart_105 : decode cX8_restart 105 = .ok (.iload_n 1, 1) := by decide +kernel
theorem dX8_restart_106 : decode cX8_restart 106 = .ok (.iaload, 1) := by decide +kernel
theorem dX8_restart_107 : decode cX8_restart 107 = .ok (.iconst 1, 1) := by decide +kernel
theorem dX8_restart_108 : decode cX8_restart 108 = .ok (.if_icmp .ne 33, 3) := by decide +kernel
theorem dX8_restart_111 : decode cX8_restart 111 = .ok (.aload_n 0, 1) := by decide +kernel
theorem dX8_restart_112 : decode cX8_restart 112 = .ok (.getfield 33, 3) := by decide +kernel
theorem dX8_restart_115 : decode cX8_restart 115 = .ok (.iload_n 1, 1) := by decide +kernel
theorem dX8_restart_116 : decode cX8_restart 116 = .ok (.dup2, 1) := by decide +kernel
theorem dX8_restart_117 : decode cX8_restart 117 = .ok (.iaload, 1) := by decide +kernel
theorem dX8_restart_118 : decode cX8_restart 118 = .ok (.iconst 1, 1) := by decide +kernel
theorem dX8_restart_119 : decode cX8_restart 119 = .ok (.iadd, 1) := by decide +kernel
theorem dX8_restart_120 : decode cX8_restart 120 = .ok (.iastore, 1) := by decide +kernel
theorem dX8_restart_121 : decode cX8_restart 121 = .ok (.aload_n 0, 1) := by decide +kernel
theorem dX8_restart_122 : decode cX8_restart 122 = .ok (.getfield 39, 3) := by decide +kernel
theorem dX8_restart_125 : decode cX8_restart 125 = .ok (.aload_n 0, 1) := by decide +kernel
theorem dX8_restart_126 : decode cX8_restart 126 = .ok (.getfield 108, 3) := by decide +kernel
theorem dX8_restart_129 : decode cX8_restart 129 = .ok (.iload_n 1, 1) := by decide +kernel
theorem dX8_restart_130 : decode cX8_restart 130 = .ok (.iastore, 1) := by decide +kernel
theorem dX8_restart_131 : decode cX8_restart 131 = .ok (.aload_n 0, 1) := by decide +kernel
theorem dX8_restart_132 : decode cX8_restart 132 = .ok (.dup, 1) := by decide +kernel
theorem dX8_restart_133 : decode cX8_restart 133 = .ok (.getfield 108, 3) := by decide +kernel
theorem dX8_restart_136 : decode cX8_restart 136 = .ok (.iconst 1, 1) := by decide +kernel
theorem dX8_restart_137 : decode cX8_restart 137 = .ok (.iadd, 1) := by decide +kernel
theorem dX8_restart_138 : decode cX8_restart 138 = .ok (.putfield 108, 3) := by decide +kernel
theorem dX8_restart_141 : decode cX8_restart 141 = .ok (.iinc 1 1, 3) := by decide +kernel
theorem dX8_restart_144 : decode cX8_restart 144 = .ok (.goto (-124), 3) := by decide +kernel
theorem dX8_restart_147 : decode cX8_restart 147 = .ok (.aload_n 0, 1) := by decide +kernel
theorem dX8_restart_148 : decode cX8_restart 148 = .ok (.dup, 1) := by decide +kernel
theorem dX8_restart_149 : decode cX8_restart 149 = .ok (.getfield 185, 3) := by decide +kernel
theorem dX8_restart_152 : decode cX8_restart 152 = .ok (.iconst 1, 1) := by decide +kernel
theorem dX8_restart_153 : decode cX8_restart 153 = .ok (.iadd, 1) := by decide +kernel
theorem dX8_restart_154 : decode cX8_restart 154 = .ok (.putfield 185, 3) := by decide +kernel
theorem dX8_restart_157 : decode cX8_restart 157 = .ok (.aload_n 0, 1) := by decide +kernel
theorem dX8_restart_158 : decode cX8_restart 158 = .ok (.invokevirtual 149, 3) := by decide +kernel
theorem dX8_restart_161 : decode cX8_restart 161 = .ok (.aload_n 0, 1) := by decide +kernel
theorem dX8_restart_162 : decode cX8_restart 162 = .ok (.iconst 1, 1) := by decide +kernel
theorem dX8_restart_163 : decode cX8_restart 163 = .ok (.invokevirtual 115, 3) := by decide +kernel
theorem dX8_restart_166 : decode cX8_restart 166 = .ok (.ireturn, 1) := by decide +kernel
theorem dX8_told_0 : decode cX8_told 0 = .ok (.iload_n 1, 1) := by decide +kernel
theorem dX8_told_1 : decode cX8_told 1 = .ok (.tableswitch 125 0 12 #[67, 72, 77, 82, 82, 82, 90, 95, 95, 105, 110, 115, 120], 67) := by decide +kernel
theorem dX8_told_68 : decode cX8_told 68 = .ok (.aload_n 0, 1) := by decide +kernel
theorem dX8_told_69 : decode cX8_told 69 = .ok (.getfield 125, 3) := by decide +kernel
theorem dX8_told_72 : decode cX8_told 72 = .ok (.ireturn, 1) := by decide +kernel
theorem dX8_told_73 : decode cX8_told 73 = .ok (.aload_n 0, 1) := by decide +kernel
theorem dX8_told_74 : decode cX8_told 74 = .ok (.getfield 98, 3) := by decide +kernel
theorem dX8_told_77 : decode cX8_told 77 = .ok (.ireturn, 1) := by decide +kernel
theorem dX8_told_78 : decode cX8_told 78 = .ok (.aload_n 0, 1) := by decide +kernel
theorem dX8_told_79 : decode cX8_told 79 = .ok (.getfield 146, 3) := by decide +kernel
theorem dX8_told_82 : decode cX8_told 82 = .ok (.ireturn, 1) := by decide +kernel
theorem dX8_told_83 : decode cX8_told 83 = .ok (.aload_n 0, 1) := by decide +kernel
theorem dX8_told_84 : decode cX8_told 84 = .ok (.iload_n 1, 1) := by decide +kernel
theorem dX8_told_85 : decode cX8_told 85 = .ok (.iconst 3, 1) := by decide +kernel
theorem dX8_told_86 : decode cX8_told 86 = .ok (.isub, 1) := by decide +kernel
theorem dX8_told_87 : decode cX8_told 87 = .ok (.invokevirtual 115, 3) := by decide +kernel
theorem dX8_told_90 : decode cX8_told 90 = .ok (.ireturn, 1) := by decide +kernel
theorem dX8_told_91 : decode cX8_told 91 = .ok (.aload_n 0, 1) := by decide +kernel
theorem dX8_told_92 : decode cX8_told 92 = .ok (.getfield 108, 3) := by decide +kernel
theorem dX8_told_95 : decode cX8_told 95 = .ok (.ireturn, 1) := by decide +kernel
theorem dX8_told_96 : decode cX8_told 96 = .ok (.aload_n 0, 1) := by decide +kernel
theorem dX8_told_97 : decode cX8_told 97 = .ok (.getfield 57, 3) := by decide +kernel
theorem dX8_told_100 : decode cX8_told 100 = .ok (.iload_n 1, 1) := by decide +kernel
theorem dX8_told_101 : decode cX8_told 101 = .ok (.bipush 7, 2) := by decide +kernel
theorem dX8_told_103 : decode cX8_told 103 = .ok (.isub, 1) := by decide +kernel
theorem dX8_told_104 : decode cX8_told 104 = .ok (.iaload, 1) := by decide +kernel
theorem dX8_told_105 : decode cX8_told 105 = .ok (.ireturn, 1) := by decide +kernel
theorem dX8_told_106 : decode cX8_told 106 = .ok (.aload_n 0, 1) := by decide +kernel
theorem dX8_told_107 : decode cX8_told 107 = .ok (.getfield 101, 3) := by decide +kernel
theorem dX8_told_110 : decode cX8_told 110 = .ok (.ireturn, 1) := by decide +kernel
theorem dX8_told_111 : decode cX8_told 111 = .ok (.aload_n 0, 1) := by decide +kernel
theorem dX8_told_112 : decode cX8_told 112 = .ok (.getfield 135, 3) := by decide +kernel
theorem dX8_told_115 : decode cX8_told 115 = .ok (.ireturn, 1) := by decide +kernel
theorem dX8_told_116 : decode cX8_told 116 = .ok (.aload_n 0, 1) := by decide +kernel
theorem dX8_told_117 : decode cX8_told 117 = .ok (.getfield 132, 3) := by decide +kernel
theorem dX8_told_120 : decode cX8_told 120 = .ok (.ireturn, 1) := by decide +kernel
theorem dX8_told_121 : decode cX8_told 121 = .ok (.aload_n 0, 1) := by decide +kernel
theorem dX8_told_122 : decode cX8_told 122 = .ok (.getfield 185, 3) := by decide +kernel
theorem dX8_told_125 : decode cX8_told 125 = .ok (.ireturn, 1) := by decide +kernel
theorem dX8_told_126 : decode cX8_told 126 = .ok (.iconst (-1), 1) := by decide +kernel
theorem dX8_told_127 : decode cX8_told 127 = .ok (.ireturn, 1) := by decide +kernel
end
section
theorem dL_cell_0 : decode cL_cell 0 = .ok (.iload_n 1, 1) := by decide +kernel
theorem dL_cell_1 : decode cL_cell 1 = .ok (.aload_n 0, 1) := by decide +kernel
theorem dL_cell_2 : decode cL_cell 2 = .ok (.arraylength, 1) := by decide +kernel
theorem dL_cell_3 : decode cL_cell 3 = .ok (.if_icmp .ge 9, 3) := by decide +kernel
theorem dL_cell_6 : decode cL_cell 6 = .ok (.aload_n 0, 1) := by decide +kernel
theorem dL_cell_7 : decode cL_cell 7 = .ok (.iload_n 1, 1) := by decide +kernel
theorem dL_cell_8 : decode cL_cell 8 = .ok (.iaload, 1) := by decide +kernel
theorem dL_cell_9 : decode cL_cell 9 = .ok (.goto 4, 3) := by decide +kernel
theorem dL_cell_12 : decode cL_cell 12 = .ok (.iconst 0, 1) := by decide +kernel
theorem dL_cell_13 : decode cL_cell 13 = .ok (.ireturn, 1) := by decide +kernel
theorem dL_law_0 : decode cL_law 0 = .ok (.new 7, 3) := by decide +kernel
theorem dL_law_3 : decode cL_law 3 = .ok (.dup, 1) := by decide +kernel
theorem dL_law_4 : decode cL_law 4 = .ok (.aload_n 0, 1) := by decide +kernel
theorem dL_law_5 : decode cL_law 5 = .ok (.iconst 0, 1) := by decide +kernel
theorem dL_law_6 : decode cL_law 6 = .ok (.invokestatic 9, 3) := by decide +kernel
theorem dL_law_9 : decode cL_law 9 = .ok (.aload_n 0, 1) := by decide +kernel
theorem dL_law_10 : decode cL_law 10 = .ok (.iconst 1, 1) := by decide +kernel
theorem dL_law_11 : decode cL_law 11 = .ok (.invokestatic 9, 3) := by decide +kernel
theorem dL_law_14 : decode cL_law 14 = .ok (.invokespecial 15, 3) := by decide +kernel
theorem dL_law_17 : decode cL_law 17 = .ok (.astore_n 1, 1) := by decide +kernel
theorem dL_law_18 : decode cL_law 18 = .ok (.new 18, 3) := by decide +kernel
theorem dL_law_21 : decode cL_law 21 = .ok (.dup, 1) := by decide +kernel
theorem dL_law_22 : decode cL_law 22 = .ok (.aload_n 0, 1) := by decide +kernel
theorem dL_law_23 : decode cL_law 23 = .ok (.iconst 0, 1) := by decide +kernel
theorem dL_law_24 : decode cL_law 24 = .ok (.invokestatic 9, 3) := by decide +kernel
theorem dL_law_27 : decode cL_law 27 = .ok (.aload_n 0, 1) := by decide +kernel
theorem dL_law_28 : decode cL_law 28 = .ok (.iconst 1, 1) := by decide +kernel
theorem dL_law_29 : decode cL_law 29 = .ok (.invokestatic 9, 3) := by decide +kernel
theorem dL_law_32 : decode cL_law 32 = .ok (.invokespecial 20, 3) := by decide +kernel
theorem dL_law_35 : decode cL_law 35 = .ok (.astore_n 2, 1) := by decide +kernel
theorem dL_law_36 : decode cL_law 36 = .ok (.iconst 2, 1) := by decide +kernel
theorem dL_law_37 : decode cL_law 37 = .ok (.istore_n 3, 1) := by decide +kernel
theorem dL_law_38 : decode cL_law 38 = .ok (.iload_n 3, 1) := by decide +kernel
theorem dL_law_39 : decode cL_law 39 = .ok (.aload_n 0, 1) := by decide +kernel
theorem dL_law_40 : decode cL_law 40 = .ok (.arraylength, 1) := by decide +kernel
theorem dL_law_41 : decode cL_law 41 = .ok (.iconst 5, 1) := by decide +kernel
theorem dL_law_42 : decode cL_law 42 = .ok (.isub, 1) := by decide +kernel
theorem dL_law_43 : decode cL_law 43 = .ok (.if_icmp .gt 688, 3) := by decide +kernel
theorem dL_law_46 : decode cL_law 46 = .ok (.aload_n 0, 1) := by decide +kernel
theorem dL_law_47 : decode cL_law 47 = .ok (.iload_n 3, 1) := by decide +kernel
theorem dL_law_48 : decode cL_law 48 = .ok (.iaload, 1) := by decide +kernel
theorem dL_law_49 : decode cL_law 49 = .ok (.bipush 31, 2) := by decide +kernel
theorem dL_law_51 : decode cL_law 51 = .ok (.iand, 1) := by decide +kernel
theorem dL_law_52 : decode cL_law 52 = .ok (.tableswitch 673 0 17 #[88, 121, 214, 227, 250, 273, 306, 329, 362, 395, 428, 461, 485, 518, 571, 624, 637, 650], 88) := by decide +kernel
theorem dL_law_140 : decode cL_law 140 = .ok (.aload_n 1, 1) := by decide +kernel
theorem dL_law_141 : decode cL_law 141 = .ok (.aload_n 0, 1) := by decide +kernel
theorem dL_law_142 : decode cL_law 142 = .ok (.iload_n 3, 1) := by decide +kernel
theorem dL_law_143 : decode cL_law 143 = .ok (.iconst 1, 1) := by decide +kernel
theorem dL_law_144 : decode cL_law 144 = .ok (.iadd, 1) := by decide +kernel
theorem dL_law_145 : decode cL_law 145 = .ok (.iaload, 1) := by decide +kernel
theorem dL_law_146 : decode cL_law 146 = .ok (.aload_n 0, 1) := by decide +kernel
theorem dL_law_147 : decode cL_law 147 = .ok (.iload_n 3, 1) := by decide +kernel
theorem dL_law_148 : decode cL_law 148 = .ok (.iconst 2, 1) := by decide +kernel
theorem dL_law_149 : decode cL_law 149 = .ok (.iadd, 1) := by decide +kernel
theorem dL_law_150 : decode cL_law 150 = .ok (.iaload, 1) := by decide +kernel
theorem dL_law_151 : decode cL_law 151 = .ok (.invokevirtual 21, 3) := by decide +kernel
theorem dL_law_154 : decode cL_law 154 = .ok (.aload_n 2, 1) := by decide +kernel
theorem dL_law_155 : decode cL_law 155 = .ok (.aload_n 0, 1) := by decide +kernel
theorem dL_law_156 : decode cL_law 156 = .ok (.iload_n 3, 1) := by decide +kernel
theorem dL_law_157 : decode cL_law 157 = .ok (.iconst 1, 1) := by decide +kernel
theorem dL_law_158 : decode cL_law 158 = .ok (.iadd, 1) := by decide +kernel
theorem dL_law_159 : decode cL_law 159 = .ok (.iaload, 1) := by decide +kernel
theorem dL_law_160 : decode cL_law 160 = .ok (.aload_n 0, 1) := by decide +kernel
theorem dL_law_161 : decode cL_law 161 = .ok (.iload_n 3, 1) := by decide +kernel
theorem dL_law_162 : decode cL_law 162 = .ok (.iconst 2, 1) := by decide +kernel
theorem dL_law_163 : decode cL_law 163 = .ok (.iadd, 1) := by decide +kernel
theorem dL_law_164 : decode cL_law 164 = .ok (.iaload, 1) := by decide +kernel
theorem dL_law_165 : decode cL_law 165 = .ok (.invokevirtual 25, 3) := by decide +kernel
theorem dL_law_168 : decode cL_law 168 = .ok (.if_icmp .eq 557, 3) := by decide +kernel
theorem dL_law_171 : decode cL_law 171 = .ok (.iconst 0, 1) := by decide +kernel
theorem dL_law_172 : decode cL_law 172 = .ok (.ireturn, 1) := by decide +kernel
theorem dL_law_173 : decode cL_law 173 = .ok (.aload_n 1, 1) := by decide +kernel
theorem dL_law_174 : decode cL_law 174 = .ok (.aload_n 0, 1) := by decide +kernel
theorem dL_law_175 : decode cL_law 175 = .ok (.iload_n 3, 1) := by decide +kernel
theorem dL_law_176 : decode cL_law 176 = .ok (.iconst 1, 1) := by decide +kernel
theorem dL_law_177 : decode cL_law 177 = .ok (.iadd, 1) := by decide +kernel
theorem dL_law_178 : decode cL_law 178 = .ok (.iaload, 1) := by decide +kernel
theorem dL_law_179 : decode cL_law 179 = .ok (.i2l, 1) := by decide +kernel
theorem dL_law_180 : decode cL_law 180 = .ok (.bipush 32, 2) := by decide +kernel
theorem dL_law_182 : decode cL_law 182 = .ok (.lshl, 1) := by decide +kernel
theorem dL_law_183 : decode cL_law 183 = .ok (.aload_n 0, 1) := by decide +kernel
theorem dL_law_184 : decode cL_law 184 = .ok (.iload_n 3, 1) := by decide +kernel
theorem dL_law_185 : decode cL_law 185 = .ok (.iconst 2, 1) := by decide +kernel
theorem dL_law_186 : decode cL_law 186 = .ok (.iadd, 1) := by decide +kernel
theorem dL_law_187 : decode cL_law 187 = .ok (.iaload, 1) := by decide +kernel
theorem dL_law_188 : decode cL_law 188 = .ok (.i2l, 1) := by decide +kernel
theorem dL_law_189 : decode cL_law 189 = .ok (.ldc2_w 26, 3) := by decide +kernel
theorem dL_law_192 : decode cL_law 192 = .ok (.land, 1) := by decide +kernel
theorem dL_law_193 : decode cL_law 193 = .ok (.lor, 1) := by decide +kernel
theorem dL_law_194 : decode cL_law 194 = .ok (.aload_n 0, 1) := by decide +kernel
theorem dL_law_195 : decode cL_law 195 = .ok (.iload_n 3, 1) := by decide +kernel
theorem dL_law_196 : decode cL_law 196 = .ok (.iconst 3, 1) := by decide +kernel
theorem dL_law_197 : decode cL_law 197 = .ok (.iadd, 1) := by decide +kernel
theorem dL_law_198 : decode cL_law 198 = .ok (.iaload, 1) := by decide +kernel
theorem dL_law_199 : decode cL_law 199 = .ok (.i2l, 1) := by decide +kernel
theorem dL_law_200 : decode cL_law 200 = .ok (.bipush 32, 2) := by decide +kernel
theorem dL_law_202 : decode cL_law 202 = .ok (.lshl, 1) := by decide +kernel
theorem dL_law_203 : decode cL_law 203 = .ok (.aload_n 0, 1) := by decide +kernel
theorem dL_law_204 : decode cL_law 204 = .ok (.iload_n 3, 1) := by decide +kernel
theorem dL_law_205 : decode cL_law 205 = .ok (.iconst 4, 1) := by decide +kernel
theorem dL_law_206 : decode cL_law 206 = .ok (.iadd, 1) := by decide +kernel
theorem dL_law_207 : decode cL_law 207 = .ok (.iaload, 1) := by decide +kernel
theorem dL_law_208 : decode cL_law 208 = .ok (.i2l, 1) := by decide +kernel
theorem dL_law_209 : decode cL_law 209 = .ok (.ldc2_w 26, 3) := by decide +kernel
theorem dL_law_212 : decode cL_law 212 = .ok (.land, 1) := by decide +kernel
theorem dL_law_213 : decode cL_law 213 = .ok (.lor, 1) := by decide +kernel
theorem dL_law_214 : decode cL_law 214 = .ok (.invokevirtual 28, 3) := by decide +kernel
theorem dL_law_217 : decode cL_law 217 = .ok (.aload_n 2, 1) := by decide +kernel
theorem dL_law_218 : decode cL_law 218 = .ok (.aload_n 0, 1) := by decide +kernel
theorem dL_law_219 : decode cL_law 219 = .ok (.iload_n 3, 1) := by decide +kernel
theorem dL_law_220 : decode cL_law 220 = .ok (.iconst 1, 1) := by decide +kernel
theorem dL_law_221 : decode cL_law 221 = .ok (.iadd, 1) := by decide +kernel
theorem dL_law_222 : decode cL_law 222 = .ok (.iaload, 1) := by decide +kernel
theorem dL_law_223 : decode cL_law 223 = .ok (.i2l, 1) := by decide +kernel
theorem dL_law_224 : decode cL_law 224 = .ok (.bipush 32, 2) := by decide +kernel
theorem dL_law_226 : decode cL_law 226 = .ok (.lshl, 1) := by decide +kernel
theorem dL_law_227 : decode cL_law 227 = .ok (.aload_n 0, 1) := by decide +kernel
theorem dL_law_228 : decode cL_law 228 = .ok (.iload_n 3, 1) := by decide +kernel
theorem dL_law_229 : decode cL_law 229 = .ok (.iconst 2, 1) := by decide +kernel
theorem dL_law_230 : decode cL_law 230 = .ok (.iadd, 1) := by decide +kernel
theorem dL_law_231 : decode cL_law 231 = .ok (.iaload, 1) := by decide +kernel
theorem dL_law_232 : decode cL_law 232 = .ok (.i2l, 1) := by decide +kernel
theorem dL_law_233 : decode cL_law 233 = .ok (.ldc2_w 26, 3) := by decide +kernel
theorem dL_law_236 : decode cL_law 236 = .ok (.land, 1) := by decide +kernel
theorem dL_law_237 : decode cL_law 237 = .ok (.lor, 1) := by decide +kernel
theorem dL_law_238 : decode cL_law 238 = .ok (.aload_n 0, 1) := by decide +kernel
theorem dL_law_239 : decode cL_law 239 = .ok (.iload_n 3, 1) := by decide +kernel
theorem dL_law_240 : decode cL_law 240 = .ok (.iconst 3, 1) := by decide +kernel
theorem dL_law_241 : decode cL_law 241 = .ok (.iadd, 1) := by decide +kernel
theorem dL_law_242 : decode cL_law 242 = .ok (.iaload, 1) := by decide +kernel
theorem dL_law_243 : decode cL_law 243 = .ok (.i2l, 1) := by decide +kernel
theorem dL_law_244 : decode cL_law 244 = .ok (.bipush 32, 2) := by decide +kernel
theorem dL_law_246 : decode cL_law 246 = .ok (.lshl, 1) := by decide +kernel
theorem dL_law_247 : decode cL_law 247 = .ok (.aload_n 0, 1) := by decide +kernel
theorem dL_law_248 : decode cL_law 248 = .ok (.iload_n 3, 1) := by decide +kernel
theorem dL_law_249 : decode cL_law 249 = .ok (.iconst 4, 1) := by decide +kernel
theorem dL_law_250 : decode cL_law 250 = .ok (.iadd, 1) := by decide +kernel
theorem dL_law_251 : decode cL_law 251 = .ok (.iaload, 1) := by decide +kernel
theorem dL_law_252 : decode cL_law 252 = .ok (.i2l, 1) := by decide +kernel
theorem dL_law_253 : decode cL_law 253 = .ok (.ldc2_w 26, 3) := by decide +kernel
theorem dL_law_256 : decode cL_law 256 = .ok (.land, 1) := by decide +kernel
theorem dL_law_257 : decode cL_law 257 = .ok (.lor, 1) := by decide +kernel
theorem dL_law_258 : decode cL_law 258 = .ok (.invokevirtual 32, 3) := by decide +kernel
theorem dL_law_261 : decode cL_law 261 = .ok (.if_icmp .eq 464, 3) := by decide +kernel
theorem dL_law_264 : decode cL_law 264 = .ok (.iconst 0, 1) := by decide +kernel
theorem dL_law_265 : decode cL_law 265 = .ok (.ireturn, 1) := by decide +kernel
theorem dL_law_266 : decode cL_law 266 = .ok (.aload_n 1, 1) := by decide +kernel
theorem dL_law_267 : decode cL_law 267 = .ok (.invokevirtual 33, 3) := by decide +kernel
theorem dL_law_270 : decode cL_law 270 = .ok (.aload_n 2, 1) := by decide +kernel
theorem dL_law_271 : decode cL_law 271 = .ok (.invokevirtual 37, 3) := by decide +kernel
theorem dL_law_274 : decode cL_law 274 = .ok (.if_icmp .eq 451, 3) := by decide +kernel
theorem dL_law_277 : decode cL_law 277 = .ok (.iconst 0, 1) := by decide +kernel
theorem dL_law_278 : decode cL_law 278 = .ok (.ireturn, 1) := by decide +kernel
theorem dL_law_279 : decode cL_law 279 = .ok (.aload_n 1, 1) := by decide +kernel
theorem dL_law_280 : decode cL_law 280 = .ok (.aload_n 0, 1) := by decide +kernel
theorem dL_law_281 : decode cL_law 281 = .ok (.iload_n 3, 1) := by decide +kernel
theorem dL_law_282 : decode cL_law 282 = .ok (.iconst 1, 1) := by decide +kernel
theorem dL_law_283 : decode cL_law 283 = .ok (.iadd, 1) := by decide +kernel
theorem dL_law_284 : decode cL_law 284 = .ok (.iaload, 1) := by decide +kernel
theorem dL_law_285 : decode cL_law 285 = .ok (.invokevirtual 38, 3) := by decide +kernel
theorem dL_law_288 : decode cL_law 288 = .ok (.aload_n 2, 1) := by decide +kernel
theorem dL_law_289 : decode cL_law 289 = .ok (.aload_n 0, 1) := by decide +kernel
theorem dL_law_290 : decode cL_law 290 = .ok (.iload_n 3, 1) := by decide +kernel
theorem dL_law_291 : decode cL_law 291 = .ok (.iconst 1, 1) := by decide +kernel
theorem dL_law_292 : decode cL_law 292 = .ok (.iadd, 1) := by decide +kernel
theorem dL_law_293 : decode cL_law 293 = .ok (.iaload, 1) := by decide +kernel
theorem dL_law_294 : decode cL_law 294 = .ok (.invokevirtual 42, 3) := by decide +kernel
theorem dL_law_297 : decode cL_law 297 = .ok (.if_icmp .eq 428, 3) := by decide +kernel
theorem dL_law_300 : decode cL_law 300 = .ok (.iconst 0, 1) := by decide +kernel
theorem dL_law_301 : decode cL_law 301 = .ok (.ireturn, 1) := by decide +kernel
theorem dL_law_302 : decode cL_law 302 = .ok (.aload_n 1, 1) := by decide +kernel
theorem dL_law_303 : decode cL_law 303 = .ok (.aload_n 0, 1) := by decide +kernel
theorem dL_law_304 : decode cL_law 304 = .ok (.iload_n 3, 1) := by decide +kernel
theorem dL_law_305 : decode cL_law 305 = .ok (.iconst 1, 1) := by decide +kernel
theorem dL_law_306 : decode cL_law 306 = .ok (.iadd, 1) := by decide +kernel
theorem dL_law_307 : decode cL_law 307 = .ok (.iaload, 1) := by decide +kernel
theorem dL_law_308 : decode cL_law 308 = .ok (.invokevirtual 43, 3) := by decide +kernel
theorem dL_law_311 : decode cL_law 311 = .ok (.aload_n 2, 1) := by decide +kernel
theorem dL_law_312 : decode cL_law 312 = .ok (.aload_n 0, 1) := by decide +kernel
theorem dL_law_313 : decode cL_law 313 = .ok (.iload_n 3, 1) := by decide +kernel
theorem dL_law_314 : decode cL_law 314 = .ok (.iconst 1, 1) := by decide +kernel
theorem dL_law_315 : decode cL_law 315 = .ok (.iadd, 1) := by decide +kernel
theorem dL_law_316 : decode cL_law 316 = .ok (.iaload, 1) := by decide +kernel
theorem dL_law_317 : decode cL_law 317 = .ok (.invokevirtual 46, 3) := by decide +kernel
theorem dL_law_320 : decode cL_law 320 = .ok (.if_icmp .eq 405, 3) := by decide +kernel
theorem dL_law_323 : decode cL_law 323 = .ok (.iconst 0, 1) := by decide +kernel
theorem dL_law_324 : decode cL_law 324 = .ok (.ireturn, 1) := by decide +kernel
theorem dL_law_325 : decode cL_law 325 = .ok (.aload_n 1, 1) := by decide +kernel
theorem dL_law_326 : decode cL_law 326 = .ok (.aload_n 0, 1) := by decide +kernel
theorem dL_law_327 : decode cL_law 327 = .ok (.iload_n 3, 1) := by decide +kernel
theorem dL_law_328 : decode cL_law 328 = .ok (.iconst 1, 1) := by decide +kernel
theorem dL_law_329 : decode cL_law 329 = .ok (.iadd, 1) := by decide +kernel
theorem dL_law_330 : decode cL_law 330 = .ok (.iaload, 1) := by decide +kernel
theorem dL_law_331 : decode cL_law 331 = .ok (.aload_n 0, 1) := by decide +kernel
theorem dL_law_332 : decode cL_law 332 = .ok (.iload_n 3, 1) := by decide +kernel
theorem dL_law_333 : decode cL_law 333 = .ok (.iconst 2, 1) := by decide +kernel
theorem dL_law_334 : decode cL_law 334 = .ok (.iadd, 1) := by decide +kernel
theorem dL_law_335 : decode cL_law 335 = .ok (.iaload, 1) := by decide +kernel
theorem dL_law_336 : decode cL_law 336 = .ok (.invokevirtual 47, 3) := by decide +kernel
theorem dL_law_339 : decode cL_law 339 = .ok (.aload_n 2, 1) := by decide +kernel
theorem dL_law_340 : decode cL_law 340 = .ok (.aload_n 0, 1) := by decide +kernel
theorem dL_law_341 : decode cL_law 341 = .ok (.iload_n 3, 1) := by decide +kernel
theorem dL_law_342 : decode cL_law 342 = .ok (.iconst 1, 1) := by decide +kernel
theorem dL_law_343 : decode cL_law 343 = .ok (.iadd, 1) := by decide +kernel
theorem dL_law_344 : decode cL_law 344 = .ok (.iaload, 1) := by decide +kernel
theorem dL_law_345 : decode cL_law 345 = .ok (.aload_n 0, 1) := by decide +kernel
theorem dL_law_346 : decode cL_law 346 = .ok (.iload_n 3, 1) := by decide +kernel
theorem dL_law_347 : decode cL_law 347 = .ok (.iconst 2, 1) := by decide +kernel
theorem dL_law_348 : decode cL_law 348 = .ok (.iadd, 1) := by decide +kernel
theorem dL_law_349 : decode cL_law 349 = .ok (.iaload, 1) := by decide +kernel
theorem dL_law_350 : decode cL_law 350 = .ok (.invokevirtual 50, 3) := by decide +kernel
theorem dL_law_353 : decode cL_law 353 = .ok (.if_icmp .eq 372, 3) := by decide +kernel
theorem dL_law_356 : decode cL_law 356 = .ok (.iconst 0, 1) := by decide +kernel
theorem dL_law_357 : decode cL_law 357 = .ok (.ireturn, 1) := by decide +kernel
theorem dL_law_358 : decode cL_law 358 = .ok (.aload_n 1, 1) := by decide +kernel
theorem dL_law_359 : decode cL_law 359 = .ok (.aload_n 0, 1) := by decide +kernel
theorem dL_law_360 : decode cL_law 360 = .ok (.iload_n 3, 1) := by decide +kernel
theorem dL_law_361 : decode cL_law 361 = .ok (.iconst 1, 1) := by decide +kernel
theorem dL_law_362 : decode cL_law 362 = .ok (.iadd, 1) := by decide +kernel
theorem dL_law_363 : decode cL_law 363 = .ok (.iaload, 1) := by decide +kernel
theorem dL_law_364 : decode cL_law 364 = .ok (.invokevirtual 51, 3) := by decide +kernel
theorem dL_law_367 : decode cL_law 367 = .ok (.aload_n 2, 1) := by decide +kernel
theorem dL_law_368 : decode cL_law 368 = .ok (.aload_n 0, 1) := by decide +kernel
theorem dL_law_369 : decode cL_law 369 = .ok (.iload_n 3, 1) := by decide +kernel
theorem dL_law_370 : decode cL_law 370 = .ok (.iconst 1, 1) := by decide +kernel
theorem dL_law_371 : decode cL_law 371 = .ok (.iadd, 1) := by decide +kernel
theorem dL_law_372 : decode cL_law 372 = .ok (.iaload, 1) := by decide +kernel
theorem dL_law_373 : decode cL_law 373 = .ok (.invokevirtual 54, 3) := by decide +kernel
theorem dL_law_376 : decode cL_law 376 = .ok (.if_icmp .eq 349, 3) := by decide +kernel
theorem dL_law_379 : decode cL_law 379 = .ok (.iconst 0, 1) := by decide +kernel
theorem dL_law_380 : decode cL_law 380 = .ok (.ireturn, 1) := by decide +kernel
theorem dL_law_381 : decode cL_law 381 = .ok (.aload_n 1, 1) := by decide +kernel
theorem dL_law_382 : decode cL_law 382 = .ok (.aload_n 0, 1) := by decide +kernel
theorem dL_law_383 : decode cL_law 383 = .ok (.iload_n 3, 1) := by decide +kernel
theorem dL_law_384 : decode cL_law 384 = .ok (.iconst 1, 1) := by decide +kernel
theorem dL_law_385 : decode cL_law 385 = .ok (.iadd, 1) := by decide +kernel
theorem dL_law_386 : decode cL_law 386 = .ok (.iaload, 1) := by decide +kernel
theorem dL_law_387 : decode cL_law 387 = .ok (.aload_n 0, 1) := by decide +kernel
theorem dL_law_388 : decode cL_law 388 = .ok (.iload_n 3, 1) := by decide +kernel
theorem dL_law_389 : decode cL_law 389 = .ok (.iconst 2, 1) := by decide +kernel
theorem dL_law_390 : decode cL_law 390 = .ok (.iadd, 1) := by decide +kernel
theorem dL_law_391 : decode cL_law 391 = .ok (.iaload, 1) := by decide +kernel
theorem dL_law_392 : decode cL_law 392 = .ok (.invokevirtual 55, 3) := by decide +kernel
theorem dL_law_395 : decode cL_law 395 = .ok (.aload_n 2, 1) := by decide +kernel
theorem dL_law_396 : decode cL_law 396 = .ok (.aload_n 0, 1) := by decide +kernel
theorem dL_law_397 : decode cL_law 397 = .ok (.iload_n 3, 1) := by decide +kernel
theorem dL_law_398 : decode cL_law 398 = .ok (.iconst 1, 1) := by decide +kernel
theorem dL_law_399 : decode cL_law 399 = .ok (.iadd, 1) := by decide +kernel
theorem dL_law_400 : decode cL_law 400 = .ok (.iaload, 1) := by decide +kernel
theorem dL_law_401 : decode cL_law 401 = .ok (.aload_n 0, 1) := by decide +kernel
theorem dL_law_402 : decode cL_law 402 = .ok (.iload_n 3, 1) := by decide +kernel
theorem dL_law_403 : decode cL_law 403 = .ok (.iconst 2, 1) := by decide +kernel
theorem dL_law_404 : decode cL_law 404 = .ok (.iadd, 1) := by decide +kernel
theorem dL_law_405 : decode cL_law 405 = .ok (.iaload, 1) := by decide +kernel
theorem dL_law_406 : decode cL_law 406 = .ok (.invokevirtual 58, 3) := by decide +kernel
theorem dL_law_409 : decode cL_law 409 = .ok (.if_icmp .eq 316, 3) := by decide +kernel
theorem dL_law_412 : decode cL_law 412 = .ok (.iconst 0, 1) := by decide +kernel
theorem dL_law_413 : decode cL_law 413 = .ok (.ireturn, 1) := by decide +kernel
theorem dL_law_414 : decode cL_law 414 = .ok (.aload_n 1, 1) := by decide +kernel
theorem dL_law_415 : decode cL_law 415 = .ok (.aload_n 0, 1) := by decide +kernel
theorem dL_law_416 : decode cL_law 416 = .ok (.iload_n 3, 1) := by decide +kernel
theorem dL_law_417 : decode cL_law 417 = .ok (.iconst 1, 1) := by decide +kernel
theorem dL_law_418 : decode cL_law 418 = .ok (.iadd, 1) := by decide +kernel
theorem dL_law_419 : decode cL_law 419 = .ok (.iaload, 1) := by decide +kernel
theorem dL_law_420 : decode cL_law 420 = .ok (.aload_n 0, 1) := by decide +kernel
theorem dL_law_421 : decode cL_law 421 = .ok (.iload_n 3, 1) := by decide +kernel
theorem dL_law_422 : decode cL_law 422 = .ok (.iconst 2, 1) := by decide +kernel
theorem dL_law_423 : decode cL_law 423 = .ok (.iadd, 1) := by decide +kernel
theorem dL_law_424 : decode cL_law 424 = .ok (.iaload, 1) := by decide +kernel
theorem dL_law_425 : decode cL_law 425 = .ok (.invokevirtual 59, 3) := by decide +kernel
theorem dL_law_428 : decode cL_law 428 = .ok (.aload_n 2, 1) := by decide +kernel
theorem dL_law_429 : decode cL_law 429 = .ok (.aload_n 0, 1) := by decide +kernel
theorem dL_law_430 : decode cL_law 430 = .ok (.iload_n 3, 1) := by decide +kernel
theorem dL_law_431 : decode cL_law 431 = .ok (.iconst 1, 1) := by decide +kernel
theorem dL_law_432 : decode cL_law 432 = .ok (.iadd, 1) := by decide +kernel
theorem dL_law_433 : decode cL_law 433 = .ok (.iaload, 1) := by decide +kernel
theorem dL_law_434 : decode cL_law 434 = .ok (.aload_n 0, 1) := by decide +kernel
theorem dL_law_435 : decode cL_law 435 = .ok (.iload_n 3, 1) := by decide +kernel
theorem dL_law_436 : decode cL_law 436 = .ok (.iconst 2, 1) := by decide +kernel
theorem dL_law_437 : decode cL_law 437 = .ok (.iadd, 1) := by decide +kernel
theorem dL_law_438 : decode cL_law 438 = .ok (.iaload, 1) := by decide +kernel
theorem dL_law_439 : decode cL_law 439 = .ok (.invokevirtual 62, 3) := by decide +kernel
theorem dL_law_442 : decode cL_law 442 = .ok (.if_icmp .eq 283, 3) := by decide +kernel
theorem dL_law_445 : decode cL_law 445 = .ok (.iconst 0, 1) := by decide +kernel
theorem dL_law_446 : decode cL_law 446 = .ok (.ireturn, 1) := by decide +kernel
theorem dL_law_447 : decode cL_law 447 = .ok (.aload_n 1, 1) := by decide +kernel
theorem dL_law_448 : decode cL_law 448 = .ok (.aload_n 0, 1) := by decide +kernel
theorem dL_law_449 : decode cL_law 449 = .ok (.iload_n 3, 1) := by decide +kernel
theorem dL_law_450 : decode cL_law 450 = .ok (.iconst 1, 1) := by decide +kernel
theorem dL_law_451 : decode cL_law 451 = .ok (.iadd, 1) := by decide +kernel
theorem dL_law_452 : decode cL_law 452 = .ok (.iaload, 1) := by decide +kernel
theorem dL_law_453 : decode cL_law 453 = .ok (.aload_n 0, 1) := by decide +kernel
theorem dL_law_454 : decode cL_law 454 = .ok (.iload_n 3, 1) := by decide +kernel
theorem dL_law_455 : decode cL_law 455 = .ok (.iconst 2, 1) := by decide +kernel
theorem dL_law_456 : decode cL_law 456 = .ok (.iadd, 1) := by decide +kernel
theorem dL_law_457 : decode cL_law 457 = .ok (.iaload, 1) := by decide +kernel
theorem dL_law_458 : decode cL_law 458 = .ok (.invokevirtual 63, 3) := by decide +kernel
theorem dL_law_461 : decode cL_law 461 = .ok (.aload_n 2, 1) := by decide +kernel
theorem dL_law_462 : decode cL_law 462 = .ok (.aload_n 0, 1) := by decide +kernel
theorem dL_law_463 : decode cL_law 463 = .ok (.iload_n 3, 1) := by decide +kernel
theorem dL_law_464 : decode cL_law 464 = .ok (.iconst 1, 1) := by decide +kernel
theorem dL_law_465 : decode cL_law 465 = .ok (.iadd, 1) := by decide +kernel
theorem dL_law_466 : decode cL_law 466 = .ok (.iaload, 1) := by decide +kernel
theorem dL_law_467 : decode cL_law 467 = .ok (.aload_n 0, 1) := by decide +kernel
theorem dL_law_468 : decode cL_law 468 = .ok (.iload_n 3, 1) := by decide +kernel
theorem dL_law_469 : decode cL_law 469 = .ok (.iconst 2, 1) := by decide +kernel
theorem dL_law_470 : decode cL_law 470 = .ok (.iadd, 1) := by decide +kernel
theorem dL_law_471 : decode cL_law 471 = .ok (.iaload, 1) := by decide +kernel
theorem dL_law_472 : decode cL_law 472 = .ok (.invokevirtual 66, 3) := by decide +kernel
theorem dL_law_475 : decode cL_law 475 = .ok (.if_icmp .eq 250, 3) := by decide +kernel
theorem dL_law_478 : decode cL_law 478 = .ok (.iconst 0, 1) := by decide +kernel
theorem dL_law_479 : decode cL_law 479 = .ok (.ireturn, 1) := by decide +kernel
theorem dL_law_480 : decode cL_law 480 = .ok (.aload_n 1, 1) := by decide +kernel
theorem dL_law_481 : decode cL_law 481 = .ok (.aload_n 0, 1) := by decide +kernel
theorem dL_law_482 : decode cL_law 482 = .ok (.iload_n 3, 1) := by decide +kernel
theorem dL_law_483 : decode cL_law 483 = .ok (.iconst 1, 1) := by decide +kernel
theorem dL_law_484 : decode cL_law 484 = .ok (.iadd, 1) := by decide +kernel
theorem dL_law_485 : decode cL_law 485 = .ok (.iaload, 1) := by decide +kernel
theorem dL_law_486 : decode cL_law 486 = .ok (.aload_n 0, 1) := by decide +kernel
theorem dL_law_487 : decode cL_law 487 = .ok (.iload_n 3, 1) := by decide +kernel
theorem dL_law_488 : decode cL_law 488 = .ok (.iconst 2, 1) := by decide +kernel
theorem dL_law_489 : decode cL_law 489 = .ok (.iadd, 1) := by decide +kernel
theorem dL_law_490 : decode cL_law 490 = .ok (.iaload, 1) := by decide +kernel
theorem dL_law_491 : decode cL_law 491 = .ok (.invokevirtual 67, 3) := by decide +kernel
theorem dL_law_494 : decode cL_law 494 = .ok (.aload_n 2, 1) := by decide +kernel
theorem dL_law_495 : decode cL_law 495 = .ok (.aload_n 0, 1) := by decide +kernel
theorem dL_law_496 : decode cL_law 496 = .ok (.iload_n 3, 1) := by decide +kernel
theorem dL_law_497 : decode cL_law 497 = .ok (.iconst 1, 1) := by decide +kernel
theorem dL_law_498 : decode cL_law 498 = .ok (.iadd, 1) := by decide +kernel
theorem dL_law_499 : decode cL_law 499 = .ok (.iaload, 1) := by decide +kernel
theorem dL_law_500 : decode cL_law 500 = .ok (.aload_n 0, 1) := by decide +kernel
theorem dL_law_501 : decode cL_law 501 = .ok (.iload_n 3, 1) := by decide +kernel
theorem dL_law_502 : decode cL_law 502 = .ok (.iconst 2, 1) := by decide +kernel
theorem dL_law_503 : decode cL_law 503 = .ok (.iadd, 1) := by decide +kernel
theorem dL_law_504 : decode cL_law 504 = .ok (.iaload, 1) := by decide +kernel
theorem dL_law_505 : decode cL_law 505 = .ok (.invokevirtual 70, 3) := by decide +kernel
theorem dL_law_508 : decode cL_law 508 = .ok (.if_icmp .eq 217, 3) := by decide +kernel
theorem dL_law_511 : decode cL_law 511 = .ok (.iconst 0, 1) := by decide +kernel
theorem dL_law_512 : decode cL_law 512 = .ok (.ireturn, 1) := by decide +kernel
theorem dL_law_513 : decode cL_law 513 = .ok (.aload_n 1, 1) := by decide +kernel
theorem dL_law_514 : decode cL_law 514 = .ok (.aload_n 0, 1) := by decide +kernel
theorem dL_law_515 : decode cL_law 515 = .ok (.iload_n 3, 1) := by decide +kernel
theorem dL_law_516 : decode cL_law 516 = .ok (.iconst 1, 1) := by decide +kernel
theorem dL_law_517 : decode cL_law 517 = .ok (.iadd, 1) := by decide +kernel
theorem dL_law_518 : decode cL_law 518 = .ok (.iaload, 1) := by decide +kernel
theorem dL_law_519 : decode cL_law 519 = .ok (.invokevirtual 71, 3) := by decide +kernel
theorem dL_law_522 : decode cL_law 522 = .ok (.aload_n 2, 1) := by decide +kernel
theorem dL_law_523 : decode cL_law 523 = .ok (.aload_n 0, 1) := by decide +kernel
theorem dL_law_524 : decode cL_law 524 = .ok (.iload_n 3, 1) := by decide +kernel
theorem dL_law_525 : decode cL_law 525 = .ok (.iconst 1, 1) := by decide +kernel
theorem dL_law_526 : decode cL_law 526 = .ok (.iadd, 1) := by decide +kernel
theorem dL_law_527 : decode cL_law 527 = .ok (.iaload, 1) := by decide +kernel
theorem dL_law_528 : decode cL_law 528 = .ok (.invokevirtual 75, 3) := by decide +kernel
theorem dL_law_531 : decode cL_law 531 = .ok (.lcmp, 1) := by decide +kernel
theorem dL_law_532 : decode cL_law 532 = .ok (.ifCond .eq 193, 3) := by decide +kernel
theorem dL_law_535 : decode cL_law 535 = .ok (.iconst 0, 1) := by decide +kernel
theorem dL_law_536 : decode cL_law 536 = .ok (.ireturn, 1) := by decide +kernel
theorem dL_law_537 : decode cL_law 537 = .ok (.aload_n 1, 1) := by decide +kernel
theorem dL_law_538 : decode cL_law 538 = .ok (.aload_n 0, 1) := by decide +kernel
theorem dL_law_539 : decode cL_law 539 = .ok (.iload_n 3, 1) := by decide +kernel
theorem dL_law_540 : decode cL_law 540 = .ok (.iconst 1, 1) := by decide +kernel
theorem dL_law_541 : decode cL_law 541 = .ok (.iadd, 1) := by decide +kernel
theorem dL_law_542 : decode cL_law 542 = .ok (.iaload, 1) := by decide +kernel
theorem dL_law_543 : decode cL_law 543 = .ok (.aload_n 0, 1) := by decide +kernel
theorem dL_law_544 : decode cL_law 544 = .ok (.iload_n 3, 1) := by decide +kernel
theorem dL_law_545 : decode cL_law 545 = .ok (.iconst 2, 1) := by decide +kernel
theorem dL_law_546 : decode cL_law 546 = .ok (.iadd, 1) := by decide +kernel
theorem dL_law_547 : decode cL_law 547 = .ok (.iaload, 1) := by decide +kernel
theorem dL_law_548 : decode cL_law 548 = .ok (.invokevirtual 76, 3) := by decide +kernel
theorem dL_law_551 : decode cL_law 551 = .ok (.aload_n 2, 1) := by decide +kernel
theorem dL_law_552 : decode cL_law 552 = .ok (.aload_n 0, 1) := by decide +kernel
theorem dL_law_553 : decode cL_law 553 = .ok (.iload_n 3, 1) := by decide +kernel
theorem dL_law_554 : decode cL_law 554 = .ok (.iconst 1, 1) := by decide +kernel
theorem dL_law_555 : decode cL_law 555 = .ok (.iadd, 1) := by decide +kernel
theorem dL_law_556 : decode cL_law 556 = .ok (.iaload, 1) := by decide +kernel
theorem dL_law_557 : decode cL_law 557 = .ok (.aload_n 0, 1) := by decide +kernel
theorem dL_law_558 : decode cL_law 558 = .ok (.iload_n 3, 1) := by decide +kernel
theorem dL_law_559 : decode cL_law 559 = .ok (.iconst 2, 1) := by decide +kernel
theorem dL_law_560 : decode cL_law 560 = .ok (.iadd, 1) := by decide +kernel
theorem dL_law_561 : decode cL_law 561 = .ok (.iaload, 1) := by decide +kernel
theorem dL_law_562 : decode cL_law 562 = .ok (.invokevirtual 79, 3) := by decide +kernel
theorem dL_law_565 : decode cL_law 565 = .ok (.if_icmp .eq 160, 3) := by decide +kernel
theorem dL_law_568 : decode cL_law 568 = .ok (.iconst 0, 1) := by decide +kernel
theorem dL_law_569 : decode cL_law 569 = .ok (.ireturn, 1) := by decide +kernel
theorem dL_law_570 : decode cL_law 570 = .ok (.aload_n 1, 1) := by decide +kernel
theorem dL_law_571 : decode cL_law 571 = .ok (.aload_n 0, 1) := by decide +kernel
theorem dL_law_572 : decode cL_law 572 = .ok (.iload_n 3, 1) := by decide +kernel
theorem dL_law_573 : decode cL_law 573 = .ok (.iconst 1, 1) := by decide +kernel
theorem dL_law_574 : decode cL_law 574 = .ok (.iadd, 1) := by decide +kernel
theorem dL_law_575 : decode cL_law 575 = .ok (.iaload, 1) := by decide +kernel
theorem dL_law_576 : decode cL_law 576 = .ok (.i2l, 1) := by decide +kernel
theorem dL_law_577 : decode cL_law 577 = .ok (.bipush 32, 2) := by decide +kernel
theorem dL_law_579 : decode cL_law 579 = .ok (.lshl, 1) := by decide +kernel
theorem dL_law_580 : decode cL_law 580 = .ok (.aload_n 0, 1) := by decide +kernel
theorem dL_law_581 : decode cL_law 581 = .ok (.iload_n 3, 1) := by decide +kernel
theorem dL_law_582 : decode cL_law 582 = .ok (.iconst 2, 1) := by decide +kernel
theorem dL_law_583 : decode cL_law 583 = .ok (.iadd, 1) := by decide +kernel
theorem dL_law_584 : decode cL_law 584 = .ok (.iaload, 1) := by decide +kernel
theorem dL_law_585 : decode cL_law 585 = .ok (.i2l, 1) := by decide +kernel
theorem dL_law_586 : decode cL_law 586 = .ok (.ldc2_w 26, 3) := by decide +kernel
theorem dL_law_589 : decode cL_law 589 = .ok (.land, 1) := by decide +kernel
theorem dL_law_590 : decode cL_law 590 = .ok (.lor, 1) := by decide +kernel
theorem dL_law_591 : decode cL_law 591 = .ok (.invokevirtual 80, 3) := by decide +kernel
theorem dL_law_594 : decode cL_law 594 = .ok (.aload_n 2, 1) := by decide +kernel
theorem dL_law_595 : decode cL_law 595 = .ok (.aload_n 0, 1) := by decide +kernel
theorem dL_law_596 : decode cL_law 596 = .ok (.iload_n 3, 1) := by decide +kernel
theorem dL_law_597 : decode cL_law 597 = .ok (.iconst 1, 1) := by decide +kernel
theorem dL_law_598 : decode cL_law 598 = .ok (.iadd, 1) := by decide +kernel
theorem dL_law_599 : decode cL_law 599 = .ok (.iaload, 1) := by decide +kernel
theorem dL_law_600 : decode cL_law 600 = .ok (.i2l, 1) := by decide +kernel
theorem dL_law_601 : decode cL_law 601 = .ok (.bipush 32, 2) := by decide +kernel
theorem dL_law_603 : decode cL_law 603 = .ok (.lshl, 1) := by decide +kernel
theorem dL_law_604 : decode cL_law 604 = .ok (.aload_n 0, 1) := by decide +kernel
theorem dL_law_605 : decode cL_law 605 = .ok (.iload_n 3, 1) := by decide +kernel
theorem dL_law_606 : decode cL_law 606 = .ok (.iconst 2, 1) := by decide +kernel
theorem dL_law_607 : decode cL_law 607 = .ok (.iadd, 1) := by decide +kernel
theorem dL_law_608 : decode cL_law 608 = .ok (.iaload, 1) := by decide +kernel
theorem dL_law_609 : decode cL_law 609 = .ok (.i2l, 1) := by decide +kernel
theorem dL_law_610 : decode cL_law 610 = .ok (.ldc2_w 26, 3) := by decide +kernel
theorem dL_law_613 : decode cL_law 613 = .ok (.land, 1) := by decide +kernel
theorem dL_law_614 : decode cL_law 614 = .ok (.lor, 1) := by decide +kernel
theorem dL_law_615 : decode cL_law 615 = .ok (.invokevirtual 84, 3) := by decide +kernel
theorem dL_law_618 : decode cL_law 618 = .ok (.if_icmp .eq 107, 3) := by decide +kernel
theorem dL_law_621 : decode cL_law 621 = .ok (.iconst 0, 1) := by decide +kernel
theorem dL_law_622 : decode cL_law 622 = .ok (.ireturn, 1) := by decide +kernel
theorem dL_law_623 : decode cL_law 623 = .ok (.aload_n 1, 1) := by decide +kernel
theorem dL_law_624 : decode cL_law 624 = .ok (.aload_n 0, 1) := by decide +kernel
theorem dL_law_625 : decode cL_law 625 = .ok (.iload_n 3, 1) := by decide +kernel
theorem dL_law_626 : decode cL_law 626 = .ok (.iconst 1, 1) := by decide +kernel
theorem dL_law_627 : decode cL_law 627 = .ok (.iadd, 1) := by decide +kernel
theorem dL_law_628 : decode cL_law 628 = .ok (.iaload, 1) := by decide +kernel
theorem dL_law_629 : decode cL_law 629 = .ok (.i2l, 1) := by decide +kernel
theorem dL_law_630 : decode cL_law 630 = .ok (.bipush 32, 2) := by decide +kernel
theorem dL_law_632 : decode cL_law 632 = .ok (.lshl, 1) := by decide +kernel
theorem dL_law_633 : decode cL_law 633 = .ok (.aload_n 0, 1) := by decide +kernel
theorem dL_law_634 : decode cL_law 634 = .ok (.iload_n 3, 1) := by decide +kernel
theorem dL_law_635 : decode cL_law 635 = .ok (.iconst 2, 1) := by decide +kernel
theorem dL_law_636 : decode cL_law 636 = .ok (.iadd, 1) := by decide +kernel
theorem dL_law_637 : decode cL_law 637 = .ok (.iaload, 1) := by decide +kernel
theorem dL_law_638 : decode cL_law 638 = .ok (.i2l, 1) := by decide +kernel
theorem dL_law_639 : decode cL_law 639 = .ok (.ldc2_w 26, 3) := by decide +kernel
theorem dL_law_642 : decode cL_law 642 = .ok (.land, 1) := by decide +kernel
theorem dL_law_643 : decode cL_law 643 = .ok (.lor, 1) := by decide +kernel
theorem dL_law_644 : decode cL_law 644 = .ok (.invokevirtual 85, 3) := by decide +kernel
theorem dL_law_647 : decode cL_law 647 = .ok (.aload_n 2, 1) := by decide +kernel
theorem dL_law_648 : decode cL_law 648 = .ok (.aload_n 0, 1) := by decide +kernel
theorem dL_law_649 : decode cL_law 649 = .ok (.iload_n 3, 1) := by decide +kernel
theorem dL_law_650 : decode cL_law 650 = .ok (.iconst 1, 1) := by decide +kernel
theorem dL_law_651 : decode cL_law 651 = .ok (.iadd, 1) := by decide +kernel
theorem dL_law_652 : decode cL_law 652 = .ok (.iaload, 1) := by decide +kernel
theorem dL_law_653 : decode cL_law 653 = .ok (.i2l, 1) := by decide +kernel
theorem dL_law_654 : decode cL_law 654 = .ok (.bipush 32, 2) := by decide +kernel
theorem dL_law_656 : decode cL_law 656 = .ok (.lshl, 1) := by decide +kernel
theorem dL_law_657 : decode cL_law 657 = .ok (.aload_n 0, 1) := by decide +kernel
theorem dL_law_658 : decode cL_law 658 = .ok (.iload_n 3, 1) := by decide +kernel
theorem dL_law_659 : decode cL_law 659 = .ok (.iconst 2, 1) := by decide +kernel
theorem dL_law_660 : decode cL_law 660 = .ok (.iadd, 1) := by decide +kernel
theorem dL_law_661 : decode cL_law 661 = .ok (.iaload, 1) := by decide +kernel
theorem dL_law_662 : decode cL_law 662 = .ok (.i2l, 1) := by decide +kernel
theorem dL_law_663 : decode cL_law 663 = .ok (.ldc2_w 26, 3) := by decide +kernel
theorem dL_law_666 : decode cL_law 666 = .ok (.land, 1) := by decide +kernel
theorem dL_law_667 : decode cL_law 667 = .ok (.lor, 1) := by decide +kernel
theorem dL_law_668 : decode cL_law 668 = .ok (.invokevirtual 88, 3) := by decide +kernel
theorem dL_law_671 : decode cL_law 671 = .ok (.if_icmp .eq 54, 3) := by decide +kernel
theorem dL_law_674 : decode cL_law 674 = .ok (.iconst 0, 1) := by decide +kernel
theorem dL_law_675 : decode cL_law 675 = .ok (.ireturn, 1) := by decide +kernel
theorem dL_law_676 : decode cL_law 676 = .ok (.aload_n 1, 1) := by decide +kernel
theorem dL_law_677 : decode cL_law 677 = .ok (.invokevirtual 89, 3) := by decide +kernel
theorem dL_law_680 : decode cL_law 680 = .ok (.aload_n 2, 1) := by decide +kernel
theorem dL_law_681 : decode cL_law 681 = .ok (.invokevirtual 92, 3) := by decide +kernel
theorem dL_law_684 : decode cL_law 684 = .ok (.if_icmp .eq 41, 3) := by decide +kernel
theorem dL_law_687 : decode cL_law 687 = .ok (.iconst 0, 1) := by decide +kernel
theorem dL_law_688 : decode cL_law 688 = .ok (.ireturn, 1) := by decide +kernel
theorem dL_law_689 : decode cL_law 689 = .ok (.aload_n 1, 1) := by decide +kernel
theorem dL_law_690 : decode cL_law 690 = .ok (.invokevirtual 93, 3) := by decide +kernel
theorem dL_law_693 : decode cL_law 693 = .ok (.aload_n 2, 1) := by decide +kernel
theorem dL_law_694 : decode cL_law 694 = .ok (.invokevirtual 96, 3) := by decide +kernel
theorem dL_law_697 : decode cL_law 697 = .ok (.if_icmp .eq 28, 3) := by decide +kernel
theorem dL_law_700 : decode cL_law 700 = .ok (.iconst 0, 1) := by decide +kernel
theorem dL_law_701 : decode cL_law 701 = .ok (.ireturn, 1) := by decide +kernel
theorem dL_law_702 : decode cL_law 702 = .ok (.aload_n 1, 1) := by decide +kernel
theorem dL_law_703 : decode cL_law 703 = .ok (.aload_n 0, 1) := by decide +kernel
theorem dL_law_704 : decode cL_law 704 = .ok (.iload_n 3, 1) := by decide +kernel
theorem dL_law_705 : decode cL_law 705 = .ok (.iconst 1, 1) := by decide +kernel
theorem dL_law_706 : decode cL_law 706 = .ok (.iadd, 1) := by decide +kernel
theorem dL_law_707 : decode cL_law 707 = .ok (.iaload, 1) := by decide +kernel
theorem dL_law_708 : decode cL_law 708 = .ok (.invokevirtual 97, 3) := by decide +kernel
theorem dL_law_711 : decode cL_law 711 = .ok (.aload_n 2, 1) := by decide +kernel
theorem dL_law_712 : decode cL_law 712 = .ok (.aload_n 0, 1) := by decide +kernel
theorem dL_law_713 : decode cL_law 713 = .ok (.iload_n 3, 1) := by decide +kernel
theorem dL_law_714 : decode cL_law 714 = .ok (.iconst 1, 1) := by decide +kernel
theorem dL_law_715 : decode cL_law 715 = .ok (.iadd, 1) := by decide +kernel
theorem dL_law_716 : decode cL_law 716 = .ok (.iaload, 1) := by decide +kernel
theorem dL_law_717 : decode cL_law 717 = .ok (.invokevirtual 100, 3) := by decide +kernel
theorem dL_law_720 : decode cL_law 720 = .ok (.if_icmp .eq 5, 3) := by decide +kernel
theorem dL_law_723 : decode cL_law 723 = .ok (.iconst 0, 1) := by decide +kernel
theorem dL_law_724 : decode cL_law 724 = .ok (.ireturn, 1) := by decide +kernel
theorem dL_law_725 : decode cL_law 725 = .ok (.iinc 3 5, 3) := by decide +kernel
theorem dL_law_728 : decode cL_law 728 = .ok (.goto (-690), 3) := by decide +kernel
theorem dL_law_731 : decode cL_law 731 = .ok (.iconst 1, 1) := by decide +kernel
theorem dL_law_732 : decode cL_law 732 = .ok (.ireturn, 1) := by decide +kernel
end
