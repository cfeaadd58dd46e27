section
-- ===== PART A: goes FIRST, ahead of the names: the tables' words, and 'selects' of the private methods out of them =====
/-- a private method of a class that the tables say can be made, by its rows of tables_1 -/
def lw_okq (q : MethodName × Nat) : Prop := (q.1.cls ≠ "java/lang/invoke/MethodHandle" ∧ q.1.cls ≠ "java/lang/invoke/VarHandle") ∧ Cond.instantiable q.1.cls q.2 ∈ tables_1 ∧ Cond.privateMethod q.1 ∈ tables_1 ∧ Cond.instanceMethod q.1 ∈ tables_1
theorem lw_p0 : lw_okq (⟨"OutsideAsks", "goOn", "()V"⟩, 18) := ⟨⟨by decide +kernel, by decide +kernel⟩, List.mem_of_getElem? (i := 13) (by decide +kernel), List.mem_of_getElem? (i := 239) (by decide +kernel), List.mem_of_getElem? (i := 240) (by decide +kernel)⟩
theorem lw_p1 : lw_okq (⟨"OutsideAsks", "startWaitingRows", "()V"⟩, 18) := ⟨⟨by decide +kernel, by decide +kernel⟩, List.mem_of_getElem? (i := 13) (by decide +kernel), List.mem_of_getElem? (i := 243) (by decide +kernel), List.mem_of_getElem? (i := 244) (by decide +kernel)⟩
theorem lw_p2 : lw_okq (⟨"OutsideAsks", "startRow", "(I)V"⟩, 18) := ⟨⟨by decide +kernel, by decide +kernel⟩, List.mem_of_getElem? (i := 13) (by decide +kernel), List.mem_of_getElem? (i := 255) (by decide +kernel), List.mem_of_getElem? (i := 256) (by decide +kernel)⟩
theorem lw_p3 : lw_okq (⟨"OutsideAsks$Items", "mayHave", "(I)Z"⟩, 4) := ⟨⟨by decide +kernel, by decide +kernel⟩, List.mem_of_getElem? (i := 30) (by decide +kernel), List.mem_of_getElem? (i := 263) (by decide +kernel), List.mem_of_getElem? (i := 264) (by decide +kernel)⟩
theorem lw_p4 : lw_okq (⟨"OutsideAsks$KeptAnswers", "find", "(J)I"⟩, 4) := ⟨⟨by decide +kernel, by decide +kernel⟩, List.mem_of_getElem? (i := 150) (by decide +kernel), List.mem_of_getElem? (i := 271) (by decide +kernel), List.mem_of_getElem? (i := 272) (by decide +kernel)⟩
theorem lw_p5 : lw_okq (⟨"OutsideAsks", "sendQueuedAsks", "()V"⟩, 18) := ⟨⟨by decide +kernel, by decide +kernel⟩, List.mem_of_getElem? (i := 13) (by decide +kernel), List.mem_of_getElem? (i := 291) (by decide +kernel), List.mem_of_getElem? (i := 292) (by decide +kernel)⟩
theorem lw_p6 : lw_okq (⟨"OutsideAsks", "letItemsOut", "()V"⟩, 18) := ⟨⟨by decide +kernel, by decide +kernel⟩, List.mem_of_getElem? (i := 13) (by decide +kernel), List.mem_of_getElem? (i := 314) (by decide +kernel), List.mem_of_getElem? (i := 315) (by decide +kernel)⟩
theorem lw_p7 : lw_okq (⟨"OutsideAsks", "passTick", "()V"⟩, 18) := ⟨⟨by decide +kernel, by decide +kernel⟩, List.mem_of_getElem? (i := 13) (by decide +kernel), List.mem_of_getElem? (i := 359) (by decide +kernel), List.mem_of_getElem? (i := 360) (by decide +kernel)⟩
theorem lw_p8 : lw_okq (⟨"OutsideAsks", "findOverdue", "()V"⟩, 18) := ⟨⟨by decide +kernel, by decide +kernel⟩, List.mem_of_getElem? (i := 13) (by decide +kernel), List.mem_of_getElem? (i := 363) (by decide +kernel), List.mem_of_getElem? (i := 364) (by decide +kernel)⟩
theorem lw_p9 : lw_okq (⟨"OutsideAsks", "tryAgain", "(IIJ)Z"⟩, 18) := ⟨⟨by decide +kernel, by decide +kernel⟩, List.mem_of_getElem? (i := 13) (by decide +kernel), List.mem_of_getElem? (i := 379) (by decide +kernel), List.mem_of_getElem? (i := 380) (by decide +kernel)⟩
theorem lw_p10 : lw_okq (⟨"OutsideAsks", "settle", "(IIJ)V"⟩, 18) := ⟨⟨by decide +kernel, by decide +kernel⟩, List.mem_of_getElem? (i := 13) (by decide +kernel), List.mem_of_getElem? (i := 387) (by decide +kernel), List.mem_of_getElem? (i := 388) (by decide +kernel)⟩
theorem lw_p11 : lw_okq (⟨"OutsideAsks", "isCause", "(I)Z"⟩, 18) := ⟨⟨by decide +kernel, by decide +kernel⟩, List.mem_of_getElem? (i := 13) (by decide +kernel), List.mem_of_getElem? (i := 433) (by decide +kernel), List.mem_of_getElem? (i := 434) (by decide +kernel)⟩
theorem lw_p12 : lw_okq (⟨"OutsideAsks", "takeAnswer", "(IIJ)Z"⟩, 18) := ⟨⟨by decide +kernel, by decide +kernel⟩, List.mem_of_getElem? (i := 13) (by decide +kernel), List.mem_of_getElem? (i := 449) (by decide +kernel), List.mem_of_getElem? (i := 450) (by decide +kernel)⟩
theorem lw_p13 : lw_okq (⟨"OutsideAsks", "takeCause", "(II)Z"⟩, 18) := ⟨⟨by decide +kernel, by decide +kernel⟩, List.mem_of_getElem? (i := 13) (by decide +kernel), List.mem_of_getElem? (i := 453) (by decide +kernel), List.mem_of_getElem? (i := 454) (by decide +kernel)⟩
theorem lw_p14 : lw_okq (⟨"OutsideAsks", "ruleOf", "(I)I"⟩, 18) := ⟨⟨by decide +kernel, by decide +kernel⟩, List.mem_of_getElem? (i := 13) (by decide +kernel), List.mem_of_getElem? (i := 457) (by decide +kernel), List.mem_of_getElem? (i := 458) (by decide +kernel)⟩
theorem lw_p15 : lw_okq (⟨"OutsideAsks$KeptAnswers", "placeFor", "(J)I"⟩, 4) := ⟨⟨by decide +kernel, by decide +kernel⟩, List.mem_of_getElem? (i := 150) (by decide +kernel), List.mem_of_getElem? (i := 465) (by decide +kernel), List.mem_of_getElem? (i := 466) (by decide +kernel)⟩
def lw_privs_1 : List (MethodName × Nat) := [(⟨"OutsideAsks", "goOn", "()V"⟩, 18), (⟨"OutsideAsks", "startWaitingRows", "()V"⟩, 18), (⟨"OutsideAsks", "startRow", "(I)V"⟩, 18), (⟨"OutsideAsks$Items", "mayHave", "(I)Z"⟩, 4), (⟨"OutsideAsks$KeptAnswers", "find", "(J)I"⟩, 4), (⟨"OutsideAsks", "sendQueuedAsks", "()V"⟩, 18), (⟨"OutsideAsks", "letItemsOut", "()V"⟩, 18), (⟨"OutsideAsks", "passTick", "()V"⟩, 18), (⟨"OutsideAsks", "findOverdue", "()V"⟩, 18), (⟨"OutsideAsks", "tryAgain", "(IIJ)Z"⟩, 18), (⟨"OutsideAsks", "settle", "(IIJ)V"⟩, 18), (⟨"OutsideAsks", "isCause", "(I)Z"⟩, 18), (⟨"OutsideAsks", "takeAnswer", "(IIJ)Z"⟩, 18), (⟨"OutsideAsks", "takeCause", "(II)Z"⟩, 18), (⟨"OutsideAsks", "ruleOf", "(I)I"⟩, 18), (⟨"OutsideAsks$KeptAnswers", "placeFor", "(J)I"⟩, 4)]
theorem lw_r1 : ∀ q ∈ lw_privs_1, lw_okq q := List.forall_mem_cons.mpr ⟨lw_p0, List.forall_mem_cons.mpr ⟨lw_p1, List.forall_mem_cons.mpr ⟨lw_p2, List.forall_mem_cons.mpr ⟨lw_p3, List.forall_mem_cons.mpr ⟨lw_p4, List.forall_mem_cons.mpr ⟨lw_p5, List.forall_mem_cons.mpr ⟨lw_p6, List.forall_mem_cons.mpr ⟨lw_p7, List.forall_mem_cons.mpr ⟨lw_p8, List.forall_mem_cons.mpr ⟨lw_p9, List.forall_mem_cons.mpr ⟨lw_p10, List.forall_mem_cons.mpr ⟨lw_p11, List.forall_mem_cons.mpr ⟨lw_p12, List.forall_mem_cons.mpr ⟨lw_p13, List.forall_mem_cons.mpr ⟨lw_p14, List.forall_mem_cons.mpr ⟨lw_p15, fun _ h => absurd h List.not_mem_nil⟩⟩⟩⟩⟩⟩⟩⟩⟩⟩⟩⟩⟩⟩⟩⟩
theorem lw_p16 : lw_okq (⟨"OutsideAsks$KeptAnswers", "firstToGo", "()I"⟩, 4) := ⟨⟨by decide +kernel, by decide +kernel⟩, List.mem_of_getElem? (i := 150) (by decide +kernel), List.mem_of_getElem? (i := 469) (by decide +kernel), List.mem_of_getElem? (i := 470) (by decide +kernel)⟩
theorem lw_p17 : lw_okq (⟨"OutsideAsks", "lineOf", "(I)LOutsideAsks$Line;"⟩, 18) := ⟨⟨by decide +kernel, by decide +kernel⟩, List.mem_of_getElem? (i := 13) (by decide +kernel), List.mem_of_getElem? (i := 477) (by decide +kernel), List.mem_of_getElem? (i := 478) (by decide +kernel)⟩
theorem lw_p18 : lw_okq (⟨"OutsideAsks$Progress", "copyItems", "(LOutsideAsks$Progress;)V"⟩, 8) := ⟨⟨by decide +kernel, by decide +kernel⟩, List.mem_of_getElem? (i := 52) (by decide +kernel), List.mem_of_getElem? (i := 535) (by decide +kernel), List.mem_of_getElem? (i := 536) (by decide +kernel)⟩
theorem lw_p19 : lw_okq (⟨"OutsideAsks$Progress", "becomeGone", "(I)V"⟩, 8) := ⟨⟨by decide +kernel, by decide +kernel⟩, List.mem_of_getElem? (i := 52) (by decide +kernel), List.mem_of_getElem? (i := 548) (by decide +kernel), List.mem_of_getElem? (i := 549) (by decide +kernel)⟩
theorem lw_p20 : lw_okq (⟨"OutsideAsks", "askAgainAllWorking", "()V"⟩, 18) := ⟨⟨by decide +kernel, by decide +kernel⟩, List.mem_of_getElem? (i := 13) (by decide +kernel), List.mem_of_getElem? (i := 556) (by decide +kernel), List.mem_of_getElem? (i := 557) (by decide +kernel)⟩
theorem lw_p21 : lw_okq (⟨"OutsideAsksModel", "goOn", "()V"⟩, 38) := ⟨⟨by decide +kernel, by decide +kernel⟩, List.mem_of_getElem? (i := 567) (by decide +kernel), List.mem_of_getElem? (i := 692) (by decide +kernel), List.mem_of_getElem? (i := 693) (by decide +kernel)⟩
theorem lw_p22 : lw_okq (⟨"OutsideAsksModel", "countOf", "(I)I"⟩, 38) := ⟨⟨by decide +kernel, by decide +kernel⟩, List.mem_of_getElem? (i := 567) (by decide +kernel), List.mem_of_getElem? (i := 696) (by decide +kernel), List.mem_of_getElem? (i := 697) (by decide +kernel)⟩
theorem lw_p23 : lw_okq (⟨"OutsideAsksModel", "first", "(I)I"⟩, 38) := ⟨⟨by decide +kernel, by decide +kernel⟩, List.mem_of_getElem? (i := 567) (by decide +kernel), List.mem_of_getElem? (i := 700) (by decide +kernel), List.mem_of_getElem? (i := 701) (by decide +kernel)⟩
theorem lw_p24 : lw_okq (⟨"OutsideAsksModel", "keptFor", "(J)I"⟩, 38) := ⟨⟨by decide +kernel, by decide +kernel⟩, List.mem_of_getElem? (i := 567) (by decide +kernel), List.mem_of_getElem? (i := 704) (by decide +kernel), List.mem_of_getElem? (i := 705) (by decide +kernel)⟩
theorem lw_p25 : lw_okq (⟨"OutsideAsksModel", "settle", "(IIJ)V"⟩, 38) := ⟨⟨by decide +kernel, by decide +kernel⟩, List.mem_of_getElem? (i := 567) (by decide +kernel), List.mem_of_getElem? (i := 708) (by decide +kernel), List.mem_of_getElem? (i := 709) (by decide +kernel)⟩
theorem lw_p26 : lw_okq (⟨"OutsideAsksModel", "leave", "(I)V"⟩, 38) := ⟨⟨by decide +kernel, by decide +kernel⟩, List.mem_of_getElem? (i := 567) (by decide +kernel), List.mem_of_getElem? (i := 712) (by decide +kernel), List.mem_of_getElem? (i := 713) (by decide +kernel)⟩
theorem lw_p27 : lw_okq (⟨"OutsideAsksModel", "placeInQueue", "(I)I"⟩, 38) := ⟨⟨by decide +kernel, by decide +kernel⟩, List.mem_of_getElem? (i := 567) (by decide +kernel), List.mem_of_getElem? (i := 716) (by decide +kernel), List.mem_of_getElem? (i := 717) (by decide +kernel)⟩
theorem lw_p28 : lw_okq (⟨"OutsideAsksModel", "send", "(IIIJ)V"⟩, 38) := ⟨⟨by decide +kernel, by decide +kernel⟩, List.mem_of_getElem? (i := 567) (by decide +kernel), List.mem_of_getElem? (i := 720) (by decide +kernel), List.mem_of_getElem? (i := 721) (by decide +kernel)⟩
theorem lw_p29 : lw_okq (⟨"OutsideAsksModel", "nextOut", "()I"⟩, 38) := ⟨⟨by decide +kernel, by decide +kernel⟩, List.mem_of_getElem? (i := 567) (by decide +kernel), List.mem_of_getElem? (i := 724) (by decide +kernel), List.mem_of_getElem? (i := 725) (by decide +kernel)⟩
theorem lw_p30 : lw_okq (⟨"OutsideAsksModel", "come", "(ZJJ)I"⟩, 38) := ⟨⟨by decide +kernel, by decide +kernel⟩, List.mem_of_getElem? (i := 567) (by decide +kernel), List.mem_of_getElem? (i := 732) (by decide +kernel), List.mem_of_getElem? (i := 733) (by decide +kernel)⟩
theorem lw_p31 : lw_okq (⟨"OutsideAsksModel", "again", "(I)Z"⟩, 38) := ⟨⟨by decide +kernel, by decide +kernel⟩, List.mem_of_getElem? (i := 567) (by decide +kernel), List.mem_of_getElem? (i := 745) (by decide +kernel), List.mem_of_getElem? (i := 746) (by decide +kernel)⟩
def lw_privs_2 : List (MethodName × Nat) := [(⟨"OutsideAsks$KeptAnswers", "firstToGo", "()I"⟩, 4), (⟨"OutsideAsks", "lineOf", "(I)LOutsideAsks$Line;"⟩, 18), (⟨"OutsideAsks$Progress", "copyItems", "(LOutsideAsks$Progress;)V"⟩, 8), (⟨"OutsideAsks$Progress", "becomeGone", "(I)V"⟩, 8), (⟨"OutsideAsks", "askAgainAllWorking", "()V"⟩, 18), (⟨"OutsideAsksModel", "goOn", "()V"⟩, 38), (⟨"OutsideAsksModel", "countOf", "(I)I"⟩, 38), (⟨"OutsideAsksModel", "first", "(I)I"⟩, 38), (⟨"OutsideAsksModel", "keptFor", "(J)I"⟩, 38), (⟨"OutsideAsksModel", "settle", "(IIJ)V"⟩, 38), (⟨"OutsideAsksModel", "leave", "(I)V"⟩, 38), (⟨"OutsideAsksModel", "placeInQueue", "(I)I"⟩, 38), (⟨"OutsideAsksModel", "send", "(IIIJ)V"⟩, 38), (⟨"OutsideAsksModel", "nextOut", "()I"⟩, 38), (⟨"OutsideAsksModel", "come", "(ZJJ)I"⟩, 38), (⟨"OutsideAsksModel", "again", "(I)Z"⟩, 38)]
theorem lw_r2 : ∀ q ∈ lw_privs_2, lw_okq q := List.forall_mem_cons.mpr ⟨lw_p16, List.forall_mem_cons.mpr ⟨lw_p17, List.forall_mem_cons.mpr ⟨lw_p18, List.forall_mem_cons.mpr ⟨lw_p19, List.forall_mem_cons.mpr ⟨lw_p20, List.forall_mem_cons.mpr ⟨lw_p21, List.forall_mem_cons.mpr ⟨lw_p22, List.forall_mem_cons.mpr ⟨lw_p23, List.forall_mem_cons.mpr ⟨lw_p24, List.forall_mem_cons.mpr ⟨lw_p25, List.forall_mem_cons.mpr ⟨lw_p26, List.forall_mem_cons.mpr ⟨lw_p27, List.forall_mem_cons.mpr ⟨lw_p28, List.forall_mem_cons.mpr ⟨lw_p29, List.forall_mem_cons.mpr ⟨lw_p30, List.forall_mem_cons.mpr ⟨lw_p31, fun _ h => absurd h List.not_mem_nil⟩⟩⟩⟩⟩⟩⟩⟩⟩⟩⟩⟩⟩⟩⟩⟩
theorem lw_p32 : lw_okq (⟨"OutsideAsksModel", "isUnder", "(II)Z"⟩, 38) := ⟨⟨by decide +kernel, by decide +kernel⟩, List.mem_of_getElem? (i := 567) (by decide +kernel), List.mem_of_getElem? (i := 753) (by decide +kernel), List.mem_of_getElem? (i := 754) (by decide +kernel)⟩
theorem lw_p33 : lw_okq (⟨"OutsideAsksModel", "take", "(II)V"⟩, 38) := ⟨⟨by decide +kernel, by decide +kernel⟩, List.mem_of_getElem? (i := 567) (by decide +kernel), List.mem_of_getElem? (i := 757) (by decide +kernel), List.mem_of_getElem? (i := 758) (by decide +kernel)⟩
theorem lw_p34 : lw_okq (⟨"OutsideAsksModel", "keyAt", "(J)I"⟩, 38) := ⟨⟨by decide +kernel, by decide +kernel⟩, List.mem_of_getElem? (i := 567) (by decide +kernel), List.mem_of_getElem? (i := 761) (by decide +kernel), List.mem_of_getElem? (i := 762) (by decide +kernel)⟩
theorem lw_p35 : lw_okq (⟨"OutsideAsksModel", "keep", "(JJ)V"⟩, 38) := ⟨⟨by decide +kernel, by decide +kernel⟩, List.mem_of_getElem? (i := 567) (by decide +kernel), List.mem_of_getElem? (i := 773) (by decide +kernel), List.mem_of_getElem? (i := 774) (by decide +kernel)⟩
theorem lw_p36 : lw_okq (⟨"OutsideAsksModel", "isItem", "(I)Z"⟩, 38) := ⟨⟨by decide +kernel, by decide +kernel⟩, List.mem_of_getElem? (i := 567) (by decide +kernel), List.mem_of_getElem? (i := 797) (by decide +kernel), List.mem_of_getElem? (i := 798) (by decide +kernel)⟩
def lw_privs_3 : List (MethodName × Nat) := [(⟨"OutsideAsksModel", "isUnder", "(II)Z"⟩, 38), (⟨"OutsideAsksModel", "take", "(II)V"⟩, 38), (⟨"OutsideAsksModel", "keyAt", "(J)I"⟩, 38), (⟨"OutsideAsksModel", "keep", "(JJ)V"⟩, 38), (⟨"OutsideAsksModel", "isItem", "(I)Z"⟩, 38)]
theorem lw_r3 : ∀ q ∈ lw_privs_3, lw_okq q := List.forall_mem_cons.mpr ⟨lw_p32, List.forall_mem_cons.mpr ⟨lw_p33, List.forall_mem_cons.mpr ⟨lw_p34, List.forall_mem_cons.mpr ⟨lw_p35, List.forall_mem_cons.mpr ⟨lw_p36, fun _ h => absurd h List.not_mem_nil⟩⟩⟩⟩⟩
def lw_privs : List (MethodName × Nat) := lw_privs_1 ++ (lw_privs_2 ++ (lw_privs_3))
def lw_tbl : List Cond := k2_sels lw_privs ++ tables_1
theorem lw_privs_ok : ∀ q ∈ lw_privs, lw_okq q := by
  show ∀ q ∈ lw_privs_1 ++ (lw_privs_2 ++ (lw_privs_3)), lw_okq q
  exact List.forall_mem_append.mpr ⟨lw_r1, List.forall_mem_append.mpr ⟨lw_r2, lw_r3⟩⟩
-- ===== end of PART A; then your names; then what follows =====
end
section
/-! REFUTATION. A start that meets every premise of the statement, and in which the static array that the class's constructor clones is of another class of kind 'array of int' than the one found under the name "[I": the machine selects that class's own clone, whose code is no instruction, and stops -/
def bad_m : Method := Lib.HandJ.method "clone" "()Ljava/lang/Object;" [] (some (.object "java/lang/Object")) 0x1 1 ⟨#[0xff]⟩
def bad_W : Class := { start1.cArr "[W" 14 .int with methods := #[bad_m] }
def bad_h : State := start1.aboutOf #[]
/-- the witness's own start over the empty script, with one class more, and FIRST_SETTINGS' cell of that class -/
def bad_s : State := { bad_h with vm := { bad_h.vm with classes := bad_h.vm.classes.push bad_W }, heap := bad_h.heap.set! 2 { cls := 20, slots := #[.int 10, .int 2, .int 20, .int 0, .int 0, .int 0, .int 0, .int 1], vm := .none } }
theorem bad_rest : rest_1_c.before start1.args0 bad_s = true := by decide +kernel
theorem bad_pre : (Cond.and given_1 narrow_1).before start1.args0 bad_s = true := by decide +kernel
theorem bad_fit : heapFits bad_s = true := by decide +kernel
theorem bad_arg : argsFit bad_s.vm ⟨0, 0⟩ start1.args0 = true := by decide +kernel
theorem bad_spl {α : Type} (p : α → Bool) (n : Nat) (l : List α) (h1 : (l.take n).all p = true) (h2 : (l.drop n).all p = true) : l.all p = true := by
  rw [← List.take_append_drop n l, List.all_append, h1, h2]; rfl
/-- a word of code is held by its method's name alone; any other word is looked at as it stands -/
def bad_f : Cond → Bool
  | .code y _ _ _ => decide (bad_s.methodNamed? y = start1.about.methodNamed? y)
  | c => c.before start1.args0 bad_s
theorem bad_method (m : MethodId) (h : (start1.about.vm.method? m).isSome = true) : bad_s.vm.method? m = start1.about.vm.method? m := by
  have hz : start1.about.vm.classes.size = 20 := rfl
  have e : bad_s.vm.classes = start1.about.vm.classes.push bad_W := rfl
  by_cases hl : m.cls < start1.about.vm.classes.size
  · have e2 : bad_s.vm.classes[m.cls]? = start1.about.vm.classes[m.cls]? := by rw [e, Array.getElem?_push, if_neg (Nat.ne_of_lt hl)]
    simp only [Vm.method?, e2]
  · have e3 : start1.about.vm.classes[m.cls]? = none := Array.getElem?_eq_none (Nat.not_lt.mp hl)
    simp [Vm.method?, e3] at h
theorem bad_word {c : Cond} (h1 : bad_f c = true) (h2 : c.before start1.args0 start1.about = true) : c.before start1.args0 bad_s = true := by
  cases c with
  | code y bytes n r =>
    have hn : bad_s.methodNamed? y = start1.about.methodNamed? y := of_decide_eq_true h1
    simp only [Cond.before, Cond.holds, Cond.value] at h2 ⊢
    rw [hn]
    cases hq : start1.about.methodNamed? y with
    | none => rw [hq] at h2; exact h2
    | some m =>
      rw [hq] at h2
      cases hm : start1.about.vm.method? m with
      | none => exfalso; rw [show (some m).bind start1.about.vm.method? = none from hm] at h2; simp at h2
      | some meth => rw [show (some m).bind bad_s.vm.method? = (some m).bind start1.about.vm.method? from bad_method m (by rw [hm]; rfl)]; exact h2
  | _ => exact h1
theorem bad_wc : (Cond.code x code maxLocals ret).before start1.args0 bad_s = true := bad_word (show bad_f (Cond.code x code maxLocals ret) = true by decide +kernel) (start1.words _ List.mem_cons_self)
end
section
theorem bad_w1_0 : (tables_1_1.take 40).all bad_f = true := by decide +kernel
theorem bad_w1_1 : ((tables_1_1.drop 40).take 40).all bad_f = true := by decide +kernel
theorem bad_w1_2 : (((tables_1_1.drop 40).drop 40).take 40).all bad_f = true := by decide +kernel
theorem bad_w1_3 : ((((tables_1_1.drop 40).drop 40).drop 40).take 40).all bad_f = true := by decide +kernel
theorem bad_w1_4 : (((((tables_1_1.drop 40).drop 40).drop 40).drop 40).take 40).all bad_f = true := by decide +kernel
theorem bad_w1_5 : (((((tables_1_1.drop 40).drop 40).drop 40).drop 40).drop 40).all bad_f = true := by decide +kernel
theorem bad_a1 : tables_1_1.all bad_f = true := (bad_spl _ 40 tables_1_1 bad_w1_0 (bad_spl _ 40 (tables_1_1.drop 40) bad_w1_1 (bad_spl _ 40 ((tables_1_1.drop 40).drop 40) bad_w1_2 (bad_spl _ 40 (((tables_1_1.drop 40).drop 40).drop 40) bad_w1_3 (bad_spl _ 40 ((((tables_1_1.drop 40).drop 40).drop 40).drop 40) bad_w1_4 bad_w1_5)))))
theorem bad_w2_0 : (tables_1_2.take 40).all bad_f = true := by decide +kernel
theorem bad_w2_1 : ((tables_1_2.drop 40).take 40).all bad_f = true := by decide +kernel
theorem bad_w2_2 : (((tables_1_2.drop 40).drop 40).take 40).all bad_f = true := by decide +kernel
theorem bad_w2_3 : ((((tables_1_2.drop 40).drop 40).drop 40).take 40).all bad_f = true := by decide +kernel
theorem bad_w2_4 : (((((tables_1_2.drop 40).drop 40).drop 40).drop 40).take 40).all bad_f = true := by decide +kernel
theorem bad_w2_5 : (((((tables_1_2.drop 40).drop 40).drop 40).drop 40).drop 40).all bad_f = true := by decide +kernel
theorem bad_a2 : tables_1_2.all bad_f = true := (bad_spl _ 40 tables_1_2 bad_w2_0 (bad_spl _ 40 (tables_1_2.drop 40) bad_w2_1 (bad_spl _ 40 ((tables_1_2.drop 40).drop 40) bad_w2_2 (bad_spl _ 40 (((tables_1_2.drop 40).drop 40).drop 40) bad_w2_3 (bad_spl _ 40 ((((tables_1_2.drop 40).drop 40).drop 40).drop 40) bad_w2_4 bad_w2_5)))))
theorem bad_w3_0 : (tables_1_3.take 40).all bad_f = true := by decide +kernel
theorem bad_w3_1 : ((tables_1_3.drop 40).take 40).all bad_f = true := by decide +kernel
theorem bad_w3_2 : (((tables_1_3.drop 40).drop 40).take 40).all bad_f = true := by decide +kernel
theorem bad_w3_3 : ((((tables_1_3.drop 40).drop 40).drop 40).take 40).all bad_f = true := by decide +kernel
theorem bad_w3_4 : (((((tables_1_3.drop 40).drop 40).drop 40).drop 40).take 40).all bad_f = true := by decide +kernel
theorem bad_w3_5 : (((((tables_1_3.drop 40).drop 40).drop 40).drop 40).drop 40).all bad_f = true := by decide +kernel
theorem bad_a3 : tables_1_3.all bad_f = true := (bad_spl _ 40 tables_1_3 bad_w3_0 (bad_spl _ 40 (tables_1_3.drop 40) bad_w3_1 (bad_spl _ 40 ((tables_1_3.drop 40).drop 40) bad_w3_2 (bad_spl _ 40 (((tables_1_3.drop 40).drop 40).drop 40) bad_w3_3 (bad_spl _ 40 ((((tables_1_3.drop 40).drop 40).drop 40).drop 40) bad_w3_4 bad_w3_5)))))
theorem bad_w4_0 : (tables_1_4.take 40).all bad_f = true := by decide +kernel
theorem bad_w4_1 : ((tables_1_4.drop 40).take 40).all bad_f = true := by decide +kernel
theorem bad_w4_2 : ((tables_1_4.drop 40).drop 40).all bad_f = true := by decide +kernel
theorem bad_a4 : tables_1_4.all bad_f = true := (bad_spl _ 40 tables_1_4 bad_w4_0 (bad_spl _ 40 (tables_1_4.drop 40) bad_w4_1 bad_w4_2))
theorem bad_words : ∀ c ∈ (Cond.code x code maxLocals ret :: tables_1), c.before start1.args0 bad_s = true := by
  intro c hc
  rcases List.mem_cons.mp hc with h | h
  · rw [h]; exact bad_wc
  · have h1 : c ∈ tables_1_1 ++ (tables_1_2 ++ (tables_1_3 ++ tables_1_4)) := h
    rcases List.mem_append.mp h1 with h2 | h1
    · exact bad_word (List.all_eq_true.mp bad_a1 c h2) (start1.words c hc)
    rcases List.mem_append.mp h1 with h2 | h1
    · exact bad_word (List.all_eq_true.mp bad_a2 c h2) (start1.words c hc)
    rcases List.mem_append.mp h1 with h2 | h1
    · exact bad_word (List.all_eq_true.mp bad_a3 c h2) (start1.words c hc)
    exact bad_word (List.all_eq_true.mp bad_a4 c h1) (start1.words c hc)
end
section
/-- still above the frames below, and no exception on its way -/
def bad_in (t : State) : Bool := decide (Lib.HandBits.below0.length < t.frames.length) && (match t.frames with | .throwing _ :: _ => false | _ => true)
theorem bad_ins : (List.range 70).all (fun n => bad_in (stepsAlone start1.p0.tables start1.e0 n bad_s)) = true := by decide +kernel
def bad_off (t : State) : Bool := match t.status with | .running => false | _ => true
theorem bad_end : bad_off (stepsAlone start1.p0.tables start1.e0 70 bad_s) = true := by decide +kernel
theorem bad_not_ended {t : State} {o : Outcome} (h : bad_in t = true) : ¬ Ended t Lib.HandBits.below0 o := by
  intro hE
  simp only [bad_in, Bool.and_eq_true, decide_eq_true_eq] at h
  cases o with
  | threw a =>
    have e : t.frames = .throwing a :: Lib.HandBits.below0 := hE
    rw [e] at h
    exact absurd h.2 (by simp)
  | returned v =>
    have e : t.frames.length = Lib.HandBits.below0.length := by
      have hE2 : ∃ f, t.frames = f :: [] := ⟨_, hE⟩
      obtain ⟨f, hE2⟩ := hE2
      rw [hE2]; rfl
    omega
theorem bad_stuck (n : Nat) : bad_off (stepsAlone start1.p0.tables start1.e0 (70 + n) bad_s) = true := by
  rw [stepsAlone_add]
  have h := bad_end
  generalize stepsAlone start1.p0.tables start1.e0 70 bad_s = t at h ⊢
  cases n with
  | zero => exact h
  | succ n =>
    have e : stepsAlone start1.p0.tables start1.e0 (n + 1) t = t := by
      unfold bad_off at h
      cases hs : t.status with
      | running => rw [hs] at h; cases h
      | _ => simp only [stepsAlone, hs]
    rw [e]; exact h
/-- THE STATEMENT IS FALSE AS WRITTEN: at that start the law does not come to its end -/
theorem not_claimed : ¬ Claimed_1_1 := by
  intro hC
  obtain ⟨n, o, -, h2, h3, -⟩ := hC launch0 rfl lists_1 trivial start1.p0 start1.e0 (launch0.admits_env _ _ _) fairChoices_fair.cas fairChoices_fair.clock bad_s ⟨0, 0⟩ start1.args0 Lib.HandBits.below0 rfl bad_arg bad_fit
    ((Spec.applies_iff rfl).mpr ⟨rfl, rfl, rfl, by decide +kernel, by decide +kernel, by decide +kernel, launch0.hasRoom_least _ room_1 (by decide +kernel) (by decide +kernel) (by decide +kernel) (by decide +kernel) (by decide +kernel) (by decide +kernel), atoms_intro bad_words⟩)
    ⟨trivial, bad_rest, bad_pre⟩
  rcases Nat.lt_or_ge n 70 with q | q
  · exact bad_not_ended (List.all_eq_true.mp bad_ins n (List.mem_range.mpr q)) h3
  · obtain ⟨k, rfl⟩ : ∃ k, n = 70 + k := ⟨n - 70, by omega⟩
    have h := bad_stuck k
    unfold bad_off at h
    rw [h2] at h
    cases h
end
