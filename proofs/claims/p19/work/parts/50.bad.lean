/-! REFUTATION. A start that meets every premise of the statement, and in which the static array that the class's constructor clones is of another class of kind 'array of int' than the one found under the name "[I": the machine selects that class's own clone, whose code is no instruction, and stops -/
def bad_m : Method := Lib.HandJ.method "clone" "()Ljava/lang/Object;" [] (some (.object "java/lang/Object")) 0x1 1 ⟨#[0xff]⟩
def bad_W : Class := { start1.cArr "[W" 14 .int with methods := #[bad_m] }
def bad_h : State := start1.aboutOf #[]
/-- the witness's own start over the empty script, with one class more, and FIRST_SETTINGS' cell of that class -/
def bad_s : State := { bad_h with vm := { bad_h.vm with classes := bad_h.vm.classes.push bad_W }, heap := bad_h.heap.set! 2 { cls := 20, slots := #[.int 10, .int 2, .int 20, .int 0, .int 0, .int 0, .int 0, .int 1], vm := .none } }
theorem bad_rest : rest_1_c.before start1.args0 bad_s = true := by decide +kernel
theorem bad_pre : (Cond.and given_1 narrow_1).before start1.args0 bad_s = true := by decide +kernel
theorem bad_fit : heapFits bad_s = true := by decide +kernel
theorem bad_arg : argsFit bad_s.vm ⟨0, 0⟩ start1.args0 = true := by decide +kernel
theorem bad_spl {α : Type} (p : α → Bool) (n : Nat) (l : List α) (h1 : (l.take n).all p = true) (h2 : (l.drop n).all p = true) : l.all p = true := by
  rw [← List.take_append_drop n l, List.all_append, h1, h2]; rfl
/-- a word of code is held by its method's name alone; any other word is looked at as it stands -/
def bad_f : Cond → Bool
  | .code y _ _ _ => decide (bad_s.methodNamed? y = start1.about.methodNamed? y)
  | c => c.before start1.args0 bad_s
theorem bad_method (m : MethodId) (h : (start1.about.vm.method? m).isSome = true) : bad_s.vm.method? m = start1.about.vm.method? m := by
  have hz : start1.about.vm.classes.size = 20 := rfl
  have e : bad_s.vm.classes = start1.about.vm.classes.push bad_W := rfl
  by_cases hl : m.cls < start1.about.vm.classes.size
  · have e2 : bad_s.vm.classes[m.cls]? = start1.about.vm.classes[m.cls]? := by rw [e, Array.getElem?_push, if_neg (Nat.ne_of_lt hl)]
    simp only [Vm.method?, e2]
  · have e3 : start1.about.vm.classes[m.cls]? = none := Array.getElem?_eq_none (Nat.not_lt.mp hl)
    simp [Vm.method?, e3] at h
theorem bad_word {c : Cond} (h1 : bad_f c = true) (h2 : c.before start1.args0 start1.about = true) : c.before start1.args0 bad_s = true := by
  cases c with
  | code y bytes n r =>
    have hn : bad_s.methodNamed? y = start1.about.methodNamed? y := of_decide_eq_true h1
    simp only [Cond.before, Cond.holds, Cond.value] at h2 ⊢
    rw [hn]
    cases hq : start1.about.methodNamed? y with
    | none => rw [hq] at h2; exact h2
    | some m =>
      rw [hq] at h2
      cases hm : start1.about.vm.method? m with
      | none => exfalso; rw [show (some m).bind start1.about.vm.method? = none from hm] at h2; simp at h2
      | some meth => rw [show (some m).bind bad_s.vm.method? = (some m).bind start1.about.vm.method? from bad_method m (by rw [hm]; rfl)]; exact h2
  | _ => exact h1
theorem bad_wc : (Cond.code x code maxLocals ret).before start1.args0 bad_s = true := bad_word (show bad_f (Cond.code x code maxLocals ret) = true by decide +kernel) (start1.words _ List.mem_cons_self)
