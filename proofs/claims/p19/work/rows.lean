section
/-! REFUTATION. A start that meets every premise of the statement, and in which the static array that the class's constructor clones is of another class of kind 'array of int' than the one found under the name "[I": the machine selects that class's own clone, whose code is no instruction, and stops -/
def bad_m : Method := Lib.HandJ.method "clone" "()Ljava/lang/Object;" [] (some (.object "java/lang/Object")) 0x1 1 ⟨#[0xff]⟩
def bad_W : Class := { start1.cArr "[W" 14 .int with methods := #[bad_m] }
def bad_h : State := start1.aboutOf #[]
/-- the witness's own start over the empty script, with one class more, and FIRST_SETTINGS' cell of that class -/
def bad_s : State := { bad_h with vm := { bad_h.vm with classes := bad_h.vm.classes.push bad_W }, heap := bad_h.heap.set! 2 { cls := 20, slots := #[.int 10, .int 2, .int 20, .int 0, .int 0, .int 0, .int 0, .int 1], vm := .none } }
theorem bad_rest : rest_1_c.before start1.args0 bad_s = true := by decide +kernel
theorem bad_pre : (Cond.and given_1 narrow_1).before start1.args0 bad_s = true := by decide +kernel
theorem bad_fit : heapFits bad_s = true := by decide +kernel
theorem bad_arg : argsFit bad_s.vm ⟨0, 0⟩ start1.args0 = true := by decide +kernel
theorem bad_spl {α : Type} (p : α → Bool) (n : Nat) (l : List α) (h1 : (l.take n).all p = true) (h2 : (l.drop n).all p = true) : l.all p = true := by
  rw [← List.take_append_drop n l, List.all_append, h1, h2]; rfl
/-- a word of code is held by its method's name alone; any other word is looked at as it stands -/
def bad_f : Cond → Bool
  | .code y _ _ _ => decide (bad_s.methodNamed? y = start1.about.methodNamed? y)
  | c => c.before start1.args0 bad_s
theorem bad_method (m : MethodId) (h : (start1.about.vm.method? m).isSome = true) : bad_s.vm.method? m = start1.about.vm.method? m := by
  have hz : start1.about.vm.classes.size = 20 := rfl
  have e : bad_s.vm.classes = start1.about.vm.classes.push bad_W := rfl
  by_cases hl : m.cls < start1.about.vm.classes.size
  · have e2 : bad_s.vm.classes[m.cls]? = start1.about.vm.classes[m.cls]? := by rw [e, Array.getElem?_push, if_neg (Nat.ne_of_lt hl)]
    simp only [Vm.method?, e2]
  · have e3 : start1.about.vm.classes[m.cls]? = none := Array.getElem?_eq_none (Nat.not_lt.mp hl)
    simp [Vm.method?, e3] at h
theorem bad_word {c : Cond} (h1 : bad_f c = true) (h2 : c.before start1.args0 start1.about = true) : c.before start1.args0 bad_s = true := by
  cases c with
  | code y bytes n r =>
    have hn : bad_s.methodNamed? y = start1.about.methodNamed? y := of_decide_eq_true h1
    simp only [Cond.before, Cond.holds, Cond.value] at h2 ⊢
    rw [hn]
    cases hq : start1.about.methodNamed? y with
    | none => rw [hq] at h2; exact h2
    | some m =>
      rw [hq] at h2
      cases hm : start1.about.vm.method? m with
      | none => exfalso; rw [show (some m).bind start1.about.vm.method? = none from hm] at h2; simp at h2
      | some meth => rw [show (some m).bind bad_s.vm.method? = (some m).bind start1.about.vm.method? from bad_method m (by rw [hm]; rfl)]; exact h2
  | _ => exact h1
theorem bad_wc : (Cond.code x code maxLocals ret).before start1.args0 bad_s = true := bad_word (show bad_f (Cond.code x code maxLocals ret) = true by decide +kernel) (start1.words _ List.mem_cons_self)
end
section
theorem bad_w1_0 : (tables_1_1.take 40).all bad_f = true := by decide +kernel
theorem bad_w1_1 : ((tables_1_1.drop 40).take 40).all bad_f = true := by decide +kernel
theorem bad_w1_2 : (((tables_1_1.drop 40).drop 40).take 40).all bad_f = true := by decide +kernel
theorem bad_w1_3 : ((((tables_1_1.drop 40).drop 40).drop 40).take 40).all bad_f = true := by decide +kernel
theorem bad_w1_4 : (((((tables_1_1.drop 40).drop 40).drop 40).drop 40).take 40).all bad_f = true := by decide +kernel
theorem bad_w1_5 : (((((tables_1_1.drop 40).drop 40).drop 40).drop 40).drop 40).all bad_f = true := by decide +kernel
theorem bad_a1 : tables_1_1.all bad_f = true := (bad_spl _ 40 tables_1_1 bad_w1_0 (bad_spl _ 40 (tables_1_1.drop 40) bad_w1_1 (bad_spl _ 40 ((tables_1_1.drop 40).drop 40) bad_w1_2 (bad_spl _ 40 (((tables_1_1.drop 40).drop 40).drop 40) bad_w1_3 (bad_spl _ 40 ((((tables_1_1.drop 40).drop 40).drop 40).drop 40) bad_w1_4 bad_w1_5)))))
theorem bad_w2_0 : (tables_1_2.take 40).all bad_f = true := by decide +kernel
theorem bad_w2_1 : ((tables_1_2.drop 40).take 40).all bad_f = true := by decide +kernel
theorem bad_w2_2 : (((tables_1_2.drop 40).drop 40).take 40).all bad_f = true := by decide +kernel
theorem bad_w2_3 : ((((tables_1_2.drop 40).drop 40).drop 40).take 40).all bad_f = true := by decide +kernel
theorem bad_w2_4 : (((((tables_1_2.drop 40).drop 40).drop 40).drop 40).take 40).all bad_f = true := by decide +kernel
theorem bad_w2_5 : (((((tables_1_2.drop 40).drop 40).drop 40).drop 40).drop 40).all bad_f = true := by decide +kernel
theorem bad_a2 : tables_1_2.all bad_f = true := (bad_spl _ 40 tables_1_2 bad_w2_0 (bad_spl _ 40 (tables_1_2.drop 40) bad_w2_1 (bad_spl _ 40 ((tables_1_2.drop 40).drop 40) bad_w2_2 (bad_spl _ 40 (((tables_1_2.drop 40).drop 40).drop 40) bad_w2_3 (bad_spl _ 40 ((((tables_1_2.drop 40).drop 40).drop 40).drop 40) bad_w2_4 bad_w2_5)))))
theorem bad_w3_0 : (tables_1_3.take 40).all bad_f = true := by decide +kernel
theorem bad_w3_1 : ((tables_1_3.drop 40).take 40).all bad_f = true := by decide +kernel
theorem bad_w3_2 : (((tables_1_3.drop 40).drop 40).take 40).all bad_f = true := by decide +kernel
theorem bad_w3_3 : ((((tables_1_3.drop 40).drop 40).drop 40).take 40).all bad_f = true := by decide +kernel
theorem bad_w3_4 : (((((tables_1_3.drop 40).drop 40).drop 40).drop 40).take 40).all bad_f = true := by decide +kernel
theorem bad_w3_5 : (((((tables_1_3.drop 40).drop 40).drop 40).drop 40).drop 40).all bad_f = true := by decide +kernel
theorem bad_a3 : tables_1_3.all bad_f = true := (bad_spl _ 40 tables_1_3 bad_w3_0 (bad_spl _ 40 (tables_1_3.drop 40) bad_w3_1 (bad_spl _ 40 ((tables_1_3.drop 40).drop 40) bad_w3_2 (bad_spl _ 40 (((tables_1_3.drop 40).drop 40).drop 40) bad_w3_3 (bad_spl _ 40 ((((tables_1_3.drop 40).drop 40).drop 40).drop 40) bad_w3_4 bad_w3_5)))))
theorem bad_w4_0 : (tables_1_4.take 40).all bad_f = true := by decide +kernel
theorem bad_w4_1 : ((tables_1_4.drop 40).take 40).all bad_f = true := by decide +kernel
theorem bad_w4_2 : ((tables_1_4.drop 40).drop 40).all bad_f = true := by decide +kernel
theorem bad_a4 : tables_1_4.all bad_f = true := (bad_spl _ 40 tables_1_4 bad_w4_0 (bad_spl _ 40 (tables_1_4.drop 40) bad_w4_1 bad_w4_2))
theorem bad_words : ∀ c ∈ (Cond.code x code maxLocals ret :: tables_1), c.before start1.args0 bad_s = true := by
  intro c hc
  rcases List.mem_cons.mp hc with h | h
  · rw [h]; exact bad_wc
  · have h1 : c ∈ tables_1_1 ++ (tables_1_2 ++ (tables_1_3 ++ tables_1_4)) := h
    rcases List.mem_append.mp h1 with h2 | h1
    · exact bad_word (List.all_eq_true.mp bad_a1 c h2) (start1.words c hc)
    rcases List.mem_append.mp h1 with h2 | h1
    · exact bad_word (List.all_eq_true.mp bad_a2 c h2) (start1.words c hc)
    rcases List.mem_append.mp h1 with h2 | h1
    · exact bad_word (List.all_eq_true.mp bad_a3 c h2) (start1.words c hc)
    exact bad_word (List.all_eq_true.mp bad_a4 c h1) (start1.words c hc)
end
section
/-- still above the frames below, and no exception on its way -/
def bad_in (t : State) : Bool := decide (Lib.HandBits.below0.length < t.frames.length) && (match t.frames with | .throwing _ :: _ => false | _ => true)
theorem bad_ins : (List.range 70).all (fun n => bad_in (stepsAlone start1.p0.tables start1.e0 n bad_s)) = true := by decide +kernel
def bad_off (t : State) : Bool := match t.status with | .running => false | _ => true
theorem bad_end : bad_off (stepsAlone start1.p0.tables start1.e0 70 bad_s) = true := by decide +kernel
theorem bad_not_ended {t : State} {o : Outcome} (h : bad_in t = true) : ¬ Ended t Lib.HandBits.below0 o := by
  intro hE
  simp only [bad_in, Bool.and_eq_true, decide_eq_true_eq] at h
  cases o with
  | threw a =>
    have e : t.frames = .throwing a :: Lib.HandBits.below0 := hE
    rw [e] at h
    exact absurd h.2 (by simp)
  | returned v =>
    have e : t.frames.length = Lib.HandBits.below0.length := by
      have hE2 : ∃ f, t.frames = f :: [] := ⟨_, hE⟩
      obtain ⟨f, hE2⟩ := hE2
      rw [hE2]; rfl
    omega
theorem bad_stuck (n : Nat) : bad_off (stepsAlone start1.p0.tables start1.e0 (70 + n) bad_s) = true := by
  rw [stepsAlone_add]
  have h := bad_end
  generalize stepsAlone start1.p0.tables start1.e0 70 bad_s = t at h ⊢
  cases n with
  | zero => exact h
  | succ n =>
    have e : stepsAlone start1.p0.tables start1.e0 (n + 1) t = t := by
      unfold bad_off at h
      cases hs : t.status with
      | running => rw [hs] at h; cases h
      | _ => simp only [stepsAlone, hs]
    rw [e]; exact h
/-- THE STATEMENT IS FALSE AS WRITTEN: at that start the law does not come to its end -/
theorem not_claimed : ¬ Claimed_1_1 := by
  intro hC
  obtain ⟨n, o, -, h2, h3, -⟩ := hC launch0 rfl lists_1 trivial start1.p0 start1.e0 (launch0.admits_env _ _ _) fairChoices_fair.cas fairChoices_fair.clock bad_s ⟨0, 0⟩ start1.args0 Lib.HandBits.below0 rfl bad_arg bad_fit
    ((Spec.applies_iff rfl).mpr ⟨rfl, rfl, rfl, by decide +kernel, by decide +kernel, by decide +kernel, launch0.hasRoom_least _ room_1 (by decide +kernel) (by decide +kernel) (by decide +kernel) (by decide +kernel) (by decide +kernel) (by decide +kernel), atoms_intro bad_words⟩)
    ⟨trivial, bad_rest, bad_pre⟩
  rcases Nat.lt_or_ge n 70 with q | q
  · exact bad_not_ended (List.all_eq_true.mp bad_ins n (List.mem_range.mpr q)) h3
  · obtain ⟨k, rfl⟩ : ∃ k, n = 70 + k := ⟨n - 70, by omega⟩
    have h := bad_stuck k
    unfold bad_off at h
    rw [h2] at h
    cases h
end
