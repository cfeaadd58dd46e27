/-- still above the frames below, and no exception on its way -/
def bad_in (t : State) : Bool := decide (Lib.HandBits.below0.length < t.frames.length) && (match t.frames with | .throwing _ :: _ => false | _ => true)
theorem bad_ins : (List.range 70).all (fun n => bad_in (stepsAlone start1.p0.tables start1.e0 n bad_s)) = true := by decide +kernel
def bad_off (t : State) : Bool := match t.status with | .running => false | _ => true
theorem bad_end : bad_off (stepsAlone start1.p0.tables start1.e0 70 bad_s) = true := by decide +kernel
theorem bad_not_ended {t : State} {o : Outcome} (h : bad_in t = true) : ¬ Ended t Lib.HandBits.below0 o := by
  intro hE
  simp only [bad_in, Bool.and_eq_true, decide_eq_true_eq] at h
  cases o with
  | threw a =>
    have e : t.frames = .throwing a :: Lib.HandBits.below0 := hE
    rw [e] at h
    exact absurd h.2 (by simp)
  | returned v =>
    have e : t.frames.length = Lib.HandBits.below0.length := by
      have hE2 : ∃ f, t.frames = f :: [] := ⟨_, hE⟩
      obtain ⟨f, hE2⟩ := hE2
      rw [hE2]; rfl
    omega
theorem bad_stuck (n : Nat) : bad_off (stepsAlone start1.p0.tables start1.e0 (70 + n) bad_s) = true := by
  rw [stepsAlone_add]
  have h := bad_end
  generalize stepsAlone start1.p0.tables start1.e0 70 bad_s = t at h ⊢
  cases n with
  | zero => exact h
  | succ n =>
    have e : stepsAlone start1.p0.tables start1.e0 (n + 1) t = t := by
      unfold bad_off at h
      cases hs : t.status with
      | running => rw [hs] at h; cases h
      | _ => simp only [stepsAlone, hs]
    rw [e]; exact h
/-- THE STATEMENT IS FALSE AS WRITTEN: at that start the law does not come to its end -/
theorem not_claimed : ¬ Claimed_1_1 := by
  intro hC
  obtain ⟨n, o, -, h2, h3, -⟩ := hC launch0 rfl lists_1 trivial start1.p0 start1.e0 (launch0.admits_env _ _ _) fairChoices_fair.cas fairChoices_fair.clock bad_s ⟨0, 0⟩ start1.args0 Lib.HandBits.below0 rfl bad_arg bad_fit
    ((Spec.applies_iff rfl).mpr ⟨rfl, rfl, rfl, by decide +kernel, by decide +kernel, by decide +kernel, launch0.hasRoom_least _ room_1 (by decide +kernel) (by decide +kernel) (by decide +kernel) (by decide +kernel) (by decide +kernel) (by decide +kernel), atoms_intro bad_words⟩)
    ⟨trivial, bad_rest, bad_pre⟩
  rcases Nat.lt_or_ge n 70 with q | q
  · exact bad_not_ended (List.all_eq_true.mp bad_ins n (List.mem_range.mpr q)) h3
  · obtain ⟨k, rfl⟩ : ∃ k, n = 70 + k := ⟨n - 70, by omega⟩
    have h := bad_stuck k
    unfold bad_off at h
    rw [h2] at h
    cases h
