/-! a new object: class and reference agree -/
theorem m_nI (x : Int32) : ∃ M : Nat, 1 ≤ M ∧ M ≤ 16 ∧ mC x = nI M ∧ mM x = nI M := by
  rcases pk_ix x (n := 17) (by decide) with h | h | ⟨j, hj, rfl⟩
  · have h1 : x < 1 := Int32.lt_trans h (by decide)
    have h16 : x < 16 := Int32.lt_trans h (by decide)
    refine ⟨1, by omega, by omega, ?_, ?_⟩
    · unfold mC; rw [if_pos h16, if_neg (fun q => absurd (Int32.lt_trans q h1) (by decide))]; rfl
    · unfold mM; rw [if_pos h1]; rfl
  · have h16 : (16 : Int32) < x := Int32.lt_of_lt_of_le (show (16 : Int32) < nI 17 by decide) h
    have h1 : ¬ x < 1 := fun q => absurd (Int32.lt_trans h16 q) (by decide)
    have h2 : ¬ x < 16 := fun q => absurd (Int32.lt_trans h16 q) (by decide)
    refine ⟨16, by omega, by omega, ?_, ?_⟩
    · unfold mC; rw [if_neg h2, if_pos (by decide)]; rfl
    · unfold mM; rw [if_neg h1, if_pos h16]; rfl
  · by_cases hz : j = 0
    · subst hz; exact ⟨1, by omega, by omega, by decide, by decide⟩
    · refine ⟨j, by omega, by omega, ?_, ?_⟩
      · exact co_dec (N := 17) (P := fun j => j = 0 ∨ mC (nI j) = nI j) (by decide) hj |>.resolve_left hz
      · exact co_dec (N := 17) (P := fun j => j = 0 ∨ mM (nI j) = nI j) (by decide) hj |>.resolve_left hz
theorem o_eq (x : Int32) : oC x = oM x := by
  obtain ⟨j, hj, e⟩ := pk_andE x (m := 1) 1 rfl
  unfold oC oM
  rw [e]
  have : j = 0 ∨ j = 1 := by omega
  rcases this with r | r <;> subst r <;> decide
theorem set0_ok : ∀ j, j < 8 → set_lo j ≤ set0 j ∧ set0 j ≤ set_hi j := fun j hj => co_dec (N := 8) (P := fun j => set_lo j ≤ set0 j ∧ set0 j ≤ set_hi j) (by decide) hj
theorem Rel_0 (x1 x2 : Int32) : Rel 0 (st0 (mC x1) (oC x2)) (st0 (mM x1) (oM x2)) := by
  obtain ⟨M, h1, h2, e1, e2⟩ := m_nI x1
  rw [o_eq x2, e1, e2]
  refine ⟨0, M, 0, 0, ?_, ?_⟩
  · refine ⟨?_, ?_, ?_, ?_, ?_, ?_, rfl, ?_, ?_, ?_, ?_, ?_⟩
    · exact ⟨⟨h1, h2, rfl, rfl⟩, rfl, ⟨by omega, rfl, rfl⟩, rfl, rfl, rfl, rfl, set0_ok⟩
    · exact ⟨by omega, rfl, rfl, rfl, rfl, rfl, fun i _ => ⟨rfl, rfl, rfl⟩⟩
    · refine ⟨rfl, rfl, ⟨fun i h => by omega, fun i h => by omega, fun i j h => by omega, ⟨rfl, rfl⟩, by show 0 ≤ M; omega⟩, fun i h => by omega, fun i _ => ⟨⟨rfl, rfl⟩, rfl, rfl⟩⟩
    · exact ⟨rfl, rfl, rfl, rfl, rfl, fun k h => by omega⟩
    · exact ⟨0, fun _ => 0, rfl, rfl, fun j h => by omega, fun j k h => by omega⟩
    · exact ⟨fun _ => 0, rfl, fun j h => absurd h (by simp [cnt]), fun j k _ h => absurd h (by simp [cnt]), fun i h => by omega⟩
    · exact ⟨0, by omega, rfl, rfl, fun j h => by omega⟩
    · exact ⟨0, by omega, rfl, rfl, fun j h => by omega⟩
    · exact ⟨rfl, fun _ => 0, fun i => ⟨rfl, Nat.le_refl 0⟩, fun i => rfl, fun i h => absurd h (Nat.lt_irrefl 0), fun i h => by omega, fun i _ => rfl⟩
    · exact ⟨rfl, rfl, rfl, 0, by omega, rfl, rfl, fun i k h => by omega⟩
    · exact ⟨0, 0, by omega, by omega, rfl, rfl, rfl, rfl, fun i h => by omega, fun i _ => ⟨rfl, rfl, rfl⟩, ⟨fun i h => by omega, fun i h => by omega, fun i j h => by omega, ⟨rfl, rfl⟩, by show 0 ≤ M; omega⟩, fun i h => by omega, rfl, fun k h => by omega⟩
  · exact ⟨fun h => absurd h.2 (by simp [cnt]), Or.inr rfl, rfl⟩
