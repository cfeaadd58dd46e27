/-! the lines; calls on them -/
def Rel (K : Nat) (σ τ : St) : Prop := ∃ n M o t, RelP K n M o t σ τ ∧ Qt n M τ
theorem gV_K {n K : Nat} {mk : Nat → Int32} {key ck : Nat → Int64} {ca : Nat → Int32} {cl : Nat → Int64} {ma mi : Nat → Int32} {ml : Nat → Int64} (h : gV n K mk key ck ca cl ma mi ml) : gV n (K + 1) mk key ck ca cl ma mi ml := by
  obtain ⟨h1, c, h2, h3⟩ := h
  exact ⟨h1, c, fun i => ⟨(h2 i).1, by have := (h2 i).2; omega⟩, h3⟩
theorem RelP_K {K n M o t : Nat} {σ τ : St} (h : RelP K n M o t σ τ) : RelP (K + 1) n M o t σ τ := by
  obtain ⟨hE, hI, hS, hO, hQ, hW, hD, hL0, hL1, hV, hK, hZ⟩ := h
  exact ⟨hE, hI, hS, hO, hQ, hW, hD, hL0, hL1, gV_K hV, hK, hZ⟩
theorem Rel_K {K : Nat} {σ τ : St} (h : Rel K σ τ) : Rel (K + 1) σ τ := by
  obtain ⟨n, M, o, t, h1, h2⟩ := h
  exact ⟨n, M, o, t, RelP_K h1, h2⟩
section LNS
variable {F K n M o t : Nat} {σ τ : St}
theorem go_rel (hF : 301 < F) (h : RelP K n M o t σ τ) : ∃ σ' τ', fX7_goOn F σ = some σ' ∧ fX8_goOn F τ = some τ' ∧ Rel K σ' τ' := by
  obtain ⟨o', σ', τ', h1, h2, h3, h4⟩ := goOn_all hF h
  exact ⟨σ', τ', h1, h2, n, M, o', t, h3, h4⟩
theorem f8_under1 {ln a k : Nat} (hl : ln < 2) (ha : τ.2.1 11 ln = nI a) (h100 : a ≤ 100) (hk : k < a) : fX8_isUnder τ (nI ln) (nI k) = some 1 := by
  unfold fX8_isUnder
  rw [if_neg (nI_pos (by omega)), show (2 : Int32) = nI 2 from rfl, if_neg (by rw [nI_leI (by omega) (by omega)]; omega), if_neg (nI_pos (by omega)), ixN hl (by decide), nI_clamp (by omega), ha, if_neg (by rw [nI_leI (by omega) (by omega)]; omega)]
theorem f8_under0 {ln a : Nat} {x : Int32} (hl : ln < 2) (ha : τ.2.1 11 ln = nI a) (hx : x < 0 ∨ nI a ≤ x) : fX8_isUnder τ (nI ln) x = some 0 := by
  unfold fX8_isUnder
  rw [if_neg (nI_pos (by omega)), show (2 : Int32) = nI 2 from rfl, if_neg (by rw [nI_leI (by omega) (by omega)]; omega)]
  by_cases h0 : x < 0
  · rw [if_pos h0]
  · rw [if_neg h0, ixN hl (by decide), nI_clamp (by omega), ha, if_pos (hx.resolve_left h0)]
theorem f8_underX {p x : Int32} (h : p < 0 ∨ nI 2 ≤ p) : fX8_isUnder τ p x = some 0 := by
  unfold fX8_isUnder
  by_cases h0 : p < 0
  · rw [if_pos h0]
  · rw [if_neg h0, if_pos (show (2 : Int32) ≤ p from h.resolve_left h0)]
theorem line3 (p : Int32) : p = 0 ∨ p = 1 ∨ (p ≠ 0 ∧ p ≠ 1 ∧ (p < 0 ∨ nI 2 ≤ p)) := by
  rcases pk_ix p (n := 2) (by decide) with h | h | ⟨j, hj, h⟩
  · exact Or.inr (Or.inr ⟨fun e => by rw [e] at h; exact absurd h (by decide), fun e => by rw [e] at h; exact absurd h (by decide), Or.inl h⟩)
  · exact Or.inr (Or.inr ⟨fun e => by rw [e] at h; exact absurd h (by decide), fun e => by rw [e] at h; exact absurd h (by decide), Or.inr h⟩)
  · have : j = 0 ∨ j = 1 := by omega
    rcases this with r | r <;> subst r
    · exact Or.inl h
    · exact Or.inr (Or.inl h)
theorem gL_take {mk : Nat → Int32} {off a k : Nat} {cr cc mr mc : Nat → Int32} {cv mv : Nat → Int64} {csz msz : Int32} (h : gL n mk off cr cc cv csz mr mc mv msz) (ha : csz = nI a) (h100 : a ≤ 100) (hk : k < a) : gL n mk off (shw cr k (a - 1)) (shw cc k (a - 1)) (shw cv k (a - 1)) (nI (a - 1)) (shw mr (off + k) (off + a - 1)) (shw mc (off + k) (off + a - 1)) (shw mv (off + k) (off + a - 1)) (nI (a - 1)) := by
  obtain ⟨a', h1, h2, h3, h4⟩ := h
  have : a' = a := (nI_eq (by omega) (by omega)).mp (h2.symm.trans ha)
  subst this
  refine ⟨a' - 1, by omega, rfl, rfl, fun j hj => ?_⟩
  unfold shw
  by_cases hjk : k ≤ j
  · have c1 : k ≤ j ∧ j < a' - 1 := by omega
    have c2 : off + k ≤ off + j ∧ off + j < off + a' - 1 := by omega
    rw [if_pos c1, if_pos c1, if_pos c1, if_pos c2, if_pos c2, if_pos c2]
    exact h4 (j + 1) (by omega)
  · have c1 : ¬ (k ≤ j ∧ j < a' - 1) := by omega
    have c2 : ¬ (off + k ≤ off + j ∧ off + j < off + a' - 1) := by omega
    rw [if_neg c1, if_neg c1, if_neg c1, if_neg c2, if_neg c2, if_neg c2]
    exact h4 j (by omega)
theorem gL_tfar {mk : Nat → Int32} {off lo hi : Nat} {cr cc mr mc : Nat → Int32} {cv mv : Nat → Int64} {csz msz : Int32} (h : gL n mk off cr cc cv csz mr mc mv msz) (hx : ∀ j, j < 100 → ¬ (lo ≤ off + j ∧ off + j < hi)) : gL n mk off cr cc cv csz (shw mr lo hi) (shw mc lo hi) (shw mv lo hi) msz := by
  obtain ⟨a', h1, h2, h3, h4⟩ := h
  refine ⟨a', h1, h2, h3, fun j hj => ?_⟩
  unfold shw
  have := hx j (by omega)
  rw [if_neg this, if_neg this, if_neg this]
  exact h4 j hj
abbrev tkM (τ : St) (ln a k : Nat) : St := sA (sL (sA (sA τ 9 (shw (τ.2.1 9) (100 * ln + k) (100 * ln + a - 1))) 10 (shw (τ.2.1 10) (100 * ln + k) (100 * ln + a - 1))) 3 (shw (τ.2.2 3) (100 * ln + k) (100 * ln + a - 1))) 11 (upd (τ.2.1 11) ln (nI (a - 1)))
abbrev tkC0 (σ : St) (a k : Nat) : St := sI (sL (sA (sA σ 16 (shw (σ.2.1 16) k (a - 1))) 17 (shw (σ.2.1 17) k (a - 1))) 4 (shw (σ.2.2 4) k (a - 1))) 9 (nI (a - 1))
abbrev tkC1 (σ : St) (a k : Nat) : St := sI (sL (sA (sA σ 18 (shw (σ.2.1 18) k (a - 1))) 19 (shw (σ.2.1 19) k (a - 1))) 5 (shw (σ.2.2 5) k (a - 1))) 10 (nI (a - 1))
theorem rel_take0 {a k : Nat} (h : RelP K n M o t σ τ) (ha : σ.1 9 = nI a) (h100 : a ≤ 100) (hk : k < a) : RelP K n M o t (tkC0 σ a k) (tkM τ 0 a k) := by
  obtain ⟨hE, hI, hS, hO, hQ, hW, hD, hL0, hL1, hV, hK, hZ⟩ := h
  refine ⟨hE, hI, hS, hO, hQ, hW, hD, ?_, ?_, hV, hK, hZ⟩
  · exact gL_take (off := 0) hL0 ha h100 hk
  · exact gL_tfar hL1 (fun j hj => by omega)
theorem rel_take1 {a k : Nat} (h : RelP K n M o t σ τ) (ha : σ.1 10 = nI a) (h100 : a ≤ 100) (hk : k < a) : RelP K n M o t (tkC1 σ a k) (tkM τ 1 a k) := by
  obtain ⟨hE, hI, hS, hO, hQ, hW, hD, hL0, hL1, hV, hK, hZ⟩ := h
  refine ⟨hE, hI, hS, hO, hQ, hW, hD, ?_, ?_, hV, hK, hZ⟩
  · exact gL_tfar hL0 (fun j hj => by omega)
  · exact gL_take (off := 100) hL1 ha h100 hk
theorem rel_send0 {r : Nat} {w : Int32} {v : Int64} (h : RelP K n M o t σ τ) (hr : r < n) (hm : τ.2.1 1 r = 0) (hw : w = 0 ∨ w = 1 ∨ w = 2 ∨ w = 3) : ∃ u τ', fX2_setOut (σ.2.1 16) (σ.2.1 17) (σ.2.2 4) (σ.1 9) (nI r) w v = some u ∧ fX8_send τ (nI 0) (nI r) w v = some τ' ∧ RelP K n M o t (sI (sL (sA (sA σ 16 u.1) 17 u.2.1) 4 u.2.2.1) 9 u.2.2.2) τ' := by
  obtain ⟨hE, hI, hS, hO, hQ, hW, hD, hL0, hL1, hV, hK, hZ⟩ := h
  obtain ⟨a, ha100, ea, ea', hLa⟩ := id hL0
  by_cases hfull : a = 100
  · subst hfull
    refine ⟨_, _, by rw [ea]; exact f2_setOutF, f8_sendF (by decide) ea', ?_⟩
    exact ⟨hE, hI, hS, hO, hQ, hW, hD, ⟨100, by omega, rfl, ea', hLa⟩, hL1, hV, hK, hZ⟩
  · refine ⟨_, _, by rw [ea]; exact f2_setOut (by omega), f8_send (by decide) ea' (by omega), ?_⟩
    refine ⟨hE, hI, hS, hO, hQ, hW, hD, ?_, ?_, hV, hK, hZ⟩
    · exact gL_push (off := 0) hL0 ea (by omega) hr hm hw
    · exact gL_far hL1 (fun j hj => by omega)
theorem rel_send1 {r : Nat} {w : Int32} {v : Int64} (h : RelP K n M o t σ τ) (hr : r < n) (hm : τ.2.1 1 r = 0) (hw : w = 0 ∨ w = 1 ∨ w = 2 ∨ w = 3) : ∃ u τ', fX2_setOut (σ.2.1 18) (σ.2.1 19) (σ.2.2 5) (σ.1 10) (nI r) w v = some u ∧ fX8_send τ (nI 1) (nI r) w v = some τ' ∧ RelP K n M o t (sI (sL (sA (sA σ 18 u.1) 19 u.2.1) 5 u.2.2.1) 10 u.2.2.2) τ' := by
  obtain ⟨hE, hI, hS, hO, hQ, hW, hD, hL0, hL1, hV, hK, hZ⟩ := h
  obtain ⟨a, ha100, ea, ea', hLa⟩ := id hL1
  by_cases hfull : a = 100
  · subst hfull
    refine ⟨_, _, by rw [ea]; exact f2_setOutF, f8_sendF (by decide) ea', ?_⟩
    exact ⟨hE, hI, hS, hO, hQ, hW, hD, hL0, ⟨100, by omega, rfl, ea', hLa⟩, hV, hK, hZ⟩
  · refine ⟨_, _, by rw [ea]; exact f2_setOut (by omega), f8_send (by decide) ea' (by omega), ?_⟩
    refine ⟨hE, hI, hS, hO, hQ, hW, hD, ?_, ?_, hV, hK, hZ⟩
    · exact gL_far hL0 (fun j hj => by omega)
    · exact gL_push (off := 100) hL1 ea (by omega) hr hm hw
theorem len_eq (h : Rel K σ τ) : σ.1 9 = τ.2.1 11 0 ∧ σ.1 10 = τ.2.1 11 1 := by
  obtain ⟨n, M, o, t, h, -⟩ := h
  obtain ⟨hE, hI, hS, hO, hQ, hW, hD, hL0, hL1, -⟩ := h
  obtain ⟨a, -, ea, ea', -⟩ := hL0
  obtain ⟨b, -, eb, eb', -⟩ := hL1
  exact ⟨ea.trans ea'.symm, eb.trans eb'.symm⟩
/-- lose -/
theorem op_lose (hF : 301 < F) (h : Rel K σ τ) (p1 p2 : Int32) : ∃ r σ' τ', fX7_lose F σ p1 p2 = some (r, σ') ∧ fX8_lose F τ p1 p2 = some (r, τ') ∧ Rel (K + 1) σ' τ' := by
  obtain ⟨n, M, o, t, hP, hq⟩ := id h
  obtain ⟨hE, hI, hS, hO, hQ, hW, hD, hL0, hL1, hV, hK, hZ⟩ := id hP
  rcases line3 p1 with rfl | rfl | ⟨h1, h2, h3⟩
  · obtain ⟨a, ha100, ea, ea', hLa⟩ := id hL0
    rcases pk_ix p2 (n := a) (by omega) with hx | hx | ⟨k, hk, rfl⟩
    · refine ⟨-1, σ, τ, ?_, ?_, Rel_K h⟩
      · rw [fX7_lose, if_pos rfl, ea, bs (f2_has0 (Or.inl hx)), if_pos rfl]
      · rw [fX8_lose, bs (show fX8_isUnder τ 0 p2 = some 0 from f8_under0 (ln := 0) (by decide) ea' (Or.inl hx)), if_pos rfl]
    · refine ⟨-1, σ, τ, ?_, ?_, Rel_K h⟩
      · rw [fX7_lose, if_pos rfl, ea, bs (f2_has0 (Or.inr hx)), if_pos rfl]
      · rw [fX8_lose, bs (show fX8_isUnder τ 0 p2 = some 0 from f8_under0 (ln := 0) (by decide) ea' (Or.inr hx)), if_pos rfl]
    · obtain ⟨σ', τ', g1, g2, g3⟩ := go_rel hF (rel_take0 hP ea ha100 hk)
      refine ⟨σ'.1 9, σ', τ', ?_, ?_, Rel_K g3⟩
      · rw [fX7_lose, if_pos rfl, ea, bs (f2_has1 ha100 hk), if_neg (by decide), bs (f2_removeAt ha100 hk)]
        rw [cpy_shw hk, cpy_shw hk, cpy_shw hk, bs g1]
      · rw [fX8_lose, bs (show fX8_isUnder τ 0 (nI k) = some 1 from f8_under1 (ln := 0) (by decide) ea' ha100 hk), if_neg (by decide), bs (show fX8_take F τ 0 (nI k) = some (tkM τ 0 a k) from f8_take (ln := 0) hF (by decide) ea' ha100 hk)]
        rw [bs g2, (len_eq g3).1]
        exact ixN (j := 0) (by decide) (by decide)
  · obtain ⟨a, ha100, ea, ea', hLa⟩ := id hL1
    rcases pk_ix p2 (n := a) (by omega) with hx | hx | ⟨k, hk, rfl⟩
    · refine ⟨-1, σ, τ, ?_, ?_, Rel_K h⟩
      · rw [fX7_lose, if_neg (by decide), if_pos rfl, ea, bs (f2_has0 (Or.inl hx)), if_pos rfl]
      · rw [fX8_lose, bs (show fX8_isUnder τ 1 p2 = some 0 from f8_under0 (ln := 1) (by decide) ea' (Or.inl hx)), if_pos rfl]
    · refine ⟨-1, σ, τ, ?_, ?_, Rel_K h⟩
      · rw [fX7_lose, if_neg (by decide), if_pos rfl, ea, bs (f2_has0 (Or.inr hx)), if_pos rfl]
      · rw [fX8_lose, bs (show fX8_isUnder τ 1 p2 = some 0 from f8_under0 (ln := 1) (by decide) ea' (Or.inr hx)), if_pos rfl]
    · obtain ⟨σ', τ', g1, g2, g3⟩ := go_rel hF (rel_take1 hP ea ha100 hk)
      refine ⟨σ'.1 10, σ', τ', ?_, ?_, Rel_K g3⟩
      · rw [fX7_lose, if_neg (by decide), if_pos rfl, ea, bs (f2_has1 ha100 hk), if_neg (by decide), bs (f2_removeAt ha100 hk)]
        rw [cpy_shw hk, cpy_shw hk, cpy_shw hk, bs g1]
      · rw [fX8_lose, bs (show fX8_isUnder τ 1 (nI k) = some 1 from f8_under1 (ln := 1) (by decide) ea' ha100 hk), if_neg (by decide), bs (show fX8_take F τ 1 (nI k) = some (tkM τ 1 a k) from f8_take (ln := 1) hF (by decide) ea' ha100 hk)]
        rw [bs g2, (len_eq g3).2]
        exact ixN (j := 1) (by decide) (by decide)
  · refine ⟨-1, σ, τ, ?_, ?_, Rel_K h⟩
    · rw [fX7_lose, if_neg h1, if_neg h2]
    · rw [fX8_lose, bs (f8_underX h3), if_pos rfl]
/-- under -/
theorem op_under (h : Rel K σ τ) (p1 p2 : Int32) : ∃ r, fX7_under σ p1 p2 = some r ∧ fX8_under τ p1 p2 = some r := by
  obtain ⟨n, M, o, t, hP, hq⟩ := id h
  obtain ⟨hE, hI, hS, hO, hQ, hW, hD, hL0, hL1, hV, hK, hZ⟩ := id hP
  rcases line3 p1 with rfl | rfl | ⟨h1, h2, h3⟩
  · obtain ⟨a, ha100, ea, ea', hLa⟩ := id hL0
    rcases pk_ix p2 (n := a) (by omega) with hx | hx | ⟨k, hk, rfl⟩
    · refine ⟨-1, ?_, ?_⟩
      · rw [fX7_under, if_pos rfl, ea, bs (f2_rowAt0 (Or.inl hx))]
      · rw [fX8_under, bs (show fX8_isUnder τ 0 p2 = some 0 from f8_under0 (ln := 0) (by decide) ea' (Or.inl hx)), if_pos rfl]
    · refine ⟨-1, ?_, ?_⟩
      · rw [fX7_under, if_pos rfl, ea, bs (f2_rowAt0 (Or.inr hx))]
      · rw [fX8_under, bs (show fX8_isUnder τ 0 p2 = some 0 from f8_under0 (ln := 0) (by decide) ea' (Or.inr hx)), if_pos rfl]
    · obtain ⟨r, -, -, b3, b4, -⟩ := hLa k hk
      refine ⟨nI r, ?_, ?_⟩
      · rw [fX7_under, if_pos rfl, ea, bs (f2_rowAt ha100 hk), b3]
      · rw [fX8_under, bs (show fX8_isUnder τ 0 (nI k) = some 1 from f8_under1 (ln := 0) (by decide) ea' ha100 hk), if_neg (by decide), show (100 : Int32) * 0 + nI k = nI (0 + k) from by rw [Nat.zero_add]; show nI 0 + nI k = nI k; rw [nI_add, Nat.zero_add], ixN (by omega) (by decide), nI_clamp (by omega), b4]
  · obtain ⟨a, ha100, ea, ea', hLa⟩ := id hL1
    rcases pk_ix p2 (n := a) (by omega) with hx | hx | ⟨k, hk, rfl⟩
    · refine ⟨-1, ?_, ?_⟩
      · rw [fX7_under, if_neg (by decide), if_pos rfl, ea, bs (f2_rowAt0 (Or.inl hx))]
      · rw [fX8_under, bs (show fX8_isUnder τ 1 p2 = some 0 from f8_under0 (ln := 1) (by decide) ea' (Or.inl hx)), if_pos rfl]
    · refine ⟨-1, ?_, ?_⟩
      · rw [fX7_under, if_neg (by decide), if_pos rfl, ea, bs (f2_rowAt0 (Or.inr hx))]
      · rw [fX8_under, bs (show fX8_isUnder τ 1 p2 = some 0 from f8_under0 (ln := 1) (by decide) ea' (Or.inr hx)), if_pos rfl]
    · obtain ⟨r, -, -, b3, b4, -⟩ := hLa k hk
      refine ⟨nI r, ?_, ?_⟩
      · rw [fX7_under, if_neg (by decide), if_pos rfl, ea, bs (f2_rowAt ha100 hk), b3]
      · rw [fX8_under, bs (show fX8_isUnder τ 1 (nI k) = some 1 from f8_under1 (ln := 1) (by decide) ea' ha100 hk), if_neg (by decide), show (100 : Int32) * 1 + nI k = nI (100 + k) from by show nI 100 + nI k = _; rw [nI_add], ixN (by omega) (by decide), nI_clamp (by omega), b4]
  · refine ⟨-1, ?_, ?_⟩
    · rw [fX7_under, if_neg h1, if_neg h2]
    · rw [fX8_under, bs (f8_underX h3), if_pos rfl]
/-- twice -/
theorem op_twice (hF : 301 < F) (h : Rel K σ τ) (p1 p2 : Int32) : ∃ r σ' τ', fX7_twice F σ p1 p2 = some (r, σ') ∧ fX8_twice F τ p1 p2 = some (r, τ') ∧ Rel (K + 1) σ' τ' := by
  obtain ⟨n, M, o, t, hP, hq⟩ := id h
  obtain ⟨hE, hI, hS, hO, hQ, hW, hD, hL0, hL1, hV, hK, hZ⟩ := id hP
  have x0 : ∀ k, (100 : Int32) * 0 + nI k = nI (0 + k) := fun k => by show nI 0 + nI k = _; rw [nI_add]
  have x1 : ∀ k, (100 : Int32) * 1 + nI k = nI (100 + k) := fun k => by show nI 100 + nI k = _; rw [nI_add]
  rcases line3 p1 with rfl | rfl | ⟨h1, h2, h3⟩
  · obtain ⟨a, ha100, ea, ea', hLa⟩ := id hL0
    rcases pk_ix p2 (n := a) (by omega) with hx | hx | ⟨k, hk, rfl⟩
    · refine ⟨-1, σ, τ, ?_, ?_, Rel_K h⟩
      · rw [fX7_twice, if_pos rfl, ea, bs (f2_has0 (Or.inl hx)), if_pos rfl]
      · rw [fX8_twice, bs (show fX8_isUnder τ 0 p2 = some 0 from f8_under0 (ln := 0) (by decide) ea' (Or.inl hx)), if_pos rfl]
    · refine ⟨-1, σ, τ, ?_, ?_, Rel_K h⟩
      · rw [fX7_twice, if_pos rfl, ea, bs (f2_has0 (Or.inr hx)), if_pos rfl]
      · rw [fX8_twice, bs (show fX8_isUnder τ 0 p2 = some 0 from f8_under0 (ln := 0) (by decide) ea' (Or.inr hx)), if_pos rfl]
    · by_cases hfull : a = 100
      · subst hfull
        refine ⟨-4, σ, τ, ?_, ?_, Rel_K h⟩
        · rw [fX7_twice, if_pos rfl, ea, bs (f2_has1 ha100 hk), if_neg (by decide), if_neg (by decide)]
        · rw [fX8_twice, bs (show fX8_isUnder τ 0 (nI k) = some 1 from f8_under1 (ln := 0) (by decide) ea' ha100 hk), if_neg (by decide), show (0 : Int32) = nI 0 from rfl, ixN (by decide) (by decide), if_pos (show τ.2.1 11 (nI 0).toNatClampNeg = 100 from ea')]
      · obtain ⟨r, b1, b2, b3, b4, b5, b6, b7⟩ := hLa k hk
        obtain ⟨u, τ1, c1, c2, c3⟩ := rel_send0 (v := σ.2.2 4 k) hP b1 b2 b6
        obtain ⟨σ', τ', g1, g2, g3⟩ := go_rel hF c3
        refine ⟨σ'.1 9, σ', τ', ?_, ?_, Rel_K g3⟩
        · rw [ea] at c1
          rw [fX7_twice, if_pos rfl, ea, bs (f2_has1 ha100 hk), if_neg (by decide), show (100 : Int32) = nI 100 from rfl, if_pos ((nI_ltI (by omega) (by omega)).mpr (by omega)), bs (f2_rowAt ha100 hk)]
          rw [bs (f2_causeAt ha100 hk), bs (f2_valueAt ha100 hk), b3, bs c1, bs g1]
        · rw [fX8_twice, bs (show fX8_isUnder τ 0 (nI k) = some 1 from f8_under1 (ln := 0) (by decide) ea' ha100 hk), if_neg (by decide), x0, ixN (j := 0 + k) (by omega) (by decide), ixN (j := 0 + k) (by omega) (by decide), ixN (j := 0 + k) (by omega) (by decide), nI_clamp (by omega), b4, ← b5, ← b7]
          rw [show (0 : Int32) = nI 0 from rfl, ixN (j := 0) (by decide) (by decide), show τ.2.1 11 (nI 0).toNatClampNeg = nI a from ea', if_neg (show ¬ nI a = 100 from fun e => hfull ((nI_eq (by omega) (by omega)).mp e)), bs c2, bs g2, ixN (j := 0) (by decide) (by decide), (len_eq g3).1]
          rfl
  · obtain ⟨a, ha100, ea, ea', hLa⟩ := id hL1
    rcases pk_ix p2 (n := a) (by omega) with hx | hx | ⟨k, hk, rfl⟩
    · refine ⟨-1, σ, τ, ?_, ?_, Rel_K h⟩
      · rw [fX7_twice, if_neg (by decide), if_pos rfl, ea, bs (f2_has0 (Or.inl hx)), if_pos rfl]
      · rw [fX8_twice, bs (show fX8_isUnder τ 1 p2 = some 0 from f8_under0 (ln := 1) (by decide) ea' (Or.inl hx)), if_pos rfl]
    · refine ⟨-1, σ, τ, ?_, ?_, Rel_K h⟩
      · rw [fX7_twice, if_neg (by decide), if_pos rfl, ea, bs (f2_has0 (Or.inr hx)), if_pos rfl]
      · rw [fX8_twice, bs (show fX8_isUnder τ 1 p2 = some 0 from f8_under0 (ln := 1) (by decide) ea' (Or.inr hx)), if_pos rfl]
    · by_cases hfull : a = 100
      · subst hfull
        refine ⟨-4, σ, τ, ?_, ?_, Rel_K h⟩
        · rw [fX7_twice, if_neg (by decide), if_pos rfl, ea, bs (f2_has1 ha100 hk), if_neg (by decide), if_neg (by decide)]
        · rw [fX8_twice, bs (show fX8_isUnder τ 1 (nI k) = some 1 from f8_under1 (ln := 1) (by decide) ea' ha100 hk), if_neg (by decide), show (1 : Int32) = nI 1 from rfl, ixN (by decide) (by decide), if_pos (show τ.2.1 11 (nI 1).toNatClampNeg = 100 from ea')]
      · obtain ⟨r, b1, b2, b3, b4, b5, b6, b7⟩ := hLa k hk
        obtain ⟨u, τ1, c1, c2, c3⟩ := rel_send1 (v := σ.2.2 5 k) hP b1 b2 b6
        obtain ⟨σ', τ', g1, g2, g3⟩ := go_rel hF c3
        refine ⟨σ'.1 10, σ', τ', ?_, ?_, Rel_K g3⟩
        · rw [ea] at c1
          rw [fX7_twice, if_neg (by decide), if_pos rfl, ea, bs (f2_has1 ha100 hk), if_neg (by decide), show (100 : Int32) = nI 100 from rfl, if_pos ((nI_ltI (by omega) (by omega)).mpr (by omega)), bs (f2_rowAt ha100 hk)]
          rw [bs (f2_causeAt ha100 hk), bs (f2_valueAt ha100 hk), b3, bs c1, bs g1]
        · rw [fX8_twice, bs (show fX8_isUnder τ 1 (nI k) = some 1 from f8_under1 (ln := 1) (by decide) ea' ha100 hk), if_neg (by decide), x1, ixN (j := 100 + k) (by omega) (by decide), ixN (j := 100 + k) (by omega) (by decide), ixN (j := 100 + k) (by omega) (by decide), nI_clamp (by omega), b4, ← b5, ← b7]
          rw [show (1 : Int32) = nI 1 from rfl, ixN (j := 1) (by decide) (by decide), show τ.2.1 11 (nI 1).toNatClampNeg = nI a from ea', if_neg (show ¬ nI a = 100 from fun e => hfull ((nI_eq (by omega) (by omega)).mp e)), bs c2, bs g2, ixN (j := 1) (by decide) (by decide), (len_eq g3).2]
          rfl
  · refine ⟨-1, σ, τ, ?_, ?_, Rel_K h⟩
    · rw [fX7_twice, if_neg h1, if_neg h2]
    · rw [fX8_twice, bs (f8_underX h3), if_pos rfl]
theorem f7_cause0 {x : Int32} (h : x < 1 ∨ ¬ x ≤ 3) : fX7_isCause σ x = some 0 := by
  unfold fX7_isCause
  by_cases h1 : x < 1
  · rw [if_pos h1]
  · rw [if_neg h1, if_pos (Int32.not_le.mp (h.resolve_left h1))]
theorem f7_cause1 {x : Int32} (h1 : ¬ x < 1) (h2 : x ≤ 3) : fX7_isCause σ x = some 1 := by
  unfold fX7_isCause
  rw [if_neg h1, if_neg (Int32.not_lt.mpr h2)]
/-- refuse -/
theorem op_refuse (hF : 301 < F) (h : Rel K σ τ) (p1 p2 : Int32) : ∃ r σ' τ', fX7_refuse F σ p1 p2 = some (r, σ') ∧ fX8_refuse F τ p1 p2 = some (r, τ') ∧ Rel (K + 1) σ' τ' := by
  obtain ⟨n, M, o, t, hP, hq⟩ := id h
  obtain ⟨hE, hI, hS, hO, hQ, hW, hD, hL0, hL1, hV, hK, hZ⟩ := id hP
  obtain ⟨a, ha100, ea, ea', hLa⟩ := id hL0
  rcases pk_ix p1 (n := a) (by omega) with hx | hx | ⟨k, hk, rfl⟩
  · refine ⟨-1, σ, τ, ?_, ?_, Rel_K h⟩
    · rw [fX7_refuse, ea, bs (f2_has0 (Or.inl hx)), if_pos rfl]
    · rw [fX8_refuse, bs (show fX8_isUnder τ 0 p1 = some 0 from f8_under0 (ln := 0) (by decide) ea' (Or.inl hx)), if_pos rfl]
  · refine ⟨-1, σ, τ, ?_, ?_, Rel_K h⟩
    · rw [fX7_refuse, ea, bs (f2_has0 (Or.inr hx)), if_pos rfl]
    · rw [fX8_refuse, bs (show fX8_isUnder τ 0 p1 = some 0 from f8_under0 (ln := 0) (by decide) ea' (Or.inr hx)), if_pos rfl]
  · have hun : fX8_isUnder τ 0 (nI k) = some 1 := f8_under1 (ln := 0) (by decide) ea' ha100 hk
    by_cases c1 : p2 < 1
    · refine ⟨-1, σ, τ, ?_, ?_, Rel_K h⟩
      · rw [fX7_refuse, ea, bs (f2_has1 ha100 hk), if_neg (by decide), bs (f7_cause0 (Or.inl c1)), if_pos rfl]
      · rw [fX8_refuse, bs hun, if_neg (by decide), if_pos c1]
    · by_cases c2 : p2 ≤ 3
      · obtain ⟨r, b1, b2, b3, b4, b5, b6, b7⟩ := hLa k hk
        have hw : p2 = 0 ∨ p2 = 1 ∨ p2 = 2 ∨ p2 = 3 := by
          have hp : ¬ p2 < 0 := fun hc => c1 (Int32.lt_trans hc (by decide))
          obtain ⟨j, hj, e⟩ := nI_of2 (M := 3) (n := 3) rfl hp c2
          have : j = 0 ∨ j = 1 ∨ j = 2 ∨ j = 3 := by omega
          rcases this with q | q | q | q <;> subst q
          · exact Or.inl e
          · exact Or.inr (Or.inl e)
          · exact Or.inr (Or.inr (Or.inl e))
          · exact Or.inr (Or.inr (Or.inr e))
        obtain ⟨u, τ1, d1, d2, d3⟩ := rel_send1 (w := p2) (v := 0) (rel_take0 hP ea ha100 hk) b1 b2 hw
        obtain ⟨σ', τ', g1, g2, g3⟩ := go_rel hF d3
        refine ⟨0, σ', τ', ?_, ?_, Rel_K g3⟩
        · rw [fX7_refuse, ea, bs (f2_has1 ha100 hk), if_neg (by decide), bs (f7_cause1 c1 c2), if_neg (by decide), bs (f2_rowAt ha100 hk)]
          rw [bs (f2_removeAt ha100 hk), b3]
          rw [bs (show fX2_setOut (σ.2.1 18) (σ.2.1 19) (σ.2.2 5) (σ.1 10) (nI r) p2 0 = some u from d1)]
          rw [cpy_shw hk, cpy_shw hk, cpy_shw hk, bs g1]
        · rw [fX8_refuse, bs hun, if_neg (by decide), if_neg c1, if_pos c2, ixN (by omega) (by decide), bs (show fX8_take F τ 0 (nI k) = some (tkM τ 0 a k) from f8_take (ln := 0) hF (by decide) ea' ha100 hk)]
          rw [nI_clamp (by omega), show τ.2.1 9 k = nI r from by rw [← b4, Nat.zero_add], bs (show fX8_send (tkM τ 0 a k) 1 (nI r) p2 0 = some τ1 from d2), bs g2]
      · refine ⟨-1, σ, τ, ?_, ?_, Rel_K h⟩
        · rw [fX7_refuse, ea, bs (f2_has1 ha100 hk), if_neg (by decide), bs (f7_cause0 (Or.inr c2)), if_pos rfl]
        · rw [fX8_refuse, bs hun, if_neg (by decide), if_neg c1, if_neg c2]
end LNS
