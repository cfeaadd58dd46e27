/-! set, row, mark, serve -/
theorem sumK_up {c : Nat → Nat} {key : Nat → Int64} {x : Int64} {r : Nat} : ∀ m, sumK (fun i => if i = r then c i + 1 else c i) key x m = sumK c key x m + (if r < m ∧ key r = x then 1 else 0) := by
  intro m
  induction m with
  | zero => simp [sumK]
  | succ m ih =>
    simp only [sumK]
    rw [ih]
    by_cases hr : m = r
    · subst hr
      by_cases hk : key m = x
      · simp [hk]; omega
      · simp [hk]
    · by_cases hk : key r = x
      · by_cases h1 : r < m
        · simp [hr, hk, h1, show r < m + 1 by omega]; omega
        · simp [hr, hk, h1, show ¬ r < m + 1 by omega]
      · simp [hr, hk]
section OPS
variable {F K : Nat} {σ τ : St}
/-- set -/
theorem op_set (hF : 301 < F) (h : Rel K σ τ) (p1 p2 : Int32) : ∃ r σ' τ', fX7_set F σ p1 p2 = some (r, σ') ∧ fX8_set F τ p1 p2 = some (r, τ') ∧ Rel (K + 1) σ' τ' := by
  obtain ⟨n, M, o, t, hP, hq⟩ := id h
  obtain ⟨hE, hI, hS, hO, hQ, hW, hD, hL0, hL1, hV, hK, hZ⟩ := id hP
  obtain ⟨⟨hM1, hM16, ec0, em0⟩, e1, ⟨ht, et, et'⟩, e13, e14, e15, es, hset⟩ := id hE
  rcases pk_ix p1 (n := 8) (by decide) with hx | hx | ⟨j, hj, rfl⟩
  · refine ⟨-1, σ, τ, by rw [fX7_set, if_pos hx], ?_, Rel_K h⟩
    have n0 : ¬ p1 = 0 := fun e => by rw [e] at hx; exact absurd hx (by decide)
    have n1 : ¬ p1 = 1 := fun e => by rw [e] at hx; exact absurd hx (by decide)
    have n2 : ¬ p1 = 2 := fun e => by rw [e] at hx; exact absurd hx (by decide)
    have n3 : ¬ p1 = 3 := fun e => by rw [e] at hx; exact absurd hx (by decide)
    have n7 : ¬ p1 = 7 := fun e => by rw [e] at hx; exact absurd hx (by decide)
    rw [fX8_set, if_neg n0, if_neg n1, if_neg n2, fX8_set_19]
    dsimp only
    rw [if_neg n0, if_neg n3, if_neg n1, if_neg n2, if_neg n7, fX8_set_64]
    dsimp only
    rw [if_pos hx]
  · have h0 : ¬ p1 < 0 := fun hc => absurd (Int32.lt_of_le_of_lt hx hc) (by decide)
    have n0 : ¬ p1 = 0 := fun e => by rw [e] at hx; exact absurd hx (by decide)
    have n1 : ¬ p1 = 1 := fun e => by rw [e] at hx; exact absurd hx (by decide)
    have n2 : ¬ p1 = 2 := fun e => by rw [e] at hx; exact absurd hx (by decide)
    have n3 : ¬ p1 = 3 := fun e => by rw [e] at hx; exact absurd hx (by decide)
    have n7 : ¬ p1 = 7 := fun e => by rw [e] at hx; exact absurd hx (by decide)
    refine ⟨-1, σ, τ, by rw [fX7_set, if_neg h0, if_neg (show ¬ p1 < 8 from Int32.not_lt.mpr hx)], ?_, Rel_K h⟩
    rw [fX8_set, if_neg n0, if_neg n1, if_neg n2, fX8_set_19]
    dsimp only
    rw [if_neg n0, if_neg n3, if_neg n1, if_neg n2, if_neg n7, fX8_set_64]
    dsimp only
    rw [if_neg h0, if_pos (show (7 : Int32) < p1 from Int32.lt_of_lt_of_le (by decide) hx)]
  · have hm : fX8_set F τ (nI j) p2 = fX8_set_64 F (τ, nI j, p2, set_lo j, set_hi j) := by
      have : j = 0 ∨ j = 1 ∨ j = 2 ∨ j = 3 ∨ j = 4 ∨ j = 5 ∨ j = 6 ∨ j = 7 := by omega
      rcases this with q | q | q | q | q | q | q | q <;> subst q <;> rfl
    have hc : fX7_set F σ (nI j) p2 = (if p2 < set_lo j then some (-1, σ) else if p2 ≤ set_hi j then (fX7_goOn F (sA σ 0 (upd (σ.2.1 0) j p2))).bind (fun u => some (σ.2.1 0 j, u)) else some (-1, σ)) := by
      rw [fX7_set, if_neg (nI_pos (by omega)), show (8 : Int32) = nI 8 from rfl, if_pos ((nI_ltI (by omega) (by omega)).mpr hj), ixN hj (by decide), ixN hj (by decide), ixN hj (by decide), ixN hj (by decide), nI_clamp (by omega)]
    have hm2 : fX8_set F τ (nI j) p2 = (if p2 < set_lo j then some (-1, τ) else if p2 ≤ set_hi j then (fX8_goOn F (sA τ 0 (upd (τ.2.1 0) j p2))).bind (fun u => some (τ.2.1 0 j, u)) else some (-1, τ)) := by
      rw [hm, fX8_set_64]
      dsimp only
      rw [if_neg (nI_pos (by omega)), show (7 : Int32) = nI 7 from rfl, if_neg (by rw [nI_ltI (by omega) (by omega)]; omega), ixN hj (by decide), ixN hj (by decide), nI_clamp (by omega)]
    rw [hc, hm2]
    by_cases c1 : p2 < set_lo j
    · rw [if_pos c1, if_pos c1]; exact ⟨-1, σ, τ, rfl, rfl, Rel_K h⟩
    · rw [if_neg c1, if_neg c1]
      by_cases c2 : p2 ≤ set_hi j
      · rw [if_pos c2, if_pos c2]
        have hP' : RelP K n M o t (sA σ 0 (upd (σ.2.1 0) j p2)) (sA τ 0 (upd (τ.2.1 0) j p2)) := by
          refine ⟨⟨⟨hM1, hM16, ec0, em0⟩, e1, ⟨ht, et, et'⟩, e13, e14, e15, ?_, ?_⟩, hI, hS, hO, hQ, hW, hD, hL0, hL1, hV, hK, hZ⟩
          · show upd (σ.2.1 0) j p2 = upd (τ.2.1 0) j p2
            rw [es]
          · intro k hk
            show set_lo k ≤ upd (τ.2.1 0) j p2 k ∧ upd (τ.2.1 0) j p2 k ≤ set_hi k
            by_cases hkj : k = j
            · subst hkj; rw [upd_s]; exact ⟨Int32.not_lt.mp c1, c2⟩
            · rw [upd_n hkj]; exact hset k hk
        obtain ⟨σ', τ', g1, g2, g3⟩ := go_rel hF hP'
        exact ⟨τ.2.1 0 j, σ', τ', by rw [bs g1, es], by rw [bs g2], Rel_K g3⟩
      · rw [if_neg c2, if_neg c2]; exact ⟨-1, σ, τ, rfl, rfl, Rel_K h⟩
-- one item more
theorem okO_add {n o : Nat} {s oi : Nat → Int32} {x : Int32} (h : okO n o s oi) (hx : x ≠ 3) : okO (n + 1) o (upd s n x) oi := by
  obtain ⟨h1, h2⟩ := h
  refine ⟨?_, fun k hk => ?_⟩
  · simp only [cnt]
    rw [cnt_upd_ge (Nat.le_refl n), upd_s, if_neg hx]
    exact h1
  · obtain ⟨j, e1, e2, e3⟩ := h2 k hk
    exact ⟨j, by omega, e2, by rw [upd_n (by omega)]; exact e3⟩
theorem gQ_add {n : Nat} {s : Nat → Int32} {c7 m4 x : Int32} {cq mq : Nat → Int32} (h : gQ n s c7 m4 cq mq) : gQ (n + 1) (upd s n x) c7 m4 cq mq := by
  obtain ⟨Q, q, h1, h2, h3, h4⟩ := h
  refine ⟨Q, q, h1, h2, fun j hj => ?_, h4⟩
  obtain ⟨e1, e2, e3, e4⟩ := h3 j hj
  exact ⟨e1, e2, by omega, by rw [upd_n (by omega)]; exact e4⟩
theorem gW_add {n : Nat} {s : Nat → Int32} {c6 x : Int32} {cw : Nat → Int32} (h : gW n s c6 cw) (hx : x ≠ 1) : gW (n + 1) (upd s n x) c6 cw := by
  obtain ⟨w, h1, h2, h3, h4⟩ := h
  have hc : cnt (upd s n x) 1 (n + 1) = cnt s 1 n := by
    simp only [cnt]
    rw [cnt_upd_ge (Nat.le_refl n), upd_s, if_neg hx]
    rfl
  refine ⟨w, by rw [hc]; exact h1, fun j hj => ?_, fun j k hjk hk => h3 j k hjk (by rw [← hc]; exact hk), fun j hj e => ?_⟩
  · rw [hc] at hj
    obtain ⟨e1, e2, e3⟩ := h2 j hj
    exact ⟨e1, by omega, by rw [upd_n (by omega)]; exact e3⟩
  · have hji : j ≠ n := fun q => by subst q; rw [upd_s] at e; exact hx e
    rw [upd_n hji] at e
    rw [hc]; exact h4 j (by omega) e
theorem gL_add {n : Nat} {mk mk' : Nat → Int32} {off : Nat} {cr cc mr mc : Nat → Int32} {cv mv : Nat → Int64} {csz msz : Int32} (h : gL n mk off cr cc cv csz mr mc mv msz) (hm : ∀ i, i < n → mk' i = mk i) : gL (n + 1) mk' off cr cc cv csz mr mc mv msz := by
  obtain ⟨a', h1, h2, h3, h4⟩ := h
  refine ⟨a', h1, h2, h3, fun j hj => ?_⟩
  obtain ⟨r', b1, b2, b3⟩ := h4 j hj
  exact ⟨r', by omega, by rw [hm r' b1]; exact b2, b3⟩
theorem okS_add {n M : Nat} {mk mk' s : Nat → Int32} {tl : Int32 × Int32} {b : Nat} (h : okS n M mk s tl) (hm : ∀ i, i < n → mk' i = mk i) (hb5 : b < 5) (hb1 : b ≠ 1) (hb : mk' n ≠ 0 → b ≠ 0) : okS (n + 1) M mk' (upd s n (nI b)) (adT tl b) := by
  obtain ⟨h1, h2, h3, h4, h5⟩ := h
  refine ⟨fun j hj => ?_, fun j hj hmj => ?_, fun j k hj hk e1 e2 => ?_, okT_add h4 hb5, ?_⟩
  · by_cases hji : j = n
    · subst hji; exact ⟨b, hb5, upd_s⟩
    · rw [upd_n hji]; exact h1 j (by omega)
  · by_cases hji : j = n
    · subst hji; rw [upd_s]
      exact ⟨fun e => hb hmj ((nI_eq (by omega) (by omega)).mp e), fun e => hb1 ((nI_eq (by omega) (by omega)).mp e)⟩
    · rw [upd_n hji]; exact h2 j (by omega) (by rw [← hm j (by omega)]; exact hmj)
  · have hjn : j ≠ n := fun q => by subst q; rw [upd_s] at e1; exact hb1 ((nI_eq (by omega) (by omega)).mp e1)
    rw [upd_n hjn] at e1
    by_cases hkn : k = n
    · omega
    · rw [upd_n hkn] at e2; exact h3 j k (by omega) (by omega) e1 e2
  · simp only [cnt]
    rw [cnt_upd_ge (Nat.le_refl n), upd_s, if_neg (show ¬ nI b = 1 from fun e => hb1 ((nI_eq (by omega) (by omega)).mp e))]
    exact h5
theorem okS_mk {n M : Nat} {mk mk' s : Nat → Int32} {tl : Int32 × Int32} (h : okS n M mk s tl) (hm : ∀ i, i < n → mk' i = mk i) : okS n M mk' s tl := by
  obtain ⟨h1, h2, h3, h4, h5⟩ := h
  exact ⟨h1, fun i hi hmi => h2 i hi (by rw [← hm i hi]; exact hmi), h3, h4, h5⟩
theorem gZ_add {n M o : Nat} {mk mk' oi : Nat → Int32} {c4 c5 m9 m10 : Int32} {cs ms ct mt cr mr : Nat → Int32} {cv mv : Nat → Int64} {tl : Int32 × Int32} (h : gZ n M o mk oi c4 c5 m9 m10 cs ms ct mt cr mr cv mv tl) (hm : ∀ i, i < n → mk' i = mk i) : gZ (n + 1) M o mk' oi c4 c5 m9 m10 cs ms ct mt cr mr cv mv tl := by
  obtain ⟨ns, os, z1, z2, z3, z4, z5, z6, z7, z8, z9, z10, z11⟩ := h
  exact ⟨ns, os, by omega, z2, z3, z4, z5, z6, z7, z8, okS_mk z9 (fun i hi => hm i (by omega)), z10, z11⟩
theorem okE_add {n : Nat} {s t : Nat → Int32} {cv mv : Nat → Int64} {x : Int32} (h : okE n s t cv mv) : okE (n + 1) (upd s n x) t cv mv := by
  intro j hj
  rw [upd_n (by omega)]; exact h j (by omega)
theorem okR_add {n : Nat} {s cr mr : Nat → Int32} {cv mv : Nat → Int64} {x y : Int32} (h : okR n s cr mr cv mv) (hv : cv n = 0 ∧ mv n = 0) (hy : ¬ (x = 2 ∨ x = 3) → y = -1) : okR (n + 1) (upd s n x) (upd cr n y) (upd mr n y) cv mv := by
  intro j hj
  by_cases hjn : j = n
  · subst hjn
    rw [upd_s, upd_s, upd_s]
    exact ⟨fun _ => ⟨rfl, by rw [hv.1, hv.2]⟩, fun q => ⟨hy q, hv.1⟩⟩
  · rw [upd_n hjn, upd_n hjn, upd_n hjn]; exact h j (by omega)
theorem gV_add {n K : Nat} {mk mk' : Nat → Int32} {key key' ck : Nat → Int64} {ca : Nat → Int32} {cl : Nat → Int64} {ma mi : Nat → Int32} {ml : Nat → Int64} (h : gV n K mk key ck ca cl ma mi ml) (hm : ∀ i, i < n → mk' i = mk i) (hk : ∀ i, i < n → key' i = key i) : gV (n + 1) K mk' key' ck ca cl ma mi ml := by
  obtain ⟨h0, c, v1, v2, v3, v4, v5⟩ := h
  have hsum : ∀ x, sumK c key' x 300 = sumK c key x 300 := fun x => sumK_congr 300 (fun i _ hi => hk i (v3 i hi).1)
  refine ⟨h0, c, v1, v2, fun i hi => ?_, fun i hi hmi hlow => ?_, fun i hi => v5 i (by omega)⟩
  · obtain ⟨a1, a2, a3⟩ := v3 i hi
    exact ⟨by omega, by rw [hm i a1]; exact a2, by rw [hk i a1]; exact a3⟩
  · rw [hsum]
    by_cases hin : i = n
    · subst hin
      rw [v5 i (Nat.le_refl _), sumK_zero 300 (fun j _ hj e => ?_)]
      · rfl
      · obtain ⟨a1, a2, a3⟩ := v3 j hj
        rcases hlow j a1 with q | q
        · exact q (by rw [hm j a1]; exact a2)
        · exact q (by rw [hk j a1]; exact e)
    · rw [hk i (by omega)]
      exact v4 i (by omega) (by rw [← hm i (by omega)]; exact hmi) (fun j hj => by rw [← hm j (by omega), ← hk j (by omega), ← hk i (by omega)]; exact hlow j hj)
theorem upd_id {f : Nat → Int32} {k : Nat} {x : Int32} (h : f k = x) : upd f k x = f := by
  funext j
  unfold upd
  by_cases hj : j = k
  · rw [if_pos hj, hj, h]
  · rw [if_neg hj]
theorem updL_id {f : Nat → Int64} {k : Nat} {x : Int64} (h : f k = x) : vp_updL f k x = f := by
  funext j
  unfold vp_updL
  by_cases hj : j = k
  · rw [if_pos hj, hj, h]
  · rw [if_neg hj]
set_option maxHeartbeats 1000000 in
/-- row -/
theorem op_row (hF : 301 < F) (h : Rel K σ τ) (p1 p3 : Int64) : ∃ r σ' τ', fX7_row F σ p1 p3 = some (r, σ') ∧ fX8_row F τ p1 p3 = some (r, τ') ∧ Rel (K + 1) σ' τ' := by
  obtain ⟨n, M, o, t, hP, hq⟩ := id h
  obtain ⟨hE, hI, hS, hO, hQ, hW, hD, hL0, hL1, hV, hK, hZ⟩ := id hP
  obtain ⟨hn, ec2, em3, ecm, eck, ecv, htail⟩ := id hI
  obtain ⟨ecs, ect, hokS, hokR, htl⟩ := id hS
  obtain ⟨c3, m7, eoi, eot, hokO⟩ := id hO
  by_cases hfull : n = 300
  · subst hfull
    refine ⟨-4, σ, τ, by rw [fX7_row, ec2, if_neg (by decide)], ?_, Rel_K h⟩
    rw [fX8_row, bs (show fX8_come F τ 0 p1 p3 = some (-4, τ) from by rw [fX8_come, em3, if_pos (show nI 300 = 300 from rfl)])]
  · have hmk : upd (τ.2.1 1) n 0 = τ.2.1 1 := upd_id (htail n (Nat.le_refl _)).1
    have hm : fX8_come F τ 0 p1 p3 = (fX8_goOn F (sI (sA (sA (sL (sL τ 0 (vp_updL (τ.2.2 0) n p1)) 1 (vp_updL (τ.2.2 1) n p3)) 2 (upd (τ.2.1 2) n 0)) 3 (upd (τ.2.1 3) n (-1))) 3 (nI (n + 1)))).bind (fun u => some (nI n, u)) := by
      rw [fX8_come, em3, if_neg (show ¬ nI n = 300 from fun e => hfull ((nI_eq (by omega) (by omega)).mp e)), ixN (by omega) (by decide), ixN (by omega) (by decide), ixN (by omega) (by decide), if_pos rfl, nI_clamp (by omega), show vp_nar .boolean (0 : Int32) = 0 from rfl, hmk, sA_id, fX8_come_59]
      dsimp only
      rw [ixN (by omega) (by decide), if_pos rfl, nI_clamp (by omega), fX8_come_75]
      dsimp only
      rw [ixN (by omega) (by decide), nI_clamp (by omega)]
      show (fX8_goOn F (sI (sA (sA (sL (sL τ 0 (vp_updL (τ.2.2 0) n p1)) 1 (vp_updL (τ.2.2 1) n p3)) 2 (upd (τ.2.1 2) n 0)) 3 (upd (τ.2.1 3) n (-1))) 3 (τ.1 3 + 1))).bind _ = _
      rw [em3, nI_1]
    have hc : fX7_row F σ p1 p3 = (fX7_goOn F (sI (sI (sA (sA (sL (sL σ 0 (vp_updL (τ.2.2 0) n p1)) 1 (vp_updL (τ.2.2 1) n p3)) 3 (upd (τ.2.1 2) n 0)) 4 (upd (σ.2.1 4) n (-1))) 2 (nI (n + 1))) 16 (σ.1 16 + 1))).bind (fun u => some (nI n, u)) := by
      rw [fX7_row, ec2, show (300 : Int32) = nI 300 from rfl, if_pos ((nI_ltI (by omega) (by omega)).mpr (by omega)), bs (f0_noteRow (by omega)), bs (f4_addRow (by omega)), ecs, eck, ecv]
    have hP' : RelP K (n + 1) M o t (sI (sI (sA (sA (sL (sL σ 0 (vp_updL (τ.2.2 0) n p1)) 1 (vp_updL (τ.2.2 1) n p3)) 3 (upd (τ.2.1 2) n 0)) 4 (upd (σ.2.1 4) n (-1))) 2 (nI (n + 1))) 16 (σ.1 16 + 1)) (sI (sA (sA (sL (sL τ 0 (vp_updL (τ.2.2 0) n p1)) 1 (vp_updL (τ.2.2 1) n p3)) 2 (upd (τ.2.1 2) n 0)) 3 (upd (τ.2.1 3) n (-1))) 3 (nI (n + 1))) := by
      refine ⟨hE, ⟨by omega, rfl, rfl, ecm, rfl, rfl, fun i hi => ?_⟩, ⟨rfl, ect, okS_add (b := 0) hokS (fun _ _ => rfl) (by decide) (by decide) (fun hc => absurd (htail n (Nat.le_refl _)).1 hc), okR_add hokR (htl n (Nat.le_refl _)).1 (fun _ => rfl), okE_add htl⟩, ⟨c3, m7, eoi, eot, okO_add hokO (by decide)⟩, gQ_add hQ, gW_add hW (by decide), hD, gL_add hL0 (fun _ _ => rfl), gL_add hL1 (fun _ _ => rfl), gV_add hV (fun _ _ => rfl) (fun i hi => updL_n (by omega)), hK, gZ_add hZ (fun _ _ => rfl)⟩
      show τ.2.1 1 i = 0 ∧ vp_updL (τ.2.2 0) n p1 i = 0 ∧ vp_updL (τ.2.2 1) n p3 i = 0
      rw [updL_n (by omega), updL_n (by omega)]
      exact htail i (by omega)
    obtain ⟨σ', τ', g1, g2, g3⟩ := go_rel hF hP'
    refine ⟨nI n, σ', τ', by rw [hc, bs g1], ?_, Rel_K g3⟩
    rw [fX8_row, hm, bs g2]
    rfl
set_option maxHeartbeats 1000000 in
/-- mark -/
theorem op_mark (hF : 301 < F) (h : Rel K σ τ) : ∃ r σ' τ', fX7_mark F σ = some (r, σ') ∧ fX8_mark F τ = some (r, τ') ∧ Rel (K + 1) σ' τ' := by
  obtain ⟨n, M, o, t, hP, hq⟩ := id h
  obtain ⟨hE, hI, hS, hO, hQ, hW, hD, hL0, hL1, hV, hK, hZ⟩ := id hP
  obtain ⟨hn, ec2, em3, ecm, eck, ecv, htail⟩ := id hI
  obtain ⟨ecs, ect, hokS, hokR, htl⟩ := id hS
  obtain ⟨c3, m7, eoi, eot, hokO⟩ := id hO
  by_cases hfull : n = 300
  · subst hfull
    refine ⟨-4, σ, τ, by rw [fX7_mark, ec2, if_neg (by decide)], ?_, Rel_K h⟩
    rw [fX8_mark, bs (show fX8_come F τ 1 0 0 = some (-4, τ) from by rw [fX8_come, em3, if_pos (show nI 300 = 300 from rfl)])]
  · have hk0 : vp_updL (τ.2.2 0) n 0 = τ.2.2 0 := updL_id (htail n (Nat.le_refl _)).2.1
    have hk1 : vp_updL (τ.2.2 1) n 0 = τ.2.2 1 := updL_id (htail n (Nat.le_refl _)).2.2
    have hm : fX8_come F τ 1 0 0 = (fX8_goOn F (sI (sA (sA (sA τ 1 (upd (τ.2.1 1) n 1)) 2 (upd (τ.2.1 2) n 2)) 3 (upd (τ.2.1 3) n 5)) 3 (nI (n + 1)))).bind (fun u => some (nI n, u)) := by
      rw [fX8_come, em3, if_neg (show ¬ nI n = 300 from fun e => hfull ((nI_eq (by omega) (by omega)).mp e)), ixN (by omega) (by decide), ixN (by omega) (by decide), ixN (by omega) (by decide), if_neg (by decide), nI_clamp (by omega), show vp_nar .boolean (1 : Int32) = 1 from rfl, hk0, hk1]
      rw [show sL (sL (sA τ 1 (upd (τ.2.1 1) n 1)) 0 (τ.2.2 0)) 1 (τ.2.2 1) = sA τ 1 (upd (τ.2.1 1) n 1) from by
        rw [show sL (sA τ 1 (upd (τ.2.1 1) n 1)) 0 (τ.2.2 0) = sA τ 1 (upd (τ.2.1 1) n 1) from sL_id (sA τ 1 (upd (τ.2.1 1) n 1)) 0]
        exact sL_id (sA τ 1 (upd (τ.2.1 1) n 1)) 1, fX8_come_59]
      dsimp only
      rw [ixN (by omega) (by decide), if_neg (by decide), nI_clamp (by omega), fX8_come_75]
      dsimp only
      rw [ixN (by omega) (by decide), nI_clamp (by omega)]
      show (fX8_goOn F (sI (sA (sA (sA τ 1 (upd (τ.2.1 1) n 1)) 2 (upd (τ.2.1 2) n 2)) 3 (upd (τ.2.1 3) n 5)) 3 (τ.1 3 + 1))).bind _ = _
      rw [em3, nI_1]
    have hc : fX7_mark F σ = (fX7_goOn F (sI (sI (sA (sA (sA σ 1 (upd (τ.2.1 1) n 1)) 3 (upd (τ.2.1 2) n 2)) 4 (upd (σ.2.1 4) n 5)) 2 (nI (n + 1))) 17 (σ.1 17 + 1))).bind (fun u => some (nI n, u)) := by
      rw [fX7_mark, ec2, show (300 : Int32) = nI 300 from rfl, if_pos ((nI_ltI (by omega) (by omega)).mpr (by omega)), bs (f0_noteMark (by omega)), bs (f4_addMark (by omega)), ecs, ecm]
    have hmn : ∀ i, i < n → upd (τ.2.1 1) n 1 i = τ.2.1 1 i := fun i hi => upd_n (by omega)
    have hP' : RelP K (n + 1) M o t (sI (sI (sA (sA (sA σ 1 (upd (τ.2.1 1) n 1)) 3 (upd (τ.2.1 2) n 2)) 4 (upd (σ.2.1 4) n 5)) 2 (nI (n + 1))) 17 (σ.1 17 + 1)) (sI (sA (sA (sA τ 1 (upd (τ.2.1 1) n 1)) 2 (upd (τ.2.1 2) n 2)) 3 (upd (τ.2.1 3) n 5)) 3 (nI (n + 1))) := by
      refine ⟨hE, ⟨by omega, rfl, rfl, rfl, eck, ecv, fun i hi => ?_⟩, ⟨rfl, ect, okS_add (b := 2) hokS hmn (by decide) (by decide) (fun _ => by decide), okR_add hokR (htl n (Nat.le_refl _)).1 (fun hc => absurd (Or.inl rfl) hc), okE_add htl⟩, ⟨c3, m7, eoi, eot, okO_add hokO (by decide)⟩, gQ_add hQ, gW_add hW (by decide), hD, gL_add hL0 hmn, gL_add hL1 hmn, gV_add hV hmn (fun _ _ => rfl), hK, gZ_add hZ hmn⟩
      show upd (τ.2.1 1) n 1 i = 0 ∧ _
      rw [upd_n (by omega)]
      exact htail i (by omega)
    obtain ⟨σ', τ', g1, g2, g3⟩ := go_rel hF hP'
    refine ⟨nI n, σ', τ', by rw [hc, bs g1], ?_, Rel_K g3⟩
    rw [fX8_mark, hm, bs g2]
    rfl
end OPS
