/-! calls that only tell -/
theorem sumK_congr {c : Nat → Nat} {k1 k2 : Nat → Int64} {x : Int64} : ∀ m, (∀ i, i < m → 0 < c i → k1 i = k2 i) → sumK c k1 x m = sumK c k2 x m := by
  intro m
  induction m with
  | zero => intro _; rfl
  | succ m ih =>
    intro h
    simp only [sumK]
    rw [ih (fun i hi => h i (by omega))]
    rcases Nat.eq_zero_or_pos (c m) with q | q
    · rw [q]; simp
    · rw [h m (by omega) q]
theorem sumK_zero {c : Nat → Nat} {k1 : Nat → Int64} {x : Int64} : ∀ m, (∀ i, i < m → 0 < c i → k1 i ≠ x) → sumK c k1 x m = 0 := by
  intro m
  induction m with
  | zero => intro _; rfl
  | succ m ih =>
    intro h
    simp only [sumK]
    rw [ih (fun i hi => h i (by omega))]
    rcases Nat.eq_zero_or_pos (c m) with q | q
    · rw [q]; simp
    · rw [if_neg (h m (by omega) q)]
theorem f6_countOf_loop {n : Nat} {ck : Nat → Int64} {ca : Nat → Int32} {cl : Nat → Int64} {c : Nat → Nat} {x : Int64} (hc : ∀ i, ca i = nI (c i)) : ∀ m i, i ≤ 300 → 300 < i + m → loopF (fX6_countOf_5 n ck ca cl) m (x, nI (sumK c ck x i), nI i) = some (nI (sumK c ck x 300)) := by
  intro m
  induction m with
  | zero => intro i h1 h2; omega
  | succ m ih =>
    intro i h1 h2
    rw [lp_s, fX6_countOf_5]
    dsimp only
    rw [show (300 : Int32) = nI 300 from rfl]
    by_cases hi : i = 300
    · subst hi; rw [if_pos (by rw [nI_leI (by omega) (by omega)]; omega)]
    · rw [if_neg (by rw [nI_leI (by omega) (by omega)]; omega), ixN (by omega) (by decide), nI_clamp (by omega)]
      have := ih (i + 1) (by omega) (by omega)
      by_cases hs : ck i = x
      · rw [if_pos hs, ixN (by omega) (by decide), fX6_countOf_35]
        dsimp only
        rw [nI_1, hc, nI_add, ← this]
        simp only [sumK, if_pos hs]
      · rw [if_neg hs, fX6_countOf_35]
        dsimp only
        rw [nI_1, ← this]
        simp only [sumK, if_neg hs]
        rfl
theorem f6_countOf {n : Nat} {ck : Nat → Int64} {ca : Nat → Int32} {cl : Nat → Int64} {c : Nat → Nat} {x : Int64} (hn : 300 < n) (hc : ∀ i, ca i = nI (c i)) : fX6_countOf n ck ca cl x = some (nI (sumK c ck x 300)) := f6_countOf_loop hc n 0 (by omega) (by omega)
section RDS
variable {F K : Nat} {σ τ : St}
theorem pk_least2 {P : Nat → Prop} (h : ∃ k, P k) : ∃ k, P k ∧ ∀ j, j < k → ¬ P j := pk_least P h
/-- count -/
theorem op_count (hF : 301 < F) (h : Rel K σ τ) (x : Int64) : ∃ r, fX7_count F σ x = some r ∧ fX8_count F τ x = some r := by
  obtain ⟨n, M, o, t, hP, hq⟩ := id h
  obtain ⟨hE, hI, hS, hO, hQ, hW, hD, hL0, hL1, hV, hK, hZ⟩ := id hP
  obtain ⟨hn, ec2, em3, ecm, eck, ecv, htail⟩ := id hI
  obtain ⟨hcl, c, v1, v2, v3, v4, v5⟩ := hV
  refine ⟨nI (sumK c (τ.2.2 0) x 300), ?_, ?_⟩
  · rw [fX7_count, bs (f6_countOf (by omega) (fun i => (v1 i).1)), sumK_congr 300 (fun i _ hi => (v3 i hi).2.2)]
  · rw [fX8_count]
    by_cases hx : ∃ k, k < n ∧ τ.2.1 1 k = 0 ∧ τ.2.2 0 k = x
    · obtain ⟨k, ⟨k1, k2, k3⟩, hlow⟩ := pk_least2 hx
      have hu : ∀ j, 0 ≤ j → j < k → τ.2.1 1 j ≠ 0 ∨ τ.2.2 0 j ≠ x := fun j _ hj => Classical.byContradiction fun hc => by
        simp only [not_or, Classical.not_not] at hc
        exact hlow j hj ⟨by omega, hc.1, hc.2⟩
      rw [bs (show fX8_keyAt F τ x = some (nI k) from f8_keyAt_hit hn em3 k1 k2 k3 F 0 (by omega) (by omega) hu)]
      rw [if_pos (nI_pos' (by omega)), ixN (by omega) (by decide), nI_clamp (by omega), v4 k k1 k2 (fun j hj => by rw [k3]; exact hu j (by omega) hj), k3]
    · rw [bs (show fX8_keyAt F τ x = some (-1) from f8_keyAt_miss hn em3 F 0 (by omega) (by omega) (fun j _ hj => Classical.byContradiction fun hc => by
        simp only [not_or, Classical.not_not] at hc
        exact hx ⟨j, hj, hc.1, hc.2⟩))]
      rw [if_neg (by decide), sumK_zero 300 (fun i _ hi e => hx ⟨i, (v3 i hi).1, (v3 i hi).2.1, e⟩)]
      rfl
/-- kept -/
theorem op_kept (hF : 301 < F) (h : Rel K σ τ) (x : Int64) : ∃ r, fX7_kept F σ x = some r ∧ fX8_kept F τ x = some r := by
  obtain ⟨n, M, o, t, hP, hq⟩ := id h
  obtain ⟨hE, hI, hS, hO, hQ, hW, hD, hL0, hL1, hV, hK, hZ⟩ := id hP
  obtain ⟨ece, eckk, eckv, z, hz, ez, ez', hkd⟩ := id hK
  by_cases hx : ∃ j, j < z ∧ τ.2.2 5 j = x
  · obtain ⟨j, hj, hjk⟩ := hx
    have hju : ∀ k, k < z → k ≠ j → τ.2.2 5 k ≠ x := fun k hk hkj e => hkj (hkd k j hk hj (e.trans hjk.symm))
    refine ⟨τ.2.1 14 j, ?_, ?_⟩
    · rw [fX7_kept, eckk, eckv, ece, ez, bs (f1_endOf_hit (by omega) hz hj hjk (fun k hk => hju k (by omega) (by omega)))]
    · rw [fX8_kept, bs (f8_keptFor_hit hF hz ez' hj hjk (fun k a b => hju k b (by omega)))]
      rw [if_pos (nI_pos' (by omega)), ixN (by omega) (by decide), nI_clamp (by omega)]
  · refine ⟨-1, ?_, ?_⟩
    · rw [fX7_kept, eckk, eckv, ece, ez, bs (f1_endOf_miss (by omega) hz (fun k hk e => hx ⟨k, hk, e⟩))]
    · rw [fX8_kept, bs (f8_keptFor_miss hF hz ez' (fun k hk e => hx ⟨k, hk, e⟩))]
      rw [if_neg (by decide)]
/-- told -/
theorem op_told (hF : 301 < F) (h : Rel K σ τ) (p : Int32) : ∃ r, fX7_told σ p = some r ∧ fX8_told F τ p = some r := by
  obtain ⟨n, M, o, t, hP, hq⟩ := id h
  obtain ⟨hE, hI, hS, hO, hQ, hW, hD, hL0, hL1, hV, hK, hZ⟩ := id hP
  obtain ⟨⟨hM1, hM16, ec0, em0⟩, e1, ⟨ht, et, et'⟩, e13, e14, e15, es, hset⟩ := id hE
  obtain ⟨hn, ec2, em3, ecm, eck, ecv, htail⟩ := id hI
  obtain ⟨ecs, ect, hokS, hokR, htl⟩ := id hS
  obtain ⟨Q, q, eQ, eQ', hq', hinj⟩ := id hQ
  obtain ⟨c3, m7, eoi, eot, hokO⟩ := id hO
  obtain ⟨ece, eckk, eckv, z, hz, ez, ez', hkd⟩ := id hK
  obtain ⟨el0, el1⟩ := len_eq h
  by_cases h0 : p = 0
  · subst h0; exact ⟨_, rfl, by rw [et, ← et']; rfl⟩
  by_cases h1 : p = 1
  · subst h1; exact ⟨_, rfl, by rw [ec2, ← em3]; rfl⟩
  by_cases h2 : p = 2
  · subst h2; exact ⟨_, rfl, by rw [c3, ← m7]; rfl⟩
  by_cases h3 : p = 3
  · subst h3
    refine ⟨σ.1 16, rfl, ?_⟩
    show (fX8_countOf F τ 0).bind (fun u => some u) = _
    rw [bs (f8_countOf (by omega) hn em3), show σ.1 16 = _ from hokS.2.2.2.1.1]
  by_cases h4 : p = 4
  · subst h4
    obtain ⟨w, ew, -⟩ := hW
    refine ⟨σ.1 6, rfl, ?_⟩
    show (fX8_countOf F τ 1).bind (fun u => some u) = _
    rw [bs (f8_countOf (by omega) hn em3), ew]
  by_cases h5 : p = 5
  · subst h5
    refine ⟨σ.1 17, rfl, ?_⟩
    show (fX8_countOf F τ 2).bind (fun u => some u) = _
    rw [bs (f8_countOf (by omega) hn em3), show σ.1 17 = _ from hokS.2.2.2.1.2]
  by_cases h6 : p = 6
  · subst h6; exact ⟨_, rfl, by rw [eQ, ← eQ']; rfl⟩
  by_cases h7 : p = 7
  · subst h7; exact ⟨_, rfl, by rw [el0]; rfl⟩
  by_cases h8 : p = 8
  · subst h8; exact ⟨_, rfl, by rw [el1]; rfl⟩
  by_cases h9 : p = 9
  · subst h9; exact ⟨_, rfl, by rw [ez, ← ez']; rfl⟩
  by_cases h10 : p = 10
  · subst h10; exact ⟨_, rfl, by rw [e14]; rfl⟩
  by_cases h11 : p = 11
  · subst h11; exact ⟨_, rfl, by rw [e13]; rfl⟩
  by_cases h12 : p = 12
  · subst h12; exact ⟨_, rfl, by rw [e15]; rfl⟩
  refine ⟨-1, ?_, ?_⟩
  · rw [fX7_told, if_neg h0, if_neg h1, if_neg h2, if_neg h3, if_neg h4, if_neg h5, if_neg h6, if_neg h7, if_neg h8, if_neg h9, if_neg h10, if_neg h11, if_neg h12]
  · rw [fX8_told, if_neg h0, if_neg h1, if_neg h2, if_neg h3, if_neg h4, if_neg h5, if_neg h6, if_neg h7, if_neg h8, if_neg h9, if_neg h10, if_neg h11, if_neg h12]
theorem f8_item1 {n i : Nat} (hn : n ≤ 300) (em3 : τ.1 3 = nI n) (hi : i < n) : fX8_isItem τ (nI i) = some 1 := by
  unfold fX8_isItem
  rw [if_neg (nI_pos (by omega)), em3, if_neg (by rw [nI_leI (by omega) (by omega)]; omega)]
theorem f8_item0 {n : Nat} {x : Int32} (em3 : τ.1 3 = nI n) (hx : x < 0 ∨ nI n ≤ x) : fX8_isItem τ x = some 0 := by
  unfold fX8_isItem
  by_cases h0 : x < 0
  · rw [if_pos h0]
  · rw [if_neg h0, em3, if_pos (hx.resolve_left h0)]
/-- value -/
theorem op_value (h : Rel K σ τ) (p : Int32) : ∃ r, fX7_value σ p = some r ∧ fX8_value τ p = some r := by
  obtain ⟨n, M, o, t, hP, hq⟩ := id h
  obtain ⟨hE, hI, hS, hO, hQ, hW, hD, hL0, hL1, hV, hK, hZ⟩ := id hP
  obtain ⟨hn, ec2, em3, ecm, eck, ecv, htail⟩ := id hI
  obtain ⟨ecs, ect, hokS, hokR, htl⟩ := id hS
  have out : (p < 0 ∨ nI n ≤ p) → ∃ r, fX7_value σ p = some r ∧ fX8_value τ p = some r := fun hx =>
    ⟨0, by rw [fX7_value, ec2, bs (f4_valueOf0 hx)], by rw [fX8_value, bs (f8_item0 em3 hx), if_pos rfl]⟩
  rcases pk_ix p (n := n) (by omega) with hx | hx | ⟨i, hi, rfl⟩
  · exact out (Or.inl hx)
  · exact out (Or.inr hx)
  · refine ⟨σ.2.2 2 i, by rw [fX7_value, ec2, bs (f4_valueOf hn hi)], ?_⟩
    rw [fX8_value, bs (f8_item1 hn em3 hi), if_neg (by decide), ixN (by omega) (by decide), ixN (by omega) (by decide), nI_clamp (by omega)]
    have hr := hokR i hi
    have e28 : fX8_value_28 τ (nI i) = some (τ.2.2 2 i) := by rw [fX8_value_28, ixN (by omega) (by decide), nI_clamp (by omega)]
    by_cases h2 : τ.2.1 2 i = 2
    · rw [if_pos h2, e28, (hr.1 (Or.inl h2)).2]
    · rw [if_neg h2]
      by_cases h3 : τ.2.1 2 i = 3
      · rw [if_pos h3, e28, (hr.1 (Or.inr h3)).2]
      · rw [if_neg h3, (hr.2 (by rintro (a | a); exact h2 a; exact h3 a)).2]
/-- item -/
theorem op_item (hF : 301 < F) (h : Rel K σ τ) (p1 p2 : Int32) : ∃ r, fX7_item F σ p1 p2 = some r ∧ fX8_item F τ p1 p2 = some r := by
  obtain ⟨n, M, o, t, hP, hq⟩ := id h
  obtain ⟨hE, hI, hS, hO, hQ, hW, hD, hL0, hL1, hV, hK, hZ⟩ := id hP
  obtain ⟨⟨hM1, hM16, ec0, em0⟩, -⟩ := id hE
  obtain ⟨hn, ec2, em3, ecm, eck, ecv, htail⟩ := id hI
  obtain ⟨ecs, ect, hokS, hokR, htl⟩ := id hS
  obtain ⟨Q, q, eQ, eQ', hq', hinj⟩ := id hQ
  have hQ1 : Q ≤ cnt (τ.2.1 2) 1 n := inj_le n Q q (fun j hj => ⟨(hq' j hj).2.2.1, (hq' j hj).2.2.2⟩) hinj
  have hcm := hokS.2.2.2.2
  have out : (p1 < 0 ∨ nI n ≤ p1) → ∃ r, fX7_item F σ p1 p2 = some r ∧ fX8_item F τ p1 p2 = some r := fun hx =>
    ⟨-1, by rw [fX7_item, ec2, bs (f4_has0 hx), if_pos rfl], by rw [fX8_item, bs (f8_item0 em3 hx), if_pos rfl]⟩
  rcases pk_ix p1 (n := n) (by omega) with hx | hx | ⟨i, hi, rfl⟩
  · exact out (Or.inl hx)
  · exact out (Or.inr hx)
  · have hc : ∀ b, fX7_item F σ (nI i) b = (if b = 0 then (some (τ.2.1 2 i)) else (if b = 1 then some (σ.2.1 4 i) else (if b = 2 then some (τ.2.1 4 i) else (if b = 3 then some (if τ.2.1 1 i = 0 then 0 else 1) else (if b = 4 then ((fX5_find F (σ.2.1 14) (σ.1 7) (nI i)).bind (fun u_18 => if u_18 = (-1 : Int32) then (some (0 : Int32)) else (some (1 : Int32)))) else some (-1)))))) := by
      intro b
      rw [fX7_item, ec2, bs (f4_has1 hn hi), if_neg (by decide), bs (f4_stateOf hn hi), bs (f4_resultOf hn hi), bs (f4_triesOf hn hi), bs (f0_isMark (by omega)), ecs, ect, ecm]
      by_cases hm : τ.2.1 1 i = 0
      · rw [if_pos hm, if_pos rfl]
      · rw [if_neg hm, if_neg (show ¬ (1 : Int32) = 0 by decide)]
    have hm : ∀ b, fX8_item F τ (nI i) b = (if b < 0 then (some (-1 : Int32)) else (if b ≤ (4 : Int32) then (if b = (1 : Int32) then (if τ.2.1 2 i = 2 then some (τ.2.1 3 i) else if τ.2.1 2 i = 3 then some (τ.2.1 3 i) else some (-1)) else (if b = 0 then some (τ.2.1 2 i) else (if b = (2 : Int32) then some (τ.2.1 4 i) else (if b = (3 : Int32) then (if τ.2.1 1 i = 0 then (some (0 : Int32)) else (some (1 : Int32))) else ((fX8_placeInQueue F τ (nI i)).bind (fun u_10 => if u_10 < 0 then (some (0 : Int32)) else (some (1 : Int32)))))))) else (some (-1 : Int32)))) := by
      intro b
      rw [fX8_item, bs (f8_item1 hn em3 hi), if_neg (by decide), ixN (by omega) (by decide), ixN (by omega) (by decide), ixN (by omega) (by decide), ixN (by omega) (by decide), ixN (by omega) (by decide), nI_clamp (by omega), fX8_item_44, ixN (by omega) (by decide), nI_clamp (by omega)]
    rw [hc, hm]
    by_cases a0 : p2 = 0
    · subst a0; exact ⟨_, rfl, rfl⟩
    rw [if_neg a0]
    by_cases a1 : p2 = 1
    · subst a1
      refine ⟨_, rfl, ?_⟩
      show (if τ.2.1 2 i = 2 then some (τ.2.1 3 i) else if τ.2.1 2 i = 3 then some (τ.2.1 3 i) else some (-1)) = _
      have hr := hokR i hi
      by_cases h2 : τ.2.1 2 i = 2
      · rw [if_pos h2, (hr.1 (Or.inl h2)).1]
      · rw [if_neg h2]
        by_cases h3 : τ.2.1 2 i = 3
        · rw [if_pos h3, (hr.1 (Or.inr h3)).1]
        · rw [if_neg h3, (hr.2 (by rintro (a | a); exact h2 a; exact h3 a)).1]
    rw [if_neg a1]
    by_cases a2 : p2 = 2
    · subst a2; exact ⟨_, rfl, rfl⟩
    rw [if_neg a2]
    by_cases a3 : p2 = 3
    · subst a3
      refine ⟨_, rfl, ?_⟩
      show (if τ.2.1 1 i = 0 then some (0 : Int32) else some 1) = _
      by_cases hz : τ.2.1 1 i = 0
      · rw [if_pos hz, if_pos hz]
      · rw [if_neg hz, if_neg hz]
    rw [if_neg a3]
    by_cases a4 : p2 = 4
    · subst a4
      rw [if_pos rfl, if_neg (by decide), if_pos (by decide), if_neg (by decide), if_neg (by decide), if_neg (by decide), if_neg (by decide)]
      by_cases hin : ∃ j, j < Q ∧ q j = i
      · obtain ⟨j, hj, hqj⟩ := hin
        have hju : ∀ k, k < Q → k ≠ j → q k ≠ i := fun k hk hkj e => hkj (hinj k j hk hj (e.trans hqj.symm))
        refine ⟨1, ?_, ?_⟩
        · rw [eQ, bs (f5_hit (by omega) (by omega) hj (by rw [(hq' j hj).1, hqj]) (fun k hk e => hju k (by omega) (by omega) ((nI_eq (by have := (hq' k (by omega)).2.2.1; omega) (by omega)).mp ((hq' k (by omega)).1.symm.trans e))))]
          rw [if_neg (nI_ne_m1 (by omega))]
        · rw [bs (f8_hit hF (by omega) eQ' hj (by rw [(hq' j hj).2.1, hqj]) (fun k a b e => hju k b (by omega) ((nI_eq (by have := (hq' k b).2.2.1; omega) (by omega)).mp ((hq' k b).2.1.symm.trans e))))]
          rw [if_neg (nI_pos (by omega))]
      · obtain ⟨hcq, hmq⟩ := q_ne hq' hn hi (fun k hk e => hin ⟨k, hk, e⟩)
        refine ⟨0, ?_, ?_⟩
        · rw [eQ, bs (f5_miss (by omega) (by omega) hcq), if_pos rfl]
        · rw [bs (f8_miss hF (by omega) eQ' hmq), if_pos (by decide)]
    rw [if_neg a4]
    refine ⟨-1, rfl, ?_⟩
    by_cases b0 : p2 < 0
    · rw [if_pos b0]
    · rw [if_neg b0]
      by_cases b4 : p2 ≤ 4
      · obtain ⟨j, hj, e⟩ := nI_of2 (M := 4) (n := 4) rfl b0 b4
        have : j = 0 ∨ j = 1 ∨ j = 2 ∨ j = 3 ∨ j = 4 := by omega
        rcases this with z | z | z | z | z <;> subst z
        · exact absurd e a0
        · exact absurd e a1
        · exact absurd e a2
        · exact absurd e a3
        · exact absurd e a4
      · rw [if_neg b4]
/-- out -/
theorem op_out (h : Rel K σ τ) (p1 p2 : Int32) : ∃ r, fX7_out σ p1 p2 = some r ∧ fX8_out τ p1 p2 = some r := by
  obtain ⟨n, M, o, t, hP, hq⟩ := id h
  obtain ⟨hE, hI, hS, hO, hQ, hW, hD, hL0, hL1, hV, hK, hZ⟩ := id hP
  obtain ⟨hn, ec2, em3, ecm, eck, ecv, htail⟩ := id hI
  obtain ⟨ecs, ect, hokS, hokR, htl⟩ := id hS
  obtain ⟨c3, m7, eoi, eot, hokO⟩ := id hO
  have hon : o ≤ n := by have := hokO.1; have := cnt_le (τ.2.1 2) 3 n; omega
  rcases pk_ix p1 (n := o) (by omega) with hx | hx | ⟨k, hk, rfl⟩
  · exact ⟨-1, by rw [fX7_out, if_pos hx], by rw [fX8_out, if_pos hx]⟩
  · have h0 : ¬ p1 < 0 := fun hc => absurd (Int32.lt_of_le_of_lt hx hc) (nI_pos (by omega))
    have h1 : ¬ p1 < nI o := Int32.not_lt.mpr hx
    exact ⟨-1, by rw [fX7_out, if_neg h0, c3, if_neg h1], by rw [fX8_out, if_neg h0, m7, if_pos hx]⟩
  · obtain ⟨i, i1, i2, i3⟩ := hokO.2 k hk
    have hc : ∀ b, fX7_out σ (nI k) b = (if b = 0 then some (nI i) else (if b = 1 then some (τ.2.1 3 i) else (if b = 2 then some (τ.2.1 8 k) else some (-1)))) := by
      intro b
      rw [fX7_out, if_neg (nI_pos (by omega)), c3, if_pos ((nI_ltI (by omega) (by omega)).mpr hk), bs (f3_itemAt (by omega)), bs (f3_itemAt (by omega)), bs (f3_tickAt (by omega)), eoi, eot, i2, ec2, bs (f4_resultOf hn i1), ((hokR i i1).1 (Or.inr i3)).1]
    have hm : ∀ b, fX8_out τ (nI k) b = (if b < 0 then (some (-1 : Int32)) else (if b ≤ (2 : Int32) then (if b = 0 then some (nI i) else (if b = (1 : Int32) then some (τ.2.1 3 i) else some (τ.2.1 8 k))) else (some (-1 : Int32)))) := by
      intro b
      rw [fX8_out, if_neg (nI_pos (by omega)), m7, if_neg (by rw [nI_leI (by omega) (by omega)]; omega), ixN (by omega) (by decide), ixN (by omega) (by decide), ixN (by omega) (by decide), nI_clamp (by omega), i2, ixN (by omega) (by decide), nI_clamp (by omega)]
    rw [hc, hm]
    by_cases a0 : p2 = 0
    · subst a0; exact ⟨_, rfl, rfl⟩
    rw [if_neg a0]
    by_cases a1 : p2 = 1
    · subst a1; exact ⟨_, rfl, rfl⟩
    rw [if_neg a1]
    by_cases a2 : p2 = 2
    · subst a2; exact ⟨_, rfl, rfl⟩
    rw [if_neg a2]
    refine ⟨-1, rfl, ?_⟩
    by_cases b0 : p2 < 0
    · rw [if_pos b0]
    · rw [if_neg b0]
      by_cases b4 : p2 ≤ 2
      · obtain ⟨j, hj, e⟩ := nI_of2 (M := 2) (n := 2) rfl b0 b4
        have : j = 0 ∨ j = 1 ∨ j = 2 := by omega
        rcases this with z | z | z <;> subst z
        · exact absurd e a0
        · exact absurd e a1
        · exact absurd e a2
      · rw [if_neg b4]
end RDS
