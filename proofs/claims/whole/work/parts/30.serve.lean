/-! serve, arrive -/
section SRV
variable {F K : Nat} {σ τ : St}
theorem set01 {x : Int32} (h0 : 0 ≤ x) (h1 : x ≤ 1) : x = 0 ∨ x = 1 := by
  obtain ⟨j, hj, e⟩ := nI_of2 (M := 1) (n := 1) rfl (Int32.not_lt.mpr h0) h1
  have : j = 0 ∨ j = 1 := by omega
  rcases this with z | z <;> subst z
  · exact Or.inl e
  · exact Or.inr e
theorem set012 {x : Int32} (h0 : 0 ≤ x) (h1 : x ≤ 2) : x = 0 ∨ x = 1 ∨ x = 2 := by
  obtain ⟨j, hj, e⟩ := nI_of2 (M := 2) (n := 2) rfl (Int32.not_lt.mpr h0) h1
  have : j = 0 ∨ j = 1 ∨ j = 2 := by omega
  rcases this with z | z | z <;> subst z
  · exact Or.inl e
  · exact Or.inr (Or.inl e)
  · exact Or.inr (Or.inr e)
theorem f6_answerTo {ck cl : Nat → Int64} {ca : Nat → Int32} {r : Nat} (hr : r < 300) : fX6_answerTo ck ca cl (nI r) = some (cl r) := by
  unfold fX6_answerTo
  rw [if_neg (nI_pos (by omega)), show (300 : Int32) = nI 300 from rfl, if_neg (by rw [nI_leI (by omega) (by omega)]; omega), ixN hr (by decide), nI_clamp (by omega)]
set_option maxHeartbeats 1000000 in
/-- the service takes an ask -/
theorem act {n M o t r : Nat} (hF : 301 < F) (hK5 : K < 1000) (h : RelP K n M o t σ τ) (hr : r < n) (hm : τ.2.1 1 r = 0) : ∃ (b : Int32) (kk : Nat → Int64) (aa : Nat → Int32) (ll : Nat → Int64) (τ1 : St), fX6_takeAsk F (σ.2.2 6) (σ.2.1 20) (σ.2.2 7) (nI r) (τ.2.2 0 r) (τ.2.2 1 r) (if τ.2.1 0 7 = 1 then 1 else 0) = some (b, kk, aa, ll) ∧ (b = 0 ∨ b = 1) ∧ RelP (K + 1) n M o t (sL (sA (sL σ 6 kk) 20 aa) 7 ll) τ1 ∧ τ1.2.2 4 r = ll r ∧ (if τ.2.1 0 7 = 0 then fX8_serve_43 F (τ, nI r) else if τ.2.1 13 r = 0 then fX8_serve_43 F (τ, nI r) else fX8_serve_48 F (τ, nI r, 0)) = fX8_serve_104 F (τ1, nI r, b) := by
  obtain ⟨hE, hI, hS, hO, hQ, hW, hD, hL0, hL1, hV, hK, hZ⟩ := id h
  obtain ⟨⟨hM1, hM16, ec0, em0⟩, e1, ⟨ht, et, et'⟩, e13, e14, e15, es, hset⟩ := id hE
  obtain ⟨hn, ec2, em3, ecm, eck, ecv, htail⟩ := id hI
  obtain ⟨hcl, c, v1, v2, v3, v4, v5⟩ := id hV
  have h7 := set01 (hset 7 (by decide)).1 (hset 7 (by decide)).2
  have hcr := (v1 r).2
  by_cases hact : τ.2.1 0 7 = 1 ∧ 0 < c r
  · -- it knows the number, and answers as before
    obtain ⟨a1, a2⟩ := hact
    have hmi : τ.2.1 13 r = 1 := by rw [v2 r, if_pos a2]
    refine ⟨0, σ.2.2 6, σ.2.1 20, σ.2.2 7, τ, ?_, Or.inl rfl, ?_, by rw [hcl], ?_⟩
    · rw [if_pos a1, fX6_takeAsk, if_neg (nI_pos (by omega)), show (300 : Int32) = nI 300 from rfl, if_neg (by rw [nI_leI (by omega) (by omega)]; omega), if_neg (by decide), ixN (by omega) (by decide), nI_clamp (by omega), (v1 r).1, if_neg (nI_nle a2 (by omega))]
    · have := RelP_K h
      rw [show sL (sA (sL σ 6 (σ.2.2 6)) 20 (σ.2.1 20)) 7 (σ.2.2 7) = σ from by
        rw [sL_id, sA_id, sL_id]]
      exact this
    · rw [if_neg (by rw [a1]; decide), if_neg (by rw [hmi]; decide), fX8_serve_48]
      dsimp only
      rw [if_pos rfl]
  · -- it acts
    have hne : ∃ k, k < n ∧ τ.2.1 1 k = 0 ∧ τ.2.2 0 k = τ.2.2 0 r := ⟨r, hr, hm, rfl⟩
    obtain ⟨k, ⟨k1, k2, k3⟩, hlow⟩ := pk_least2 hne
    have hu : ∀ j, 0 ≤ j → j < k → τ.2.1 1 j ≠ 0 ∨ τ.2.2 0 j ≠ τ.2.2 0 r := fun j _ hj => Classical.byContradiction fun hc => by
      simp only [not_or, Classical.not_not] at hc
      exact hlow j hj ⟨by omega, hc.1, hc.2⟩
    have hat : fX8_keyAt F τ (τ.2.2 0 r) = some (nI k) := f8_keyAt_hit hn em3 k1 k2 k3 F 0 (by omega) (by omega) hu
    have hma : τ.2.1 12 k = nI (sumK c (τ.2.2 0) (τ.2.2 0 r) 300) := by rw [v4 k k1 k2 (fun j hj => by rw [k3]; exact hu j (by omega) hj), k3]
    have hc' : ∀ i, upd (σ.2.1 20) r (σ.2.1 20 r + 1) i = nI ((fun i => if i = r then c i + 1 else c i) i) := by
      intro i
      dsimp only
      by_cases hir : i = r
      · subst hir; rw [upd_s, if_pos rfl, (v1 i).1, nI_1]
      · rw [upd_n hir, if_neg hir]; exact (v1 i).1
    have hsum : sumK (fun i => if i = r then c i + 1 else c i) (vp_updL (σ.2.2 6) r (τ.2.2 0 r)) (τ.2.2 0 r) 300 = sumK c (τ.2.2 0) (τ.2.2 0 r) 300 + 1 := by
      rw [sumK_congr (k2 := τ.2.2 0) 300 (fun i _ hi => ?_), sumK_up, if_pos ⟨by omega, rfl⟩]
      by_cases hir : i = r
      · subst hir; exact updL_s
      · rw [if_neg hir] at hi
        rw [updL_n hir]; exact (v3 i hi).2.2
    have h27 : fX6_takeAsk_27 F (σ.2.2 6, σ.2.1 20, σ.2.2 7, nI r, τ.2.2 0 r, τ.2.2 1 r) = some (1, vp_updL (σ.2.2 6) r (τ.2.2 0 r), upd (σ.2.1 20) r (σ.2.1 20 r + 1), vp_updL (σ.2.2 7) r (τ.2.2 1 r + (nI (sumK c (τ.2.2 0) (τ.2.2 0 r) 300 + 1)).toInt64)) := by
      rw [fX6_takeAsk_27]
      dsimp only
      rw [ixN (by omega) (by decide), ixN (by omega) (by decide), ixN (by omega) (by decide), nI_clamp (by omega), bs (f6_countOf (by omega) hc'), ixN (by omega) (by decide), hsum]
    have h48 : fX8_serve_43 F (τ, nI r) = fX8_serve_104 F (sL (sA (sA τ 12 (upd (τ.2.1 12) k (nI (sumK c (τ.2.2 0) (τ.2.2 0 r) 300 + 1)))) 13 (upd (τ.2.1 13) r 1)) 4 (vp_updL (τ.2.2 4) r (τ.2.2 1 r + (nI (sumK c (τ.2.2 0) (τ.2.2 0 r) 300 + 1)).toInt64)), nI r, 1) := by
      rw [fX8_serve_43, fX8_serve_48]
      dsimp only
      rw [if_neg (by decide), ixN (by omega) (by decide), nI_clamp (by omega), bs hat]
      rw [ixN (by omega) (by decide), ixN (by omega) (by decide), ixN (by omega) (by decide), ixN (by omega) (by decide), ixN (by omega) (by decide), ixN (by omega) (by decide), nI_clamp (by omega), hma, nI_1, upd_s, show vp_nar .boolean (1 : Int32) = 1 from rfl]
    refine ⟨1, vp_updL (σ.2.2 6) r (τ.2.2 0 r), upd (σ.2.1 20) r (σ.2.1 20 r + 1), vp_updL (σ.2.2 7) r (τ.2.2 1 r + (nI (sumK c (τ.2.2 0) (τ.2.2 0 r) 300 + 1)).toInt64), sL (sA (sA τ 12 (upd (τ.2.1 12) k (nI (sumK c (τ.2.2 0) (τ.2.2 0 r) 300 + 1)))) 13 (upd (τ.2.1 13) r 1)) 4 (vp_updL (τ.2.2 4) r (τ.2.2 1 r + (nI (sumK c (τ.2.2 0) (τ.2.2 0 r) 300 + 1)).toInt64)), ?_, Or.inr rfl, ?_, ?_, ?_⟩
    · rw [fX6_takeAsk, if_neg (nI_pos (by omega)), show (300 : Int32) = nI 300 from rfl, if_neg (by rw [nI_leI (by omega) (by omega)]; omega)]
      by_cases a1 : τ.2.1 0 7 = 1
      · rw [if_pos a1, if_neg (by decide), ixN (by omega) (by decide), nI_clamp (by omega), if_pos (show σ.2.1 20 r ≤ 0 from by rw [(v1 r).1, show c r = 0 by rcases Nat.eq_zero_or_pos (c r) with q | q; exact q; exact absurd ⟨a1, q⟩ hact]; decide)]
        exact h27
      · rw [if_neg a1, if_pos rfl]
        exact h27
    · refine ⟨hE, hI, hS, hO, hQ, hW, hD, hL0, hL1, ⟨by rw [hcl]; rfl, fun i => if i = r then c i + 1 else c i, fun i => ⟨hc' i, ?_⟩, fun i => ?_, fun i hi => ?_, fun i hi hmi hlo => ?_, fun i hi => ?_⟩, hK, hZ⟩
      · dsimp only
        have := (v1 i).2
        split <;> omega
      · show upd (τ.2.1 13) r 1 i = _
        dsimp only
        by_cases hir : i = r
        · subst hir; rw [upd_s, if_pos (show 0 < (if i = i then c i + 1 else c i) by simp)]
        · rw [upd_n hir, v2 i]; simp [hir]
      · show i < n ∧ τ.2.1 1 i = 0 ∧ vp_updL (σ.2.2 6) r (τ.2.2 0 r) i = τ.2.2 0 i
        dsimp only at hi
        by_cases hir : i = r
        · subst hir; exact ⟨hr, hm, updL_s⟩
        · rw [if_neg hir] at hi; rw [updL_n hir]; exact v3 i hi
      · show upd (τ.2.1 12) k _ i = nI (sumK _ (τ.2.2 0) (τ.2.2 0 i) 300)
        rw [sumK_up]
        by_cases hik : i = k
        · subst hik; rw [upd_s, k3, if_pos ⟨by omega, rfl⟩]
        · rw [upd_n hik, v4 i hi hmi hlo, if_neg]
          · rw [Nat.add_zero]
          · rintro ⟨_, e⟩
            rcases Nat.lt_or_ge i k with q | q
            · exact hlow i q ⟨hi, hmi, e.symm⟩
            · rcases hlo k (by omega) with z | z
              · exact z k2
              · exact z (k3.trans e)
      · show upd (τ.2.1 12) k _ i = 0
        rw [upd_n (by omega)]; exact v5 i hi
    · show vp_updL (τ.2.2 4) r _ r = vp_updL (σ.2.2 7) r _ r
      rw [updL_s, updL_s]
    · by_cases a1 : τ.2.1 0 7 = 0
      · rw [if_pos a1]; exact h48
      · have a2 := h7.resolve_left a1
        have hc0 : ¬ 0 < c r := fun q => hact ⟨a2, q⟩
        rw [if_neg a1, if_pos (by rw [v2 r, if_neg hc0])]; exact h48
set_option maxHeartbeats 1000000 in
/-- serve -/
theorem op_serve (hF : 301 < F) (hK5 : K < 1000) (h : Rel K σ τ) (p1 : Int32) : ∃ r σ' τ', fX7_serve F σ p1 = some (r, σ') ∧ fX8_serve F τ p1 = some (r, τ') ∧ Rel (K + 1) σ' τ' := by
  obtain ⟨n, M, o, t, hP, hq⟩ := id h
  obtain ⟨hE, hI, hS, hO, hQ, hW, hD, hL0, hL1, hV, hK, hZ⟩ := id hP
  obtain ⟨⟨hM1, hM16, ec0, em0⟩, e1, ⟨ht, et, et'⟩, e13, e14, e15, es, hset⟩ := id hE
  obtain ⟨hn, ec2, em3, ecm, eck, ecv, htail⟩ := id hI
  obtain ⟨a, ha100, ea, ea', hLa⟩ := id hL0
  rcases pk_ix p1 (n := a) (by omega) with hx | hx | ⟨k, hk, rfl⟩
  · refine ⟨-1, σ, τ, ?_, ?_, Rel_K h⟩
    · rw [fX7_serve, ea, bs (f2_has0 (Or.inl hx)), if_pos rfl]
    · rw [fX8_serve, bs (show fX8_isUnder τ 0 p1 = some 0 from f8_under0 (ln := 0) (by decide) ea' (Or.inl hx)), if_pos rfl]
  · refine ⟨-1, σ, τ, ?_, ?_, Rel_K h⟩
    · rw [fX7_serve, ea, bs (f2_has0 (Or.inr hx)), if_pos rfl]
    · rw [fX8_serve, bs (show fX8_isUnder τ 0 p1 = some 0 from f8_under0 (ln := 0) (by decide) ea' (Or.inr hx)), if_pos rfl]
  · have hun : fX8_isUnder τ 0 (nI k) = some 1 := f8_under1 (ln := 0) (by decide) ea' ha100 hk
    obtain ⟨r, b1, b2, b3, b4, b5, b6, b7⟩ := hLa k hk
    have hT := rel_take0 hP ea ha100 hk
    obtain ⟨b, kk, aa, ll, τ1, c1, c2, c3, c4, c5⟩ := act hF hK5 hT b1 b2
    obtain ⟨u, τ2, d1, d2, d3⟩ := rel_send1 (w := 0) (v := ll r) c3 b1 (by
      obtain ⟨_, hI1, _⟩ := id c3
      have : τ1.2.1 1 = (tkM τ 0 a k).2.1 1 := by
        obtain ⟨_, _, _, q1, _⟩ := hI1
        obtain ⟨_, _, _, q2, _⟩ := hT.2.1
        exact q1.symm.trans q2
      rw [this]; exact b2) (Or.inl rfl)
    obtain ⟨σ', τ', g1, g2, g3⟩ := go_rel hF d3
    refine ⟨b, σ', τ', ?_, ?_, g3⟩
    · have h46 : fX7_serve_46 F (tkC0 σ a k, nI r, if τ.2.1 0 7 = 1 then 1 else 0) = some (b, σ') := by
        rw [fX7_serve_46]
        dsimp only
        rw [bs (f0_keyOf (show r < 300 by omega)), bs (f0_valueOf (show r < 300 by omega))]
        rw [show (tkC0 σ a k).2.2 0 = τ.2.2 0 from eck, show (tkC0 σ a k).2.2 1 = τ.2.2 1 from ecv]
        rw [bs (show fX6_takeAsk F ((tkC0 σ a k).2.2 6) ((tkC0 σ a k).2.1 20) ((tkC0 σ a k).2.2 7) (nI r) (τ.2.2 0 r) (τ.2.2 1 r) (if τ.2.1 0 7 = 1 then 1 else 0) = some (b, kk, aa, ll) from c1)]
        rw [bs (f6_answerTo (show r < 300 by omega))]
        dsimp only
        rw [bs (show fX2_setOut ((tkC0 σ a k).2.1 18) ((tkC0 σ a k).2.1 19) ((tkC0 σ a k).2.2 5) ((tkC0 σ a k).1 10) (nI r) 0 (ll r) = some u from d1)]
        rw [bs (show fX7_goOn F _ = some σ' from g1)]
        rcases c2 with q | q <;> subst q
        · rw [if_pos rfl]
        · rw [if_neg (by decide)]
      rw [fX7_serve, ea, bs (f2_has1 ha100 hk), if_neg (by decide), bs (f2_rowAt ha100 hk), bs (f2_removeAt ha100 hk), cpy_shw hk, cpy_shw hk, cpy_shw hk, b3, es, show τ.2.1 0 (7 : Int32).toNatClampNeg = τ.2.1 0 7 from rfl]
      by_cases h7 : τ.2.1 0 7 = 1
      · rw [if_pos h7] at h46 ⊢; exact h46
      · rw [if_neg h7] at h46 ⊢; exact h46
    · have e9 : τ.2.1 9 (nI k).toNatClampNeg = nI r := by rw [nI_clamp (by omega), ← b4, Nat.zero_add]
      rw [fX8_serve, bs hun, if_neg (by decide), ixN (by omega) (by decide), bs (show fX8_take F τ 0 (nI k) = some (tkM τ 0 a k) from f8_take (ln := 0) hF (by decide) ea' ha100 hk)]
      rw [e9, ixN (show r < 300 by omega) (by decide), nI_clamp (by omega)]
      rw [show (if (tkM τ 0 a k).2.1 0 (7 : Int32).toNatClampNeg = 0 then fX8_serve_43 F (tkM τ 0 a k, nI r) else if (tkM τ 0 a k).2.1 13 r = 0 then fX8_serve_43 F (tkM τ 0 a k, nI r) else fX8_serve_48 F (tkM τ 0 a k, nI r, 0)) = fX8_serve_104 F (τ1, nI r, b) from c5, fX8_serve_104]
      dsimp only
      rw [ixN (by omega) (by decide), nI_clamp (by omega), c4, bs (show fX8_send τ1 1 (nI r) 0 (ll r) = some τ2 from d2), bs g2]
      rcases c2 with q | q <;> subst q
      · rw [if_pos rfl]
      · rw [if_neg (by decide)]
end SRV
