/-! steps that class and reference take alike -/
theorem m1_lt {t : Nat} (h : t < 2 ^ 31) : (-1 : Int32) < nI t := by
  rw [Int32.lt_iff_toInt_lt, nI_toInt h]
  have : (-1 : Int32).toInt = -1 := rfl
  omega
theorem f8_settle_miss {n i Q : Nat} {τ : St} {r : Int32} {v : Int64} (hn : 301 < n) (hi : i < 300) (hQ : Q ≤ 300) (h4 : τ.1 4 = nI Q) (hu : ∀ k, k < Q → τ.2.1 6 k ≠ nI i) : fX8_settle n τ (nI i) r v = some (sL (sA (sA τ 2 (upd (τ.2.1 2) i 2)) 3 (upd (τ.2.1 3) i r)) 2 (vp_updL (τ.2.2 2) i v)) := by
  unfold fX8_settle
  rw [ixN hi (by decide), ixN hi (by decide), ixN hi (by decide), nI_clamp (by omega)]
  rw [bs (f8_leave_miss (τ := sL (sA (sA τ 2 (upd (τ.2.1 2) i 2)) 3 (upd (τ.2.1 3) i r)) 2 (vp_updL (τ.2.2 2) i v)) (Q := Q) hn hQ h4 hu)]
theorem f8_settle_hit {n i Q j : Nat} {τ : St} {r : Int32} {v : Int64} (hn : 301 < n) (hi : i < 300) (hQ : Q ≤ 300) (h4 : τ.1 4 = nI Q) (hj : j < Q) (hx : τ.2.1 6 j = nI i) (hu : ∀ k, j < k → k < Q → τ.2.1 6 k ≠ nI i) : fX8_settle n τ (nI i) r v = some (sI (sA (sL (sA (sA τ 2 (upd (τ.2.1 2) i 2)) 3 (upd (τ.2.1 3) i r)) 2 (vp_updL (τ.2.2 2) i v)) 6 (shw (τ.2.1 6) j (Q - 1))) 4 (nI (Q - 1))) := by
  unfold fX8_settle
  rw [ixN hi (by decide), ixN hi (by decide), ixN hi (by decide), nI_clamp (by omega)]
  rw [bs (f8_leave_hit (τ := sL (sA (sA τ 2 (upd (τ.2.1 2) i 2)) 3 (upd (τ.2.1 3) i r)) 2 (vp_updL (τ.2.2 2) i v)) (Q := Q) hn hQ h4 hj hx hu)]
  rfl
section PRM
variable {F K n M o i t : Nat} {σ τ : St}
theorem q_ne {s cq mq : Nat → Int32} {Q : Nat} {q : Nat → Nat} (h : ∀ j, j < Q → cq j = nI (q j) ∧ mq j = nI (q j) ∧ q j < n ∧ s (q j) = 1) (hn : n ≤ 300) (hi : i < n) (hu : ∀ k, k < Q → q k ≠ i) : (∀ k, k < Q → cq k ≠ nI i) ∧ ∀ k, k < Q → mq k ≠ nI i := by
  refine ⟨fun k hk e => ?_, fun k hk e => ?_⟩
  · obtain ⟨e1, e2, e3, e4⟩ := h k hk
    exact hu k hk ((nI_eq (by omega) (by omega)).mp (e1.symm.trans e))
  · obtain ⟨e1, e2, e3, e4⟩ := h k hk
    exact hu k hk ((nI_eq (by omega) (by omega)).mp (e2.symm.trans e))
set_option maxHeartbeats 1000000 in
/-- a row that waits begins, or is settled by what is kept -/
theorem ph1 (hF : 301 < F) (h : RelP K n M o t σ τ) (hi : i < n) (h0 : τ.2.1 2 i = 0) (hlow : ∀ k, k < i → τ.2.1 2 k ≠ 0) (hM : cnt (τ.2.1 2) 1 n < M) : ∃ σ' τ', fX7_startRow F σ (nI i) = some σ' ∧ (∀ k0, fX8_goOn_0 F k0 τ = k0 τ') ∧ RelP K n M o t σ' τ' ∧ ∃ x, x ≠ 0 ∧ τ'.2.1 2 = upd (τ.2.1 2) i x := by
  obtain ⟨hE, hI, hS, hO, hQ, hW, hD, hL0, hL1, hV, hK, hZ⟩ := h
  obtain ⟨⟨hM1, hM16, ec0, em0⟩, e1, ⟨ht, et, et'⟩, e13, e14, e15, es, hset⟩ := id hE
  obtain ⟨hn, ec2, em3, ecm, eck, ecv, htail⟩ := id hI
  obtain ⟨ecs, ect, hokS, hokR, htl⟩ := id hS
  obtain ⟨Q, q, eQ, eQ', hq, hinj⟩ := id hQ
  obtain ⟨ece, eckk, eckv, z, hz, ez, ez', hkd⟩ := id hK
  obtain ⟨c3, m7, eoi, eot, hokO⟩ := id hO
  have hQ1 : Q ≤ cnt (τ.2.1 2) 1 n := inj_le n Q q (fun j hj => ⟨(hq j hj).2.2.1, (hq j hj).2.2.2⟩) hinj
  have hwait : 0 < cnt (τ.2.1 2) 0 n := cnt_pos hi h0
  have hwn := cnt_le (τ.2.1 2) 0 n
  have hon := cnt_le (τ.2.1 2) 1 n
  have hqi : ∀ k, k < Q → q k ≠ i := fun k hk e => by have := (hq k hk).2.2.2; rw [e, h0] at this; exact absurd this (by decide)
  obtain ⟨hcq, hmq⟩ := q_ne hq hn hi hqi
  have hm : ∀ k0, fX8_goOn_0 F k0 τ = (fX8_keptFor F τ (τ.2.2 0 i)).bind (fun u_10 => if u_10 < 0 then (fX8_goOn_69 F k0 (τ, nI i)) else (ix u_10 8 (if ((τ.2.1 14) u_10.toNatClampNeg) < (τ.1 2) then (fX8_goOn_69 F k0 (τ, nI i)) else (ix u_10 8 ((fX8_settle F τ (nI i) (1 : Int32) ((τ.2.2 6) u_10.toNatClampNeg)).bind (fun u_16 => fX8_goOn_103 F k0 u_16)))))) := by
    intro k0
    rw [fX8_goOn_0, bs (f8_countOf (by omega) hn em3)]
    rw [em0, if_neg (by rw [nI_leI (by omega) (by omega)]; omega), bs (f8_countOf (by omega) hn em3)]
    rw [if_neg (nI_nle hwait (by omega)), bs (f8_first (by omega) hn em3 hi h0 hlow)]
    rw [ixN (by omega) (by decide), nI_clamp (by omega)]
  by_cases hk : ∃ j, j < z ∧ τ.2.2 5 j = τ.2.2 0 i ∧ ¬ τ.2.1 14 j < τ.1 2
  · obtain ⟨j, hj, hjk, hje⟩ := hk
    have hju : ∀ k, k < z → k ≠ j → τ.2.2 5 k ≠ τ.2.2 0 i := fun k hk hkj e => hkj (hkd k j hk hj (e.trans hjk.symm))
    refine ⟨sI (sI (sL (sA (sA σ 3 (upd (τ.2.1 2) i 2)) 4 (upd (σ.2.1 4) i 1)) 2 (vp_updL (σ.2.2 2) i (τ.2.2 6 j))) 16 (σ.1 16 - 1)) 17 (σ.1 17 + 1), sL (sA (sA τ 2 (upd (τ.2.1 2) i 2)) 3 (upd (τ.2.1 3) i 1)) 2 (vp_updL (τ.2.2 2) i (τ.2.2 6 j)), ?_, fun k0 => ?_, ?_, 2, by decide, rfl⟩
    · rw [fX7_startRow, bs (f0_keyOf (by omega))]
      rw [eck, eckk, eckv, ece, ez, bs (f1_endOf_hit (by omega) hz hj hjk (fun k hk => hju k (by omega) (by omega)))]
      rw [et, ← et', if_neg hje, bs (f1_valueOf_hit (by omega) hz hj hjk (fun k hk => hju k (by omega) (by omega)))]
      rw [ec2, bs (f4_settleRow0 hn hi (by rw [ecs]; exact h0)), ecs]
    · rw [hm, bs (f8_keptFor_hit hF hz ez' hj hjk (fun k a b => hju k b (by omega)))]
      rw [if_neg (nI_pos (by omega)), ixN (by omega) (by decide), ixN (by omega) (by decide), nI_clamp (by omega), if_neg hje]
      rw [bs (f8_settle_miss (Q := Q) hF (by omega) (by omega) eQ' hmq)]
      rfl
    · refine ⟨hE, hI, ⟨rfl, ect, ?_, okR_set hokR (Or.inl rfl), ?_⟩, ⟨c3, m7, eoi, eot, okO_mv hokO hi (by rw [h0]; decide) (by decide)⟩, gQ_mv hQ (by rw [h0]; decide), gW_mv hW hi (by rw [h0]; decide) (by decide), hD, hL0, hL1, hV, hK, hZ⟩
      · exact okS_mv (a := 0) (b := 2) hokS hi h0 (by decide) (by decide) (by decide) (by decide) (fun e => absurd e (by decide))
      · exact okE_s (okE_v htl hi) hi
  · have hlt : ∀ k0, fX8_goOn_0 F k0 τ = fX8_goOn_69 F k0 (τ, nI i) := by
      intro k0
      rw [hm]
      by_cases hk2 : ∃ j, j < z ∧ τ.2.2 5 j = τ.2.2 0 i
      · obtain ⟨j, hj, hjk⟩ := hk2
        have hje : τ.2.1 14 j < τ.1 2 := Classical.byContradiction fun hc => hk ⟨j, hj, hjk, hc⟩
        rw [bs (f8_keptFor_hit hF hz ez' hj hjk (fun k a b e => by have := hkd k j b hj (e.trans hjk.symm); omega))]
        rw [if_neg (nI_pos (by omega)), ixN (by omega) (by decide), nI_clamp (by omega), if_pos hje]
      · rw [bs (f8_keptFor_miss hF hz ez' (fun k hk3 e => hk2 ⟨k, hk3, e⟩))]
        rw [if_pos (by decide)]
    have hend : ∃ e, fX1_endOf F (τ.2.2 5) (τ.2.2 6) (τ.2.1 14) (nI z) (τ.2.2 0 i) = some e ∧ e < τ.1 2 := by
      by_cases hk2 : ∃ j, j < z ∧ τ.2.2 5 j = τ.2.2 0 i
      · obtain ⟨j, hj, hjk⟩ := hk2
        exact ⟨_, f1_endOf_hit (by omega) hz hj hjk (fun k hk3 e => by have := hkd k j (by omega) hj (e.trans hjk.symm); omega), Classical.byContradiction fun hc => hk ⟨j, hj, hjk, hc⟩⟩
      · exact ⟨_, f1_endOf_miss (by omega) hz (fun k hk3 e => hk2 ⟨k, hk3, e⟩), by rw [et']; exact m1_lt (by omega)⟩
    obtain ⟨e, he, hlt2⟩ := hend
    obtain ⟨w, ew, hw2, hw3, hw4⟩ := id hW
    have hup : ∀ j, j < n → τ.2.1 2 j = 1 → j < i := fun j hj e1 => hokS.2.2.1 j i hj hi e1 h0
    refine ⟨sI (sA (sI (sA (sI (sA (sA σ 3 (upd (τ.2.1 2) i 1)) 5 (upd (τ.2.1 4) i 1)) 16 (σ.1 16 - 1)) 13 (upd (σ.2.1 13) (cnt (τ.2.1 2) 1 n) (nI i))) 6 (nI (cnt (τ.2.1 2) 1 n + 1))) 14 (upd (σ.2.1 14) Q (nI i))) 7 (nI (Q + 1)), sI (sA (sA (sA τ 2 (upd (τ.2.1 2) i 1)) 4 (upd (τ.2.1 4) i 1)) 6 (upd (τ.2.1 6) Q (nI i))) 4 (nI (Q + 1)), ?_, fun k0 => ?_, ?_, 1, by decide, rfl⟩
    · rw [fX7_startRow, bs (f0_keyOf (by omega))]
      rw [eck, eckk, eckv, ece, ez, bs he]
      rw [et, ← et', if_pos hlt2, ec2, bs (f4_startTrying hn hi)]
      rw [ew, bs (f5_append (by omega))]
      rw [eQ, bs (f5_append (by omega)), ecs, ect]
    · rw [hlt, fX8_goOn_69]
      dsimp only
      rw [ixN (by omega) (by decide), ixN (by omega) (by decide), eQ', ixN (by omega) (by decide), nI_clamp (by omega), nI_clamp (by omega), nI_1, fX8_goOn_103]
    · have hmk : τ.2.1 1 i = 0 := Classical.byContradiction fun hc => (hokS.2.1 i hi hc).1 h0
      refine ⟨hE, hI, ⟨rfl, rfl, ?_, okR_same hokR (by rw [h0]; decide), okE_s (okE_t htl hi) hi⟩, ⟨c3, m7, eoi, eot, okO_mv hokO hi (by rw [h0]; decide) (by decide)⟩, ?_, ?_, hD, hL0, hL1, hV, hK, hZ⟩
      · exact okS_mv (a := 0) (b := 1) hokS hi h0 (by decide) (by decide) (by decide) (by decide) (fun _ => ⟨hlow, hM, hmk⟩)
      · refine ⟨Q + 1, fun j => if j < Q then q j else i, rfl, rfl, fun j hj => ?_, fun j k hj hk e2 => ?_⟩
        · show upd (σ.2.1 14) Q (nI i) j = _ ∧ upd (τ.2.1 6) Q (nI i) j = _ ∧ _ ∧ upd (τ.2.1 2) i 1 _ = 1
          dsimp only
          by_cases hjQ : j < Q
          · rw [if_pos hjQ, upd_n (by omega), upd_n (by omega), upd_n (hqi j hjQ)]; exact hq j hjQ
          · have : j = Q := by omega
            rw [if_neg hjQ, this, upd_s, upd_s, upd_s]; exact ⟨rfl, rfl, hi, rfl⟩
        · dsimp only at e2
          by_cases a1 : j < Q <;> by_cases a2 : k < Q
          · rw [if_pos a1, if_pos a2] at e2; exact hinj j k a1 a2 e2
          · rw [if_pos a1, if_neg a2] at e2; exact absurd e2 (hqi j a1)
          · rw [if_neg a1, if_pos a2] at e2; exact absurd e2.symm (hqi k a2)
          · omega
      · exact gW_start (by rw [← ew]; exact hW) hi h0 hup
end PRM
