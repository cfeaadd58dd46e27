def inQ (τ : St) (x : Nat) : Prop := ∃ Q j, Q ≤ 300 ∧ τ.1 4 = nI Q ∧ j < Q ∧ τ.2.1 6 j = nI x
/-- what a step at row i leaves alone -/
def stay (i : Nat) (σ τ σ' τ' : St) : Prop := (∀ x, x ≠ i → τ'.2.1 2 x = τ.2.1 2 x) ∧ (∀ x, x < 300 → x ≠ i → (inQ τ' x ↔ inQ τ x)) ∧ (∀ k, k ≠ 4 → τ'.1 k = τ.1 k) ∧ (∀ k, k ≠ 2 → k ≠ 3 → k ≠ 4 → k ≠ 6 → τ'.2.1 k = τ.2.1 k) ∧ (∀ k, k ≠ 2 → τ'.2.2 k = τ.2.2 k) ∧ σ'.2.1 15 = σ.2.1 15 ∧ σ'.1 8 = σ.1 8
theorem inQ_iff {τ : St} {Q x : Nat} (hQ : Q ≤ 300) (h4 : τ.1 4 = nI Q) : inQ τ x ↔ ∃ j, j < Q ∧ τ.2.1 6 j = nI x := by
  constructor
  · rintro ⟨Q', j, h1, h2, h3, h5⟩
    have : Q' = Q := (nI_eq (by omega) (by omega)).mp (h2.symm.trans h4)
    exact ⟨j, by omega, h5⟩
  · rintro ⟨j, h1, h2⟩
    exact ⟨Q, j, hQ, h4, h1, h2⟩
section PRM2
variable {F K n M o i t : Nat} {σ τ : St}
theorem gQ_gone {s cq mq : Nat → Int32} {Q p : Nat} {q : Nat → Nat} {x : Int32} (hq : ∀ j, j < Q → cq j = nI (q j) ∧ mq j = nI (q j) ∧ q j < n ∧ s (q j) = 1) (hinj : ∀ j k, j < Q → k < Q → q j = q k → j = k) (hp : p < Q) (hqp : q p = i) : gQ n (upd s i x) (nI (Q - 1)) (nI (Q - 1)) (shw cq p (Q - 1)) (shw mq p (Q - 1)) := by
  refine ⟨Q - 1, shf q p, rfl, rfl, fun j hj => ?_, fun j k hj hk e => ?_⟩
  · have hne : ∀ j, j < Q → j ≠ p → q j ≠ i := fun j hj hjp e => hjp (hinj j p hj hp (e.trans hqp.symm))
    unfold shw shf
    by_cases hl : j < p
    · have hcn : ¬ (p ≤ j ∧ j < Q - 1) := by omega
      rw [if_neg hcn, if_neg hcn, if_pos hl, upd_n (hne j (by omega) (by omega))]
      exact hq j (by omega)
    · have hcn : p ≤ j ∧ j < Q - 1 := by omega
      rw [if_pos hcn, if_pos hcn, if_neg hl, upd_n (hne (j + 1) (by omega) (by omega))]
      exact hq (j + 1) (by omega)
  · unfold shf at e
    by_cases a1 : j < p <;> by_cases a2 : k < p
    · rw [if_pos a1, if_pos a2] at e; exact hinj j k (by omega) (by omega) e
    · rw [if_pos a1, if_neg a2] at e; have := hinj j (k + 1) (by omega) (by omega) e; omega
    · rw [if_neg a1, if_pos a2] at e; have := hinj (j + 1) k (by omega) (by omega) e; omega
    · rw [if_neg a1, if_neg a2] at e; have := hinj (j + 1) (k + 1) (by omega) (by omega) e; omega
set_option maxHeartbeats 1000000 in
/-- a row that works is settled -/
theorem pSet (hF : 301 < F) (h : RelP K n M o t σ τ) (hi : i < n) (h1 : τ.2.1 2 i = 1) (r : Int32) (v : Int64) : ∃ σ' τ', fX7_settle F σ (nI i) r v = some σ' ∧ fX8_settle F τ (nI i) r v = some τ' ∧ RelP K n M o t σ' τ' ∧ stay i σ τ σ' τ' ∧ τ'.2.1 2 i = 2 ∧ τ'.2.1 4 = τ.2.1 4 := by
  obtain ⟨hE, hI, hS, hO, hQ, hW, hD, hL0, hL1, hV, hK, hZ⟩ := h
  obtain ⟨⟨hM1, hM16, ec0, em0⟩, e1, ⟨ht, et, et'⟩, e13, e14, e15, es, hset⟩ := id hE
  obtain ⟨hn, ec2, em3, ecm, eck, ecv, htail⟩ := id hI
  obtain ⟨ecs, ect, hokS, hokR, htl⟩ := id hS
  obtain ⟨Q, q, eQ, eQ', hq, hinj⟩ := id hQ
  obtain ⟨c3, m7, eoi, eot, hokO⟩ := id hO
  obtain ⟨w, ew, hw2, hw3, hw4⟩ := id hW
  have hQ1 : Q ≤ cnt (τ.2.1 2) 1 n := inj_le n Q q (fun j hj => ⟨(hq j hj).2.2.1, (hq j hj).2.2.2⟩) hinj
  have hcm := hokS.2.2.2.2
  obtain ⟨p, hp, hwp⟩ := hw4 i hi h1
  have hwk : ∀ k, k < cnt (τ.2.1 2) 1 n → k ≠ p → σ.2.1 13 k ≠ nI i := by
    intro k hk hkp e
    obtain ⟨a1, a2, a3⟩ := hw2 k hk
    have : w k = i := (nI_eq (by omega) (by omega)).mp (a1.symm.trans e)
    rcases Nat.lt_or_ge k p with z | z
    · have := hw3 k p z hp; omega
    · have := hw3 p k (by omega) hk; omega
  have hf1 : fX5_find F (σ.2.1 13) (σ.1 6) (nI i) = some (nI p) := by
    rw [ew]; exact f5_hit (by omega) (by omega) hp (by rw [(hw2 p hp).1, hwp]) (fun k hk => hwk k (by omega) (by omega))
  have hr1 : fX5_removeAt (σ.2.1 13) (σ.1 6) (nI p) = some (shw (σ.2.1 13) p (cnt (τ.2.1 2) 1 n - 1), nI (cnt (τ.2.1 2) 1 n - 1)) := by
    rw [ew, f5_removeAt (by omega) hp, cpy_shw hp]
  have hset4 : fX4_settleRow (σ.2.1 3) (σ.2.1 4) (σ.2.1 5) (σ.2.2 2) (σ.1 2) (σ.1 3) (σ.1 16) (σ.1 17) (nI i) r v = some (upd (τ.2.1 2) i 2, upd (σ.2.1 4) i r, vp_updL (σ.2.2 2) i v, σ.1 16, σ.1 17 + 1) := by
    rw [ec2, ecs]; exact f4_settleRow1 hn hi (by rw [h1]; decide)
  have hokS' := okS_mv (a := 1) (b := 2) hokS hi h1 (by decide) (by decide) (by decide) (by decide) (fun e => absurd e (by decide))
  have htl' : okE n (upd (τ.2.1 2) i 2) (τ.2.1 4) (vp_updL (σ.2.2 2) i v) (vp_updL (τ.2.2 2) i v) := okE_s (okE_v htl hi) hi
  have hgW := gW_gone (x := 2) hw2 hw3 hw4 hi h1 (by decide) hp hwp
  by_cases hin : ∃ j, j < Q ∧ q j = i
  · obtain ⟨j, hj, hqj⟩ := hin
    have hju : ∀ k, k < Q → k ≠ j → q k ≠ i := fun k hk hkj e => hkj (hinj k j hk hj (e.trans hqj.symm))
    have hcu : ∀ k, k < Q → k ≠ j → σ.2.1 14 k ≠ nI i := fun k hk hkj e => hju k hk hkj ((nI_eq (by have := (hq k hk).2.2.1; omega) (by omega)).mp ((hq k hk).1.symm.trans e))
    have hmu : ∀ k, k < Q → k ≠ j → τ.2.1 6 k ≠ nI i := fun k hk hkj e => hju k hk hkj ((nI_eq (by have := (hq k hk).2.2.1; omega) (by omega)).mp ((hq k hk).2.1.symm.trans e))
    have hmj : τ.2.1 6 j = nI i := by rw [(hq j hj).2.1, hqj]
    refine ⟨sI (sI (sL (sA (sA (sI (sA (sI (sA σ 13 (shw (σ.2.1 13) p (cnt (τ.2.1 2) 1 n - 1))) 6 (nI (cnt (τ.2.1 2) 1 n - 1))) 14 (shw (σ.2.1 14) j (Q - 1))) 7 (nI (Q - 1))) 3 (upd (τ.2.1 2) i 2)) 4 (upd (σ.2.1 4) i r)) 2 (vp_updL (σ.2.2 2) i v)) 16 (σ.1 16)) 17 (σ.1 17 + 1), _, ?_, f8_settle_hit hF (by omega) (by omega) eQ' hj hmj (fun k a b => hmu k b (by omega)), ?_, ?_, upd_s, rfl⟩
    · rw [fX7_settle, bs hf1, bs hr1]
      rw [eQ, bs (f5_hit (by omega) (by omega) hj (by rw [(hq j hj).1, hqj]) (fun k hk => hcu k (by omega) (by omega)))]
      rw [bs (f5_removeAt (by omega) hj)]
      rw [bs hset4, cpy_shw hj]
    · exact ⟨hE, hI, ⟨rfl, ect, hokS', okR_set hokR (Or.inl rfl), htl'⟩, ⟨c3, m7, eoi, eot, okO_mv hokO hi (by rw [h1]; decide) (by decide)⟩, gQ_gone hq hinj hj hqj, hgW, hD, hL0, hL1, hV, hK, hZ⟩
    · refine ⟨fun x hx => upd_n hx, fun x hx hxi => ?_, fun k hk => if_neg hk, fun k a b c d => ?_, fun k hk => if_neg hk, rfl, rfl⟩
      · rw [inQ_iff (Q := Q - 1) (by omega) rfl, inQ_iff (Q := Q) (by omega) eQ']
        constructor
        · rintro ⟨k, hk, e⟩
          have e : shw (τ.2.1 6) j (Q - 1) k = nI x := e
          unfold shw at e
          by_cases hc : j ≤ k ∧ k < Q - 1
          · rw [if_pos hc] at e; exact ⟨k + 1, by omega, e⟩
          · rw [if_neg hc] at e; exact ⟨k, by omega, e⟩
        · rintro ⟨k, hk, e⟩
          have hkj : k ≠ j := fun q => by rw [q, hmj] at e; exact hxi ((nI_eq (by omega) (by omega)).mp e).symm
          rcases Nat.lt_or_ge k j with z | z
          · exact ⟨k, by omega, by show shw (τ.2.1 6) j (Q - 1) k = nI x; unfold shw; rw [if_neg (by omega)]; exact e⟩
          · exact ⟨k - 1, by omega, by show shw (τ.2.1 6) j (Q - 1) (k - 1) = nI x; unfold shw; rw [if_pos (by omega), show k - 1 + 1 = k by omega]; exact e⟩
      · show va_up (va_up (va_up τ.2.1 2 _) 3 _) 6 _ k = _
        unfold va_up
        rw [if_neg d, if_neg b, if_neg a]
  · have hju : ∀ k, k < Q → q k ≠ i := fun k hk e => hin ⟨k, hk, e⟩
    obtain ⟨hcq, hmq⟩ := q_ne hq hn hi hju
    refine ⟨sI (sI (sL (sA (sA (sI (sA (sI (sA σ 13 (shw (σ.2.1 13) p (cnt (τ.2.1 2) 1 n - 1))) 6 (nI (cnt (τ.2.1 2) 1 n - 1))) 14 (σ.2.1 14)) 7 (nI Q)) 3 (upd (τ.2.1 2) i 2)) 4 (upd (σ.2.1 4) i r)) 2 (vp_updL (σ.2.2 2) i v)) 16 (σ.1 16)) 17 (σ.1 17 + 1), _, ?_, f8_settle_miss hF (by omega) (by omega) eQ' hmq, ?_, ?_, upd_s, rfl⟩
    · rw [fX7_settle, bs hf1, bs hr1]
      rw [eQ, bs (f5_miss (by omega) (by omega) hcq)]
      rw [bs f5_removeNone, bs hset4]
    · refine ⟨hE, hI, ⟨rfl, ect, hokS', okR_set hokR (Or.inl rfl), htl'⟩, ⟨c3, m7, eoi, eot, okO_mv hokO hi (by rw [h1]; decide) (by decide)⟩, ?_, hgW, hD, hL0, hL1, hV, hK, hZ⟩
      refine ⟨Q, q, rfl, eQ', fun j hj => ?_, hinj⟩
      show σ.2.1 14 j = _ ∧ τ.2.1 6 j = _ ∧ _ ∧ upd (τ.2.1 2) i 2 (q j) = 1
      rw [upd_n (hju j hj)]; exact hq j hj
    · refine ⟨fun x hx => upd_n hx, fun x hx hxi => Iff.rfl, fun k hk => rfl, fun k a b c d => ?_, fun k hk => if_neg hk, rfl, rfl⟩
      show va_up (va_up τ.2.1 2 _) 3 _ k = _
      unfold va_up
      rw [if_neg b, if_neg a]
set_option maxHeartbeats 1000000 in
/-- a row that works, and is not in the queue, is tried again, or settled if it has no try left -/
theorem pTry (hF : 301 < F) (h : RelP K n M o t σ τ) (hi : i < n) (h1 : τ.2.1 2 i = 1) (hnq : ¬ inQ τ i) (r : Int32) (v : Int64) : ∃ (b : Int32) (σ' τ' : St), fX7_tryAgain F σ (nI i) r v = some (b, σ') ∧ ((b = 0 ∧ fX8_again τ (nI i) = some (1, τ')) ∨ (b = 1 ∧ fX8_again τ (nI i) = some (0, τ) ∧ fX8_settle F τ (nI i) r v = some τ')) ∧ RelP K n M o t σ' τ' ∧ stay i σ τ σ' τ' := by
  obtain ⟨σs, τs, g1, g2, g3, g4, g5, g6⟩ := pSet hF h hi h1 r v
  obtain ⟨hE, hI, hS, hO, hQ, hW, hD, hL0, hL1, hV, hK, hZ⟩ := h
  obtain ⟨⟨hM1, hM16, ec0, em0⟩, e1, ⟨ht, et, et'⟩, e13, e14, e15, es, hset⟩ := id hE
  obtain ⟨hn, ec2, em3, ecm, eck, ecv, htail⟩ := id hI
  obtain ⟨ecs, ect, hokS, hokR, htl⟩ := id hS
  obtain ⟨Q, q, eQ, eQ', hq, hinj⟩ := id hQ
  have hju : ∀ k, k < Q → q k ≠ i := fun k hk e => hnq ⟨Q, k, by have := inj_le n Q q (fun j hj => ⟨(hq j hj).2.2.1, (hq j hj).2.2.2⟩) hinj; have := cnt_le (τ.2.1 2) 1 n; omega, eQ', hk, by rw [(hq k hk).2.1, e]⟩
  have hQ1 : Q + 1 ≤ cnt (τ.2.1 2) 1 n := inj_le n (Q + 1) (fun j => if j < Q then q j else i) (fun j hj => by
      by_cases hjQ : j < Q
      · rw [if_pos hjQ]; exact ⟨(hq j hjQ).2.2.1, (hq j hjQ).2.2.2⟩
      · rw [if_neg hjQ]; exact ⟨hi, h1⟩) (fun j k hj hk e2 => by
      by_cases a1 : j < Q <;> by_cases a2 : k < Q
      · rw [if_pos a1, if_pos a2] at e2; exact hinj j k a1 a2 e2
      · rw [if_pos a1, if_neg a2] at e2; exact absurd e2 (hju j a1)
      · rw [if_neg a1, if_pos a2] at e2; exact absurd e2.symm (hju k a2)
      · omega)
  have hcm := hokS.2.2.2.2
  have hag := f8_again (i := i) (by omega) (by omega) eQ'
  have htr : fX7_tryAgain F σ (nI i) r v = if τ.2.1 4 i < τ.2.1 0 1 then some (0, sI (sA (sA σ 5 (upd (τ.2.1 4) i (τ.2.1 4 i + 1))) 14 (upd (σ.2.1 14) Q (nI i))) 7 (nI (Q + 1))) else some (1, σs) := by
    rw [fX7_tryAgain, ec2, bs (f4_triesOf hn hi), ect, es]
    rw [show τ.2.1 0 (1 : Int32).toNatClampNeg = τ.2.1 0 1 from rfl]
    by_cases hc : τ.2.1 4 i < τ.2.1 0 1
    · rw [if_pos hc, if_pos hc, bs (f4_addTry hn hi)]
      rw [eQ, bs (f5_append (by omega))]
    · rw [if_neg hc, if_neg hc, bs g1]
  by_cases hc : τ.2.1 4 i < τ.2.1 0 1
  · rw [if_pos hc] at hag htr
    refine ⟨0, _, _, htr, Or.inl ⟨rfl, hag⟩, ?_, ?_⟩
    · refine ⟨hE, hI, ⟨ecs, rfl, hokS, hokR, okE_t htl hi⟩, hO, ?_, hW, hD, hL0, hL1, hV, hK, hZ⟩
      refine ⟨Q + 1, fun j => if j < Q then q j else i, rfl, rfl, fun j hj => ?_, fun j k hj hk e2 => ?_⟩
      · show upd (σ.2.1 14) Q (nI i) j = _ ∧ upd (τ.2.1 6) Q (nI i) j = _ ∧ _ ∧ τ.2.1 2 _ = 1
        dsimp only
        by_cases hjQ : j < Q
        · rw [if_pos hjQ, upd_n (by omega), upd_n (by omega)]; exact hq j hjQ
        · have : j = Q := by omega
          rw [if_neg hjQ, this, upd_s, upd_s]; exact ⟨rfl, rfl, hi, h1⟩
      · dsimp only at e2
        by_cases a1 : j < Q <;> by_cases a2 : k < Q
        · rw [if_pos a1, if_pos a2] at e2; exact hinj j k a1 a2 e2
        · rw [if_pos a1, if_neg a2] at e2; exact absurd e2 (hju j a1)
        · rw [if_neg a1, if_pos a2] at e2; exact absurd e2.symm (hju k a2)
        · omega
    · refine ⟨fun x hx => rfl, fun x hx hxi => ?_, fun k hk => if_neg hk, fun k a b c d => ?_, fun k hk => rfl, rfl, rfl⟩
      · rw [inQ_iff (Q := Q + 1) (by omega) rfl, inQ_iff (Q := Q) (by omega) eQ']
        constructor
        · rintro ⟨k, hk, e⟩
          have e : upd (τ.2.1 6) Q (nI i) k = nI x := e
          by_cases hkQ : k = Q
          · rw [hkQ, upd_s] at e; exact absurd ((nI_eq (by omega) (by omega)).mp e).symm hxi
          · rw [upd_n hkQ] at e; exact ⟨k, by omega, e⟩
        · rintro ⟨k, hk, e⟩
          exact ⟨k, by omega, by show upd (τ.2.1 6) Q (nI i) k = nI x; rw [upd_n (by omega)]; exact e⟩
      · show va_up (va_up τ.2.1 4 _) 6 _ k = _
        unfold va_up
        rw [if_neg d, if_neg c]
  · rw [if_neg hc] at hag htr
    exact ⟨1, σs, τs, htr, Or.inr ⟨rfl, hag, g2⟩, g3, g4⟩
end PRM2
