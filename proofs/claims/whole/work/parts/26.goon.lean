/-! going on: three phases, class and reference side by side -/
section GOON
variable {F K n M o t : Nat} {σ τ : St}
def quiet1 (n M : Nat) (τ : St) : Prop := ¬ (cnt (τ.2.1 2) 1 n < M ∧ 0 < cnt (τ.2.1 2) 0 n)
theorem m_exit1 (hF : 301 < F) (h : RelP K n M o t σ τ) (hx : quiet1 n M τ) : ∀ k0, fX8_goOn_0 F k0 τ = loopF (fX8_goOn_106 F) F τ := by
  intro k0
  obtain ⟨hE, hI, -⟩ := h
  obtain ⟨⟨hM1, hM16, ec0, em0⟩, -⟩ := id hE
  obtain ⟨hn, ec2, em3, -⟩ := id hI
  have h1 := cnt_le (τ.2.1 2) 1 n
  have h0 := cnt_le (τ.2.1 2) 0 n
  rw [fX8_goOn_0, bs (f8_countOf (by omega) hn em3), em0]
  by_cases hc : M ≤ cnt (τ.2.1 2) 1 n
  · rw [if_pos (by rw [nI_leI (by omega) (by omega)]; exact hc)]
  · rw [if_neg (by rw [nI_leI (by omega) (by omega)]; exact hc), bs (f8_countOf (by omega) hn em3)]
    have : cnt (τ.2.1 2) 0 n = 0 := by
      unfold quiet1 at hx
      rcases Nat.eq_zero_or_pos (cnt (τ.2.1 2) 0 n) with q | q
      · exact q
      · exact absurd ⟨by omega, q⟩ hx
    rw [this, if_pos (by decide)]
set_option maxHeartbeats 1000000 in
theorem ph1_all (hF : 301 < F) : ∀ (d i m1 m2 : Nat) (σ τ : St), RelP K n M o t σ τ → i + d = n → d < m1 → d < m2 → (∀ k, k < i → τ.2.1 2 k ≠ 0) → ∃ σ' τ', loopF (fX7_startWaitingRows_2 F) m1 (σ, nI i) = some σ' ∧ loopF (fX8_goOn_0 F) m2 τ = loopF (fX8_goOn_106 F) F τ' ∧ RelP K n M o t σ' τ' ∧ quiet1 n M τ' := by
  intro d
  induction d with
  | zero =>
    intro i m1 m2 σ τ h hid hm1 hm2 hlow
    obtain ⟨m1, rfl⟩ : ∃ m, m1 = m + 1 := ⟨m1 - 1, by omega⟩
    obtain ⟨m2, rfl⟩ : ∃ m, m2 = m + 1 := ⟨m2 - 1, by omega⟩
    have hq : quiet1 n M τ := fun hc => by
      have := cnt_zero (n := n) (s := τ.2.1 2) (w := 0) (fun k hk => hlow k (by omega))
      omega
    refine ⟨σ, τ, ?_, ?_, h, hq⟩
    · obtain ⟨hE, hI, -⟩ := h
      obtain ⟨hn, ec2, em3, -⟩ := id hI
      rw [lp_s, fX7_startWaitingRows_2]
      dsimp only
      rw [ec2, if_pos (by rw [nI_leI (by omega) (by omega)]; omega)]
    · rw [lp_s]; exact m_exit1 hF h hq _
  | succ d ih =>
    intro i m1 m2 σ τ h hid hm1 hm2 hlow
    obtain ⟨m1, rfl⟩ : ∃ m, m1 = m + 1 := ⟨m1 - 1, by omega⟩
    obtain ⟨m2, rfl⟩ : ∃ m, m2 = m + 1 := ⟨m2 - 1, by omega⟩
    obtain ⟨hE, hI, hS, -, -, hW, -⟩ := id h
    obtain ⟨⟨hM1, hM16, ec0, em0⟩, -⟩ := id hE
    obtain ⟨hn, ec2, em3, -⟩ := id hI
    obtain ⟨ecs, ect, hokS, -⟩ := id hS
    have t0 : σ.1 16 = nI (cnt (τ.2.1 2) 0 n) := hokS.2.2.2.1.1
    have t1 : σ.1 6 = nI (cnt (τ.2.1 2) 1 n) := by obtain ⟨w, ew, -⟩ := hW; exact ew
    have h1 := cnt_le (τ.2.1 2) 1 n
    have h0 := cnt_le (τ.2.1 2) 0 n
    rw [lp_s, fX7_startWaitingRows_2]
    dsimp only
    rw [ec2, if_neg (by rw [nI_leI (by omega) (by omega)]; omega), t0, t1, ec0]
    by_cases hc0 : cnt (τ.2.1 2) 0 n = 0
    · have hq : quiet1 n M τ := fun hc => by omega
      rw [hc0, if_pos (show nI 0 = 0 from rfl)]
      exact ⟨σ, τ, rfl, by rw [lp_s]; exact m_exit1 hF h hq _, h, hq⟩
    · rw [if_neg (nI_ne0 (by omega) (by omega))]
      by_cases hc1 : cnt (τ.2.1 2) 1 n < M
      · rw [if_pos ((nI_ltI (by omega) (by omega)).mpr hc1), ← ec2, ← t0, show fX4_stateOf (σ.2.1 3) (σ.2.1 4) (σ.2.1 5) (σ.2.2 2) (σ.1 2) (σ.1 3) (σ.1 16) (σ.1 17) (nI i) = some (τ.2.1 2 i) from by rw [ec2, ecs]; exact f4_stateOf hn (by omega)]
        show ∃ σ' τ', (if τ.2.1 2 i = 0 then (fX7_startRow F σ (nI i)).bind (fun u_7 => fX7_startWaitingRows_54 F _ (u_7, nI i)) else fX7_startWaitingRows_54 F _ (σ, nI i)) = some σ' ∧ _
        by_cases hi0 : τ.2.1 2 i = 0
        · obtain ⟨σ', τ', g1, g2, g3, x, hx, g4⟩ := ph1 hF h (by omega) hi0 hlow hc1
          rw [if_pos hi0, bs g1, fX7_startWaitingRows_54]
          dsimp only
          rw [nI_1, lp_s, g2]
          refine ih (i + 1) m1 m2 σ' τ' g3 (by omega) (by omega) (by omega) (fun k hk => ?_)
          rw [g4]
          by_cases hki : k = i
          · rw [hki, upd_s]; exact hx
          · rw [upd_n hki]; exact hlow k (by omega)
        · rw [if_neg hi0, fX7_startWaitingRows_54]
          dsimp only
          rw [nI_1]
          refine ih (i + 1) m1 (m2 + 1) σ τ h (by omega) (by omega) (by omega) (fun k hk => ?_)
          by_cases hki : k = i
          · rw [hki]; exact hi0
          · exact hlow k (by omega)
      · have hq : quiet1 n M τ := fun hc => hc1 hc.1
        rw [if_neg (by rw [nI_ltI (by omega) (by omega)]; exact hc1)]
        exact ⟨σ, τ, rfl, by rw [lp_s]; exact m_exit1 hF h hq _, h, hq⟩
-- lines grow
theorem gL_push {mk : Nat → Int32} {off a r : Nat} {cr cc mr mc : Nat → Int32} {cv mv : Nat → Int64} {csz msz w : Int32} {v : Int64} (h : gL n mk off cr cc cv csz mr mc mv msz) (ha : csz = nI a) (h100 : a < 100) (hr : r < n) (hm : mk r = 0) (hw : w = 0 ∨ w = 1 ∨ w = 2 ∨ w = 3) : gL n mk off (upd cr a (nI r)) (upd cc a w) (vp_updL cv a v) (nI (a + 1)) (upd mr (off + a) (nI r)) (upd mc (off + a) w) (vp_updL mv (off + a) v) (nI (a + 1)) := by
  obtain ⟨a', h1, h2, h3, h4⟩ := h
  have : a' = a := (nI_eq (by omega) (by omega)).mp (h2.symm.trans ha)
  subst this
  refine ⟨a' + 1, by omega, rfl, rfl, fun j hj => ?_⟩
  by_cases hja : j = a'
  · subst hja
    exact ⟨r, hr, hm, upd_s, upd_s, by rw [upd_s, upd_s], by rw [upd_s]; exact hw, by rw [updL_s, updL_s]⟩
  · obtain ⟨r', b1, b2, b3, b4, b5, b6, b7⟩ := h4 j (by omega)
    exact ⟨r', b1, b2, by rw [upd_n hja]; exact b3, by rw [upd_n (by omega)]; exact b4, by rw [upd_n hja, upd_n (by omega)]; exact b5, by rw [upd_n hja]; exact b6, by rw [updL_n hja, updL_n (by omega)]; exact b7⟩
theorem gL_far {mk : Nat → Int32} {off x : Nat} {cr cc mr mc : Nat → Int32} {cv mv : Nat → Int64} {csz msz w y : Int32} {v : Int64} (h : gL n mk off cr cc cv csz mr mc mv msz) (hx : ∀ j, j < 100 → off + j ≠ x) : gL n mk off cr cc cv csz (upd mr x y) (upd mc x w) (vp_updL mv x v) msz := by
  obtain ⟨a', h1, h2, h3, h4⟩ := h
  refine ⟨a', h1, h2, h3, fun j hj => ?_⟩
  obtain ⟨r', b1, b2, b3, b4, b5, b6, b7⟩ := h4 j hj
  have := hx j (by omega)
  exact ⟨r', b1, b2, b3, by rw [upd_n this]; exact b4, by rw [upd_n this]; exact b5, b6, by rw [updL_n this]; exact b7⟩
set_option maxHeartbeats 1000000 in
/-- one ask is sent -/
theorem ph2 {Q : Nat} (hF : 301 < F) (h : RelP K n M o t σ τ) (h4 : τ.1 4 = nI Q) (hQ300 : Q ≤ 300) (hQ0 : 0 < Q) (hr : ¬ τ.2.1 0 2 ≤ τ.1 5) : ∃ σ' τ', (∀ k0, fX7_sendQueuedAsks_0 F k0 σ = k0 σ') ∧ (∀ k0, fX8_goOn_106 F k0 τ = k0 τ') ∧ RelP K n M o t σ' τ' ∧ τ'.1 4 = nI (Q - 1) ∧ τ'.2.1 2 = τ.2.1 2 := by
  obtain ⟨hE, hI, hS, hO, hQ, hW, hD, hL0, hL1, hV, hK, hZ⟩ := h
  obtain ⟨⟨hM1, hM16, ec0, em0⟩, e1, ⟨ht, et, et'⟩, e13, e14, e15, es, hset⟩ := id hE
  obtain ⟨hn, ec2, em3, ecm, eck, ecv, htail⟩ := id hI
  obtain ⟨ecs, ect, hokS, hokR, htl⟩ := id hS
  obtain ⟨Q', q, eQ, eQ', hq, hinj⟩ := id hQ
  obtain ⟨a, ha100, ea, ea', hLa⟩ := id hL0
  have hcm := hokS.2.2.2.2
  have hQ1 : Q' ≤ cnt (τ.2.1 2) 1 n := inj_le n Q' q (fun j hj => ⟨(hq j hj).2.2.1, (hq j hj).2.2.2⟩) hinj
  have hQQ : Q' = Q := (nI_eq (by omega) (by omega)).mp (eQ'.symm.trans h4)
  subst hQQ
  obtain ⟨b1, b2, b3, b4⟩ := hq 0 hQ0
  have hmk : τ.2.1 1 (q 0) = 0 := Classical.byContradiction fun hc => (hokS.2.1 (q 0) b3 hc).2 b4
  have hmu : ∀ k, 0 < k → k < Q' → τ.2.1 6 k ≠ nI (q 0) := fun k hk hkQ e => by
    have := hinj k 0 hkQ hQ0 ((nI_eq (by have := (hq k hkQ).2.2.1; omega) (by omega)).mp ((hq k hkQ).2.1.symm.trans e))
    omega
  have hlv : fX8_leave F τ (nI (q 0)) = some (sI (sA τ 6 (shw (τ.2.1 6) 0 (Q' - 1))) 4 (nI (Q' - 1))) := f8_leave_hit hF (by omega) h4 hQ0 b2 hmu
  have hgQ : gQ n (τ.2.1 2) (nI (Q' - 1)) (nI (Q' - 1)) (shw (σ.2.1 14) 0 (Q' - 1)) (shw (τ.2.1 6) 0 (Q' - 1)) := by
    refine ⟨Q' - 1, fun j => q (j + 1), rfl, rfl, fun j hj => ?_, fun j k hj hk e => ?_⟩
    · unfold shw
      rw [if_pos (show 0 ≤ j ∧ j < Q' - 1 by omega), if_pos (show 0 ≤ j ∧ j < Q' - 1 by omega)]
      exact hq (j + 1) (by omega)
    · have := hinj (j + 1) (k + 1) (by omega) (by omega) e; omega
  have hc : ∀ k0, fX7_sendQueuedAsks_0 F k0 σ = (fX2_setOut (σ.2.1 16) (σ.2.1 17) (σ.2.2 4) (nI a) (nI (q 0)) (0 : Int32) (0 : Int64)).bind (fun u_9 => k0 (sI (sI (sI (sL (sA (sA (sA (sI (sA σ 14 (shw (σ.2.1 14) 0 (Q' - 1))) 7 (nI (Q' - 1))) 2 (upd (τ.2.1 5) (q 0) (τ.1 2 + τ.2.1 0 0))) 16 u_9.1) 17 u_9.2.1) 4 u_9.2.2.1) 9 u_9.2.2.2) 13 ((τ.1 5) + (1 : Int32))) 14 ((τ.1 6) + (1 : Int32)))) := by
    intro k0
    rw [fX7_sendQueuedAsks_0, es, e13, e14, show τ.2.1 0 (2 : Int32).toNatClampNeg = τ.2.1 0 2 from rfl, show τ.2.1 0 (0 : Int32).toNatClampNeg = τ.2.1 0 0 from rfl, if_neg hr, eQ, if_neg (nI_nle hQ0 (by omega))]
    rw [bs (show fX5_at (σ.2.1 14) (nI Q') 0 = some (nI (q 0)) from by rw [← b1]; exact f5_at (k := 0) (by omega) hQ0)]
    rw [bs (show fX5_removeAt (σ.2.1 14) (nI Q') 0 = some (shw (σ.2.1 14) 0 (Q' - 1), nI (Q' - 1)) from by rw [← cpy_shw hQ0]; exact f5_removeAt (k := 0) (by omega) hQ0)]
    rw [hD, bs (f0_setDue (by omega)), ea, et, ← et']
  have hm : ∀ k0, fX8_goOn_106 F k0 τ = (fX8_send (sI (sI (sA (sI (sA τ 6 (shw (τ.2.1 6) 0 (Q' - 1))) 4 (nI (Q' - 1))) 5 (upd (τ.2.1 5) (q 0) (τ.1 2 + τ.2.1 0 0))) 5 (τ.1 5 + 1)) 6 (τ.1 6 + 1)) (nI 0) (nI (q 0)) 0 0).bind (fun u_23 => k0 u_23) := by
    intro k0
    rw [fX8_goOn_106, show τ.2.1 0 (2 : Int32).toNatClampNeg = τ.2.1 0 2 from rfl, if_neg hr, h4, if_neg (nI_nle hQ0 (by omega)), show τ.2.1 6 (0 : Int32).toNatClampNeg = nI (q 0) from b2, bs hlv]
    rw [ixN (by omega) (by decide), nI_clamp (by omega)]
    rfl
  have hgE : gE M t (σ.1 0) (σ.1 1) (σ.1 12) (τ.1 5 + 1) (τ.1 6 + 1) (σ.1 15) (τ.1 0) (τ.1 1) (τ.1 2) (τ.1 5 + 1) (τ.1 6 + 1) (τ.1 11) (σ.2.1 0) (τ.2.1 0) := ⟨⟨hM1, hM16, ec0, em0⟩, e1, ⟨ht, et, et'⟩, rfl, rfl, e15, es, hset⟩
  by_cases hfull : a = 100
  · subst hfull
    refine ⟨_, _, fun k0 => (hc k0).trans (bs f2_setOutF), fun k0 => (hm k0).trans (bs (f8_sendF (τ := (sI (sI (sA (sI (sA τ 6 (shw (τ.2.1 6) 0 (Q' - 1))) 4 (nI (Q' - 1))) 5 (upd (τ.2.1 5) (q 0) (τ.1 2 + τ.2.1 0 0))) 5 (τ.1 5 + 1)) 6 (τ.1 6 + 1))) (by decide) ea')), ?_, rfl, rfl⟩
    exact ⟨hgE, hI, hS, hO, hgQ, hW, rfl, ⟨100, by omega, rfl, ea', hLa⟩, hL1, hV, hK, hZ⟩
  · refine ⟨_, _, fun k0 => (hc k0).trans (bs (f2_setOut (by omega))), fun k0 => (hm k0).trans (bs (f8_send (τ := (sI (sI (sA (sI (sA τ 6 (shw (τ.2.1 6) 0 (Q' - 1))) 4 (nI (Q' - 1))) 5 (upd (τ.2.1 5) (q 0) (τ.1 2 + τ.2.1 0 0))) 5 (τ.1 5 + 1)) 6 (τ.1 6 + 1))) (a := a) (by decide) ea' (by omega))), ?_, rfl, rfl⟩
    refine ⟨hgE, hI, hS, hO, hgQ, hW, rfl, ?_, ?_, hV, hK, hZ⟩
    · exact gL_push (off := 0) hL0 ea (by omega) b3 hmk (Or.inl rfl)
    · exact gL_far hL1 (fun j hj => by omega)
end GOON
section GOON2
variable {F K n M o t : Nat} {σ τ : St}
def quiet2 (τ : St) : Prop := τ.2.1 0 2 ≤ τ.1 5 ∨ τ.1 4 = nI 0
theorem ph2_all (hF : 301 < F) : ∀ (Q m1 m2 : Nat) (σ τ : St), RelP K n M o t σ τ → τ.1 4 = nI Q → Q ≤ 300 → Q < m1 → Q < m2 → ∃ σ' τ', loopF (fX7_sendQueuedAsks_0 F) m1 σ = some σ' ∧ loopF (fX8_goOn_106 F) m2 τ = fX8_goOn_186 F τ' ∧ RelP K n M o t σ' τ' ∧ quiet2 τ' ∧ τ'.2.1 2 = τ.2.1 2 := by
  intro Q
  induction Q with
  | zero =>
    intro m1 m2 σ τ h h4 h300 hm1 hm2
    obtain ⟨m1, rfl⟩ : ∃ m, m1 = m + 1 := ⟨m1 - 1, by omega⟩
    obtain ⟨m2, rfl⟩ : ∃ m, m2 = m + 1 := ⟨m2 - 1, by omega⟩
    obtain ⟨hE, hI, hS, hO, hQ, -⟩ := id h
    obtain ⟨Q', q, eQ, eQ', -⟩ := id hQ
    refine ⟨σ, τ, ?_, ?_, h, Or.inr h4, rfl⟩
    · rw [lp_s, fX7_sendQueuedAsks_0, eQ, ← eQ', h4]
      by_cases hc : σ.2.1 0 (2 : Int32).toNatClampNeg ≤ σ.1 13
      · rw [if_pos hc]
      · rw [if_neg hc, if_pos (by decide)]
    · rw [lp_s, fX8_goOn_106, h4]
      by_cases hc : τ.2.1 0 (2 : Int32).toNatClampNeg ≤ τ.1 5
      · rw [if_pos hc]
      · rw [if_neg hc, if_pos (by decide)]
  | succ Q ih =>
    intro m1 m2 σ τ h h4 h300 hm1 hm2
    obtain ⟨m1, rfl⟩ : ∃ m, m1 = m + 1 := ⟨m1 - 1, by omega⟩
    obtain ⟨m2, rfl⟩ : ∃ m, m2 = m + 1 := ⟨m2 - 1, by omega⟩
    by_cases hr : τ.2.1 0 2 ≤ τ.1 5
    · obtain ⟨hE, -⟩ := id h
      obtain ⟨-, -, -, e13, -, -, es, -⟩ := id hE
      refine ⟨σ, τ, ?_, ?_, h, Or.inl hr, rfl⟩
      · rw [lp_s, fX7_sendQueuedAsks_0, if_pos (show σ.2.1 0 (2 : Int32).toNatClampNeg ≤ σ.1 13 by rw [es, e13]; exact hr)]
      · rw [lp_s, fX8_goOn_106, if_pos (show τ.2.1 0 (2 : Int32).toNatClampNeg ≤ τ.1 5 from hr)]
    · obtain ⟨σ1, τ1, g1, g2, g3, g4, g5⟩ := ph2 hF h h4 h300 (by omega) hr
      obtain ⟨σ', τ', k1, k2, k3, k4, k5⟩ := ih m1 m2 σ1 τ1 g3 g4 (by omega) (by omega) (by omega)
      exact ⟨σ', τ', by rw [lp_s, g1]; exact k1, by rw [lp_s, g2]; exact k2, k3, k4, by rw [k5, g5]⟩
-- items go out
def sfl (od : Bool) (s mk : Nat → Int32) : Nat → Option (Bool × Bool)
  | 0 => some (true, true)
  | i + 1 => (sfl od s mk i).bind fun f => if s i = 2 ∧ (if od = true ∨ mk i ≠ 0 then f.1 else f.2) = true then none else some (f.1 && pst (s i), f.2 && (pst (s i) || decide (mk i = 0)))
theorem sfl_nOut {od : Bool} {s mk : Nat → Int32} : ∀ (i d : Nat) (al ms : Bool), sfl od s mk i = some (al, ms) → nOut od s mk (i + d) 0 true true = nOut od s mk d i al ms := by
  intro i
  induction i with
  | zero =>
    intro d al ms h
    unfold sfl at h
    cases h
    rw [Nat.zero_add]
  | succ i ih =>
    intro d al ms h
    unfold sfl at h
    obtain ⟨⟨a1, m1⟩, e1, e2⟩ := bd h
    have h1 := ih (d + 1) a1 m1 e1
    rw [show i + 1 + d = i + (d + 1) by omega, h1]
    conv => lhs; unfold nOut
    dsimp only at e2
    by_cases hc : s i = 2 ∧ (if od = true ∨ mk i ≠ 0 then a1 else m1) = true
    · rw [if_pos hc] at e2; cases e2
    · rw [if_neg hc] at e2
      rw [if_neg hc]
      cases e2
      rfl
theorem sfl_congr {od : Bool} {s s' mk : Nat → Int32} : ∀ (i : Nat), (∀ k, k < i → s k = s' k) → sfl od s mk i = sfl od s' mk i := by
  intro i
  induction i with
  | zero => intro _; rfl
  | succ i ih => intro h; unfold sfl; rw [ih (fun k hk => h k (by omega)), h i (by omega)]
theorem nOut_none {od : Bool} {s mk : Nat → Int32} : ∀ (d i : Nat) (al ms : Bool), (∀ k, i ≤ k → k < i + d → s k ≠ 2) → nOut od s mk d i al ms = none := by
  intro d
  induction d with
  | zero => intro i al ms _; rfl
  | succ d ih =>
    intro i al ms h
    unfold nOut
    rw [if_neg (fun hc => h i (Nat.le_refl _) (by omega) hc.1)]
    exact ih _ _ _ (fun k a b => h k (by omega) (by omega))
theorem nOut_od {s mk : Nat → Int32} : ∀ (d i : Nat) (ms : Bool), nOut true s mk d i false ms = none := by
  intro d
  induction d with
  | zero => intro i ms; rfl
  | succ d ih =>
    intro i ms
    unfold nOut
    rw [if_neg (by simp)]
    exact ih _ _
theorem nOut_ff {od : Bool} {s mk : Nat → Int32} : ∀ (d i : Nat), nOut od s mk d i false false = none := by
  intro d
  induction d with
  | zero => intro i; rfl
  | succ d ih =>
    intro i
    unfold nOut
    rw [if_neg (by simp)]
    exact ih _
def od1 (τ : St) : Bool := decide (¬ τ.1 1 = 0)
theorem od1_iff (τ : St) : τ.1 1 = 0 ↔ od1 τ = false := by unfold od1; simp
set_option maxHeartbeats 1000000 in
/-- one item goes out -/
theorem ph3 {i : Nat} (hF : 301 < F) (h : RelP K n M o t σ τ) (hi : i < n) (h2 : τ.2.1 2 i = 2) : ∃ σ' τ', (∀ (k0 : (St × Int32 × Int32) → Option St) (f : Int32), fX7_letItemsOut_70 F k0 (σ, f, nI i, 2) = k0 (σ', f, nI i + 1)) ∧ (∀ k0, fX8_goOn_191 F k0 (τ, nI i) = k0 (τ', opN (nOut (od1 τ') (τ'.2.1 2) (τ'.2.1 1) n 0 true true))) ∧ RelP K n M (o + 1) t σ' τ' ∧ τ'.2.1 2 = upd (τ.2.1 2) i 3 ∧ τ'.2.1 1 = τ.2.1 1 ∧ (∀ k, k ≠ 7 → τ'.1 k = τ.1 k) ∧ τ'.2.1 0 = τ.2.1 0 ∧ σ'.1 1 = σ.1 1 := by
  obtain ⟨hE, hI, hS, hO, hQ, hW, hD, hL0, hL1, hV, hK, hZ⟩ := h
  obtain ⟨⟨hM1, hM16, ec0, em0⟩, e1, ⟨ht, et, et'⟩, e13, e14, e15, es, hset⟩ := id hE
  obtain ⟨hn, ec2, em3, ecm, eck, ecv, htail⟩ := id hI
  obtain ⟨ecs, ect, hokS, hokR, htl⟩ := id hS
  obtain ⟨c3, m7, eoi, eot, hokO⟩ := id hO
  have ho : o < n := by
    have := cnt_two (s := τ.2.1 2) (v := 2) (w := 3) (by decide) n
    have := cnt_pos hi h2
    have := hokO.1
    omega
  refine ⟨sI (sI (sA (sA (sA σ 11 (upd (τ.2.1 7) o (nI i))) 12 (upd (τ.2.1 8) o (τ.1 2))) 3 (upd (τ.2.1 2) i 3)) 3 (nI (o + 1))) 17 (σ.1 17 - 1), sI (sA (sA (sA τ 2 (upd (τ.2.1 2) i 3)) 7 (upd (τ.2.1 7) o (nI i))) 8 (upd (τ.2.1 8) o (τ.1 2))) 7 (nI (o + 1)), fun k0 f => ?_, fun k0 => ?_, ?_, rfl, rfl, fun k hk => if_neg hk, rfl, rfl⟩
  · rw [fX7_letItemsOut_70]
    dsimp only
    rw [if_pos rfl, c3, eoi, eot, bs (f3_write (by omega))]
    rw [ec2, ecs, bs (f4_goOut hn hi), fX7_letItemsOut_107]
    dsimp only
    rw [nI_1, et, ← et']
  · rw [fX8_goOn_191]
    dsimp only
    rw [if_neg (nI_pos (by omega)), m7, ixN (by omega) (by decide), ixN (by omega) (by decide), ixN (by omega) (by decide), nI_clamp (by omega), nI_clamp (by omega), nI_1]
    rw [bs (f8_nextOut (τ := sI (sA (sA (sA τ 2 (upd (τ.2.1 2) i 3)) 7 (upd (τ.2.1 7) o (nI i))) 8 (upd (τ.2.1 8) o (τ.1 2))) 7 (nI (o + 1))) (by omega) hn em3 (od1_iff _))]
  · refine ⟨hE, hI, ⟨rfl, ect, okS_mv (a := 2) (b := 3) hokS hi h2 (by decide) (by decide) (by decide) (by decide) (fun e => absurd e (by decide)), okR_same hokR (by rw [h2]; decide), okE_s htl hi⟩, ⟨rfl, rfl, rfl, rfl, okO_out hokO hi h2⟩, gQ_mv hQ (by rw [h2]; decide), gW_mv hW hi (by rw [h2]; decide) (by decide), hD, hL0, hL1, hV, hK, ?_⟩
    obtain ⟨ns, os, z1, z2, z3, z4, z5, z6, z7, z8, z9, z10, z11⟩ := hZ
    refine ⟨ns, os, z1, by omega, z3, z4, z5, z6, z7, z8, z9, z10, z11.1, fun k hk => ?_⟩
    show ∃ i', i' < ns ∧ upd (τ.2.1 7) o (nI i) k = nI i' ∧ _
    rw [upd_n (by omega)]
    exact z11.2 k hk
set_option maxHeartbeats 1000000 in
theorem ph3_all (hF : 301 < F) : ∀ (d i m1 m2 o : Nat) (al : Bool) (σ τ : St), RelP K n M o t σ τ → i + d = n → d < m1 → d < m2 → sfl (od1 τ) (τ.2.1 2) (τ.2.1 1) i = some (al, true) → ∃ o' σ' τ', loopF (fX7_letItemsOut_4 F) m1 (σ, bI al, nI i) = some σ' ∧ loopF (fX8_goOn_191 F) m2 (τ, opN (nOut (od1 τ) (τ.2.1 2) (τ.2.1 1) n 0 true true)) = some τ' ∧ RelP K n M o' t σ' τ' ∧ nOut (od1 τ') (τ'.2.1 2) (τ'.2.1 1) n 0 true true = none ∧ cnt (τ'.2.1 2) 0 n = cnt (τ.2.1 2) 0 n ∧ cnt (τ'.2.1 2) 1 n = cnt (τ.2.1 2) 1 n ∧ (∀ k, k ≠ 7 → τ'.1 k = τ.1 k) ∧ τ'.2.1 0 = τ.2.1 0 := by
  have stop : ∀ (m2 o : Nat) (σ τ : St), RelP K n M o t σ τ → 0 < m2 → nOut (od1 τ) (τ.2.1 2) (τ.2.1 1) n 0 true true = none → ∃ o' σ' τ', (some σ : Option St) = some σ' ∧ loopF (fX8_goOn_191 F) m2 (τ, opN (nOut (od1 τ) (τ.2.1 2) (τ.2.1 1) n 0 true true)) = some τ' ∧ RelP K n M o' t σ' τ' ∧ nOut (od1 τ') (τ'.2.1 2) (τ'.2.1 1) n 0 true true = none ∧ cnt (τ'.2.1 2) 0 n = cnt (τ.2.1 2) 0 n ∧ cnt (τ'.2.1 2) 1 n = cnt (τ.2.1 2) 1 n ∧ (∀ k, k ≠ 7 → τ'.1 k = τ.1 k) ∧ τ'.2.1 0 = τ.2.1 0 := by
    intro m2 o σ τ h hm hno
    obtain ⟨m2, rfl⟩ : ∃ m, m2 = m + 1 := ⟨m2 - 1, by omega⟩
    refine ⟨o, σ, τ, rfl, ?_, h, hno, rfl, rfl, fun _ _ => rfl, rfl⟩
    rw [hno, lp_s, fX8_goOn_191]
    dsimp only
    rw [if_pos (by decide)]
  intro d
  induction d with
  | zero =>
    intro i m1 m2 o al σ τ h hid hm1 hm2 hsf
    obtain ⟨m1, rfl⟩ : ∃ m, m1 = m + 1 := ⟨m1 - 1, by omega⟩
    obtain ⟨hE, hI, -⟩ := id h
    obtain ⟨hn, ec2, em3, -⟩ := id hI
    have hno := sfl_nOut i 0 al true hsf
    rw [show i + 0 = n by omega] at hno
    rw [lp_s, fX7_letItemsOut_4]
    dsimp only
    rw [ec2, if_pos (by rw [nI_leI (by omega) (by omega)]; omega)]
    exact stop m2 o σ τ h (by omega) hno
  | succ d ih =>
    intro i m1 m2 o al σ τ h hid hm1 hm2 hsf
    obtain ⟨m1, rfl⟩ : ∃ m, m1 = m + 1 := ⟨m1 - 1, by omega⟩
    obtain ⟨hE, hI, hS, -⟩ := id h
    obtain ⟨⟨hM1, hM16, ec0, em0⟩, e1, -⟩ := id hE
    obtain ⟨hn, ec2, em3, ecm, -⟩ := id hI
    obtain ⟨ecs, ect, hokS, -⟩ := id hS
    have hno := sfl_nOut i (d + 1) al true hsf
    rw [show i + (d + 1) = n by omega] at hno
    have t2 : σ.1 17 = nI (cnt (τ.2.1 2) 2 n) := hokS.2.2.2.1.2
    have hc2 := cnt_le (τ.2.1 2) 2 n
    rw [lp_s, fX7_letItemsOut_4]
    dsimp only
    rw [ec2, if_neg (by rw [nI_leI (by omega) (by omega)]; omega), t2]
    by_cases hz : cnt (τ.2.1 2) 2 n = 0
    · rw [hz, if_pos (by decide)]
      refine stop m2 o σ τ h (by omega) ?_
      exact nOut_none n 0 true true (fun k _ hk e => by have := cnt_pos (n := n) (show k < n by omega) e; omega)
    · rw [if_neg (nI_nle (by omega) (by omega)), ← ec2, ← t2, bs (show fX4_stateOf (σ.2.1 3) (σ.2.1 4) (σ.2.1 5) (σ.2.2 2) (σ.1 2) (σ.1 3) (σ.1 16) (σ.1 17) (nI i) = some (τ.2.1 2 i) from by rw [ec2, ecs]; exact f4_stateOf hn (by omega))]
      -- the pure scan's next step
      have hstep : ∀ (al' : Bool), ¬ (τ.2.1 2 i = 2 ∧ (if od1 τ = true ∨ τ.2.1 1 i ≠ 0 then al else true) = true) → (al && pst (τ.2.1 2 i)) = al' → (pst (τ.2.1 2 i) || decide (τ.2.1 1 i = 0)) = true → sfl (od1 τ) (τ.2.1 2) (τ.2.1 1) (i + 1) = some (al', true) := by
        intro al' a1 a2 a3
        unfold sfl
        rw [hsf]
        show (if τ.2.1 2 i = 2 ∧ (if od1 τ = true ∨ τ.2.1 1 i ≠ 0 then al else true) = true then none else some (al && pst (τ.2.1 2 i), true && (pst (τ.2.1 2 i) || decide (τ.2.1 1 i = 0)))) = some (al', true)
        rw [if_neg a1, a2, a3]
        rfl
      have hpast : pst (τ.2.1 2 i) = true → ∃ o' σ' τ', fX7_letItemsOut_107 F (loopF (fX7_letItemsOut_4 F) m1) (σ, bI al, nI i) = some σ' ∧ loopF (fX8_goOn_191 F) m2 (τ, opN (nOut (od1 τ) (τ.2.1 2) (τ.2.1 1) n 0 true true)) = some τ' ∧ RelP K n M o' t σ' τ' ∧ nOut (od1 τ') (τ'.2.1 2) (τ'.2.1 1) n 0 true true = none ∧ cnt (τ'.2.1 2) 0 n = cnt (τ.2.1 2) 0 n ∧ cnt (τ'.2.1 2) 1 n = cnt (τ.2.1 2) 1 n ∧ (∀ k, k ≠ 7 → τ'.1 k = τ.1 k) ∧ τ'.2.1 0 = τ.2.1 0 := by
        intro hp
        rw [fX7_letItemsOut_107]
        dsimp only
        rw [nI_1]
        refine ih (i + 1) m1 m2 o al σ τ h (by omega) (by omega) (by omega) (hstep al (fun hc => ?_) (by rw [hp]; simp) (by rw [hp]; simp))
        rw [hc.1] at hp
        exact absurd hp (by decide)
      by_cases h3 : τ.2.1 2 i = 3
      · rw [if_pos h3]; exact hpast (by rw [h3]; rfl)
      · rw [if_neg h3]
        by_cases h4 : τ.2.1 2 i = 4
        · rw [if_pos h4]; exact hpast (by rw [h4]; rfl)
        · rw [if_neg h4]
          have hp : pst (τ.2.1 2 i) = false := by unfold pst; simp [h3, h4]
          -- the body, where the item isn't held
          have hbody : (τ.2.1 2 i = 2 → (if od1 τ = true ∨ τ.2.1 1 i ≠ 0 then al else true) = true) → (τ.2.1 2 i ≠ 2 → τ.2.1 1 i = 0) → ∃ o' σ' τ', fX7_letItemsOut_70 F (loopF (fX7_letItemsOut_4 F) m1) (σ, bI al, nI i, τ.2.1 2 i) = some σ' ∧ loopF (fX8_goOn_191 F) m2 (τ, opN (nOut (od1 τ) (τ.2.1 2) (τ.2.1 1) n 0 true true)) = some τ' ∧ RelP K n M o' t σ' τ' ∧ nOut (od1 τ') (τ'.2.1 2) (τ'.2.1 1) n 0 true true = none ∧ cnt (τ'.2.1 2) 0 n = cnt (τ.2.1 2) 0 n ∧ cnt (τ'.2.1 2) 1 n = cnt (τ.2.1 2) 1 n ∧ (∀ k, k ≠ 7 → τ'.1 k = τ.1 k) ∧ τ'.2.1 0 = τ.2.1 0 := by
            intro hcan hmk
            by_cases h2 : τ.2.1 2 i = 2
            · obtain ⟨σ1, τ1, g1, g2, g3, g4, g5, g6, g7, g8⟩ := ph3 hF h (by omega) h2
              obtain ⟨m2, rfl⟩ : ∃ m, m2 = m + 1 := ⟨m2 - 1, by omega⟩
              have hsome : nOut (od1 τ) (τ.2.1 2) (τ.2.1 1) n 0 true true = some i := by
                rw [hno]; unfold nOut; rw [if_pos ⟨h2, hcan h2⟩]
              have hod : od1 τ1 = od1 τ := by unfold od1; rw [g6 1 (by decide)]
              rw [h2, g1, hsome, lp_s, show opN (some i) = nI i from rfl, g2, nI_1]
              have hs1 : sfl (od1 τ1) (τ1.2.1 2) (τ1.2.1 1) (i + 1) = some (al, true) := by
                unfold sfl
                rw [hod, g5, g4, sfl_congr (s' := τ.2.1 2) i (fun k hk => upd_n (by omega)), hsf, upd_s]
                show (if (3 : Int32) = 2 ∧ (if od1 τ = true ∨ τ.2.1 1 i ≠ 0 then al else true) = true then none else some (al && pst 3, true && (pst 3 || decide (τ.2.1 1 i = 0)))) = some (al, true)
                rw [if_neg (fun hc => absurd hc.1 (by decide)), show pst 3 = true from rfl]
                simp
              obtain ⟨o', σ', τ', k1, k2, k3, k4, k5, k6, k7, k8⟩ := ih (i + 1) m1 m2 (o + 1) al σ1 τ1 g3 (by omega) (by omega) (by omega) hs1
              have hcu := fun w => cnt_upd (s := τ.2.1 2) (w := w) (x := 3) (show i < n by omega)
              have c0 := hcu 0
              have c1 := hcu 1
              rw [h2, if_neg (by decide), if_neg (by decide)] at c0 c1
              exact ⟨o', σ', τ', k1, k2, k3, k4, by rw [k5, g4]; omega, by rw [k6, g4]; omega, fun k hk => by rw [k7 k hk, g6 k hk], by rw [k8, g7]⟩
            · rw [fX7_letItemsOut_70]
              dsimp only
              rw [if_neg h2, fX7_letItemsOut_107]
              dsimp only
              rw [nI_1]
              exact ih (i + 1) m1 m2 o false σ τ h (by omega) (by omega) (by omega) (hstep false (fun hc => h2 hc.1) (by rw [hp]; simp) (by rw [hp]; simp [hmk h2]))
          have hmk0 : τ.2.1 2 i ≠ 2 → τ.2.1 1 i = 0 := fun h2 => Classical.byContradiction fun hc => by
            obtain ⟨a, ha5, ha⟩ := hokS.1 i (by omega)
            obtain ⟨b0, b1⟩ := hokS.2.1 i (by omega) hc
            have : a = 0 ∨ a = 1 ∨ a = 2 ∨ a = 3 ∨ a = 4 := by omega
            rcases this with r | r | r | r | r <;> subst r
            · exact b0 ha
            · exact b1 ha
            · exact h2 ha
            · exact h3 ha
            · exact h4 ha
          cases al with
          | true =>
            rw [if_neg (show ¬ bI true = 0 by decide)]
            exact hbody (fun _ => by split <;> rfl) hmk0
          | false =>
            rw [if_pos (show bI false = 0 from rfl), e1]
            by_cases hod : τ.1 1 = 0
            · rw [if_pos hod, ecm, bs (f0_isMark (show i < 300 by omega))]
              by_cases hm : τ.2.1 1 i = 0
              · rw [if_pos hm, if_pos rfl]
                refine hbody (fun _ => ?_) hmk0
                rw [if_neg]
                rintro (a | a)
                · rw [(od1_iff τ).mp hod] at a; cases a
                · exact a hm
              · rw [if_neg hm, if_neg (by decide)]
                refine stop m2 o σ τ h (by omega) ?_
                rw [hno]
                unfold nOut
                rw [if_neg, hp]
                · rw [show (true && (false || decide (τ.2.1 1 i = 0))) = false by simp [hm]]
                  exact nOut_ff _ _
                · rintro ⟨_, a⟩
                  rw [if_pos (Or.inr hm)] at a
                  cases a
            · rw [if_neg hod]
              refine stop m2 o σ τ h (by omega) ?_
              rw [hno]
              have : od1 τ = true := by unfold od1; simp [hod]
              rw [this]
              exact nOut_od _ _ _
end GOON2
section GOON3
variable {F K n M o t : Nat} {σ τ : St}
/-- nothing could go on -/
def Qt (n M : Nat) (τ : St) : Prop := quiet1 n M τ ∧ quiet2 τ ∧ nOut (od1 τ) (τ.2.1 2) (τ.2.1 1) n 0 true true = none
theorem goOn_all (hF : 301 < F) (h : RelP K n M o t σ τ) : ∃ o' σ' τ', fX7_goOn F σ = some σ' ∧ fX8_goOn F τ = some τ' ∧ RelP K n M o' t σ' τ' ∧ Qt n M τ' := by
  obtain ⟨hn, -⟩ := id h.2.1
  obtain ⟨σ1, τ1, a1, a2, a3, a4⟩ := ph1_all hF n 0 F F σ τ h (by omega) (by omega) (by omega) (fun k hk => by omega)
  obtain ⟨Q, q, eQ, eQ', hq, hinj⟩ := id a3.2.2.2.2.1
  have hQ1 : Q ≤ cnt (τ1.2.1 2) 1 n := inj_le n Q q (fun j hj => ⟨(hq j hj).2.2.1, (hq j hj).2.2.2⟩) hinj
  have := cnt_le (τ1.2.1 2) 1 n
  obtain ⟨σ2, τ2, b1, b2, b3, b4, b5⟩ := ph2_all hF Q F F σ1 τ1 a3 eQ' (by omega) (by omega) (by omega)
  obtain ⟨o', σ3, τ3, c1, c2, c3, c4, c5, c6, c7, c8⟩ := ph3_all hF n 0 F F o true σ2 τ2 b3 (by omega) (by omega) (by omega) rfl
  refine ⟨o', σ3, τ3, ?_, ?_, c3, ?_, ?_, c4⟩
  · rw [fX7_goOn, bs (show fX7_startWaitingRows F σ = some σ1 from a1)]
    rw [bs (show fX7_sendQueuedAsks F σ1 = some σ2 from b1)]
    rw [bs (show fX7_letItemsOut F σ2 = some σ3 from c1)]
  · rw [show fX8_goOn F τ = loopF (fX8_goOn_0 F) F τ from rfl, a2, b2, fX8_goOn_186]
    obtain ⟨hn2, -, em3, -⟩ := id b3.2.1
    rw [bs (f8_nextOut (by omega) hn2 em3 (od1_iff τ2))]
    exact c2
  · unfold quiet1 at a4 ⊢
    rw [c5, c6, b5]; exact a4
  · unfold quiet2 at b4 ⊢
    rw [c8, c7 5 (by decide), c7 4 (by decide)]; exact b4
/-- where nothing could go on, nothing goes on -/
theorem goOn_quiet (hF : 301 < F) (h : RelP K n M o t σ τ) (hq : Qt n M τ) : fX8_goOn F τ = some τ := by
  obtain ⟨m, rfl⟩ : ∃ m, F = m + 1 := ⟨F - 1, by omega⟩
  obtain ⟨hn2, -, em3, -⟩ := id h.2.1
  obtain ⟨h1, h2, h3⟩ := hq
  rw [show fX8_goOn (m + 1) τ = loopF (fX8_goOn_0 (m + 1)) (m + 1) τ from rfl, lp_s, m_exit1 hF h h1, lp_s, fX8_goOn_106]
  have h186 : fX8_goOn_186 (m + 1) τ = some τ := by
    rw [fX8_goOn_186, bs (f8_nextOut (by omega) hn2 em3 (od1_iff τ)), h3, lp_s, fX8_goOn_191]
    dsimp only
    rw [if_pos (by decide)]
  rcases h2 with q | q
  · rw [if_pos (show τ.2.1 0 (2 : Int32).toNatClampNeg ≤ τ.1 5 from q)]; exact h186
  · by_cases hc : τ.2.1 0 (2 : Int32).toNatClampNeg ≤ τ.1 5
    · rw [if_pos hc]; exact h186
    · rw [if_neg hc, q, if_pos (by decide)]; exact h186
/-- the class's going on, where nothing could go on -/
theorem goOn_still (hF : 301 < F) (h : RelP K n M o t σ τ) (hq : Qt n M τ) : ∃ o' σ', fX7_goOn F σ = some σ' ∧ RelP K n M o' t σ' τ := by
  obtain ⟨o', σ', τ', h1, h2, h3, h4⟩ := goOn_all hF h
  rw [goOn_quiet hF h hq] at h2
  cases h2
  exact ⟨o', σ', h1, h3⟩
end GOON3
