/-! tick -/
section TCK
variable {F K n M o t : Nat} {σ τ : St}
theorem ov_merge (σ : St) (f f' : Nat → Int32) (v v' : Int32) : sI (sA (sI (sA σ 15 f) 8 v) 15 f') 8 v' = sI (sA σ 15 f') 8 v' := by
  unfold sI sA
  dsimp only
  rw [bx_uu, bx_uu]
/-- a row is overdue -/
def ovd (n : Nat) (τ : St) (x : Nat) : Prop := x < n ∧ τ.2.1 2 x = 1 ∧ ¬ inQ τ x ∧ ¬ τ.1 2 < τ.2.1 5 x
/-- a list of rows, by numbers -/
def ovL (f : Nat → Int32) (V : Nat) (ov : Nat → Nat) : Prop := (∀ j, j < V → f j = nI (ov j)) ∧ ∀ j k, j < k → k < V → ov j < ov k
set_option maxHeartbeats 1000000 in
theorem findOv_loop {w : Nat → Nat} (hF : 301 < F) (h : RelP K n M o t σ τ) (hw2 : ∀ j, j < cnt (τ.2.1 2) 1 n → σ.2.1 13 j = nI (w j) ∧ w j < n ∧ τ.2.1 2 (w j) = 1) (hw3 : ∀ j k, j < k → k < cnt (τ.2.1 2) 1 n → w j < w k) (ew : σ.1 6 = nI (cnt (τ.2.1 2) 1 n)) : ∀ (d p m V : Nat) (f : Nat → Int32) (ov : Nat → Nat), p + d = cnt (τ.2.1 2) 1 n → d < m → V ≤ p → ovL f V ov → (∀ x, (∃ j, j < V ∧ ov j = x) ↔ ((∃ j, j < p ∧ w j = x) ∧ ovd n τ x)) → ∃ V' f' ov', loopF (fX7_findOverdue_9 F) m (sI (sA σ 15 f) 8 (nI V), nI p) = some (sI (sA σ 15 f') 8 (nI V')) ∧ V' ≤ cnt (τ.2.1 2) 1 n ∧ ovL f' V' ov' ∧ ∀ x, (∃ j, j < V' ∧ ov' j = x) ↔ ((∃ j, j < cnt (τ.2.1 2) 1 n ∧ w j = x) ∧ ovd n τ x) := by
  obtain ⟨hE, hI, hS, hO, hQ, hW, hD, hL0, hL1, hV, hK, hZ⟩ := id h
  obtain ⟨⟨hM1, hM16, ec0, em0⟩, e1, ⟨ht, et, et'⟩, e13, e14, e15, es, hset⟩ := id hE
  obtain ⟨hn, ec2, em3, ecm, eck, ecv, htail⟩ := id hI
  obtain ⟨ecs, ect, hokS, hokR, htl⟩ := id hS
  obtain ⟨Q, q, eQ, eQ', hq, hinj⟩ := id hQ
  have hQ1 : Q ≤ cnt (τ.2.1 2) 1 n := inj_le n Q q (fun j hj => ⟨(hq j hj).2.2.1, (hq j hj).2.2.2⟩) hinj
  have hcm := hokS.2.2.2.2
  intro d
  induction d with
  | zero =>
    intro p m V f ov hpd hm hVp hov hch
    obtain ⟨m, rfl⟩ : ∃ m', m = m' + 1 := ⟨m - 1, by omega⟩
    refine ⟨V, f, ov, ?_, by omega, hov, fun x => by rw [hch x, show p = cnt (τ.2.1 2) 1 n by omega]⟩
    rw [lp_s, fX7_findOverdue_9]
    dsimp only
    rw [show (sI (sA σ 15 f) 8 (nI V)).1 6 = nI (cnt (τ.2.1 2) 1 n) from ew, if_pos (by rw [nI_leI (by omega) (by omega)]; omega)]
  | succ d ih =>
    intro p m V f ov hpd hm hVp hov hch
    obtain ⟨m, rfl⟩ : ∃ m', m = m' + 1 := ⟨m - 1, by omega⟩
    obtain ⟨b1, b2, b3⟩ := hw2 p (by omega)
    rw [lp_s, fX7_findOverdue_9]
    dsimp only
    rw [show (sI (sA σ 15 f) 8 (nI V)).1 6 = nI (cnt (τ.2.1 2) 1 n) from ew, if_neg (by rw [nI_leI (by omega) (by omega)]; omega)]
    rw [bs (show fX5_at ((sI (sA σ 15 f) 8 (nI V)).2.1 13) (nI (cnt (τ.2.1 2) 1 n)) (nI p) = some (nI (w p)) from by rw [← b1]; exact f5_at (by omega) (by omega))]
    rw [bs (show fX0_dueOf ((sI (sA σ 15 f) 8 (nI V)).2.2 0) ((sI (sA σ 15 f) 8 (nI V)).2.2 1) ((sI (sA σ 15 f) 8 (nI V)).2.1 1) ((sI (sA σ 15 f) 8 (nI V)).2.1 2) (nI (w p)) = some (τ.2.1 5 (w p)) from by rw [← hD]; exact f0_dueOf (by omega))]
    rw [show (sI (sA σ 15 f) 8 (nI V)).1 12 = τ.1 2 from et.trans et'.symm]
    -- the rows up to p + 1
    have hsucc : ∀ x, (∃ j, j < p + 1 ∧ w j = x) ↔ ((∃ j, j < p ∧ w j = x) ∨ w p = x) := by
      intro x
      constructor
      · rintro ⟨j, hj, e⟩
        by_cases hjp : j = p
        · right; rw [← hjp]; exact e
        · exact Or.inl ⟨j, by omega, e⟩
      · rintro (⟨j, hj, e⟩ | e)
        · exact ⟨j, by omega, e⟩
        · exact ⟨p, by omega, e⟩
    have skip : ¬ ovd n τ (w p) → ∃ V' f' ov', fX7_findOverdue_64 F (loopF (fX7_findOverdue_9 F) m) (sI (sA σ 15 f) 8 (nI V), nI p) = some (sI (sA σ 15 f') 8 (nI V')) ∧ V' ≤ cnt (τ.2.1 2) 1 n ∧ ovL f' V' ov' ∧ ∀ x, (∃ j, j < V' ∧ ov' j = x) ↔ ((∃ j, j < cnt (τ.2.1 2) 1 n ∧ w j = x) ∧ ovd n τ x) := by
      intro hno
      rw [fX7_findOverdue_64]
      dsimp only
      rw [nI_1]
      refine ih (p + 1) m V f ov (by omega) (by omega) (by omega) hov (fun x => ?_)
      rw [hch x, hsucc x]
      constructor
      · rintro ⟨a1, a2⟩; exact ⟨Or.inl a1, a2⟩
      · rintro ⟨a1 | a1, a2⟩
        · exact ⟨a1, a2⟩
        · rw [← a1] at a2; exact absurd a2 hno
    by_cases hdue : τ.1 2 < τ.2.1 5 (w p)
    · rw [if_pos hdue]
      exact skip (fun hc => hc.2.2.2 hdue)
    · rw [if_neg hdue, show (sI (sA σ 15 f) 8 (nI V)).1 7 = nI Q from eQ, show (sI (sA σ 15 f) 8 (nI V)).2.1 14 = σ.2.1 14 from rfl]
      by_cases hin : ∃ j, j < Q ∧ q j = w p
      · obtain ⟨j, hj, hqj⟩ := hin
        have hju : ∀ k, k < Q → k ≠ j → q k ≠ w p := fun k hk hkj e => hkj (hinj k j hk hj (e.trans hqj.symm))
        rw [bs (f5_hit (by omega) (by omega) hj (by rw [(hq j hj).1, hqj]) (fun k hk e => hju k (by omega) (by omega) ((nI_eq (by have := (hq k (by omega)).2.2.1; omega) (by omega)).mp ((hq k (by omega)).1.symm.trans e))))]
        rw [if_neg (nI_ne_m1 (by omega))]
        exact skip (fun hc => hc.2.2.1 ⟨Q, j, by omega, eQ', hj, by rw [(hq j hj).2.1, hqj]⟩)
      · obtain ⟨hcq, hmq⟩ := q_ne hq hn b2 (fun k hk e => hin ⟨k, hk, e⟩)
        have hnq : ¬ inQ τ (w p) := by
          rw [inQ_iff (Q := Q) (by omega) eQ']
          rintro ⟨k, hk, e⟩
          exact hmq k hk e
        rw [bs (f5_miss (by omega) (by omega) hcq), if_pos rfl]
        rw [bs (show fX5_append ((sI (sA σ 15 f) 8 (nI V)).2.1 15) ((sI (sA σ 15 f) 8 (nI V)).1 8) (nI (w p)) = some (upd f V (nI (w p)), nI (V + 1)) from f5_append (by omega)), ov_merge, fX7_findOverdue_64]
        dsimp only
        rw [nI_1]
        refine ih (p + 1) m (V + 1) _ (fun j => if j < V then ov j else w p) (by omega) (by omega) (by omega) ⟨fun j hj => ?_, fun j k hjk hk => ?_⟩ (fun x => ?_)
        · dsimp only
          by_cases hjV : j < V
          · rw [if_pos hjV, upd_n (by omega)]; exact hov.1 j hjV
          · rw [if_neg hjV, show j = V by omega, upd_s]
        · dsimp only
          rw [if_pos (show j < V by omega)]
          by_cases hkV : k < V
          · rw [if_pos hkV]; exact hov.2 j k hjk hkV
          · rw [if_neg hkV]
            obtain ⟨⟨j', hj', e'⟩, -⟩ := (hch (ov j)).mp ⟨j, by omega, rfl⟩
            rw [← e']; exact hw3 j' p hj' (by omega)
        · rw [hsucc x]
          constructor
          · rintro ⟨j, hj, e⟩
            try dsimp only at e
            by_cases hjV : j < V
            · rw [if_pos hjV] at e
              obtain ⟨a1, a2⟩ := (hch x).mp ⟨j, hjV, e⟩
              exact ⟨Or.inl a1, a2⟩
            · rw [if_neg hjV] at e
              exact ⟨Or.inr e, by rw [← e]; exact ⟨b2, b3, hnq, hdue⟩⟩
          · rintro ⟨a1 | a1, a2⟩
            · obtain ⟨j, hj, e⟩ := (hch x).mpr ⟨a1, a2⟩
              exact ⟨j, by omega, by first | (dsimp only; rw [if_pos hj]; exact e) | (rw [if_pos hj]; exact e)⟩
            · exact ⟨V, by omega, by first | (dsimp only; rw [if_neg (Nat.lt_irrefl _)]; exact a1) | (rw [if_neg (Nat.lt_irrefl _)]; exact a1)⟩
theorem findOv (hF : 301 < F) (h : RelP K n M o t σ τ) : ∃ V f ov, fX7_findOverdue F σ = some (sI (sA σ 15 f) 8 (nI V)) ∧ V ≤ 16 ∧ ovL f V ov ∧ ∀ x, (∃ j, j < V ∧ ov j = x) ↔ ovd n τ x := by
  obtain ⟨hE, hI, hS, hO, hQ, hW, -⟩ := id h
  obtain ⟨⟨hM1, hM16, -⟩, -⟩ := id hE
  obtain ⟨-, -, hokS, -⟩ := id hS
  have hcm := hokS.2.2.2.2
  obtain ⟨w, ew, hw2, hw3, hw4⟩ := id hW
  obtain ⟨V, f, ov, a1, a2, a3, a4⟩ := findOv_loop hF h hw2 hw3 ew (cnt (τ.2.1 2) 1 n) 0 F 0 (σ.2.1 15) (fun _ => 0) (by omega) (by omega) (by omega) ⟨fun j hj => by omega, fun j k _ hk => by omega⟩ (fun x => ⟨fun ⟨j, hj, _⟩ => by omega, fun ⟨⟨j, hj, _⟩, _⟩ => by omega⟩)
  rw [sA_id] at a1
  refine ⟨V, f, ov, ?_, by omega, a3, fun x => ?_⟩
  · rw [fX7_findOverdue, bs (show fX5_clear (σ.2.1 15) (σ.1 8) = some 0 from rfl)]
    exact a1
  · rw [a4 x]
    constructor
    · rintro ⟨_, b⟩; exact b
    · intro b
      exact ⟨hw4 x b.1 b.2.1, b⟩
/-- the end of the class's loop over those that are overdue -/
def endT (F V : Nat) (σ : St) : Option St := if 0 < V then fX7_passTick_73 F σ else (if σ.1 7 ≤ 0 then some σ else fX7_passTick_73 F σ)
set_option maxHeartbeats 1000000 in
theorem tick_sim {V : Nat} {f : Nat → Int32} {ov : Nat → Nat} (hF : 301 < F) (hV16 : V ≤ 16) (hov : ovL f V ov) (hovn : ∀ j, j < V → ov j < n) : ∀ (d i k m1 m2 : Nat) (σ τ : St), RelP K n M o t σ τ → σ.2.1 15 = f → σ.1 8 = nI V → i + d = n → d < m2 → V - k < m1 → k ≤ V → (∀ j, k ≤ j → j < V → i ≤ ov j) → (∀ x, i ≤ x → ((∃ j, k ≤ j ∧ j < V ∧ ov j = x) ↔ ovd n τ x)) → ∃ σ' τ', loopF (fX7_passTick_21 F) m1 (σ, nI k) = endT F V σ' ∧ (∀ k26 p q, loopF (fX8_tick_48 F k26) m2 (τ, p, q, nI i) = (fX8_goOn F τ').bind (fun u => k26 (u, p, q + 1))) ∧ RelP K n M o t σ' τ' ∧ (V = k → τ' = τ ∧ σ' = σ) := by
  intro d
  induction d with
  | zero =>
    intro i k m1 m2 σ τ h e15 e8 hid hm2 hm1 hkV hlo hch
    obtain ⟨m1, rfl⟩ : ∃ m', m1 = m' + 1 := ⟨m1 - 1, by omega⟩
    obtain ⟨m2, rfl⟩ : ∃ m', m2 = m' + 1 := ⟨m2 - 1, by omega⟩
    obtain ⟨hE, hI, -⟩ := id h
    obtain ⟨hn, ec2, em3, -⟩ := id hI
    have hk : k = V := by
      rcases Nat.lt_or_ge k V with q | q
      · have := hlo k (Nat.le_refl _) q; have := hovn k q; omega
      · omega
    refine ⟨σ, τ, ?_, fun k26 p q => ?_, h, fun _ => ⟨rfl, rfl⟩⟩
    · rw [lp_s, fX7_passTick_21]
      dsimp only
      rw [e8, hk, if_pos (by rw [nI_leI (by omega) (by omega)]; omega)]
      unfold endT
      by_cases hv : 0 < V
      · rw [if_pos hv, if_pos (show 0 < nI V from (nI_ltI (a := 0) (by omega) (by omega)).mpr hv)]
      · rw [if_neg hv, if_neg (show ¬ 0 < nI V from fun e => hv ((nI_ltI (a := 0) (by omega) (by omega)).mp e))]
    · rw [lp_s, fX8_tick_48]
      dsimp only
      rw [em3, if_pos (by rw [nI_leI (by omega) (by omega)]; omega)]
  | succ d ih =>
    intro i k m1 m2 σ τ h e15 e8 hid hm2 hm1 hkV hlo hch
    obtain ⟨m2, rfl⟩ : ∃ m', m2 = m' + 1 := ⟨m2 - 1, by omega⟩
    obtain ⟨hE, hI, hS, hO, hQ, hW, hD, hL0, hL1, hV', hK, hZ⟩ := id h
    obtain ⟨⟨hM1, hM16, ec0, em0⟩, e1, ⟨ht, et, et'⟩, e13, e14, e15', es, hset⟩ := id hE
    obtain ⟨hn, ec2, em3, ecm, eck, ecv, htail⟩ := id hI
    obtain ⟨ecs, ect, hokS, hokR, htl⟩ := id hS
    obtain ⟨Q, q, eQ, eQ', hq, hinj⟩ := id hQ
    have hQ1 : Q ≤ cnt (τ.2.1 2) 1 n := inj_le n Q q (fun j hj => ⟨(hq j hj).2.2.1, (hq j hj).2.2.2⟩) hinj
    have hcm := hokS.2.2.2.2
    by_cases hx : ovd n τ i
    · -- row i is overdue: both try it again
      obtain ⟨j, hj1, hj2, hj3⟩ := (hch i (Nat.le_refl _)).mpr hx
      have hjk : j = k := by
        rcases Nat.lt_or_ge k j with z | z
        · have := hov.2 k j z hj2; have := hlo k (Nat.le_refl _) (by omega); omega
        · omega
      subst hjk
      obtain ⟨m1, rfl⟩ : ∃ m', m1 = m' + 1 := ⟨m1 - 1, by omega⟩
      obtain ⟨b, σt, τt, t1, t2, t3, t4⟩ := pTry hF h hx.1 hx.2.1 hx.2.2.1 3 0
      obtain ⟨s1, s2, s3, s4, s5, s6, s7⟩ := t4
      have hovd : ∀ x, i + 1 ≤ x → (ovd n τt x ↔ ovd n τ x) := by
        intro x hxi
        by_cases hxn : x < n
        · unfold ovd
          rw [s1 x (by omega), s2 x (by omega) (by omega), s3 2 (by decide), s4 5 (by decide) (by decide) (by decide) (by decide)]
        · exact ⟨fun a => absurd a.1 hxn, fun a => absurd a.1 hxn⟩
      obtain ⟨σ', τ', g1, g2, g3, g4⟩ := ih (i + 1) (j + 1) m1 m2 σt τt t3 (by rw [s6, e15]) (by rw [s7, e8]) (by omega) (by omega) (by omega) (by omega)
        (fun j' a1 a2 => by have := hov.2 j j' (by omega) a2; omega)
        (fun x hxi => by
          rw [hovd x hxi, ← hch x (by omega)]
          constructor
          · rintro ⟨j', a1, a2, a3⟩; exact ⟨j', by omega, a2, a3⟩
          · rintro ⟨j', a1, a2, a3⟩
            refine ⟨j', ?_, a2, a3⟩
            rcases Nat.eq_or_lt_of_le a1 with z | z
            · rw [← z, hj3] at a3; omega
            · omega)
      refine ⟨σ', τ', ?_, fun k26 p q' => ?_, g3, fun hVk => by omega⟩
      · rw [lp_s, fX7_passTick_21]
        dsimp only
        rw [e8, if_neg (by rw [nI_leI (by omega) (by omega)]; omega), bs (show fX5_at (σ.2.1 15) (nI V) (nI j) = some (nI i) from by rw [← hj3, ← hov.1 j hj2, e15]; exact f5_at hV16 hj2), bs t1]
        dsimp only
        rw [nI_1]
        exact g1
      · have hnm : ∀ k, k < Q → τ.2.1 6 k ≠ nI i := fun k hk e => hx.2.2.1 ⟨Q, k, by omega, eQ', hk, e⟩
        rw [lp_s, fX8_tick_48]
        dsimp only
        rw [em3, if_neg (by rw [nI_leI (by omega) (by omega)]; omega), ixN (by omega) (by decide), nI_clamp (by omega), if_pos hx.2.1, bs (f8_miss hF (by omega) eQ' hnm)]
        rw [if_neg (by decide), ixN (by omega) (by decide), if_neg hx.2.2.2]
        have hg := g2 k26 p q'
        rcases t2 with ⟨_, t5⟩ | ⟨_, t5, t6⟩
        · rw [bs t5]
          dsimp only
          rw [if_neg (by decide), fX8_tick_102]
          dsimp only
          rw [nI_1]; exact hg
        · rw [bs t5]
          dsimp only
          rw [if_pos rfl, bs t6, fX8_tick_102]
          dsimp only
          rw [nI_1]; exact hg
    · -- not: the reference passes over it
      obtain ⟨σ', τ', g1, g2, g3, g4⟩ := ih (i + 1) k m1 m2 σ τ h e15 e8 (by omega) (by omega) hm1 hkV
        (fun j' a1 a2 => by
          have h1 := hlo j' a1 a2
          have h2 : ov j' ≠ i := fun e => hx ((hch i (Nat.le_refl _)).mp ⟨j', a1, a2, e⟩)
          omega)
        (fun x hxi => hch x (by omega))
      refine ⟨σ', τ', g1, fun k26 p q' => ?_, g3, g4⟩
      have hg := g2 k26 p q'
      have hskip : fX8_tick_102 F k26 (loopF (fX8_tick_48 F k26) m2) (τ, p, q', nI i) = (fX8_goOn F τ').bind (fun u => k26 (u, p, q' + 1)) := by
        rw [fX8_tick_102]
        dsimp only
        rw [nI_1]; exact hg
      rw [lp_s, fX8_tick_48]
      dsimp only
      rw [em3, if_neg (by rw [nI_leI (by omega) (by omega)]; omega), ixN (by omega) (by decide), nI_clamp (by omega)]
      by_cases c1 : τ.2.1 2 i = 1
      · rw [if_pos c1]
        by_cases hin : ∃ j, j < Q ∧ q j = i
        · obtain ⟨j, hj, hqj⟩ := hin
          have hju : ∀ k, k < Q → k ≠ j → q k ≠ i := fun k hk hkj e => hkj (hinj k j hk hj (e.trans hqj.symm))
          rw [bs (f8_hit hF (by omega) eQ' hj (by rw [(hq j hj).2.1, hqj]) (fun k a b e => hju k b (by omega) ((nI_eq (by have := (hq k b).2.2.1; omega) (by omega)).mp ((hq k b).2.1.symm.trans e))))]
          rw [if_pos (nI_pos' (by omega))]
          exact hskip
        · obtain ⟨hcq, hmq⟩ := q_ne hq hn (show i < n by omega) (fun k hk e => hin ⟨k, hk, e⟩)
          have hnq : ¬ inQ τ i := by
            rw [inQ_iff (Q := Q) (by omega) eQ']
            rintro ⟨k, hk, e⟩
            exact hmq k hk e
          have c3 : τ.1 2 < τ.2.1 5 i := Classical.byContradiction fun hc => hx ⟨by omega, c1, hnq, hc⟩
          rw [bs (f8_miss hF (by omega) eQ' hmq), if_neg (by decide), ixN (by omega) (by decide), if_pos c3]
          exact hskip
      · rw [if_neg c1]; exact hskip
set_option maxHeartbeats 1000000 in
/-- one tick -/
theorem pass (hF : 301 < F) (ht1 : t + 1 ≤ 1000000) (h : RelP K n M o t σ τ) (hq : Qt n M τ) : ∃ o' σ' τ', fX7_passTick F σ = some σ' ∧ (∀ k26 p q, loopF (fX8_tick_48 F k26) F (sI (sI τ 2 (τ.1 2 + 1)) 5 0, p, q, 0) = k26 (τ', p, q + 1)) ∧ RelP K n M o' (t + 1) σ' τ' ∧ Qt n M τ' := by
  obtain ⟨hE, hI, hS, hO, hQ, hW, hD, hL0, hL1, hV, hK, hZ⟩ := id h
  obtain ⟨⟨hM1, hM16, ec0, em0⟩, e1, ⟨ht, et, et'⟩, e13, e14, e15, es, hset⟩ := id hE
  obtain ⟨hn, ec2, em3, ecm, eck, ecv, htail⟩ := id hI
  have hP0 : RelP K n M o (t + 1) (sI (sI σ 12 (nI (t + 1))) 13 0) (sI (sI τ 2 (nI (t + 1))) 5 0) :=
    ⟨⟨⟨hM1, hM16, ec0, em0⟩, e1, ⟨ht1, rfl, rfl⟩, rfl, e14, e15, es, hset⟩, hI, hS, hO, hQ, hW, hD, hL0, hL1, hV, hK, hZ⟩
  obtain ⟨V, f, ov, a1, a2, a3, a4⟩ := findOv hF hP0
  have hP1 : RelP K n M o (t + 1) (sI (sA (sI (sI σ 12 (nI (t + 1))) 13 0) 15 f) 8 (nI V)) (sI (sI τ 2 (nI (t + 1))) 5 0) := hP0
  obtain ⟨σ', τ', g1, g2, g3, g4⟩ := tick_sim hF a2 a3 (fun j hj => ((a4 (ov j)).mp ⟨j, hj, rfl⟩).1) n 0 0 F F _ _ hP1 rfl rfl (by omega) (by omega) (by omega) (by omega) (fun j _ _ => Nat.zero_le _) (fun x _ => by
    rw [← a4 x]
    constructor
    · rintro ⟨j, _, b1, b2⟩; exact ⟨j, b1, b2⟩
    · rintro ⟨j, b1, b2⟩; exact ⟨j, Nat.zero_le _, b1, b2⟩)
  have hcl : fX7_passTick F σ = endT F V σ' := by
    rw [fX7_passTick, et, nI_1, bs a1]
    exact g1
  have hml : ∀ k26 p q, loopF (fX8_tick_48 F k26) F (sI (sI τ 2 (τ.1 2 + 1)) 5 0, p, q, 0) = (fX8_goOn F τ').bind (fun u => k26 (u, p, q + 1)) := by
    intro k26 p q
    rw [et', nI_1]
    exact g2 k26 p q
  have hgo : ∃ o' σ2 τ2, fX7_passTick_73 F σ' = some σ2 ∧ fX8_goOn F τ' = some τ2 ∧ RelP K n M o' (t + 1) σ2 τ2 ∧ Qt n M τ2 := by
    obtain ⟨o', σ2, τ2, b1, b2, b3, b4⟩ := goOn_all hF g3
    exact ⟨o', σ2, τ2, by rw [fX7_passTick_73, bs b1], b2, b3, b4⟩
  unfold endT at hcl
  by_cases hv : 0 < V
  · obtain ⟨o', σ2, τ2, b1, b2, b3, b4⟩ := hgo
    rw [if_pos hv] at hcl
    exact ⟨o', σ2, τ2, by rw [hcl, b1], fun k26 p q => by rw [hml, bs b2], b3, b4⟩
  · rw [if_neg hv] at hcl
    by_cases hz : σ'.1 7 ≤ 0
    · rw [if_pos hz] at hcl
      obtain ⟨eτ, eσ⟩ := g4 (by omega)
      have hz' : σ.1 7 ≤ 0 := by
        rw [eσ] at hz
        exact hz
      obtain ⟨Q, q, eQ, eQ', hqq, hinj⟩ := id hQ
      have hQ1 : Q ≤ cnt (τ.2.1 2) 1 n := inj_le n Q q (fun j hj => ⟨(hqq j hj).2.2.1, (hqq j hj).2.2.2⟩) hinj
      have := cnt_le (τ.2.1 2) 1 n
      have hQ0 : Q = 0 := by
        rw [eQ] at hz'
        have := (nI_leI (b := 0) (by omega) (by omega)).mp hz'
        omega
      have hq1 : Qt n M τ' := by
        rw [eτ]
        obtain ⟨q1, q2, q3⟩ := hq
        exact ⟨q1, Or.inr (show τ.1 4 = nI 0 by rw [eQ', hQ0]), q3⟩
      exact ⟨o, σ', τ', hcl, fun k26 p q => by rw [hml, bs (goOn_quiet hF g3 hq1)], g3, hq1⟩
    · rw [if_neg hz] at hcl
      obtain ⟨o', σ2, τ2, b1, b2, b3, b4⟩ := hgo
      exact ⟨o', σ2, τ2, by rw [hcl, b1], fun k26 p q => by rw [hml, bs b2], b3, b4⟩
theorem tick_loop (hF : 301 < F) {N : Nat} (hN : N ≤ 1000) : ∀ (d q m1 m2 o t : Nat) (σ τ : St), q + d = N → d < m1 → d < m2 → t + d ≤ 1000000 → RelP K n M o t σ τ → Qt n M τ → ∃ r o' t' σ' τ', loopF (fX7_tick_26 F) m1 (σ, nI N, nI q) = some (r, σ') ∧ loopF (fX8_tick_26 F) m2 (τ, nI N, nI q) = some (r, τ') ∧ RelP K n M o' t' σ' τ' ∧ Qt n M τ' := by
  intro d
  induction d with
  | zero =>
    intro q m1 m2 o t σ τ hqd hm1 hm2 htd h hq
    obtain ⟨m1, rfl⟩ : ∃ m', m1 = m' + 1 := ⟨m1 - 1, by omega⟩
    obtain ⟨m2, rfl⟩ : ∃ m', m2 = m' + 1 := ⟨m2 - 1, by omega⟩
    obtain ⟨-, -, ⟨ht, et, et'⟩, -⟩ := id h.1
    refine ⟨nI t, o, t, σ, τ, ?_, ?_, h, hq⟩
    · rw [lp_s, fX7_tick_26]
      dsimp only
      rw [if_pos (by rw [nI_leI (by omega) (by omega)]; omega), et]
    · rw [lp_s, fX8_tick_26]
      dsimp only
      rw [if_pos (by rw [nI_leI (by omega) (by omega)]; omega), et']
  | succ d ih =>
    intro q m1 m2 o t σ τ hqd hm1 hm2 htd h hq
    obtain ⟨m1, rfl⟩ : ∃ m', m1 = m' + 1 := ⟨m1 - 1, by omega⟩
    obtain ⟨m2, rfl⟩ : ∃ m', m2 = m' + 1 := ⟨m2 - 1, by omega⟩
    obtain ⟨o1, σ1, τ1, b1, b2, b3, b4⟩ := pass hF (by omega) h hq
    obtain ⟨r, o', t', σ', τ', c1, c2, c3, c4⟩ := ih (q + 1) m1 m2 o1 (t + 1) σ1 τ1 (by omega) (by omega) (by omega) (by omega) b3 b4
    refine ⟨r, o', t', σ', τ', ?_, ?_, c3, c4⟩
    · rw [lp_s, fX7_tick_26]
      dsimp only
      rw [if_neg (by rw [nI_leI (by omega) (by omega)]; omega), bs b1, nI_1]
      exact c1
    · rw [lp_s, fX8_tick_26]
      dsimp only
      rw [if_neg (by rw [nI_leI (by omega) (by omega)]; omega), b2, nI_1]
      exact c2
/-- tick -/
theorem op_tick (hF : 1001 < F) (h : Rel K σ τ) (p1 : Int32) : ∃ r σ' τ', fX7_tick F σ p1 = some (r, σ') ∧ fX8_tick F τ p1 = some (r, τ') ∧ Rel (K + 1) σ' τ' := by
  obtain ⟨n, M, o, t, hP, hq⟩ := id h
  obtain ⟨-, -, ⟨ht, et, et'⟩, -⟩ := id hP.1
  by_cases h0 : p1 < 0
  · exact ⟨-1, σ, τ, by rw [fX7_tick, if_pos h0], by rw [fX8_tick, if_pos h0], Rel_K h⟩
  · by_cases h1 : 1000 < p1
    · exact ⟨-1, σ, τ, by rw [fX7_tick, if_neg h0, if_pos h1], by rw [fX8_tick, if_neg h0, if_pos h1], Rel_K h⟩
    · obtain ⟨N, hN, rfl⟩ := nI_of2 (M := 1000) (n := 1000) rfl h0 (Int32.not_lt.mp h1)
      by_cases h2 : σ.1 12 + nI N ≤ 1000000
      · have hb : t + N ≤ 1000000 := by
          rw [et, nI_add] at h2
          exact (nI_leI (b := 1000000) (by omega) (by omega)).mp h2
        obtain ⟨r, o', t', σ', τ', c1, c2, c3, c4⟩ := tick_loop (F := F) (by omega) hN N 0 F F o t σ τ (by omega) (by omega) (by omega) hb hP hq
        refine ⟨r, σ', τ', ?_, ?_, Rel_K ⟨n, M, o', t', c3, c4⟩⟩
        · rw [fX7_tick, if_neg h0, if_neg h1, if_pos h2]; exact c1
        · rw [fX8_tick, if_neg h0, if_neg h1, if_pos (by rw [et', ← et]; exact h2)]; exact c2
      · refine ⟨-1, σ, τ, ?_, ?_, Rel_K h⟩
        · rw [fX7_tick, if_neg h0, if_neg h1, if_neg h2]
        · rw [fX8_tick, if_neg h0, if_neg h1, if_neg (by rw [et', ← et]; exact h2)]
end TCK
