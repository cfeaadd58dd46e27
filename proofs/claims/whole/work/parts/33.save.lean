/-! save, restart -/
theorem cpy0_s {f g : Nat → Int32} {i : Nat} : upd (va_cpy f g 0 0 i) i (f i) = va_cpy f g 0 0 (i + 1) := by
  funext j
  unfold upd va_cpy
  by_cases h : j = i
  · subst h; rw [if_pos rfl, if_pos (by omega)]; congr 1; omega
  · rw [if_neg h]
    by_cases h2 : 0 ≤ j ∧ j < 0 + i
    · rw [if_pos h2, if_pos (by omega)]
    · rw [if_neg h2, if_neg (by omega)]
theorem cpy0_sL {f g : Nat → Int64} {i : Nat} : vp_updL (va_cpy f g 0 0 i) i (f i) = va_cpy f g 0 0 (i + 1) := by
  funext j
  unfold vp_updL va_cpy
  by_cases h : j = i
  · subst h; rw [if_pos rfl, if_pos (by omega)]; congr 1; omega
  · rw [if_neg h]
    by_cases h2 : 0 ≤ j ∧ j < 0 + i
    · rw [if_pos h2, if_pos (by omega)]
    · rw [if_neg h2, if_neg (by omega)]
theorem cpy0_in {α : Type} {f g : Nat → α} {i j : Nat} (h : j < i) : va_cpy f g 0 0 i j = f j := by
  unfold va_cpy; rw [if_pos (by omega)]; congr 1; omega
theorem cpy0_out {α : Type} {f g : Nat → α} {i j : Nat} (h : ¬ j < i) : va_cpy f g 0 0 i j = g j := by
  unfold va_cpy; rw [if_neg (by omega)]
theorem cpy0_0 {α : Type} {f g : Nat → α} : va_cpy f g 0 0 0 = g := by
  funext j; exact cpy0_out (by omega)
/-- how many are not out nor gone -/
def cl3 (s : Nat → Int32) : Nat → Nat
  | 0 => 0
  | n + 1 => cl3 s n + (if (3 : Int32) ≤ s n then 0 else 1)
theorem cl3_eq {s : Nat → Int32} : ∀ n, (∀ i, i < n → ∃ a, a < 5 ∧ s i = nI a) → cl3 s n = cnt s 0 n + cnt s 1 n + cnt s 2 n := by
  intro n
  induction n with
  | zero => intro _; rfl
  | succ n ih =>
    intro h
    simp only [cl3, cnt]
    rw [ih (fun i hi => h i (by omega))]
    obtain ⟨a, ha, e⟩ := h n (by omega)
    rw [e]
    have : a = 0 ∨ a = 1 ∨ a = 2 ∨ a = 3 ∨ a = 4 := by omega
    rcases this with r | r | r | r | r <;> subst r
    · rw [if_neg (by decide), if_pos (by decide), if_neg (by decide), if_neg (by decide)]; omega
    · rw [if_neg (by decide), if_neg (by decide), if_pos (by decide), if_neg (by decide)]; omega
    · rw [if_neg (by decide), if_neg (by decide), if_neg (by decide), if_pos (by decide)]; omega
    · rw [if_pos (by decide), if_neg (by decide), if_neg (by decide), if_neg (by decide)]; omega
    · rw [if_pos (by decide), if_neg (by decide), if_neg (by decide), if_neg (by decide)]; omega
section SAV
variable {F K n M o t : Nat} {σ τ : St}
/-- the reference's state in the midst of saving -/
def svP (τ : St) (i : Nat) (υ : St) : Prop := υ.1 = τ.1 ∧ (∀ k, k ≠ 15 → k ≠ 16 → k ≠ 17 → υ.2.1 k = τ.2.1 k) ∧ (∀ k, k ≠ 7 → υ.2.2 k = τ.2.2 k) ∧ υ.2.1 15 = va_cpy (τ.2.1 2) (τ.2.1 15) 0 0 i ∧ υ.2.1 16 = va_cpy (τ.2.1 3) (τ.2.1 16) 0 0 i ∧ υ.2.1 17 = va_cpy (τ.2.1 4) (τ.2.1 17) 0 0 i ∧ υ.2.2 7 = va_cpy (τ.2.2 2) (τ.2.2 7) 0 0 i
set_option maxHeartbeats 1000000 in
theorem save_loop (hn : n ≤ 300) (em3 : τ.1 3 = nI n) : ∀ (d i m : Nat) (υ : St), i + d = n → d < m → svP τ i υ → ∃ υ', loopF (fX8_save_4 F) m (υ, nI (cl3 (τ.2.1 2) i), nI i) = some (nI (cl3 (τ.2.1 2) n), sI (sI υ' 9 (nI n)) 10 (τ.1 7)) ∧ svP τ n υ' := by
  intro d
  induction d with
  | zero =>
    intro i m υ hid hm hs
    obtain ⟨m, rfl⟩ : ∃ m', m = m' + 1 := ⟨m - 1, by omega⟩
    have hin : i = n := by omega
    subst hin
    refine ⟨υ, ?_, hs⟩
    rw [lp_s, fX8_save_4]
    dsimp only
    rw [hs.1, em3, if_pos (by rw [nI_leI (by omega) (by omega)]; omega)]
  | succ d ih =>
    intro i m υ hid hm hs
    obtain ⟨m, rfl⟩ : ∃ m', m = m' + 1 := ⟨m - 1, by omega⟩
    obtain ⟨s1, s2, s3, s4, s5, s6, s7⟩ := hs
    rw [lp_s, fX8_save_4]
    dsimp only
    rw [s1, em3, if_neg (by rw [nI_leI (by omega) (by omega)]; omega), ixN (by omega) (by decide), ixN (by omega) (by decide), ixN (by omega) (by decide), ixN (by omega) (by decide), ixN (by omega) (by decide), ixN (by omega) (by decide), ixN (by omega) (by decide), ixN (by omega) (by decide), ixN (by omega) (by decide), nI_clamp (by omega)]
    rw [s2 2 (by decide) (by decide) (by decide), s2 3 (by decide) (by decide) (by decide), s2 4 (by decide) (by decide) (by decide), s3 2 (by decide), s4, s5, s6, s7, cpy0_s, cpy0_s, cpy0_s, cpy0_sL]
    have hs' : svP τ (i + 1) (sA (sL (sA (sA υ 15 (va_cpy (τ.2.1 2) (τ.2.1 15) 0 0 (i + 1))) 16 (va_cpy (τ.2.1 3) (τ.2.1 16) 0 0 (i + 1))) 7 (va_cpy (τ.2.2 2) (τ.2.2 7) 0 0 (i + 1))) 17 (va_cpy (τ.2.1 4) (τ.2.1 17) 0 0 (i + 1))) := by
      refine ⟨s1, fun k a b c => ?_, fun k a => ?_, rfl, rfl, rfl, rfl⟩
      · show va_up (va_up (va_up υ.2.1 15 _) 16 _) 17 _ k = _
        unfold va_up
        rw [if_neg c, if_neg b, if_neg a]; exact s2 k a b c
      · show va_up υ.2.2 7 _ k = _
        unfold va_up
        rw [if_neg a]; exact s3 k a
    obtain ⟨υ', g1, g2⟩ := ih (i + 1) m _ (by omega) (by omega) hs'
    refine ⟨υ', ?_, g2⟩
    rw [← g1]
    by_cases hc : (3 : Int32) ≤ τ.2.1 2 i
    · rw [if_pos hc, fX8_save_76]
      dsimp only
      rw [nI_1]
      simp only [cl3, if_pos hc]
      rw [show (0 : Int32) = nI 0 from rfl, nI_add]
    · rw [if_neg hc, fX8_save_76]
      dsimp only
      rw [nI_1, nI_1]
      simp only [cl3, if_neg hc]
theorem f4_copyItems {vs vr vt : Nat → Int32} {vv : Nat → Int64} {vi vo vw vz : Int32} {os orr ot : Nat → Int32} {ov : Nat → Int64} {oi oo ow oz : Int32} : fX4_copyItems vs vr vt vv vi vo vw vz os orr ot ov oi oo ow oz = some (va_cpy os vs 0 0 300, va_cpy orr vr 0 0 300, va_cpy ot vt 0 0 300, va_cpy ov vv 0 0 300, oo, ow, oz) := by
  unfold fX4_copyItems
  rw [show (0 : Int32) = nI 0 from rfl, show (300 : Int32) = nI 300 from rfl, cpg_ok (by omega) (by omega) (by decide) (by decide), cpg_ok (by omega) (by omega) (by decide) (by decide), cpg_ok (by omega) (by omega) (by decide) (by decide), cpg_ok (by omega) (by omega) (by decide) (by decide), nI_clamp (by omega), nI_clamp (by omega)]
theorem f4_copyFrom {vs vr vt : Nat → Int32} {vv : Nat → Int64} {vi vo vw vz : Int32} {os orr ot : Nat → Int32} {ov : Nat → Int64} {oi oo ow oz : Int32} : fX4_copyFrom vs vr vt vv vi vo vw vz os orr ot ov oi oo ow oz = some (va_cpy os vs 0 0 300, va_cpy orr vr 0 0 300, va_cpy ot vt 0 0 300, va_cpy ov vv 0 0 300, oi, oo, ow, oz) := by
  rw [fX4_copyFrom, bs f4_copyItems]
theorem cpy0_or {α : Type} {f g : Nat → α} {i j : Nat} {z : α} (h1 : f j = z) (h2 : g j = z) : va_cpy f g 0 0 i j = z := by
  by_cases h : j < i
  · rw [cpy0_in h, h1]
  · rw [cpy0_out h, h2]
set_option maxHeartbeats 1000000 in
/-- save -/
theorem op_save (hF : 301 < F) (h : Rel K σ τ) : ∃ r σ' τ', fX7_save F σ = some (r, σ') ∧ fX8_save F τ = some (r, τ') ∧ Rel (K + 1) σ' τ' := by
  obtain ⟨n, M, o, t, hP, hq⟩ := id h
  obtain ⟨hE, hI, hS, hO, hQ, hW, hD, hL0, hL1, hV, hK, hZ⟩ := id hP
  obtain ⟨hn, ec2, em3, ecm, eck, ecv, htail⟩ := id hI
  obtain ⟨ecs, ect, hokS, hokR, htl⟩ := id hS
  obtain ⟨c3, m7, eoi, eot, hokO⟩ := id hO
  obtain ⟨ns, os, z1, z2, z3, z4, z5, z6, z7, z8, z9, z10, z11⟩ := id hZ
  obtain ⟨υ, g1, s1, s2, s3, s4, s5, s6, s7⟩ := save_loop (F := F) hn em3 n 0 F τ (by omega) (by omega) ⟨rfl, fun _ _ _ _ => rfl, fun _ _ => rfl, cpy0_0.symm, cpy0_0.symm, cpy0_0.symm, cpy0_0.symm⟩
  have hok : okS n M (τ.2.1 1) (va_cpy (τ.2.1 2) (τ.2.1 15) 0 0 n) (σ.1 16, σ.1 17) := by
    obtain ⟨h1, h2, h3, h4, h5⟩ := hokS
    have hcc : ∀ w, cnt (va_cpy (τ.2.1 2) (τ.2.1 15) 0 0 n) w n = cnt (τ.2.1 2) w n := fun w => cnt_congr fun i hi => cpy0_in hi
    refine ⟨fun i hi => by rw [cpy0_in hi]; exact h1 i hi, fun i hi hm => by rw [cpy0_in hi]; exact h2 i hi hm, fun i j hi hj => by rw [cpy0_in hi, cpy0_in hj]; exact h3 i j hi hj, ⟨by rw [hcc]; exact h4.1, by rw [hcc]; exact h4.2⟩, by rw [hcc]; exact h5⟩
  have hP1 : RelP K n M o t (sI (sI (sI (sI (sL (sA (sA (sA σ 7 (va_cpy (τ.2.1 2) (σ.2.1 7) 0 0 300)) 8 (va_cpy (σ.2.1 4) (σ.2.1 8) 0 0 300)) 9 (va_cpy (τ.2.1 4) (σ.2.1 9) 0 0 300)) 3 (va_cpy (σ.2.2 2) (σ.2.2 3) 0 0 300)) 4 (nI n)) 5 (nI o)) 18 (σ.1 16)) 19 (σ.1 17)) (sI (sI υ 9 (nI n)) 10 (τ.1 7)) := by
    have i1 : ∀ k, k ≠ 9 → k ≠ 10 → (sI (sI υ 9 (nI n)) 10 (τ.1 7)).1 k = τ.1 k := fun k a b => by
      show va_up (va_up υ.1 9 _) 10 _ k = _
      unfold va_up
      rw [if_neg b, if_neg a, s1]
    have i2 : ∀ k, k ≠ 15 → k ≠ 16 → k ≠ 17 → (sI (sI υ 9 (nI n)) 10 (τ.1 7)).2.1 k = τ.2.1 k := s2
    have i3 : ∀ k, k ≠ 7 → (sI (sI υ 9 (nI n)) 10 (τ.1 7)).2.2 k = τ.2.2 k := s3
    unfold RelP
    rw [i1 0 (by decide) (by decide), i1 1 (by decide) (by decide), i1 2 (by decide) (by decide), i1 3 (by decide) (by decide), i1 4 (by decide) (by decide), i1 5 (by decide) (by decide), i1 6 (by decide) (by decide), i1 7 (by decide) (by decide), i1 8 (by decide) (by decide), i1 11 (by decide) (by decide)]
    rw [i2 0 (by decide) (by decide) (by decide), i2 1 (by decide) (by decide) (by decide), i2 2 (by decide) (by decide) (by decide), i2 3 (by decide) (by decide) (by decide), i2 4 (by decide) (by decide) (by decide), i2 5 (by decide) (by decide) (by decide), i2 6 (by decide) (by decide) (by decide), i2 7 (by decide) (by decide) (by decide), i2 8 (by decide) (by decide) (by decide), i2 9 (by decide) (by decide) (by decide), i2 10 (by decide) (by decide) (by decide), i2 11 (by decide) (by decide) (by decide), i2 12 (by decide) (by decide) (by decide), i2 13 (by decide) (by decide) (by decide), i2 14 (by decide) (by decide) (by decide)]
    rw [i3 0 (by decide), i3 1 (by decide), i3 2 (by decide), i3 3 (by decide), i3 4 (by decide), i3 5 (by decide), i3 6 (by decide)]
    refine ⟨hE, hI, hS, hO, hQ, hW, hD, hL0, hL1, hV, hK, n, o, Nat.le_refl _, Nat.le_refl _, rfl, rfl, rfl, m7, fun i hi => ?_, fun i hi => ?_, ?_, ?_, ?_⟩
    · show va_cpy (τ.2.1 2) (σ.2.1 7) 0 0 300 i = υ.2.1 15 i ∧ va_cpy (τ.2.1 4) (σ.2.1 9) 0 0 300 i = υ.2.1 17 i
      rw [s4, s6]
      exact ⟨(cpy0_in (by omega)).trans (cpy0_in hi).symm, (cpy0_in (by omega)).trans (cpy0_in hi).symm⟩
    · obtain ⟨⟨d1, -⟩, d2, d3⟩ := htl i hi
      obtain ⟨d4, d5, d6⟩ := z8 i (by omega)
      exact ⟨cpy0_or d2 d4, cpy0_or d3 d5, cpy0_or d1 d6⟩
    · show okS n M (τ.2.1 1) (υ.2.1 15) _
      rw [s4]; exact hok
    · show okR n (υ.2.1 15) (va_cpy (σ.2.1 4) (σ.2.1 8) 0 0 300) (υ.2.1 16) (va_cpy (σ.2.2 2) (σ.2.2 3) 0 0 300) (υ.2.2 7)
      rw [s4, s5, s7]
      intro i hi
      rw [cpy0_in hi, cpy0_in (show i < 300 by omega), cpy0_in hi, cpy0_in (show i < 300 by omega), cpy0_in hi]
      exact hokR i hi
    · show okO n o (υ.2.1 15) (τ.2.1 7)
      rw [s4]
      refine ⟨?_, fun k hk => ?_⟩
      · rw [cnt_congr (s' := τ.2.1 2) fun i hi => cpy0_in hi]; exact hokO.1
      · obtain ⟨i, a1, a2, a3⟩ := hokO.2 k hk
        exact ⟨i, a1, a2, by rw [cpy0_in a1]; exact a3⟩
  have hq1 : Qt n M (sI (sI υ 9 (nI n)) 10 (τ.1 7)) := by
    obtain ⟨q1, q2, q3⟩ := hq
    have j2 : υ.2.1 2 = τ.2.1 2 := s2 2 (by decide) (by decide) (by decide)
    have j1 : υ.2.1 1 = τ.2.1 1 := s2 1 (by decide) (by decide) (by decide)
    have j0 : υ.2.1 0 = τ.2.1 0 := s2 0 (by decide) (by decide) (by decide)
    refine ⟨?_, ?_, ?_⟩
    · show ¬ (cnt (υ.2.1 2) 1 n < M ∧ 0 < cnt (υ.2.1 2) 0 n)
      rw [j2]; exact q1
    · show υ.2.1 0 2 ≤ υ.1 5 ∨ υ.1 4 = nI 0
      rw [j0, s1]; exact q2
    · show nOut (decide (¬ υ.1 1 = 0)) (υ.2.1 2) (υ.2.1 1) n 0 true true = none
      rw [j2, j1, s1]; exact q3
  obtain ⟨o', σ', b1, b2⟩ := goOn_still hF hP1 hq1
  refine ⟨nI (cl3 (τ.2.1 2) n), σ', sI (sI υ 9 (nI n)) 10 (τ.1 7), ?_, g1, Rel_K ⟨n, M, o', t, b2, hq1⟩⟩
  rw [fX7_save, ec2, c3, ecs, ect]
  rw [bs f4_copyFrom]
  rw [bs (show fX7_goOn F _ = some σ' from b1)]
  obtain ⟨-, -, ⟨-, -, hok2, -⟩, -, -, ⟨w, ew, -⟩, -⟩ := b2
  have j2 : υ.2.1 2 = τ.2.1 2 := s2 2 (by decide) (by decide) (by decide)
  have t0 : σ'.1 16 = nI (cnt (υ.2.1 2) 0 n) := hok2.2.2.2.1.1
  have t1 : σ'.1 6 = nI (cnt (υ.2.1 2) 1 n) := ew
  have t2 : σ'.1 17 = nI (cnt (υ.2.1 2) 2 n) := hok2.2.2.2.1.2
  rw [t0, t1, t2, j2, nI_add, nI_add, cl3_eq n hokS.1]
end SAV
