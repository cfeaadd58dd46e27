section ARR
variable {F K n M o i t : Nat} {σ τ : St}
theorem kpl_ex {kk : Nat → Int64} {ke : Nat → Int32} {z : Nat} {x : Int64} (hz : z ≤ 8) : ∃ p z', kpl kk ke z x p z' := by
  by_cases hx : ∃ j, j < z ∧ kk j = x
  · obtain ⟨j, h1, h2⟩ := hx
    exact ⟨j, z, Or.inl ⟨h1, h2, rfl⟩⟩
  · have hm : ∀ k, k < z → kk k ≠ x := fun k hk e => hx ⟨k, hk, e⟩
    by_cases h8 : z < 8
    · exact ⟨z, z + 1, Or.inr ⟨hm, Or.inl ⟨h8, rfl, rfl⟩⟩⟩
    · exact ⟨ftg ke kk 7 0 1, 8, Or.inr ⟨hm, Or.inr ⟨by omega, rfl, rfl⟩⟩⟩
theorem kpl_d {kk : Nat → Int64} {ke : Nat → Int32} {z p z' : Nat} {x : Int64} (hz : z ≤ 8) (hd : ∀ i k, i < z → k < z → kk i = kk k → i = k) (hp : kpl kk ke z x p z') : z' ≤ 8 ∧ ∀ i k, i < z' → k < z' → vp_updL kk p x i = vp_updL kk p x k → i = k := by
  rcases hp with ⟨h1, h2, h3⟩ | ⟨hm, h⟩
  · subst h3
    refine ⟨hz, fun i k hi hk e => ?_⟩
    rw [updL_id h2] at e
    exact hd i k hi hk e
  · have key : ∀ m, (∀ j, j < m → j ≠ p → j < z) → ∀ i k, i < m → k < m → vp_updL kk p x i = vp_updL kk p x k → i = k := by
      intro m hmz i k hi hk e
      by_cases a1 : i = p <;> by_cases a2 : k = p
      · omega
      · rw [a1, updL_s, updL_n a2] at e; exact absurd e.symm (hm k (hmz k hk a2))
      · rw [a2, updL_s, updL_n a1] at e; exact absurd e (hm i (hmz i hi a1))
      · rw [updL_n a1, updL_n a2] at e; exact hd i k (hmz i hi a1) (hmz k hk a2) e
    rcases h with ⟨h1, h2, h3⟩ | ⟨h1, h2, h3⟩
    · subst h3; exact ⟨by omega, key _ (fun j hj hjp => by omega)⟩
    · subst h3; exact ⟨by omega, key _ (fun j hj hjp => by omega)⟩
set_option maxHeartbeats 1000000 in
/-- an answer arrives for a row that works -/
theorem takeA {w : Int32} {v : Int64} (hF : 301 < F) (h : RelP K n M o t σ τ) (hi : i < n) (h1 : τ.2.1 2 i = 1) (hw : w = 0 ∨ w = 1 ∨ w = 2 ∨ w = 3) : ∃ b σ' τ', fX7_takeAnswer F σ (nI i) w v = some (b, σ') ∧ (b = 0 ∨ b = 1) ∧ RelP K n M o t σ' τ' ∧
    (if w = 0 then ((fX8_settle F τ (nI i) (0 : Int32) v).bind (fun u_21 => ix (nI i) 300 ((fX8_keep F u_21 ((u_21.2.2 0) (nI i).toNatClampNeg) v).bind (fun u_24 => fX8_arrive_175 F (u_24, (1 : Int32)))))) else (ix ((3 : Int32) + w) 8 (if ((τ.2.1 0) ((3 : Int32) + w).toNatClampNeg) = 0 then (fX8_arrive_128 F (τ, nI i, w, (0 : Int32), (τ.2.1 0) ((3 : Int32) + w).toNatClampNeg)) else (if ((τ.2.1 0) ((3 : Int32) + w).toNatClampNeg) = (1 : Int32) then ((fX8_placeInQueue F τ (nI i)).bind (fun u_15 => if 0 ≤ u_15 then (fX8_arrive_132 F (τ, nI i, w, (0 : Int32), (τ.2.1 0) ((3 : Int32) + w).toNatClampNeg)) else ((fX8_again τ (nI i)).bind (fun u_18 => if u_18.1 = 0 then (fX8_arrive_128 F (u_18.2, nI i, w, (0 : Int32), (τ.2.1 0) ((3 : Int32) + w).toNatClampNeg)) else (fX8_arrive_132 F (u_18.2, nI i, w, (0 : Int32), (τ.2.1 0) ((3 : Int32) + w).toNatClampNeg)))))) else (fX8_arrive_132 F (τ, nI i, w, (0 : Int32), (τ.2.1 0) ((3 : Int32) + w).toNatClampNeg)))))) = fX8_arrive_175 F (τ', b) := by
  obtain ⟨hE, hI, hS, hO, hQ, hW, hD, hL0, hL1, hV, hK, hZ⟩ := id h
  obtain ⟨⟨hM1, hM16, ec0, em0⟩, e1, ⟨ht, et, et'⟩, e13, e14, e15, es, hset⟩ := id hE
  obtain ⟨hn, ec2, em3, ecm, eck, ecv, htail⟩ := id hI
  obtain ⟨ecs, ect, hokS, hokR, htl⟩ := id hS
  obtain ⟨Q, q, eQ, eQ', hq, hinj⟩ := id hQ
  have hQ1 : Q ≤ cnt (τ.2.1 2) 1 n := inj_le n Q q (fun j hj => ⟨(hq j hj).2.2.1, (hq j hj).2.2.2⟩) hinj
  have hcm := hokS.2.2.2.2
  by_cases hw0 : w = 0
  · subst hw0
    rw [if_pos rfl]
    obtain ⟨σs, τs, g1, g2, g3, g4, g5, g6⟩ := pSet hF h hi h1 0 v
    obtain ⟨st1, st2, st3, st4, st5, st6, st7⟩ := g4
    obtain ⟨fE, fI, fS, fO, fQ, fW, fD, fL0, fL1, fV, fK, fZ⟩ := id g3
    obtain ⟨-, -, ⟨ht2, et2, et2'⟩, -, -, -, es2, hset2⟩ := id fE
    obtain ⟨-, -, -, -, eck2, -⟩ := id fI
    obtain ⟨ece, eckk, eckv, z, hz, ez, ez', hkd⟩ := id fK
    have hs3 := (hset2 3 (by decide)).1
    by_cases h30 : τs.2.1 0 3 = 0
    · refine ⟨1, σs, τs, ?_, Or.inr rfl, g3, ?_⟩
      · rw [fX7_takeAnswer, if_pos rfl, bs g1, es2, if_pos (show τs.2.1 0 (3 : Int32).toNatClampNeg ≤ 0 from by show τs.2.1 0 3 ≤ 0; rw [h30]; decide)]
      · rw [bs g2, ixN (by omega) (by decide), bs (show fX8_keep F τs _ v = some τs from by rw [fX8_keep, if_pos (show τs.2.1 0 (3 : Int32).toNatClampNeg = 0 from h30)])]
    · have h3p : ¬ τs.2.1 0 3 ≤ 0 := fun hc => h30 (Int32.le_antisymm hc hs3)
      obtain ⟨p, z', hp⟩ := kpl_ex (kk := τs.2.2 5) (ke := τs.2.1 14) (x := τs.2.2 0 i) hz
      refine ⟨1, sI (sA (sL (sL σs 8 (vp_updL (τs.2.2 5) p (τs.2.2 0 i))) 9 (vp_updL (τs.2.2 6) p v)) 21 (upd (τs.2.1 14) p (τs.1 2 + τs.2.1 0 3))) 11 (nI z'), sA (sL (sL (sI τs 8 (nI z')) 5 (vp_updL (τs.2.2 5) p (τs.2.2 0 i))) 6 (vp_updL (τs.2.2 6) p v)) 14 (upd (τs.2.1 14) p (τs.1 2 + τs.2.1 0 3)), ?_, Or.inr rfl, ?_, ?_⟩
      · rw [fX7_takeAnswer, if_pos rfl, bs g1, es2, if_neg (show ¬ τs.2.1 0 (3 : Int32).toNatClampNeg ≤ 0 from h3p), bs (f0_keyOf (show i < 300 by omega)), eck2, eckk, eckv, ece, ez, et2, ← et2', show τs.2.1 0 (3 : Int32).toNatClampNeg = τs.2.1 0 3 from rfl, bs (f1_keep (by omega) hz hkd hp)]
      · obtain ⟨k1, k2⟩ := kpl_d hz hkd hp
        exact ⟨fE, fI, fS, fO, fQ, fW, fD, fL0, fL1, fV, ⟨rfl, rfl, rfl, z', k1, rfl, rfl, k2⟩, fZ⟩
      · rw [bs g2, ixN (by omega) (by decide), nI_clamp (by omega), bs (f8_keep hF hz ez' h30 hkd hp)]
  · rw [if_neg hw0]
    -- the rule
    obtain ⟨cw, hcw, ew⟩ : ∃ c, (c = 1 ∨ c = 2 ∨ c = 3) ∧ w = nI c := by
      rcases hw with e | e | e | e
      · exact absurd e hw0
      · exact ⟨1, by omega, e⟩
      · exact ⟨2, by omega, e⟩
      · exact ⟨3, by omega, e⟩
    have eix : (3 : Int32) + w = nI (3 + cw) := by rw [ew, n3, nI_add]
    have hrule : τ.2.1 0 (3 + cw) = 0 ∨ τ.2.1 0 (3 + cw) = 1 ∨ τ.2.1 0 (3 + cw) = 2 := by
      have := hset (3 + cw) (by omega)
      rcases hcw with e | e | e <;> subst e
      · exact set012 this.1 this.2
      · exact set012 this.1 this.2
      · exact set012 this.1 this.2
    have hrl : fX7_ruleOf σ w = some (τ.2.1 0 (3 + cw)) := by
      rw [fX7_ruleOf, bs (f7_cause1 (by rcases hcw with e | e | e <;> subst e <;> rw [ew] <;> decide) (by rcases hcw with e | e | e <;> subst e <;> rw [ew] <;> decide)), if_neg (by decide), eix, ixN (by omega) (by decide), nI_clamp (by omega), es]
    have hta : fX7_takeAnswer F σ (nI i) w v = (fX7_takeCause F σ (nI i) w).bind (fun u_9 => gd (decide (u_9.1 = 0 ∨ u_9.1 = 1)) (some (u_9.1, u_9.2))) := by rw [fX7_takeAnswer, if_neg hw0]
    rw [eix, ixN (by omega) (by decide), nI_clamp (by omega)]
    rcases hrule with hr | hr | hr
    · -- fails
      obtain ⟨σs, τs, g1, g2, g3, -⟩ := pSet hF h hi h1 2 w.toInt64
      refine ⟨1, σs, τs, ?_, Or.inr rfl, g3, ?_⟩
      · rw [hta, bs (show fX7_takeCause F σ (nI i) w = some (1, σs) from by rw [fX7_takeCause, bs hrl, if_neg (by rw [hr]; decide), if_pos hr, bs g1])]
        rfl
      · rw [if_pos hr, fX8_arrive_128, fX8_arrive_133]
        dsimp only
        rw [if_neg (by decide), fX8_arrive_146]
        dsimp only
        rw [if_neg (by decide), fX8_arrive_158]
        dsimp only
        rw [if_neg (by decide), fX8_arrive_169]
        dsimp only
        rw [bs g2]
    · -- asks again
      rw [if_neg (by rw [hr]; decide), if_pos hr]
      by_cases hin : ∃ j, j < Q ∧ q j = i
      · obtain ⟨j, hj, hqj⟩ := hin
        have hju : ∀ k, k < Q → k ≠ j → q k ≠ i := fun k hk hkj e => hkj (hinj k j hk hj (e.trans hqj.symm))
        refine ⟨0, σ, τ, ?_, Or.inl rfl, h, ?_⟩
        · rw [hta, bs (show fX7_takeCause F σ (nI i) w = some (0, σ) from by
            rw [fX7_takeCause, bs hrl, if_pos hr, eQ, bs (f5_hit (by omega) (by omega) hj (by rw [(hq j hj).1, hqj]) (fun k hk e => hju k (by omega) (by omega) ((nI_eq (by have := (hq k (by omega)).2.2.1; omega) (by omega)).mp ((hq k (by omega)).1.symm.trans e))))]
            rw [if_neg (nI_ne_m1 (by omega))])]
          rfl
        · rw [bs (f8_hit hF (by omega) eQ' hj (by rw [(hq j hj).2.1, hqj]) (fun k a b e => hju k b (by omega) ((nI_eq (by have := (hq k b).2.2.1; omega) (by omega)).mp ((hq k b).2.1.symm.trans e))))]
          rw [if_pos (nI_pos' (by omega)), fX8_arrive_132, fX8_arrive_133]
          dsimp only
          rw [if_pos rfl, if_neg (by rw [hr]; decide)]
      · have hun : ∀ k, k < Q → q k ≠ i := fun k hk e => hin ⟨k, hk, e⟩
        obtain ⟨hcq, hmq⟩ := q_ne hq hn hi hun
        have hnq : ¬ inQ τ i := by
          rw [inQ_iff (Q := Q) (by omega) eQ']
          rintro ⟨k, hk, e⟩
          exact hmq k hk e
        obtain ⟨b, σt, τt, t1, t2, t3, -⟩ := pTry hF h hi h1 hnq 2 w.toInt64
        have hb : b = 0 ∨ b = 1 := by rcases t2 with ⟨e, -⟩ | ⟨e, -⟩; exact Or.inl e; exact Or.inr e
        refine ⟨b, σt, τt, ?_, hb, t3, ?_⟩
        · rw [hta, bs (show fX7_takeCause F σ (nI i) w = some (b, σt) from by
            rw [fX7_takeCause, bs hrl, if_pos hr, eQ, bs (f5_miss (by omega) (by omega) hcq)]
            rw [if_pos rfl, bs t1]
            rcases hb with e | e <;> subst e
            · rw [if_pos (show ((0 : Int32), σt).1 = 0 from rfl)]
            · rw [if_neg (show ¬ ((1 : Int32), σt).1 = 0 from fun e => absurd (show (1 : Int32) = 0 from e) (by decide))])]
          rcases hb with e | e <;> subst e <;> rfl
        · rw [bs (f8_miss hF (by omega) eQ' hmq), if_neg (by decide)]
          rcases t2 with ⟨e, t4⟩ | ⟨e, t4, t5⟩
          · subst e
            rw [bs t4]
            dsimp only
            rw [if_neg (by decide), fX8_arrive_132, fX8_arrive_133]
            dsimp only
            rw [if_pos rfl, if_neg (by rw [hr]; decide)]
          · subst e
            rw [bs t4]
            dsimp only
            rw [if_pos rfl, fX8_arrive_128, fX8_arrive_133]
            dsimp only
            rw [if_neg (by decide), fX8_arrive_146]
            dsimp only
            rw [if_neg (by decide), fX8_arrive_158]
            dsimp only
            rw [if_neg (by decide), fX8_arrive_169]
            dsimp only
            rw [bs t5]
    · -- is 0
      obtain ⟨σs, τs, g1, g2, g3, -⟩ := pSet hF h hi h1 4 0
      refine ⟨1, σs, τs, ?_, Or.inr rfl, g3, ?_⟩
      · rw [hta, bs (show fX7_takeCause F σ (nI i) w = some (1, σs) from by rw [fX7_takeCause, bs hrl, if_neg (by rw [hr]; decide), if_neg (by rw [hr]; decide), bs g1])]
        rfl
      · rw [if_neg (by rw [hr]; decide), if_neg (by rw [hr]; decide), fX8_arrive_132, fX8_arrive_133]
        dsimp only
        rw [if_pos rfl, if_pos hr, fX8_arrive_146]
        dsimp only
        rw [if_pos rfl, fX8_arrive_158]
        dsimp only
        rw [if_pos rfl, fX8_arrive_169]
        dsimp only
        rw [bs g2]
set_option maxHeartbeats 1000000 in
/-- arrive -/
theorem op_arrive (hF : 301 < F) (h : Rel K σ τ) (p1 : Int32) : ∃ r σ' τ', fX7_arrive F σ p1 = some (r, σ') ∧ fX8_arrive F τ p1 = some (r, τ') ∧ Rel (K + 1) σ' τ' := by
  obtain ⟨n, M, o, t, hP, hq⟩ := id h
  obtain ⟨hE, hI, hS, hO, hQ, hW, hD, hL0, hL1, hV, hK, hZ⟩ := id hP
  obtain ⟨hn, ec2, em3, ecm, eck, ecv, htail⟩ := id hI
  obtain ⟨ecs, ect, hokS, hokR, htl⟩ := id hS
  obtain ⟨a, ha100, ea, ea', hLa⟩ := id hL1
  rcases pk_ix p1 (n := a) (by omega) with hx | hx | ⟨k, hk, rfl⟩
  · refine ⟨-1, σ, τ, ?_, ?_, Rel_K h⟩
    · rw [fX7_arrive, ea, bs (f2_has0 (Or.inl hx)), if_pos rfl]
    · rw [fX8_arrive, bs (show fX8_isUnder τ 1 p1 = some 0 from f8_under0 (ln := 1) (by decide) ea' (Or.inl hx)), if_pos rfl]
  · refine ⟨-1, σ, τ, ?_, ?_, Rel_K h⟩
    · rw [fX7_arrive, ea, bs (f2_has0 (Or.inr hx)), if_pos rfl]
    · rw [fX8_arrive, bs (show fX8_isUnder τ 1 p1 = some 0 from f8_under0 (ln := 1) (by decide) ea' (Or.inr hx)), if_pos rfl]
  · have hun : fX8_isUnder τ 1 (nI k) = some 1 := f8_under1 (ln := 1) (by decide) ea' ha100 hk
    obtain ⟨r, b1, b2, b3, b4, b5, b6, b7⟩ := hLa k hk
    have hT := rel_take1 hP ea ha100 hk
    have e100 : (100 : Int32) + nI k = nI (100 + k) := by show nI 100 + nI k = _; rw [nI_add]
    have hm0 : fX8_arrive F τ (nI k) = (if τ.2.1 2 r = 1 then (if σ.2.1 19 k = 0 then ((fX8_settle F (tkM τ 1 a k) (nI r) (0 : Int32) (σ.2.2 5 k)).bind (fun u_21 => ix (nI r) 300 ((fX8_keep F u_21 ((u_21.2.2 0) (nI r).toNatClampNeg) (σ.2.2 5 k)).bind (fun u_24 => fX8_arrive_175 F (u_24, (1 : Int32)))))) else (ix ((3 : Int32) + σ.2.1 19 k) 8 (if (((tkM τ 1 a k).2.1 0) ((3 : Int32) + σ.2.1 19 k).toNatClampNeg) = 0 then (fX8_arrive_128 F (tkM τ 1 a k, nI r, σ.2.1 19 k, (0 : Int32), ((tkM τ 1 a k).2.1 0) ((3 : Int32) + σ.2.1 19 k).toNatClampNeg)) else (if (((tkM τ 1 a k).2.1 0) ((3 : Int32) + σ.2.1 19 k).toNatClampNeg) = (1 : Int32) then ((fX8_placeInQueue F (tkM τ 1 a k) (nI r)).bind (fun u_15 => if 0 ≤ u_15 then (fX8_arrive_132 F (tkM τ 1 a k, nI r, σ.2.1 19 k, (0 : Int32), ((tkM τ 1 a k).2.1 0) ((3 : Int32) + σ.2.1 19 k).toNatClampNeg)) else ((fX8_again (tkM τ 1 a k) (nI r)).bind (fun u_18 => if u_18.1 = 0 then (fX8_arrive_128 F (u_18.2, nI r, σ.2.1 19 k, (0 : Int32), ((tkM τ 1 a k).2.1 0) ((3 : Int32) + σ.2.1 19 k).toNatClampNeg)) else (fX8_arrive_132 F (u_18.2, nI r, σ.2.1 19 k, (0 : Int32), ((tkM τ 1 a k).2.1 0) ((3 : Int32) + σ.2.1 19 k).toNatClampNeg)))))) else (fX8_arrive_132 F (tkM τ 1 a k, nI r, σ.2.1 19 k, (0 : Int32), ((tkM τ 1 a k).2.1 0) ((3 : Int32) + σ.2.1 19 k).toNatClampNeg)))))) else fX8_arrive_175 F (tkM τ 1 a k, 0)) := by
      rw [fX8_arrive, bs hun, if_neg (by decide), e100, ixN (by omega) (by decide), ixN (by omega) (by decide), ixN (by omega) (by decide), nI_clamp (by omega), b4, ← b5, ← b7, bs (show fX8_take F τ 1 (nI k) = some (tkM τ 1 a k) from f8_take (ln := 1) hF (by decide) ea' ha100 hk)]
      rw [ixN (show r < 300 by omega) (by decide)]
      rw [show (tkM τ 1 a k).2.1 2 (nI r).toNatClampNeg = τ.2.1 2 r from by rw [nI_clamp (by omega)]; rfl]
    have hc0 : fX7_arrive F σ (nI k) = (if τ.2.1 2 r = 1 then ((fX7_takeAnswer F (tkC1 σ a k) (nI r) (σ.2.1 19 k) (σ.2.2 5 k)).bind (fun u_15 => if u_15.1 = 0 then (fX7_arrive_76 F u_15.2) else (fX7_arrive_77 F (u_15.2, (1 : Int32))))) else (fX7_arrive_76 F (tkC1 σ a k))) := by
      rw [fX7_arrive, ea, bs (f2_has1 ha100 hk), if_neg (by decide), bs (f2_rowAt ha100 hk), bs (f2_causeAt ha100 hk), bs (f2_valueAt ha100 hk), bs (f2_removeAt ha100 hk), cpy_shw hk, cpy_shw hk, cpy_shw hk, b3, ec2, ecs, bs (f4_stateOf hn b1)]
    rw [hm0, hc0]
    by_cases hs : τ.2.1 2 r = 1
    · rw [if_pos hs, if_pos hs]
      obtain ⟨b, σ1, τ1, c1, c2, c3, c4⟩ := takeA (v := σ.2.2 5 k) hF hT b1 hs b6
      obtain ⟨σ', τ', g1, g2, g3⟩ := go_rel hF c3
      refine ⟨b, σ', τ', ?_, ?_, Rel_K g3⟩
      · rw [bs c1]
        rcases c2 with e | e <;> subst e
        · rw [if_pos rfl, fX7_arrive_76, fX7_arrive_77]
          dsimp only
          rw [bs g1, if_pos rfl]
        · rw [if_neg (show ¬ ((1 : Int32), σ1).1 = 0 from fun e => absurd (show (1 : Int32) = 0 from e) (by decide)), fX7_arrive_77]
          dsimp only
          rw [bs g1, if_neg (by decide)]
      · rw [c4, fX8_arrive_175]
        dsimp only
        rw [bs g2]
        rcases c2 with e | e <;> subst e
        · rw [if_pos rfl]
        · rw [if_neg (by decide)]
    · rw [if_neg hs, if_neg hs]
      obtain ⟨σ', τ', g1, g2, g3⟩ := go_rel hF hT
      refine ⟨0, σ', τ', ?_, ?_, Rel_K g3⟩
      · rw [fX7_arrive_76, fX7_arrive_77]
        dsimp only
        rw [bs g1, if_pos rfl]
      · rw [fX8_arrive_175]
        dsimp only
        rw [bs g2, if_pos rfl]
end ARR
