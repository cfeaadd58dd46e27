-- Items
theorem f0_keyOf {i : Nat} (hi : i < 300) {k v : Nat → Int64} {m d : Nat → Int32} : fX0_keyOf k v m d (nI i) = some (k i) := by
  unfold fX0_keyOf
  rw [bs (f0_has hi)]
  rw [if_neg (by decide), ixN hi (by decide), nI_clamp (by omega)]
theorem f0_valueOf {i : Nat} (hi : i < 300) {k v : Nat → Int64} {m d : Nat → Int32} : fX0_valueOf k v m d (nI i) = some (v i) := by
  unfold fX0_valueOf
  rw [bs (f0_has hi)]
  rw [if_neg (by decide), ixN hi (by decide), nI_clamp (by omega)]
theorem f0_isMark {i : Nat} (hi : i < 300) {k v : Nat → Int64} {m d : Nat → Int32} : fX0_isMark k v m d (nI i) = some (if m i = 0 then 0 else 1) := by
  unfold fX0_isMark
  rw [bs (f0_has hi)]
  rw [if_neg (by decide), ixN hi (by decide), nI_clamp (by omega)]
  by_cases h : m i = 0
  · rw [if_pos h, if_pos h]
  · rw [if_neg h, if_neg h]
theorem f0_dueOf {i : Nat} (hi : i < 300) {k v : Nat → Int64} {m d : Nat → Int32} : fX0_dueOf k v m d (nI i) = some (d i) := by
  unfold fX0_dueOf
  rw [bs (f0_has hi)]
  rw [if_neg (by decide), ixN hi (by decide), nI_clamp (by omega)]
theorem f0_setDue {i : Nat} (hi : i < 300) {k v : Nat → Int64} {m d : Nat → Int32} {x : Int32} : fX0_setDue k v m d (nI i) x = some (upd d i x) := by
  unfold fX0_setDue
  rw [bs (f0_has hi)]
  rw [if_neg (by decide), ixN hi (by decide), nI_clamp (by omega)]
theorem f0_noteRow {i : Nat} (hi : i < 300) {k v : Nat → Int64} {m d : Nat → Int32} {x y : Int64} : fX0_noteRow k v m d (nI i) x y = some (vp_updL k i x, vp_updL v i y) := by
  unfold fX0_noteRow
  rw [bs (f0_has hi)]
  rw [if_neg (by decide), ixN hi (by decide), ixN hi (by decide), nI_clamp (by omega)]
theorem f0_noteMark {i : Nat} (hi : i < 300) {k v : Nat → Int64} {m d : Nat → Int32} : fX0_noteMark k v m d (nI i) = some (upd m i 1) := by
  unfold fX0_noteMark
  rw [bs (f0_has hi)]
  rw [if_neg (by decide), ixN hi (by decide), nI_clamp (by omega), show vp_nar .boolean (1 : Int32) = 1 from rfl]
-- Line
theorem f2_has1 {r c : Nat → Int32} {v : Nat → Int64} {a k : Nat} (ha : a ≤ 100) (hk : k < a) : fX2_has r c v (nI a) (nI k) = some 1 := by
  unfold fX2_has
  rw [if_neg (nI_pos (by omega)), if_neg (by rw [nI_leI (by omega) (by omega)]; omega)]
theorem f2_has0 {r c : Nat → Int32} {v : Nat → Int64} {a : Nat} {x : Int32} (h : x < 0 ∨ nI a ≤ x) : fX2_has r c v (nI a) x = some 0 := by
  unfold fX2_has
  by_cases h0 : x < 0
  · rw [if_pos h0]
  · rw [if_neg h0, if_pos (h.resolve_left h0)]
theorem f2_rowAt {r c : Nat → Int32} {v : Nat → Int64} {a k : Nat} (ha : a ≤ 100) (hk : k < a) : fX2_rowAt r c v (nI a) (nI k) = some (r k) := by
  unfold fX2_rowAt
  rw [bs (f2_has1 ha hk)]
  rw [if_neg (by decide), ixN (by omega) (by decide), nI_clamp (by omega)]
theorem f2_rowAt0 {r c : Nat → Int32} {v : Nat → Int64} {a : Nat} {x : Int32} (h : x < 0 ∨ nI a ≤ x) : fX2_rowAt r c v (nI a) x = some (-1) := by
  unfold fX2_rowAt
  rw [bs (f2_has0 h)]
  rw [if_pos rfl]
theorem f2_causeAt {r c : Nat → Int32} {v : Nat → Int64} {a k : Nat} (ha : a ≤ 100) (hk : k < a) : fX2_causeAt r c v (nI a) (nI k) = some (c k) := by
  unfold fX2_causeAt
  rw [bs (f2_has1 ha hk)]
  rw [if_neg (by decide), ixN (by omega) (by decide), nI_clamp (by omega)]
theorem f2_valueAt {r c : Nat → Int32} {v : Nat → Int64} {a k : Nat} (ha : a ≤ 100) (hk : k < a) : fX2_valueAt r c v (nI a) (nI k) = some (v k) := by
  unfold fX2_valueAt
  rw [bs (f2_has1 ha hk)]
  rw [if_neg (by decide), ixN (by omega) (by decide), nI_clamp (by omega)]
theorem f2_setOut {r c : Nat → Int32} {v : Nat → Int64} {a : Nat} {x y : Int32} {z : Int64} (ha : a < 100) : fX2_setOut r c v (nI a) x y z = some (upd r a x, upd c a y, vp_updL v a z, nI (a + 1)) := by
  unfold fX2_setOut
  rw [show (100 : Int32) = nI 100 from rfl, if_pos ((nI_ltI (by omega) (by omega)).mpr ha), ixN ha (by decide), ixN ha (by decide), ixN ha (by decide), nI_clamp (by omega), show (1 : Int32) = nI 1 from rfl, nI_add]
theorem f2_setOutF {r c : Nat → Int32} {v : Nat → Int64} {x y : Int32} {z : Int64} : fX2_setOut r c v (nI 100) x y z = some (r, c, v, nI 100) := by
  unfold fX2_setOut
  rw [if_neg (by decide)]
theorem cpg_ok {α : Type} {sp dp n n0 n1 : Nat} {k : Option α} (h0 : sp + n ≤ n0) (h1 : dp + n ≤ n1) (a : n0 < 2 ^ 31) (b : n1 < 2 ^ 31) : cpg (nI sp) (nI dp) (nI n) n0 n1 k = k := by
  unfold cpg
  rw [if_neg]
  intro h
  rcases h with h | h | h | h | h
  · exact nI_pos (by omega) h
  · exact nI_pos (by omega) h
  · exact nI_pos (by omega) h
  · rw [nI_clamp (by omega), nI_clamp (by omega)] at h; omega
  · rw [nI_clamp (by omega), nI_clamp (by omega)] at h; omega
theorem f2_removeAt {r c : Nat → Int32} {v : Nat → Int64} {a k : Nat} (ha : a ≤ 100) (hk : k < a) : fX2_removeAt r c v (nI a) (nI k) = some (va_cpy r r (k + 1) k (a - k - 1), va_cpy c c (k + 1) k (a - k - 1), va_cpy v v (k + 1) k (a - k - 1), nI (a - 1)) := by
  unfold fX2_removeAt
  rw [bs (f2_has1 ha hk)]
  have e1 : (1 : Int32) = nI 1 := rfl
  rw [if_neg (by decide), e1, nI_add, pk_sub (by omega), pk_sub (by omega), pk_sub (by omega), cpg_ok (by omega) (by omega) (by decide) (by decide), cpg_ok (by omega) (by omega) (by decide) (by decide), cpg_ok (by omega) (by omega) (by decide) (by decide), nI_clamp (by omega), nI_clamp (by omega), nI_clamp (by omega)]
-- OutLog
theorem f3_write {i t : Nat → Int32} {k : Nat} {x y : Int32} (hk : k < 300) : fX3_write i t (nI k) x y = some (upd i k x, upd t k y) := by
  unfold fX3_write
  rw [if_neg (nI_pos (by omega)), show (300 : Int32) = nI 300 from rfl, if_neg (by rw [nI_leI (by omega) (by omega)]; omega), ixN hk (by decide), ixN hk (by decide), nI_clamp (by omega)]
theorem f3_itemAt {i t : Nat → Int32} {k : Nat} (hk : k < 300) : fX3_itemAt i t (nI k) = some (i k) := by
  unfold fX3_itemAt
  rw [if_neg (nI_pos (by omega)), show (300 : Int32) = nI 300 from rfl, if_neg (by rw [nI_leI (by omega) (by omega)]; omega), ixN hk (by decide), nI_clamp (by omega)]
theorem f3_tickAt {i t : Nat → Int32} {k : Nat} (hk : k < 300) : fX3_tickAt i t (nI k) = some (t k) := by
  unfold fX3_tickAt
  rw [if_neg (nI_pos (by omega)), show (300 : Int32) = nI 300 from rfl, if_neg (by rw [nI_leI (by omega) (by omega)]; omega), ixN hk (by decide), nI_clamp (by omega)]
-- Progress
section PRG
variable {s re tr : Nat → Int32} {sv : Nat → Int64} {ou wt se : Int32} {n i : Nat}
theorem f4_has1 (hn : n ≤ 300) (hi : i < n) : fX4_hasItem s re tr sv (nI n) ou wt se (nI i) = some 1 := by
  unfold fX4_hasItem
  rw [if_neg (nI_pos (by omega)), if_neg (by rw [nI_leI (by omega) (by omega)]; omega)]
theorem f4_has0 {x : Int32} (h : x < 0 ∨ nI n ≤ x) : fX4_hasItem s re tr sv (nI n) ou wt se x = some 0 := by
  unfold fX4_hasItem
  by_cases h0 : x < 0
  · rw [if_pos h0]
  · rw [if_neg h0, if_pos (h.resolve_left h0)]
theorem f4_stateOf (hn : n ≤ 300) (hi : i < n) : fX4_stateOf s re tr sv (nI n) ou wt se (nI i) = some (s i) := by
  unfold fX4_stateOf
  rw [bs (f4_has1 hn hi)]
  rw [if_neg (by decide), ixN (by omega) (by decide), nI_clamp (by omega)]
theorem f4_resultOf (hn : n ≤ 300) (hi : i < n) : fX4_resultOf s re tr sv (nI n) ou wt se (nI i) = some (re i) := by
  unfold fX4_resultOf
  rw [bs (f4_has1 hn hi)]
  rw [if_neg (by decide), ixN (by omega) (by decide), nI_clamp (by omega)]
theorem f4_triesOf (hn : n ≤ 300) (hi : i < n) : fX4_triesOf s re tr sv (nI n) ou wt se (nI i) = some (tr i) := by
  unfold fX4_triesOf
  rw [bs (f4_has1 hn hi)]
  rw [if_neg (by decide), ixN (by omega) (by decide), nI_clamp (by omega)]
theorem f4_valueOf (hn : n ≤ 300) (hi : i < n) : fX4_valueOf s re tr sv (nI n) ou wt se (nI i) = some (sv i) := by
  unfold fX4_valueOf
  rw [bs (f4_has1 hn hi)]
  rw [if_neg (by decide), ixN (by omega) (by decide), nI_clamp (by omega)]
theorem f4_valueOf0 {x : Int32} (h : x < 0 ∨ nI n ≤ x) : fX4_valueOf s re tr sv (nI n) ou wt se x = some 0 := by
  unfold fX4_valueOf
  rw [bs (f4_has0 h)]
  rw [if_pos rfl]
theorem f4_addRow (hn : n < 300) : fX4_addRow s re tr sv (nI n) ou wt se = some (upd s n 0, upd re n (-1), nI (n + 1), wt + 1) := by
  unfold fX4_addRow
  rw [show (300 : Int32) = nI 300 from rfl, if_neg (by rw [nI_leI (by omega) (by omega)]; omega), ixN hn (by decide), ixN hn (by decide), nI_clamp (by omega), nI_1]
theorem f4_addMark (hn : n < 300) : fX4_addMark s re tr sv (nI n) ou wt se = some (upd s n 2, upd re n 5, nI (n + 1), se + 1) := by
  unfold fX4_addMark
  rw [show (300 : Int32) = nI 300 from rfl, if_neg (by rw [nI_leI (by omega) (by omega)]; omega), ixN hn (by decide), ixN hn (by decide), nI_clamp (by omega), nI_1]
theorem f4_startTrying (hn : n ≤ 300) (hi : i < n) : fX4_startTrying s re tr sv (nI n) ou wt se (nI i) = some (upd s i 1, upd tr i 1, wt - 1) := by
  unfold fX4_startTrying
  rw [bs (f4_has1 hn hi)]
  rw [if_neg (by decide), ixN (by omega) (by decide), ixN (by omega) (by decide), nI_clamp (by omega)]
theorem f4_addTry (hn : n ≤ 300) (hi : i < n) : fX4_addTry s re tr sv (nI n) ou wt se (nI i) = some (upd tr i (tr i + 1)) := by
  unfold fX4_addTry
  rw [bs (f4_has1 hn hi)]
  rw [if_neg (by decide), ixN (by omega) (by decide), ixN (by omega) (by decide), nI_clamp (by omega)]
theorem f4_settleRow0 {x : Int32} {v : Int64} (hn : n ≤ 300) (hi : i < n) (ha : s i = 0) : fX4_settleRow s re tr sv (nI n) ou wt se (nI i) x v = some (upd s i 2, upd re i x, vp_updL sv i v, wt - 1, se + 1) := by
  unfold fX4_settleRow
  rw [bs (f4_has1 hn hi)]
  rw [if_neg (by decide), ixN (by omega) (by decide), nI_clamp (by omega), if_pos ha, fX4_settleRow_28]
  dsimp only
  rw [ixN (by omega) (by decide), ixN (by omega) (by decide), ixN (by omega) (by decide), nI_clamp (by omega)]
theorem f4_settleRow1 {x : Int32} {v : Int64} (hn : n ≤ 300) (hi : i < n) (ha : s i ≠ 0) : fX4_settleRow s re tr sv (nI n) ou wt se (nI i) x v = some (upd s i 2, upd re i x, vp_updL sv i v, wt, se + 1) := by
  unfold fX4_settleRow
  rw [bs (f4_has1 hn hi)]
  rw [if_neg (by decide), ixN (by omega) (by decide), nI_clamp (by omega), if_neg ha, fX4_settleRow_28]
  dsimp only
  rw [ixN (by omega) (by decide), ixN (by omega) (by decide), ixN (by omega) (by decide), nI_clamp (by omega)]
theorem f4_goOut (hn : n ≤ 300) (hi : i < n) : fX4_goOut s re tr sv (nI n) ou wt se (nI i) = some (upd s i 3, ou + 1, se - 1) := by
  unfold fX4_goOut
  rw [bs (f4_has1 hn hi)]
  rw [if_neg (by decide), ixN (by omega) (by decide), nI_clamp (by omega)]
/-- how many wait, how many are settled -/
def okT (n : Nat) (s : Nat → Int32) (tl : Int32 × Int32) : Prop := tl.1 = nI (cnt s 0 n) ∧ tl.2 = nI (cnt s 2 n)
def mvT (tl : Int32 × Int32) (a b : Nat) : Int32 × Int32 := (if a = 0 then tl.1 - 1 else tl.1, if a = 2 then tl.2 - 1 else if b = 2 then tl.2 + 1 else tl.2)
theorem okT_move {tl : Int32 × Int32} {a b : Nat} (h : okT n s tl) (hi : i < n) (ha : s i = nI a) (hab : a ≠ b) (ha5 : a < 5) (hb : b < 5) (hb0 : b ≠ 0) : okT n (upd s i (nI b)) (mvT tl a b) := by
  have e1 : (1 : Int32) = nI 1 := rfl
  have c0 := cnt_upd (s := s) (w := 0) (x := nI b) hi
  have c2 := cnt_upd (s := s) (w := 2) (x := nI b) hi
  rw [if_neg (c := nI b = 0) (fun e => hb0 ((nI_eq (by omega) (by omega)).mp e))] at c0
  rw [ha] at c0 c2
  refine ⟨?_, ?_⟩
  · show (if a = 0 then tl.1 - 1 else tl.1) = _
    by_cases h0 : a = 0
    · subst h0
      have hp := cnt_pos (w := 0) hi ha
      rw [if_pos (show nI 0 = 0 from rfl)] at c0
      rw [if_pos rfl, h.1, e1, pk_sub (by omega)]
      congr 1; omega
    · rw [if_neg (c := nI a = 0) (fun e => h0 ((nI_eq (by omega) (by omega)).mp e))] at c0
      rw [if_neg h0, h.1]
      congr 1; omega
  · show (if a = 2 then tl.2 - 1 else if b = 2 then tl.2 + 1 else tl.2) = _
    by_cases h0 : a = 2
    · subst h0
      have hp := cnt_pos (w := 2) hi ha
      rw [if_pos (show nI 2 = 2 from rfl), if_neg (c := nI b = 2) (fun e => hab ((nI_eq (b := 2) (by omega) (by decide)).mp e).symm)] at c2
      rw [if_pos rfl, h.2, e1, pk_sub (by omega)]
      congr 1; omega
    · rw [if_neg (c := nI a = 2) (fun e => h0 ((nI_eq (by omega) (by omega)).mp e))] at c2
      rw [if_neg h0]
      by_cases h2 : b = 2
      · subst h2
        rw [if_pos (show nI 2 = 2 from rfl)] at c2
        rw [if_pos rfl, h.2, nI_1]
        congr 1; omega
      · rw [if_neg (c := nI b = 2) (fun e => h2 ((nI_eq (by omega) (by omega)).mp e))] at c2
        rw [if_neg h2, h.2]
        congr 1; omega
def adT (tl : Int32 × Int32) (b : Nat) : Int32 × Int32 := (if b = 0 then tl.1 + 1 else tl.1, if b = 2 then tl.2 + 1 else tl.2)
theorem okT_add {tl : Int32 × Int32} {b : Nat} (h : okT n s tl) (hb : b < 5) : okT (n + 1) (upd s n (nI b)) (adT tl b) := by
  refine ⟨?_, ?_⟩
  · show (if b = 0 then tl.1 + 1 else tl.1) = _
    simp only [cnt]
    rw [cnt_upd_ge (Nat.le_refl n), upd_s]
    by_cases h0 : b = 0
    · rw [if_pos h0, h.1, nI_1, h0, if_pos (show nI 0 = 0 from rfl)]
    · rw [if_neg h0, h.1, if_neg (c := nI b = 0) (fun e => h0 ((nI_eq (by omega) (by omega)).mp e))]
      rfl
  · show (if b = 2 then tl.2 + 1 else tl.2) = _
    simp only [cnt]
    rw [cnt_upd_ge (Nat.le_refl n), upd_s]
    by_cases h0 : b = 2
    · rw [if_pos h0, h.2, nI_1, h0, if_pos (show nI 2 = 2 from rfl)]
    · rw [if_neg h0, h.2, if_neg (c := nI b = 2) (fun e => h0 ((nI_eq (by omega) (by omega)).mp e))]
      rfl
end PRG
-- KeptAnswers
section KPT
variable {n : Nat} {kk kv : Nat → Int64} {ke : Nat → Int32} {z j : Nat} {x : Int64}
theorem f1_find_hit (hz : z ≤ 8) (hj : j < z) (hx : kk j = x) : ∀ m i, i ≤ j → j < i + m → (∀ k, i ≤ k → k < j → kk k ≠ x) → loopF (fX1_find_2 n kk kv ke (nI z)) m (x, nI i) = some (nI j) := by
  intro m
  induction m with
  | zero => intro i h1 h2; omega
  | succ m ih =>
    intro i h1 h2 h3
    rw [lp_s]
    rw [fX1_find_2]
    dsimp only
    rw [if_neg (by rw [nI_leI (by omega) (by omega)]; omega), ixN (by omega) (by decide), nI_clamp (by omega)]
    by_cases hi : i = j
    · subst hi; rw [if_pos hx]
    · rw [if_neg (h3 i (Nat.le_refl _) (by omega)), nI_1]
      exact ih (i + 1) (by omega) (by omega) (fun k a b => h3 k (by omega) b)
theorem f1_find_miss (hz : z ≤ 8) : ∀ m i, i ≤ z → z < i + m → (∀ k, i ≤ k → k < z → kk k ≠ x) → loopF (fX1_find_2 n kk kv ke (nI z)) m (x, nI i) = some (-1) := by
  intro m
  induction m with
  | zero => intro i h1 h2; omega
  | succ m ih =>
    intro i h1 h2 h3
    rw [lp_s]
    rw [fX1_find_2]
    dsimp only
    by_cases hi : i = z
    · subst hi; rw [if_pos (by rw [nI_leI (by omega) (by omega)]; omega)]
    · rw [if_neg (by rw [nI_leI (by omega) (by omega)]; omega), ixN (by omega) (by decide), nI_clamp (by omega), if_neg (h3 i (Nat.le_refl _) (by omega)), nI_1]
      exact ih (i + 1) (by omega) (by omega) (fun k a b => h3 k (by omega) b)
theorem f1_hit (hn : 16 < n) (hz : z ≤ 8) (hj : j < z) (hx : kk j = x) (hu : ∀ k, k < j → kk k ≠ x) : fX1_find n kk kv ke (nI z) x = some (nI j) := f1_find_hit hz hj hx n 0 (Nat.zero_le _) (by omega) (fun k _ h => hu k h)
theorem f1_miss (hn : 16 < n) (hz : z ≤ 8) (hu : ∀ k, k < z → kk k ≠ x) : fX1_find n kk kv ke (nI z) x = some (-1) := f1_find_miss hz n 0 (Nat.zero_le _) (by omega) (fun k _ h => hu k h)
theorem nI_ne_m1 {j : Nat} (h : j < 2 ^ 31) : ¬ nI j = -1 := fun e => nI_pos h (by rw [e]; decide)
theorem f1_endOf_hit (hn : 16 < n) (hz : z ≤ 8) (hj : j < z) (hx : kk j = x) (hu : ∀ k, k < j → kk k ≠ x) : fX1_endOf n kk kv ke (nI z) x = some (ke j) := by
  unfold fX1_endOf
  rw [bs (f1_hit hn hz hj hx hu)]
  rw [if_neg (nI_ne_m1 (by omega)), ixN (by omega) (by decide), nI_clamp (by omega)]
theorem f1_endOf_miss (hn : 16 < n) (hz : z ≤ 8) (hu : ∀ k, k < z → kk k ≠ x) : fX1_endOf n kk kv ke (nI z) x = some (-1) := by
  unfold fX1_endOf
  rw [bs (f1_miss hn hz hu)]
  rw [if_pos rfl]
theorem f1_valueOf_hit (hn : 16 < n) (hz : z ≤ 8) (hj : j < z) (hx : kk j = x) (hu : ∀ k, k < j → kk k ≠ x) : fX1_valueOf n kk kv ke (nI z) x = some (kv j) := by
  unfold fX1_valueOf
  rw [bs (f1_hit hn hz hj hx hu)]
  rw [if_neg (nI_ne_m1 (by omega)), ixN (by omega) (by decide), nI_clamp (by omega)]
/-- which of eight goes -/
def ftg (e : Nat → Int32) (k : Nat → Int64) : Nat → Nat → Nat → Nat
  | 0, f, _ => f
  | d + 1, f, i => ftg e k d (if e i < e f ∨ (e i = e f ∧ ¬ k f ≤ k i) then i else f) (i + 1)
theorem ftg_lt {e : Nat → Int32} {k : Nat → Int64} : ∀ d f i, f < 8 → i + d = 8 → ftg e k d f i < 8 := by
  intro d
  induction d with
  | zero => intro f i h1 _; exact h1
  | succ d ih =>
    intro f i h1 h2
    unfold ftg
    split
    · exact ih _ _ (by omega) (by omega)
    · exact ih _ _ h1 (by omega)
theorem f1_ftg_loop : ∀ m d f i, f < 8 → i + d = 8 → d < m → loopF (fX1_firstToGo_4 n kk kv ke (nI 8)) m (nI f, nI i) = some (nI (ftg ke kk d f i)) := by
  intro m
  induction m with
  | zero => intro d f i h1 h2 h3; omega
  | succ m ih =>
    intro d f i h1 h2 h3
    rw [lp_s]
    rw [fX1_firstToGo_4]
    dsimp only
    cases d with
    | zero =>
      rw [if_pos (by rw [nI_leI (by omega) (by omega)]; omega)]
      rfl
    | succ d =>
      rw [if_neg (by rw [nI_leI (by omega) (by omega)]; omega), ixN (by omega) (by decide), ixN (by omega) (by decide), nI_clamp (by omega), nI_clamp (by omega)]
      unfold ftg
      by_cases h4 : ke f ≤ ke i
      · rw [if_pos h4]
        rw [fX1_firstToGo_32]
        dsimp only
        rw [if_pos rfl, ixN (by omega) (by decide), ixN (by omega) (by decide), nI_clamp (by omega), nI_clamp (by omega)]
        by_cases h5 : ke i = ke f
        · rw [if_pos h5, ixN (by omega) (by decide), ixN (by omega) (by decide)]
          by_cases h6 : kk f ≤ kk i
          · rw [if_pos h6, if_neg (by rintro (h | h); exact absurd h (Int32.not_lt.mpr h4); exact h.2 h6)]
            rw [fX1_firstToGo_70]
            dsimp only
            rw [nI_1]
            exact ih d f (i + 1) h1 (by omega) (by omega)
          · rw [if_neg h6, if_pos (Or.inr ⟨h5, h6⟩)]
            rw [fX1_firstToGo_68, fX1_firstToGo_70]
            dsimp only
            rw [nI_1]
            exact ih d i (i + 1) (by omega) (by omega) (by omega)
        · rw [if_neg h5, if_neg (by rintro (h | h); exact absurd h (Int32.not_lt.mpr h4); exact h5 h.1)]
          rw [fX1_firstToGo_70]
          dsimp only
          rw [nI_1]
          exact ih d f (i + 1) h1 (by omega) (by omega)
      · rw [if_neg h4, if_pos (Or.inl (Int32.not_le.mp h4))]
        rw [fX1_firstToGo_32]
        dsimp only
        rw [if_neg (by decide)]
        rw [fX1_firstToGo_68, fX1_firstToGo_70]
        dsimp only
        rw [nI_1]
        exact ih d i (i + 1) (by omega) (by omega) (by omega)
theorem f1_ftg (hn : 16 < n) : fX1_firstToGo n kk kv ke (nI 8) = some (nI (ftg ke kk 7 0 1)) := f1_ftg_loop n 7 0 1 (by omega) (by omega) (by omega)
/-- where an answer for a key is put; how many there are then -/
def kpl (kk : Nat → Int64) (ke : Nat → Int32) (z : Nat) (x : Int64) (p z' : Nat) : Prop :=
  (p < z ∧ kk p = x ∧ z' = z) ∨ ((∀ k, k < z → kk k ≠ x) ∧ ((z < 8 ∧ p = z ∧ z' = z + 1) ∨ (z = 8 ∧ p = ftg ke kk 7 0 1 ∧ z' = 8)))
theorem f1_keep {p z' : Nat} {v : Int64} {e : Int32} (hn : 16 < n) (hz : z ≤ 8) (hd : ∀ i k, i < z → k < z → kk i = kk k → i = k) (hp : kpl kk ke z x p z') : fX1_keep n kk kv ke (nI z) x v e = some (vp_updL kk p x, vp_updL kv p v, upd ke p e, nI z') := by
  have hp8 : p < 8 := by
    rcases hp with ⟨h, -⟩ | ⟨-, ⟨h1, h2, -⟩ | ⟨-, h, -⟩⟩
    · omega
    · omega
    · rw [h]; exact ftg_lt _ _ _ (by omega) (by omega)
  have hpl : fX1_placeFor n kk kv ke (nI z) x = some (nI p, nI z') := by
    unfold fX1_placeFor
    rcases hp with ⟨h, h1, h2⟩ | ⟨hm, h⟩
    · rw [bs (f1_hit hn hz h h1 (fun k hk e => by have := hd k p (by omega) h (e.trans h1.symm); omega))]
      rw [if_neg (nI_ne_m1 (by omega)), h2]
    · rw [bs (f1_miss hn hz hm)]
      rw [if_pos rfl]
      rcases h with ⟨h1, h2, h3⟩ | ⟨h1, h2, h3⟩
      · rw [show (8 : Int32) = nI 8 from rfl, if_pos ((nI_ltI (by omega) (by omega)).mpr h1), show (1 : Int32) = nI 1 from rfl, nI_add, pk_sub (by omega), h2, h3]
        rfl
      · subst h1
        rw [if_neg (by decide), bs (f1_ftg hn), h2, h3]
  unfold fX1_keep
  rw [bs hpl]
  simp only
  rw [if_neg (nI_pos (by omega)), show (8 : Int32) = nI 8 from rfl, if_neg (by rw [nI_leI (by omega) (by omega)]; omega), ixN hp8 (by decide), ixN hp8 (by decide), ixN hp8 (by decide), nI_clamp (by omega)]
end KPT
