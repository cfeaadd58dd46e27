/-! closed forms of the reference's small functions -/
def shw {α : Type} (f : Nat → α) (lo hi : Nat) : Nat → α := fun x => if lo ≤ x ∧ x < hi then f (x + 1) else f x
theorem shw_0 {α : Type} {f : Nat → α} {lo : Nat} : shw f lo lo = f := by
  funext x; unfold shw; rw [if_neg (by omega)]
theorem shw_s {f : Nat → Int32} {lo x : Nat} (h : lo ≤ x) : upd (shw f lo x) x (shw f lo x (x + 1)) = shw f lo (x + 1) := by
  funext y
  unfold upd shw
  by_cases h1 : y = x
  · subst h1; rw [if_pos rfl, if_neg (by omega), if_pos (by omega)]
  · rw [if_neg h1]
    by_cases h2 : lo ≤ y ∧ y < x
    · rw [if_pos h2, if_pos (by omega)]
    · rw [if_neg h2, if_neg (by omega)]
theorem shw_sL {f : Nat → Int64} {lo x : Nat} (h : lo ≤ x) : vp_updL (shw f lo x) x (shw f lo x (x + 1)) = shw f lo (x + 1) := by
  funext y
  unfold vp_updL shw
  by_cases h1 : y = x
  · subst h1; rw [if_pos rfl, if_neg (by omega), if_pos (by omega)]
  · rw [if_neg h1]
    by_cases h2 : lo ≤ y ∧ y < x
    · rw [if_pos h2, if_pos (by omega)]
    · rw [if_neg h2, if_neg (by omega)]
theorem cpy_shw {α : Type} {f : Nat → α} {a k : Nat} (hk : k < a) : va_cpy f f (k + 1) k (a - k - 1) = shw f k (a - 1) := by
  funext x
  unfold va_cpy shw
  by_cases h : k ≤ x ∧ x < a - 1
  · rw [if_pos (by omega), if_pos h]; congr 1; omega
  · rw [if_neg (by omega), if_neg h]
theorem vup_id {α : Type} (f : Nat → α) (k : Nat) : va_up f k (f k) = f := by
  funext x; unfold va_up; by_cases h : x = k
  · rw [if_pos h, h]
  · rw [if_neg h]
theorem sA_id (τ : St) (k : Nat) : sA τ k (τ.2.1 k) = τ := by unfold sA; rw [vup_id]
theorem sL_id (τ : St) (k : Nat) : sL τ k (τ.2.2 k) = τ := by unfold sL; rw [vup_id]
theorem sI_id (τ : St) (k : Nat) : sI τ k (τ.1 k) = τ := by unfold sI; rw [vup_id]
theorem sA_sA (τ : St) (k : Nat) (f g : Nat → Int32) : sA (sA τ k f) k g = sA τ k g := by unfold sA; dsimp only; rw [bx_uu]
section MDL
variable {n N : Nat} {τ : St}
theorem f8_countOf_loop {w : Int32} (hN : N ≤ 300) (h3 : τ.1 3 = nI N) : ∀ m i, i ≤ N → N < i + m → loopF (fX8_countOf_4 n τ) m (w, nI (cnt (τ.2.1 2) w i), nI i) = some (nI (cnt (τ.2.1 2) w N)) := by
  intro m
  induction m with
  | zero => intro i h1 h2; omega
  | succ m ih =>
    intro i h1 h2
    rw [lp_s, fX8_countOf_4]
    dsimp only
    rw [h3]
    by_cases hi : i = N
    · subst hi; rw [if_pos (by rw [nI_leI (by omega) (by omega)]; omega)]
    · rw [if_neg (by rw [nI_leI (by omega) (by omega)]; omega), ixN (by omega) (by decide), nI_clamp (by omega)]
      have := ih (i + 1) (by omega) (by omega)
      by_cases hs : τ.2.1 2 i = w
      · rw [if_pos hs, fX8_countOf_28]
        dsimp only
        rw [nI_1, nI_1, ← this]
        simp only [cnt, if_pos hs]
      · rw [if_neg hs, fX8_countOf_28]
        dsimp only
        rw [nI_1, ← this]
        simp only [cnt, if_neg hs]
        rw [show (0 : Int32) = nI 0 from rfl, nI_add]
theorem f8_countOf {w : Int32} (hn : 300 < n) (hN : N ≤ 300) (h3 : τ.1 3 = nI N) : fX8_countOf n τ w = some (nI (cnt (τ.2.1 2) w N)) := f8_countOf_loop hN h3 n 0 (Nat.zero_le _) (by omega)
theorem f8_first_loop {w : Int32} {j : Nat} (hN : N ≤ 300) (h3 : τ.1 3 = nI N) (hj : j < N) (hw : τ.2.1 2 j = w) : ∀ m i, i ≤ j → j < i + m → (∀ k, i ≤ k → k < j → τ.2.1 2 k ≠ w) → loopF (fX8_first_2 n τ) m (w, nI i) = some (nI j) := by
  intro m
  induction m with
  | zero => intro i h1 h2; omega
  | succ m ih =>
    intro i h1 h2 h4
    rw [lp_s, fX8_first_2]
    dsimp only
    rw [h3, if_neg (by rw [nI_leI (by omega) (by omega)]; omega), ixN (by omega) (by decide), nI_clamp (by omega)]
    by_cases hi : i = j
    · subst hi; rw [if_pos hw]
    · rw [if_neg (h4 i (Nat.le_refl _) (by omega)), nI_1]
      exact ih (i + 1) (by omega) (by omega) (fun k a b => h4 k (by omega) b)
theorem f8_first {w : Int32} {j : Nat} (hn : 300 < n) (hN : N ≤ 300) (h3 : τ.1 3 = nI N) (hj : j < N) (hw : τ.2.1 2 j = w) (hu : ∀ k, k < j → τ.2.1 2 k ≠ w) : fX8_first n τ w = some (nI j) := f8_first_loop hN h3 hj hw n 0 (Nat.zero_le _) (by omega) (fun k _ h => hu k h)
theorem nI_m1 {i : Nat} (h : 0 < i) : nI i + (-1) = nI (i - 1) := by
  obtain ⟨j, rfl⟩ : ∃ j, i = j + 1 := ⟨i - 1, by omega⟩
  rw [pk_m1]; rfl
theorem nI_s1 {i : Nat} (h : 0 < i) : nI i - 1 = nI (i - 1) := by rw [show (1 : Int32) = nI 1 from rfl, pk_sub (by omega)]
-- the queue, from behind
theorem f8_place_hit {x : Int32} {Q j : Nat} (hQ : Q ≤ 300) (hx : τ.2.1 6 j = x) : ∀ m i, i < Q → j ≤ i → i < j + m → (∀ k, j < k → k ≤ i → τ.2.1 6 k ≠ x) → loopF (fX8_placeInQueue_7 n τ) m (x, nI i) = some (nI j) := by
  intro m
  induction m with
  | zero => intro i h0 h1 h2; omega
  | succ m ih =>
    intro i h0 h1 h2 h4
    rw [lp_s, fX8_placeInQueue_7]
    dsimp only
    rw [if_neg (nI_pos (by omega)), ixN (by omega) (by decide), nI_clamp (by omega)]
    by_cases hi : i = j
    · subst hi; rw [if_pos hx]
    · rw [if_neg (h4 i (by omega) (Nat.le_refl _)), nI_m1 (by omega)]
      exact ih (i - 1) (by omega) (by omega) (by omega) (fun k a b => h4 k a (by omega))
theorem f8_place_miss {x : Int32} {Q : Nat} (hQ : Q ≤ 300) : ∀ m i, i < Q → i + 1 < m → (∀ k, k ≤ i → τ.2.1 6 k ≠ x) → loopF (fX8_placeInQueue_7 n τ) m (x, nI i) = some (-1) := by
  intro m
  induction m with
  | zero => intro i h0 h1; omega
  | succ m ih =>
    intro i h0 h1 h4
    rw [lp_s, fX8_placeInQueue_7]
    dsimp only
    rw [if_neg (nI_pos (by omega)), ixN (by omega) (by decide), nI_clamp (by omega), if_neg (h4 i (Nat.le_refl _))]
    by_cases hi : i = 0
    · subst hi
      obtain ⟨m', rfl⟩ : ∃ m', m = m' + 1 := ⟨m - 1, by omega⟩
      rw [lp_s, fX8_placeInQueue_7]
      dsimp only
      rw [if_pos (by decide)]
      rfl
    · rw [nI_m1 (by omega)]
      exact ih (i - 1) (by omega) (by omega) (fun k a => h4 k (by omega))
theorem f8_hit {x : Int32} {Q j : Nat} (hn : 301 < n) (hQ : Q ≤ 300) (h4 : τ.1 4 = nI Q) (hj : j < Q) (hx : τ.2.1 6 j = x) (hu : ∀ k, j < k → k < Q → τ.2.1 6 k ≠ x) : fX8_placeInQueue n τ x = some (nI j) := by
  unfold fX8_placeInQueue
  rw [h4, nI_s1 (by omega)]
  exact f8_place_hit hQ hx n (Q - 1) (by omega) (by omega) (by omega) (fun k a b => hu k a (by omega))
theorem f8_miss {x : Int32} {Q : Nat} (hn : 301 < n) (hQ : Q ≤ 300) (h4 : τ.1 4 = nI Q) (hu : ∀ k, k < Q → τ.2.1 6 k ≠ x) : fX8_placeInQueue n τ x = some (-1) := by
  unfold fX8_placeInQueue
  rw [h4]
  by_cases h0 : Q = 0
  · subst h0
    obtain ⟨m', rfl⟩ : ∃ m', n = m' + 1 := ⟨n - 1, by omega⟩
    rw [lp_s, fX8_placeInQueue_7]
    dsimp only
    rw [if_pos (by decide)]
    rfl
  · rw [nI_s1 (by omega)]
    exact f8_place_miss hQ n (Q - 1) (by omega) (by omega) (fun k a => hu k (by omega))
theorem f8_leave_loop {Q j : Nat} {f : Nat → Int32} (hQ : Q ≤ 300) (h4 : τ.1 4 = nI Q) : ∀ m x, j ≤ x → x < Q → Q < x + 1 + m → loopF (fX8_leave_12 n) m (sA τ 6 (shw f j x), nI x) = some (sI (sA τ 6 (shw f j (Q - 1))) 4 (nI (Q - 1))) := by
  intro m
  induction m with
  | zero => intro x h0 h1 h2; omega
  | succ m ih =>
    intro x h0 h1 h2
    rw [lp_s, fX8_leave_12]
    dsimp only
    rw [show (sA τ 6 (shw f j x)).1 4 = nI Q from h4, show (1 : Int32) = nI 1 from rfl, nI_add]
    by_cases hx : x = Q - 1
    · subst hx
      rw [if_pos (by rw [nI_leI (by omega) (by omega)]; omega), pk_sub (by omega)]
    · rw [if_neg (by rw [nI_leI (by omega) (by omega)]; omega), ixN (by omega) (by decide), ixN (by omega) (by decide), nI_clamp (by omega), nI_clamp (by omega), sA_sA, show (sA τ 6 (shw f j x)).2.1 6 = shw f j x from sA_s, shw_s h0]
      exact ih (x + 1) (by omega) (by omega) (by omega)
theorem f8_leave_hit {x : Int32} {Q j : Nat} (hn : 301 < n) (hQ : Q ≤ 300) (h4 : τ.1 4 = nI Q) (hj : j < Q) (hx : τ.2.1 6 j = x) (hu : ∀ k, j < k → k < Q → τ.2.1 6 k ≠ x) : fX8_leave n τ x = some (sI (sA τ 6 (shw (τ.2.1 6) j (Q - 1))) 4 (nI (Q - 1))) := by
  unfold fX8_leave
  rw [bs (f8_hit hn hQ h4 hj hx hu)]
  rw [if_neg (nI_pos (by omega))]
  have := f8_leave_loop (n := n) (f := τ.2.1 6) hQ h4 n j (Nat.le_refl _) hj (by omega)
  rw [shw_0, sA_id] at this
  exact this
theorem f8_leave_miss {x : Int32} {Q : Nat} (hn : 301 < n) (hQ : Q ≤ 300) (h4 : τ.1 4 = nI Q) (hu : ∀ k, k < Q → τ.2.1 6 k ≠ x) : fX8_leave n τ x = some τ := by
  unfold fX8_leave
  rw [bs (f8_miss hn hQ h4 hu)]
  rw [if_pos (by decide)]
theorem f8_again {i Q : Nat} (hi : i < 300) (hQ : Q < 300) (h4 : τ.1 4 = nI Q) : fX8_again τ (nI i) = if τ.2.1 4 i < τ.2.1 0 1 then some (1, sI (sA (sA τ 4 (upd (τ.2.1 4) i (τ.2.1 4 i + 1))) 6 (upd (τ.2.1 6) Q (nI i))) 4 (nI (Q + 1))) else some (0, τ) := by
  unfold fX8_again
  rw [h4, ixN hi (by decide), ixN hi (by decide), ixN hi (by decide), ixN hQ (by decide), nI_clamp (by omega), nI_clamp (by omega), nI_1]
  rfl
theorem f8_send {ln a : Nat} {r w : Int32} {v : Int64} (hl : ln < 2) (ha : τ.2.1 11 ln = nI a) (h100 : a < 100) : fX8_send τ (nI ln) r w v = some (sA (sL (sA (sA τ 9 (upd (τ.2.1 9) (100 * ln + a) r)) 10 (upd (τ.2.1 10) (100 * ln + a) w)) 3 (vp_updL (τ.2.2 3) (100 * ln + a) v)) 11 (upd (τ.2.1 11) ln (nI (a + 1)))) := by
  unfold fX8_send
  rw [nI_clamp (by omega), ha, show (100 : Int32) = nI 100 from rfl, ixN hl (by decide), if_neg (by rw [nI_leI (by omega) (by omega)]; omega), pk_mul, nI_add, ixN (by omega) (by decide), ixN (by omega) (by decide), ixN (by omega) (by decide), ixN hl (by decide), ixN hl (by decide), nI_clamp (by omega), nI_1]
theorem f8_sendF {ln : Nat} {r w : Int32} {v : Int64} (hl : ln < 2) (ha : τ.2.1 11 ln = nI 100) : fX8_send τ (nI ln) r w v = some τ := by
  unfold fX8_send
  rw [nI_clamp (by omega), ha, ixN hl (by decide), if_pos (by decide)]
end MDL
theorem take_merge (τ : St) (u u' c c' : Nat → Int32) (b b' : Nat → Int64) : sL (sA (sA (sL (sA (sA τ 9 u) 10 c) 3 b) 9 u') 10 c') 3 b' = sL (sA (sA τ 9 u') 10 c') 3 b' := by
  unfold sL sA
  dsimp only
  rw [bx_uu]
  congr 2
  funext x
  unfold va_up
  by_cases h1 : x = 10
  · simp only [if_pos h1]
  · by_cases h2 : x = 9
    · simp only [if_neg h1, if_pos h2]
    · simp only [if_neg h1, if_neg h2]
section MDL2
variable {n N : Nat} {τ : St}
theorem f8_take_loop {ln a lo : Nat} {u c : Nat → Int32} {b : Nat → Int64} (hl : ln < 2) (ha : τ.2.1 11 ln = nI a) (h100 : a ≤ 100) (hlo : 100 * ln ≤ lo) : ∀ m x, lo ≤ x → x < 100 * ln + a → 100 * ln + a < x + 1 + m → loopF (fX8_take_7 n) m (sL (sA (sA τ 9 (shw u lo x)) 10 (shw c lo x)) 3 (shw b lo x), nI ln, nI x) = some (sA (sL (sA (sA τ 9 (shw u lo (100 * ln + a - 1))) 10 (shw c lo (100 * ln + a - 1))) 3 (shw b lo (100 * ln + a - 1))) 11 (upd (τ.2.1 11) ln (nI (a - 1)))) := by
  intro m
  induction m with
  | zero => intro x h0 h1 h2; omega
  | succ m ih =>
    intro x h0 h1 h2
    rw [lp_s, fX8_take_7]
    dsimp only
    rw [show (sL (sA (sA τ 9 (shw u lo x)) 10 (shw c lo x)) 3 (shw b lo x)).2.1 11 = τ.2.1 11 from rfl, nI_clamp (by omega), ha, show (100 : Int32) = nI 100 from rfl, show (1 : Int32) = nI 1 from rfl, pk_mul, nI_add, nI_add, ixN hl (by decide)]
    by_cases hx : x = 100 * ln + a - 1
    · subst hx
      rw [if_pos (by rw [nI_leI (by omega) (by omega)]; omega), ixN hl (by decide), ixN hl (by decide), pk_sub (by omega)]
    · rw [if_neg (by rw [nI_leI (by omega) (by omega)]; omega), ixN (by omega) (by decide), ixN (by omega) (by decide), ixN (by omega) (by decide), ixN (by omega) (by decide), ixN (by omega) (by decide), ixN (by omega) (by decide), nI_clamp (by omega), nI_clamp (by omega)]
      rw [show (sL (sA (sA τ 9 (shw u lo x)) 10 (shw c lo x)) 3 (shw b lo x)).2.1 9 = shw u lo x from rfl, show (sL (sA (sA τ 9 (shw u lo x)) 10 (shw c lo x)) 3 (shw b lo x)).2.1 10 = shw c lo x from rfl, show (sL (sA (sA τ 9 (shw u lo x)) 10 (shw c lo x)) 3 (shw b lo x)).2.2 3 = shw b lo x from rfl, shw_s h0, shw_s h0, shw_sL h0, take_merge]
      exact ih (x + 1) (by omega) (by omega) (by omega)
theorem f8_take {ln a k : Nat} (hn : 301 < n) (hl : ln < 2) (ha : τ.2.1 11 ln = nI a) (h100 : a ≤ 100) (hk : k < a) : fX8_take n τ (nI ln) (nI k) = some (sA (sL (sA (sA τ 9 (shw (τ.2.1 9) (100 * ln + k) (100 * ln + a - 1))) 10 (shw (τ.2.1 10) (100 * ln + k) (100 * ln + a - 1))) 3 (shw (τ.2.2 3) (100 * ln + k) (100 * ln + a - 1))) 11 (upd (τ.2.1 11) ln (nI (a - 1)))) := by
  unfold fX8_take
  rw [show (100 : Int32) = nI 100 from rfl, pk_mul, nI_add]
  have := f8_take_loop (n := n) (u := τ.2.1 9) (c := τ.2.1 10) (b := τ.2.2 3) (lo := 100 * ln + k) hl ha h100 (by omega) n (100 * ln + k) (Nat.le_refl _) (by omega) (by omega)
  rw [shw_0, shw_0, shw_0, sA_id, sA_id, sL_id] at this
  exact this
-- keyAt
theorem f8_keyAt_hit {x : Int64} {j : Nat} (hN : N ≤ 300) (h3 : τ.1 3 = nI N) (hj : j < N) (hm : τ.2.1 1 j = 0) (hx : τ.2.2 0 j = x) : ∀ m i, i ≤ j → j < i + m → (∀ k, i ≤ k → k < j → τ.2.1 1 k ≠ 0 ∨ τ.2.2 0 k ≠ x) → loopF (fX8_keyAt_2 n τ) m (x, nI i) = some (nI j) := by
  intro m
  induction m with
  | zero => intro i h1 h2; omega
  | succ m ih =>
    intro i h1 h2 h4
    rw [lp_s, fX8_keyAt_2]
    dsimp only
    rw [h3, if_neg (by rw [nI_leI (by omega) (by omega)]; omega), ixN (by omega) (by decide), nI_clamp (by omega)]
    by_cases hi : i = j
    · subst hi
      rw [if_pos hm, ixN (by omega) (by decide), if_pos hx, fX8_keyAt_36, h3]
      first
        | rw [if_pos ((nI_ltI (by omega) (by omega)).mpr hj)]
        | rw [if_neg (by rw [nI_leI (by omega) (by omega)]; omega)]
    · have h5 := h4 i (Nat.le_refl _) (by omega)
      have h6 := ih (i + 1) (by omega) (by omega) (fun k a b => h4 k (by omega) b)
      by_cases h7 : τ.2.1 1 i = 0
      · rw [if_pos h7, ixN (by omega) (by decide), if_neg (h5.resolve_left (fun h => h h7)), fX8_keyAt_30]
        dsimp only
        rw [nI_1]; exact h6
      · rw [if_neg h7, fX8_keyAt_30]
        dsimp only
        rw [nI_1]; exact h6
theorem f8_keyAt_miss {x : Int64} (hN : N ≤ 300) (h3 : τ.1 3 = nI N) : ∀ m i, i ≤ N → N < i + m → (∀ k, i ≤ k → k < N → τ.2.1 1 k ≠ 0 ∨ τ.2.2 0 k ≠ x) → loopF (fX8_keyAt_2 n τ) m (x, nI i) = some (-1) := by
  intro m
  induction m with
  | zero => intro i h1 h2; omega
  | succ m ih =>
    intro i h1 h2 h4
    rw [lp_s, fX8_keyAt_2]
    dsimp only
    rw [h3]
    by_cases hi : i = N
    · subst hi
      rw [if_pos (by rw [nI_leI (by omega) (by omega)]; omega), fX8_keyAt_36, h3]
      first
        | rw [if_neg (by rw [nI_ltI (by omega) (by omega)]; omega)]
        | rw [if_pos (by rw [nI_leI (by omega) (by omega)]; omega)]
    · rw [if_neg (by rw [nI_leI (by omega) (by omega)]; omega), ixN (by omega) (by decide), nI_clamp (by omega)]
      have h5 := h4 i (Nat.le_refl _) (by omega)
      have h6 := ih (i + 1) (by omega) (by omega) (fun k a b => h4 k (by omega) b)
      by_cases h7 : τ.2.1 1 i = 0
      · rw [if_pos h7, ixN (by omega) (by decide), if_neg (h5.resolve_left (fun h => h h7)), fX8_keyAt_30]
        dsimp only
        rw [nI_1]; exact h6
      · rw [if_neg h7, fX8_keyAt_30]
        dsimp only
        rw [nI_1]; exact h6
-- kept answers
theorem f8_kept_hit {x : Int64} {z j : Nat} (hz : z ≤ 8) (hx : τ.2.2 5 j = x) : ∀ m i, i < z → j ≤ i → i < j + m → (∀ k, j < k → k ≤ i → τ.2.2 5 k ≠ x) → loopF (fX8_keptFor_7 n τ) m (x, nI i) = some (nI j) := by
  intro m
  induction m with
  | zero => intro i h0 h1 h2; omega
  | succ m ih =>
    intro i h0 h1 h2 h4
    rw [lp_s, fX8_keptFor_7]
    dsimp only
    rw [if_neg (nI_pos (by omega)), ixN (by omega) (by decide), nI_clamp (by omega)]
    by_cases hi : i = j
    · subst hi; rw [if_pos hx]
    · rw [if_neg (h4 i (by omega) (Nat.le_refl _)), nI_m1 (by omega)]
      exact ih (i - 1) (by omega) (by omega) (by omega) (fun k a b => h4 k a (by omega))
theorem f8_kept_miss {x : Int64} {z : Nat} (hz : z ≤ 8) : ∀ m i, i < z → i + 1 < m → (∀ k, k ≤ i → τ.2.2 5 k ≠ x) → loopF (fX8_keptFor_7 n τ) m (x, nI i) = some (-1) := by
  intro m
  induction m with
  | zero => intro i h0 h1; omega
  | succ m ih =>
    intro i h0 h1 h4
    rw [lp_s, fX8_keptFor_7]
    dsimp only
    rw [if_neg (nI_pos (by omega)), ixN (by omega) (by decide), nI_clamp (by omega), if_neg (h4 i (Nat.le_refl _))]
    by_cases hi : i = 0
    · subst hi
      obtain ⟨m', rfl⟩ : ∃ m', m = m' + 1 := ⟨m - 1, by omega⟩
      rw [lp_s, fX8_keptFor_7]
      dsimp only
      rw [if_pos (by decide)]
      rfl
    · rw [nI_m1 (by omega)]
      exact ih (i - 1) (by omega) (by omega) (fun k a => h4 k (by omega))
theorem f8_keptFor_hit {x : Int64} {z j : Nat} (hn : 301 < n) (hz : z ≤ 8) (h8 : τ.1 8 = nI z) (hj : j < z) (hx : τ.2.2 5 j = x) (hu : ∀ k, j < k → k < z → τ.2.2 5 k ≠ x) : fX8_keptFor n τ x = some (nI j) := by
  unfold fX8_keptFor
  rw [h8, nI_s1 (by omega)]
  exact f8_kept_hit hz hx n (z - 1) (by omega) (by omega) (by omega) (fun k a b => hu k a (by omega))
theorem f8_keptFor_miss {x : Int64} {z : Nat} (hn : 301 < n) (hz : z ≤ 8) (h8 : τ.1 8 = nI z) (hu : ∀ k, k < z → τ.2.2 5 k ≠ x) : fX8_keptFor n τ x = some (-1) := by
  unfold fX8_keptFor
  rw [h8]
  by_cases h0 : z = 0
  · subst h0
    obtain ⟨m', rfl⟩ : ∃ m', n = m' + 1 := ⟨n - 1, by omega⟩
    rw [lp_s, fX8_keptFor_7]
    dsimp only
    rw [if_pos (by decide)]
    rfl
  · rw [nI_s1 (by omega)]
    exact f8_kept_miss hz n (z - 1) (by omega) (by omega) (fun k a => hu k (by omega))
theorem f8_keep_put {p : Nat} {x v : Int64} (hp : p < 8) : fX8_keep_135 n (τ, x, v, nI p) = some (sA (sL (sL τ 5 (vp_updL (τ.2.2 5) p x)) 6 (vp_updL (τ.2.2 6) p v)) 14 (upd (τ.2.1 14) p (τ.1 2 + τ.2.1 0 3))) := by
  rw [fX8_keep_135]
  dsimp only
  rw [ixN hp (by decide), ixN hp (by decide), ixN hp (by decide), nI_clamp (by omega)]
  rfl
theorem f8_keep_loop {x v : Int64} : ∀ m d f i, f < 8 → i + d = 8 → d < m → loopF (fX8_keep_61 n) m (τ, x, v, nI f, nI i) = fX8_keep_135 n (τ, x, v, nI (ftg (τ.2.1 14) (τ.2.2 5) d f i)) := by
  intro m
  induction m with
  | zero => intro d f i h1 h2 h3; omega
  | succ m ih =>
    intro d f i h1 h2 h3
    rw [lp_s, fX8_keep_61]
    dsimp only
    cases d with
    | zero =>
      rw [show (8 : Int32) = nI 8 from rfl, if_pos (by rw [nI_leI (by omega) (by omega)]; omega)]
      rfl
    | succ d =>
      rw [show (8 : Int32) = nI 8 from rfl, if_neg (by rw [nI_leI (by omega) (by omega)]; omega), ixN (by omega) (by decide), ixN (by omega) (by decide), nI_clamp (by omega), nI_clamp (by omega)]
      unfold ftg
      by_cases h4 : τ.2.1 14 i < τ.2.1 14 f
      · rw [if_pos h4, if_pos (Or.inl h4), fX8_keep_120, fX8_keep_127]
        dsimp only
        rw [nI_1]
        exact ih d i (i + 1) (by omega) (by omega) (by omega)
      · rw [if_neg h4, ixN (by omega) (by decide), ixN (by omega) (by decide)]
        by_cases h5 : τ.2.1 14 i = τ.2.1 14 f
        · rw [if_pos h5, ixN (by omega) (by decide), ixN (by omega) (by decide)]
          by_cases h6 : τ.2.2 5 f ≤ τ.2.2 5 i
          · rw [if_pos h6, if_neg (by rintro (h | h); exact h4 h; exact h.2 h6), fX8_keep_125, fX8_keep_127]
            dsimp only
            rw [nI_1]
            exact ih d f (i + 1) h1 (by omega) (by omega)
          · rw [if_neg h6, if_pos (Or.inr ⟨h5, h6⟩), fX8_keep_120, fX8_keep_127]
            dsimp only
            rw [nI_1]
            exact ih d i (i + 1) (by omega) (by omega) (by omega)
        · rw [if_neg h5, if_neg (by rintro (h | h); exact h4 h; exact h5 h.1), fX8_keep_125, fX8_keep_127]
          dsimp only
          rw [nI_1]
          exact ih d f (i + 1) h1 (by omega) (by omega)
theorem f8_keep {p z z' : Nat} {x v : Int64} (hn : 301 < n) (hz : z ≤ 8) (h8 : τ.1 8 = nI z) (hK : τ.2.1 0 3 ≠ 0) (hd : ∀ i k, i < z → k < z → τ.2.2 5 i = τ.2.2 5 k → i = k) (hp : kpl (τ.2.2 5) (τ.2.1 14) z x p z') : fX8_keep n τ x v = some (sA (sL (sL (sI τ 8 (nI z')) 5 (vp_updL (τ.2.2 5) p x)) 6 (vp_updL (τ.2.2 6) p v)) 14 (upd (τ.2.1 14) p (τ.1 2 + τ.2.1 0 3))) := by
  have hp8 : p < 8 := by
    rcases hp with ⟨h, -⟩ | ⟨-, ⟨h1, h2, -⟩ | ⟨-, h, -⟩⟩
    · omega
    · omega
    · rw [h]; exact ftg_lt _ _ _ (by omega) (by omega)
  unfold fX8_keep
  rw [if_neg (show ¬ τ.2.1 0 (3 : Int32).toNatClampNeg = 0 from hK)]
  rcases hp with ⟨h, h1, h2⟩ | ⟨hm, h⟩
  · rw [bs (f8_keptFor_hit hn hz h8 h h1 (fun k a b e => by have := hd k p b h (e.trans h1.symm); omega))]
    rw [if_pos (nI_pos' (by omega)), fX8_keep_50]
    dsimp only
    rw [if_pos (nI_pos' (by omega)), f8_keep_put hp8, h2, ← h8, sI_id]
  · rw [bs (f8_keptFor_miss hn hz h8 hm)]
    rw [if_neg (by decide), h8]
    rcases h with ⟨h1, h2, h3⟩ | ⟨h1, h2, h3⟩
    · rw [show (8 : Int32) = nI 8 from rfl, if_neg (by rw [nI_leI (by omega) (by omega)]; omega), nI_1, ← h3, ← h2, f8_keep_put hp8]
      rfl
    · subst h1
      rw [if_pos (by decide), fX8_keep_50]
      dsimp only
      rw [if_neg (by decide)]
      have := f8_keep_loop (n := n) (τ := τ) (x := x) (v := v) n 7 0 1 (by omega) (by omega) (by omega)
      rw [show (0 : Int32) = nI 0 from rfl, show (1 : Int32) = nI 1 from rfl, this, ← h2, f8_keep_put hp8, h3, ← h8, sI_id]
end MDL2
-- which item goes out next
def pst (x : Int32) : Bool := decide (x = 3 ∨ x = 4)
def bI (b : Bool) : Int32 := if b = true then 1 else 0
def nOut (od : Bool) (s mk : Nat → Int32) : Nat → Nat → Bool → Bool → Option Nat
  | 0, _, _, _ => none
  | d + 1, i, al, ms => if s i = 2 ∧ (if od = true ∨ mk i ≠ 0 then al else ms) = true then some i else nOut od s mk d (i + 1) (al && pst (s i)) (ms && (pst (s i) || decide (mk i = 0)))
def opN (o : Option Nat) : Int32 := match o with
  | some j => nI j
  | none => -1
theorem bI_and (a b : Bool) : bI a &&& bI b = bI (a && b) := by cases a <;> cases b <;> rfl
section NXO
variable {n N : Nat} {τ : St} {od : Bool}
theorem f8_nextOut_loop (hN : N ≤ 300) (h3 : τ.1 3 = nI N) (ho : τ.1 1 = 0 ↔ od = false) : ∀ m d i al ms, i + d = N → d < m → loopF (fX8_nextOut_6 n τ) m (bI al, bI ms, nI i) = some (opN (nOut od (τ.2.1 2) (τ.2.1 1) d i al ms)) := by
  intro m
  induction m with
  | zero => intro d i al ms h1 h2; omega
  | succ m ih =>
    intro d i al ms h1 h2
    rw [lp_s, fX8_nextOut_6]
    dsimp only
    rw [h3]
    cases d with
    | zero =>
      rw [if_pos (by rw [nI_leI (by omega) (by omega)]; omega)]
      rfl
    | succ d =>
      rw [if_neg (by rw [nI_leI (by omega) (by omega)]; omega)]
      have tail : ∀ (al' ms' : Bool), al' = (al && pst (τ.2.1 2 i)) → ms' = (ms && (pst (τ.2.1 2 i) || decide (τ.2.1 1 i = 0))) → loopF (fX8_nextOut_6 n τ) m (bI al', bI ms', nI i + 1) = some (opN (nOut od (τ.2.1 2) (τ.2.1 1) d (i + 1) (al && pst (τ.2.1 2 i)) (ms && (pst (τ.2.1 2 i) || decide (τ.2.1 1 i = 0))))) := by
        intro al' ms' e1 e2
        rw [e1, e2, nI_1]
        exact ih d (i + 1) _ _ (by omega) (by omega)
      have b54 : fX8_nextOut_54 n τ (loopF (fX8_nextOut_6 n τ) m) (bI al, bI ms, nI i) = some (opN (nOut od (τ.2.1 2) (τ.2.1 1) d (i + 1) (al && pst (τ.2.1 2 i)) (ms && (pst (τ.2.1 2 i) || decide (τ.2.1 1 i = 0))))) := by
        rw [fX8_nextOut_54]
        dsimp only
        rw [ixN (by omega) (by decide), ixN (by omega) (by decide), nI_clamp (by omega)]
        have past : pst (τ.2.1 2 i) = true → fX8_nextOut_74 n τ (loopF (fX8_nextOut_6 n τ) m) (bI al, bI ms, nI i) = some (opN (nOut od (τ.2.1 2) (τ.2.1 1) d (i + 1) (al && pst (τ.2.1 2 i)) (ms && (pst (τ.2.1 2 i) || decide (τ.2.1 1 i = 0))))) := by
          intro hp
          rw [fX8_nextOut_74, fX8_nextOut_79]
          dsimp only
          rw [if_neg (by decide), fX8_nextOut_101, fX8_nextOut_106]
          dsimp only
          rw [show (1 : Int32) = bI true from rfl, bI_and, bI_and]
          exact tail _ _ (by rw [hp]) (by rw [hp]; simp)
        by_cases h5 : τ.2.1 2 i = 3
        · rw [if_pos h5]; exact past (by rw [h5]; rfl)
        · rw [if_neg h5]
          by_cases h6 : τ.2.1 2 i = 4
          · rw [if_pos h6]; exact past (by rw [h6]; rfl)
          · rw [if_neg h6]
            have hp : pst (τ.2.1 2 i) = false := by unfold pst; simp [h5, h6]
            rw [fX8_nextOut_79]
            dsimp only
            rw [if_pos rfl, ixN (by omega) (by decide), nI_clamp (by omega)]
            by_cases h7 : τ.2.1 1 i = 0
            · rw [if_pos h7, fX8_nextOut_101, fX8_nextOut_106]
              dsimp only
              rw [show (1 : Int32) = bI true from rfl, show (0 : Int32) = bI false from rfl, bI_and, bI_and]
              exact tail _ _ (by rw [hp]) (by rw [hp]; simp [h7])
            · rw [if_neg h7, fX8_nextOut_106]
              dsimp only
              rw [show (0 : Int32) = bI false from rfl, bI_and, bI_and]
              exact tail _ _ (by rw [hp]) (by rw [hp]; simp [h7])
      have b35 : ∀ (f : Bool), fX8_nextOut_35 n τ (loopF (fX8_nextOut_6 n τ) m) (bI al, bI ms, nI i, bI f) = some (opN (if τ.2.1 2 i = 2 ∧ f = true then some i else nOut od (τ.2.1 2) (τ.2.1 1) d (i + 1) (al && pst (τ.2.1 2 i)) (ms && (pst (τ.2.1 2 i) || decide (τ.2.1 1 i = 0))))) := by
        intro f
        rw [fX8_nextOut_35]
        dsimp only
        rw [ixN (by omega) (by decide), nI_clamp (by omega)]
        by_cases h5 : τ.2.1 2 i = 2
        · rw [if_pos h5]
          cases f with
          | true => rw [if_neg (by decide), if_pos ⟨h5, rfl⟩]; rfl
          | false => rw [if_pos (show bI false = 0 from rfl), if_neg (by simp)]; exact b54
        · rw [if_neg h5, if_neg (fun h => h5 h.1)]; exact b54
      unfold nOut
      by_cases h8 : τ.1 1 = 0
      · rw [if_pos h8, ixN (by omega) (by decide), nI_clamp (by omega)]
        have h9 := ho.mp h8
        by_cases h10 : τ.2.1 1 i = 0
        · rw [if_pos h10, b35 ms, if_neg (c := od = true ∨ τ.2.1 1 i ≠ 0) (by rw [h9]; simp [h10])]
        · rw [if_neg h10, fX8_nextOut_30]
          dsimp only
          rw [b35 al, if_pos (c := od = true ∨ τ.2.1 1 i ≠ 0) (Or.inr h10)]
      · rw [if_neg h8, fX8_nextOut_30]
        dsimp only
        rw [b35 al, if_pos (c := od = true ∨ τ.2.1 1 i ≠ 0) (Or.inl (by cases od with | true => rfl | false => exact absurd (ho.mpr rfl) h8))]
theorem f8_nextOut (hn : 300 < n) (hN : N ≤ 300) (h3 : τ.1 3 = nI N) (ho : τ.1 1 = 0 ↔ od = false) : fX8_nextOut n τ = some (opN (nOut od (τ.2.1 2) (τ.2.1 1) N 0 true true)) := f8_nextOut_loop hN h3 ho n N 0 true true (by omega) (by omega)
end NXO
