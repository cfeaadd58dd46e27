/-! the pure side: closed forms of the leaf functions -/
theorem ixN {α : Type} {j n : Nat} {k : Option α} (h : j < n) (hn : n < 2 ^ 31) : ix (nI j) n k = k := ix_ok (vp_in_nI h hn)
theorem bs {α β : Type} {x : Option α} {u : α} {f : α → Option β} (h : x = some u) : x.bind f = f u := by rw [h]; rfl
theorem lp_s {α β : Type} {step : (α → Option β) → α → Option β} {n : Nat} {a : α} : loopF step (n + 1) a = step (loopF step n) a := rfl
def shf {α : Type} (f : Nat → α) (j : Nat) : Nat → α := fun k => if k < j then f k else f (k + 1)
/-- how many of the first n are w -/
def cnt (s : Nat → Int32) (w : Int32) : Nat → Nat
  | 0 => 0
  | n + 1 => cnt s w n + (if s n = w then 1 else 0)
theorem cnt_le (s : Nat → Int32) (w : Int32) (n : Nat) : cnt s w n ≤ n := by
  induction n with
  | zero => exact Nat.le_refl _
  | succ n ih => simp only [cnt]; split <;> omega
theorem cnt_congr {s s' : Nat → Int32} {w : Int32} {n : Nat} (h : ∀ i, i < n → s i = s' i) : cnt s w n = cnt s' w n := by
  induction n with
  | zero => rfl
  | succ n ih => simp only [cnt]; rw [ih (fun i hi => h i (by omega)), h n (by omega)]
theorem upd_s {f : Nat → Int32} {k : Nat} {x : Int32} : upd f k x k = x := if_pos rfl
theorem upd_n {f : Nat → Int32} {k j : Nat} {x : Int32} (h : j ≠ k) : upd f k x j = f j := if_neg h
theorem updL_s {f : Nat → Int64} {k : Nat} {x : Int64} : vp_updL f k x k = x := if_pos rfl
theorem updL_n {f : Nat → Int64} {k j : Nat} {x : Int64} (h : j ≠ k) : vp_updL f k x j = f j := if_neg h
theorem cnt_upd {s : Nat → Int32} {w x : Int32} {i : Nat} : ∀ {n : Nat}, i < n → cnt (upd s i x) w n + (if s i = w then 1 else 0) = cnt s w n + (if x = w then 1 else 0) := by
  intro n
  induction n with
  | zero => intro h; omega
  | succ n ih =>
    intro h
    simp only [cnt]
    by_cases hi : i = n
    · subst hi
      rw [cnt_congr (s := upd s i x) (s' := s) (fun j hj => upd_n (by omega)), upd_s]
      omega
    · rw [upd_n (Ne.symm hi)]
      have := ih (by omega)
      omega
theorem cnt_upd_ge {s : Nat → Int32} {w x : Int32} {i n : Nat} (h : n ≤ i) : cnt (upd s i x) w n = cnt s w n := cnt_congr fun j hj => upd_n (by omega)
theorem cnt_pos {s : Nat → Int32} {w : Int32} : ∀ {n : Nat} {i : Nat}, i < n → s i = w → 0 < cnt s w n := by
  intro n
  induction n with
  | zero => intro i h; omega
  | succ n ih =>
    intro i h e
    simp only [cnt]
    by_cases hi : i = n
    · subst hi; rw [if_pos e]; omega
    · have := ih (i := i) (by omega) e; omega
theorem cnt_zero {s : Nat → Int32} {w : Int32} : ∀ {n : Nat}, (∀ i, i < n → s i ≠ w) → cnt s w n = 0 := by
  intro n
  induction n with
  | zero => intro _; rfl
  | succ n ih => intro h; simp only [cnt]; rw [ih (fun i hi => h i (by omega)), if_neg (h n (by omega))]
theorem cnt_ex {s : Nat → Int32} {w : Int32} {n : Nat} (h : 0 < cnt s w n) : ∃ i, i < n ∧ s i = w := by
  apply Classical.byContradiction
  intro hn
  have : cnt s w n = 0 := cnt_zero fun i hi e => hn ⟨i, hi, e⟩
  omega
theorem cnt_two {s : Nat → Int32} {v w : Int32} (hvw : v ≠ w) : ∀ n : Nat, cnt s v n + cnt s w n ≤ n := by
  intro n
  induction n with
  | zero => exact Nat.le_refl _
  | succ n ih =>
    simp only [cnt]
    by_cases h1 : s n = v
    · rw [if_pos h1, if_neg (by rw [h1]; exact hvw)]; omega
    · rw [if_neg h1]; split <;> omega
-- RowList
theorem f5_at {f : Nat → Int32} {Q k : Nat} (hQ : Q ≤ 16) (hk : k < Q) : fX5_at f (nI Q) (nI k) = some (f k) := by
  unfold fX5_at
  rw [if_neg (nI_pos (by omega)), if_neg (by rw [nI_leI (by omega) (by omega)]; omega), ixN (by omega) (by decide), nI_clamp (by omega)]
theorem f5_find_hit {n : Nat} {f : Nat → Int32} {Q j : Nat} {x : Int32} (hQ : Q ≤ 16) (hj : j < Q) (hx : f j = x) : ∀ m i, i ≤ j → j < i + m → (∀ k, i ≤ k → k < j → f k ≠ x) → loopF (fX5_find_2 n f (nI Q)) m (x, nI i) = some (nI j) := by
  intro m
  induction m with
  | zero => intro i h1 h2; omega
  | succ m ih =>
    intro i h1 h2 h3
    rw [lp_s]
    rw [fX5_find_2]
    dsimp only
    rw [if_neg (by rw [nI_leI (by omega) (by omega)]; omega), ixN (by omega) (by decide), nI_clamp (by omega)]
    by_cases hi : i = j
    · subst hi; rw [if_pos hx]
    · rw [if_neg (h3 i (Nat.le_refl _) (by omega)), nI_1]
      exact ih (i + 1) (by omega) (by omega) (fun k a b => h3 k (by omega) b)
theorem f5_find_miss {n : Nat} {f : Nat → Int32} {Q : Nat} {x : Int32} (hQ : Q ≤ 16) : ∀ m i, i ≤ Q → Q < i + m → (∀ k, i ≤ k → k < Q → f k ≠ x) → loopF (fX5_find_2 n f (nI Q)) m (x, nI i) = some (-1) := by
  intro m
  induction m with
  | zero => intro i h1 h2; omega
  | succ m ih =>
    intro i h1 h2 h3
    rw [lp_s]
    rw [fX5_find_2]
    dsimp only
    by_cases hi : i = Q
    · subst hi; rw [if_pos (by rw [nI_leI (by omega) (by omega)]; omega)]
    · rw [if_neg (by rw [nI_leI (by omega) (by omega)]; omega), ixN (by omega) (by decide), nI_clamp (by omega), if_neg (h3 i (Nat.le_refl _) (by omega)), nI_1]
      exact ih (i + 1) (by omega) (by omega) (fun k a b => h3 k (by omega) b)
theorem f5_hit {n : Nat} {f : Nat → Int32} {Q j : Nat} {x : Int32} (hn : 16 < n) (hQ : Q ≤ 16) (hj : j < Q) (hx : f j = x) (hu : ∀ k, k < j → f k ≠ x) : fX5_find n f (nI Q) x = some (nI j) :=
  f5_find_hit hQ hj hx n 0 (Nat.zero_le _) (by omega) (fun k _ h => hu k h)
theorem f5_miss {n : Nat} {f : Nat → Int32} {Q : Nat} {x : Int32} (hn : 16 < n) (hQ : Q ≤ 16) (hu : ∀ k, k < Q → f k ≠ x) : fX5_find n f (nI Q) x = some (-1) :=
  f5_find_miss hQ n 0 (Nat.zero_le _) (by omega) (fun k _ h => hu k h)
theorem f5_append {f : Nat → Int32} {Q : Nat} {x : Int32} (hQ : Q < 16) : fX5_append f (nI Q) x = some (upd f Q x, nI (Q + 1)) := by
  unfold fX5_append
  rw [show (16 : Int32) = nI 16 from rfl, if_neg (by rw [nI_leI (by omega) (by omega)]; omega), ixN (by omega) (by decide), nI_clamp (by omega), show (1 : Int32) = nI 1 from rfl, nI_add]
theorem f5_removeAt {f : Nat → Int32} {Q k : Nat} (hQ : Q ≤ 16) (hk : k < Q) : fX5_removeAt f (nI Q) (nI k) = some (va_cpy f f (k + 1) k (Q - k - 1), nI (Q - 1)) := by
  unfold fX5_removeAt
  have e1 : (1 : Int32) = nI 1 := rfl
  rw [if_neg (nI_pos (by omega)), if_pos ((nI_ltI (by omega) (by omega)).mpr hk), e1, nI_add, pk_sub (by omega), pk_sub (by omega), pk_sub (by omega), nI_clamp (by omega), nI_clamp (by omega), nI_clamp (by omega)]
  unfold cpg
  rw [if_neg]
  intro h
  rcases h with h | h | h | h | h
  · exact nI_pos (by omega) h
  · exact nI_pos (by omega) h
  · exact nI_pos (by omega) h
  · rw [nI_clamp (by omega), nI_clamp (by omega)] at h; omega
  · rw [nI_clamp (by omega), nI_clamp (by omega)] at h; omega
theorem f5_removeNone {f : Nat → Int32} {v : Int32} : fX5_removeAt f v (-1) = some (f, v) := by
  unfold fX5_removeAt
  rw [if_pos (by decide)]
theorem cpy_shf {α : Type} {f : Nat → α} {Q k j : Nat} (hk : k < Q) (hj : j < Q - 1) : va_cpy f f (k + 1) k (Q - k - 1) j = shf f k j := by
  unfold va_cpy shf
  by_cases h : j < k
  · rw [if_neg (by omega), if_pos h]
  · rw [if_pos (by omega), if_neg h]
    congr 1; omega
-- Items
theorem f0_has {i : Nat} (hi : i < 300) {k v : Nat → Int64} {m d : Nat → Int32} : fX0_mayHave k v m d (nI i) = some 1 := by
  unfold fX0_mayHave
  rw [if_neg (nI_pos (by omega)), show (300 : Int32) = nI 300 from rfl]
  first
    | rw [if_neg (by rw [nI_leI (by omega) (by omega)]; omega)]
    | rw [if_pos ((nI_ltI (by omega) (by omega)).mpr hi)]
