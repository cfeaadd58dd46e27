/-! the relation between the class's state and the reference's -/
def okS (n M : Nat) (mk s : Nat → Int32) (tl : Int32 × Int32) : Prop :=
  (∀ i, i < n → ∃ a, a < 5 ∧ s i = nI a) ∧ (∀ i, i < n → mk i ≠ 0 → s i ≠ 0 ∧ s i ≠ 1) ∧ (∀ i j, i < n → j < n → s i = 1 → s j = 0 → i < j) ∧ okT n s tl ∧ cnt s 1 n ≤ M
def okR (n : Nat) (s cr mr : Nat → Int32) (cv mv : Nat → Int64) : Prop :=
  ∀ i, i < n → ((s i = 2 ∨ s i = 3) → cr i = mr i ∧ cv i = mv i) ∧ (¬ (s i = 2 ∨ s i = 3) → cr i = -1 ∧ cv i = 0)
def okO (n o : Nat) (s oi : Nat → Int32) : Prop := o = cnt s 3 n ∧ ∀ k, k < o → ∃ i, i < n ∧ oi k = nI i ∧ s i = 3
def gE (M t : Nat) (c0 c1 c12 c13 c14 c15 m0 m1 m2 m5 m6 m11 : Int32) (cs ms : Nat → Int32) : Prop :=
  (1 ≤ M ∧ M ≤ 16 ∧ c0 = nI M ∧ m0 = nI M) ∧ c1 = m1 ∧ (t ≤ 1000000 ∧ c12 = nI t ∧ m2 = nI t) ∧ c13 = m5 ∧ c14 = m6 ∧ c15 = m11 ∧ cs = ms ∧ ∀ j, j < 8 → set_lo j ≤ ms j ∧ ms j ≤ set_hi j
def gI (n : Nat) (c2 m3 : Int32) (cm mm : Nat → Int32) (ck mk cv mv : Nat → Int64) : Prop :=
  n ≤ 300 ∧ c2 = nI n ∧ m3 = nI n ∧ cm = mm ∧ ck = mk ∧ cv = mv ∧ ∀ i, n ≤ i → mm i = 0 ∧ mk i = 0 ∧ mv i = 0
/-- behind the last item nothing was ever written -/
def okE (n : Nat) (s t : Nat → Int32) (cv mv : Nat → Int64) : Prop := ∀ i, n ≤ i → (cv i = 0 ∧ mv i = 0) ∧ s i = 0 ∧ t i = 0
def gS (n M : Nat) (mk cs ms ct mt cr mr : Nat → Int32) (cv mv : Nat → Int64) (tl : Int32 × Int32) : Prop :=
  cs = ms ∧ ct = mt ∧ okS n M mk ms tl ∧ okR n ms cr mr cv mv ∧ okE n ms mt cv mv
def gO (n o : Nat) (s : Nat → Int32) (c3 m7 : Int32) (ci mi ct mt : Nat → Int32) : Prop := c3 = nI o ∧ m7 = nI o ∧ ci = mi ∧ ct = mt ∧ okO n o s mi
def gQ (n : Nat) (s : Nat → Int32) (c7 m4 : Int32) (cq mq : Nat → Int32) : Prop :=
  ∃ (Q : Nat) (q : Nat → Nat), c7 = nI Q ∧ m4 = nI Q ∧ (∀ j, j < Q → cq j = nI (q j) ∧ mq j = nI (q j) ∧ q j < n ∧ s (q j) = 1) ∧ ∀ j k, j < Q → k < Q → q j = q k → j = k
def gW (n : Nat) (s : Nat → Int32) (c6 : Int32) (cw : Nat → Int32) : Prop :=
  ∃ w : Nat → Nat, c6 = nI (cnt s 1 n) ∧ (∀ j, j < cnt s 1 n → cw j = nI (w j) ∧ w j < n ∧ s (w j) = 1) ∧ (∀ j k, j < k → k < cnt s 1 n → w j < w k) ∧ ∀ i, i < n → s i = 1 → ∃ j, j < cnt s 1 n ∧ w j = i
def gL (n : Nat) (mk : Nat → Int32) (off : Nat) (cr cc : Nat → Int32) (cv : Nat → Int64) (csz : Int32) (mr mc : Nat → Int32) (mv : Nat → Int64) (msz : Int32) : Prop :=
  ∃ a : Nat, a ≤ 100 ∧ csz = nI a ∧ msz = nI a ∧ ∀ j, j < a → ∃ r, r < n ∧ mk r = 0 ∧ cr j = nI r ∧ mr (off + j) = nI r ∧ cc j = mc (off + j) ∧ (cc j = 0 ∨ cc j = 1 ∨ cc j = 2 ∨ cc j = 3) ∧ cv j = mv (off + j)
def sumK (c : Nat → Nat) (key : Nat → Int64) (x : Int64) : Nat → Nat
  | 0 => 0
  | m + 1 => sumK c key x m + (if key m = x then c m else 0)
def gV (n K : Nat) (mk : Nat → Int32) (key ck : Nat → Int64) (ca : Nat → Int32) (cl : Nat → Int64) (ma mi : Nat → Int32) (ml : Nat → Int64) : Prop :=
  cl = ml ∧ ∃ c : Nat → Nat, (∀ i, ca i = nI (c i) ∧ c i ≤ K) ∧ (∀ i, mi i = if 0 < c i then 1 else 0) ∧ (∀ i, 0 < c i → i < n ∧ mk i = 0 ∧ ck i = key i) ∧ (∀ i, i < n → mk i = 0 → (∀ j, j < i → mk j ≠ 0 ∨ key j ≠ key i) → ma i = nI (sumK c key (key i) 300)) ∧ ∀ i, n ≤ i → ma i = 0
def gK (c11 m8 : Int32) (ce me : Nat → Int32) (ck mk cv mv : Nat → Int64) : Prop :=
  ce = me ∧ ck = mk ∧ cv = mv ∧ ∃ z, z ≤ 8 ∧ c11 = nI z ∧ m8 = nI z ∧ ∀ i k, i < z → k < z → mk i = mk k → i = k
def gZ (n M o : Nat) (mk oi : Nat → Int32) (c4 c5 m9 m10 : Int32) (cs ms ct mt cr mr : Nat → Int32) (cv mv : Nat → Int64) (tl : Int32 × Int32) : Prop :=
  ∃ ns os, ns ≤ n ∧ os ≤ o ∧ c4 = nI ns ∧ m9 = nI ns ∧ c5 = nI os ∧ m10 = nI os ∧ (∀ i, i < ns → cs i = ms i ∧ ct i = mt i) ∧ (∀ i, ns ≤ i → cs i = 0 ∧ ct i = 0 ∧ cv i = 0) ∧ okS ns M mk ms tl ∧ okR ns ms cr mr cv mv ∧ okO ns os ms oi
def RelP (K n M o t : Nat) (σ τ : St) : Prop :=
  gE M t (σ.1 0) (σ.1 1) (σ.1 12) (σ.1 13) (σ.1 14) (σ.1 15) (τ.1 0) (τ.1 1) (τ.1 2) (τ.1 5) (τ.1 6) (τ.1 11) (σ.2.1 0) (τ.2.1 0) ∧
  gI n (σ.1 2) (τ.1 3) (σ.2.1 1) (τ.2.1 1) (σ.2.2 0) (τ.2.2 0) (σ.2.2 1) (τ.2.2 1) ∧
  gS n M (τ.2.1 1) (σ.2.1 3) (τ.2.1 2) (σ.2.1 5) (τ.2.1 4) (σ.2.1 4) (τ.2.1 3) (σ.2.2 2) (τ.2.2 2) (σ.1 16, σ.1 17) ∧
  gO n o (τ.2.1 2) (σ.1 3) (τ.1 7) (σ.2.1 11) (τ.2.1 7) (σ.2.1 12) (τ.2.1 8) ∧
  gQ n (τ.2.1 2) (σ.1 7) (τ.1 4) (σ.2.1 14) (τ.2.1 6) ∧
  gW n (τ.2.1 2) (σ.1 6) (σ.2.1 13) ∧
  σ.2.1 2 = τ.2.1 5 ∧
  gL n (τ.2.1 1) 0 (σ.2.1 16) (σ.2.1 17) (σ.2.2 4) (σ.1 9) (τ.2.1 9) (τ.2.1 10) (τ.2.2 3) (τ.2.1 11 0) ∧
  gL n (τ.2.1 1) 100 (σ.2.1 18) (σ.2.1 19) (σ.2.2 5) (σ.1 10) (τ.2.1 9) (τ.2.1 10) (τ.2.2 3) (τ.2.1 11 1) ∧
  gV n K (τ.2.1 1) (τ.2.2 0) (σ.2.2 6) (σ.2.1 20) (σ.2.2 7) (τ.2.1 12) (τ.2.1 13) (τ.2.2 4) ∧
  gK (σ.1 11) (τ.1 8) (σ.2.1 21) (τ.2.1 14) (σ.2.2 8) (τ.2.2 5) (σ.2.2 9) (τ.2.2 6) ∧
  gZ n M o (τ.2.1 1) (τ.2.1 7) (σ.1 4) (σ.1 5) (τ.1 9) (τ.1 10) (σ.2.1 7) (τ.2.1 15) (σ.2.1 9) (τ.2.1 17) (σ.2.1 8) (τ.2.1 16) (σ.2.2 3) (τ.2.2 7) (σ.1 18, σ.1 19)
-- how the groups move when one item's state changes
section GRP
variable {n M o i a b : Nat} {mk s oi cr mr cq mq cw : Nat → Int32} {tl : Int32 × Int32} {cv mv : Nat → Int64} {c6 c7 m4 : Int32}
theorem n1 : (1 : Int32) = nI 1 := rfl
theorem n0 : (0 : Int32) = nI 0 := rfl
theorem n2 : (2 : Int32) = nI 2 := rfl
theorem n3 : (3 : Int32) = nI 3 := rfl
theorem okS_mv (h : okS n M mk s tl) (hi : i < n) (ha : s i = nI a) (ha5 : a < 5) (hb5 : b < 5) (hab : a ≠ b) (hb0 : b ≠ 0) (hb1 : b = 1 → (∀ k, k < i → s k ≠ 0) ∧ cnt s 1 n < M ∧ mk i = 0) : okS n M mk (upd s i (nI b)) (mvT tl a b) := by
  obtain ⟨h1, h2, h3, h4, h5⟩ := h
  refine ⟨fun j hj => ?_, fun j hj hm => ?_, fun j k hj hk e1 e2 => ?_, okT_move h4 hi ha hab ha5 hb5 hb0, ?_⟩
  · by_cases hji : j = i
    · subst hji; exact ⟨b, hb5, upd_s⟩
    · rw [upd_n hji]; exact h1 j hj
  · by_cases hji : j = i
    · subst hji
      rw [upd_s]
      refine ⟨fun e => hb0 ((nI_eq (by omega) (by omega)).mp e), fun e => ?_⟩
      exact hm ((hb1 ((nI_eq (by omega) (by omega)).mp e)).2.2)
    · rw [upd_n hji]; exact h2 j hj hm
  · have hki : k ≠ i := fun e => by subst e; rw [upd_s] at e2; exact hb0 ((nI_eq (by omega) (by omega)).mp e2)
    rw [upd_n hki] at e2
    by_cases hji : j = i
    · subst hji
      rw [upd_s] at e1
      have hb := (hb1 ((nI_eq (by omega) (by omega)).mp e1)).1
      rcases Nat.lt_or_ge k j with q | q
      · exact absurd e2 (hb k q)
      · omega
    · rw [upd_n hji] at e1; exact h3 j k hj hk e1 e2
  · have hc := cnt_upd (s := s) (w := 1) (x := nI b) hi
    by_cases hb : b = 1
    · have := (hb1 hb).2.1
      subst hb
      rw [if_pos (show nI 1 = 1 from rfl)] at hc
      split at hc <;> omega
    · rw [if_neg (show ¬ nI b = 1 from fun e => hb ((nI_eq (by omega) (by omega)).mp e))] at hc
      split at hc <;> omega
theorem okE_s {t : Nat → Int32} (h : okE n s t cv mv) (hi : i < n) {x : Int32} : okE n (upd s i x) t cv mv := by
  intro j hj
  rw [upd_n (by omega)]; exact h j hj
theorem okE_t {t : Nat → Int32} (h : okE n s t cv mv) (hi : i < n) {x : Int32} : okE n s (upd t i x) cv mv := by
  intro j hj
  rw [upd_n (by omega)]; exact h j hj
theorem okE_v {t : Nat → Int32} (h : okE n s t cv mv) (hi : i < n) {x y : Int64} : okE n s t (vp_updL cv i x) (vp_updL mv i y) := by
  intro j hj
  rw [updL_n (by omega), updL_n (by omega)]; exact h j hj
theorem okO_mv (h : okO n o s oi) (hi : i < n) (ha : s i ≠ 3) {x : Int32} (hx : x ≠ 3) : okO n o (upd s i x) oi := by
  obtain ⟨h1, h2⟩ := h
  refine ⟨?_, fun k hk => ?_⟩
  · have hc := cnt_upd (s := s) (w := 3) (x := x) hi
    rw [if_neg ha, if_neg hx] at hc
    omega
  · obtain ⟨j, e1, e2, e3⟩ := h2 k hk
    exact ⟨j, e1, e2, by rw [upd_n (fun e => ha (by rw [← e]; exact e3))]; exact e3⟩
theorem okO_out (h : okO n o s oi) (hi : i < n) (ha : s i = 2) : okO n (o + 1) (upd s i 3) (upd oi o (nI i)) := by
  obtain ⟨h1, h2⟩ := h
  refine ⟨?_, fun k hk => ?_⟩
  · have hc := cnt_upd (s := s) (w := 3) (x := 3) hi
    rw [ha, if_neg (by decide), if_pos rfl] at hc
    omega
  · by_cases hko : k = o
    · subst hko; exact ⟨i, hi, upd_s, upd_s⟩
    · obtain ⟨j, e1, e2, e3⟩ := h2 k (by omega)
      exact ⟨j, e1, by rw [upd_n hko]; exact e2, by rw [upd_n (fun e => by rw [e, ha] at e3; exact absurd e3 (by decide))]; exact e3⟩
theorem okR_same (h : okR n s cr mr cv mv) {x : Int32} (hx : (s i = 2 ∨ s i = 3) ↔ (x = 2 ∨ x = 3)) : okR n (upd s i x) cr mr cv mv := by
  intro j hj
  by_cases hji : j = i
  · subst hji; rw [upd_s, ← hx]; exact h j hj
  · rw [upd_n hji]; exact h j hj
theorem okR_set (h : okR n s cr mr cv mv) {x r : Int32} {v : Int64} (hx : x = 2 ∨ x = 3) : okR n (upd s i x) (upd cr i r) (upd mr i r) (vp_updL cv i v) (vp_updL mv i v) := by
  intro j hj
  by_cases hji : j = i
  · subst hji
    rw [upd_s, upd_s, upd_s, updL_s, updL_s]
    exact ⟨fun _ => ⟨rfl, rfl⟩, fun q => absurd hx q⟩
  · rw [upd_n hji, upd_n hji, upd_n hji, updL_n hji, updL_n hji]; exact h j hj
theorem gQ_mv (h : gQ n s c7 m4 cq mq) (ha : s i ≠ 1) {x : Int32} : gQ n (upd s i x) c7 m4 cq mq := by
  obtain ⟨Q, q, h1, h2, h3, h4⟩ := h
  refine ⟨Q, q, h1, h2, fun j hj => ?_, h4⟩
  obtain ⟨e1, e2, e3, e4⟩ := h3 j hj
  exact ⟨e1, e2, e3, by rw [upd_n (fun e => ha (by rw [← e]; exact e4))]; exact e4⟩
theorem gW_mv (h : gW n s c6 cw) (hi : i < n) (ha : s i ≠ 1) {x : Int32} (hx : x ≠ 1) : gW n (upd s i x) c6 cw := by
  obtain ⟨w, h1, h2, h3, h4⟩ := h
  have hc : cnt (upd s i x) 1 n = cnt s 1 n := by
    have hc := cnt_upd (s := s) (w := 1) (x := x) hi
    rw [if_neg ha, if_neg hx] at hc
    omega
  refine ⟨w, by rw [hc]; exact h1, fun j hj => ?_, fun j k hjk hk => h3 j k hjk (by rw [← hc]; exact hk), fun j hj e => ?_⟩
  · rw [hc] at hj
    obtain ⟨e1, e2, e3⟩ := h2 j hj
    exact ⟨e1, e2, by rw [upd_n (fun e => ha (by rw [← e]; exact e3))]; exact e3⟩
  · have hji : j ≠ i := fun q => by subst q; rw [upd_s] at e; exact hx e
    rw [upd_n hji] at e
    rw [hc]; exact h4 j hj e
/-- distinct rows that are w are no more than are counted -/
theorem inj_le {w : Int32} : ∀ (n Q : Nat) (q : Nat → Nat), (∀ j, j < Q → q j < n ∧ s (q j) = w) → (∀ j k, j < Q → k < Q → q j = q k → j = k) → Q ≤ cnt s w n := by
  intro n
  induction n with
  | zero =>
    intro Q q h1 _
    rcases Nat.eq_zero_or_pos Q with h | h
    · omega
    · exact absurd (h1 0 h).1 (by omega)
  | succ n ih =>
    intro Q q h1 h2
    simp only [cnt]
    by_cases hx : ∃ j, j < Q ∧ q j = n
    · obtain ⟨j, hj, e⟩ := hx
      have hs : s n = w := by rw [← e]; exact (h1 j hj).2
      rw [if_pos hs]
      have := ih (Q - 1) (shf q j) (fun k hk => ?_) (fun k l hk hl e2 => ?_)
      · omega
      · unfold shf
        by_cases hkj : k < j
        · rw [if_pos hkj]
          have h3 := h1 k (by omega)
          have : q k ≠ n := fun e3 => by have := h2 k j (by omega) hj (e3.trans e.symm); omega
          exact ⟨by omega, h3.2⟩
        · rw [if_neg hkj]
          have h3 := h1 (k + 1) (by omega)
          have : q (k + 1) ≠ n := fun e3 => by have := h2 (k + 1) j (by omega) hj (e3.trans e.symm); omega
          exact ⟨by omega, h3.2⟩
      · unfold shf at e2
        by_cases a1 : k < j <;> by_cases a2 : l < j
        · rw [if_pos a1, if_pos a2] at e2; exact h2 k l (by omega) (by omega) e2
        · rw [if_pos a1, if_neg a2] at e2; have := h2 k (l + 1) (by omega) (by omega) e2; omega
        · rw [if_neg a1, if_pos a2] at e2; have := h2 (k + 1) l (by omega) (by omega) e2; omega
        · rw [if_neg a1, if_neg a2] at e2; have := h2 (k + 1) (l + 1) (by omega) (by omega) e2; omega
    · have := ih Q q (fun j hj => ⟨by have := (h1 j hj).1; have : q j ≠ n := fun e => hx ⟨j, hj, e⟩; omega, (h1 j hj).2⟩) h2
      omega
theorem gW_start (h : gW n s (nI (cnt s 1 n)) cw) (hi : i < n) (ha : s i = 0) (hu : ∀ j, j < n → s j = 1 → j < i) : gW n (upd s i 1) (nI (cnt s 1 n + 1)) (upd cw (cnt s 1 n) (nI i)) := by
  obtain ⟨w, h1, h2, h3, h4⟩ := h
  have hc : cnt (upd s i 1) 1 n = cnt s 1 n + 1 := by
    have hc := cnt_upd (s := s) (w := 1) (x := 1) hi
    rw [ha, if_neg (by decide), if_pos rfl] at hc
    omega
  have hw : ∀ j, j < cnt s 1 n → w j < i := fun j hj => hu _ (h2 j hj).2.1 (h2 j hj).2.2
  refine ⟨fun j => if j < cnt s 1 n then w j else i, by rw [hc], fun j hj => ?_, fun j k hjk hk => ?_, fun j hj e => ?_⟩
  · rw [hc] at hj
    dsimp only
    by_cases hl : j < cnt s 1 n
    · rw [if_pos hl, upd_n (by omega)]
      obtain ⟨e1, e2, e3⟩ := h2 j hl
      have := hw j hl
      exact ⟨e1, e2, by rw [upd_n (by omega)]; exact e3⟩
    · have : j = cnt s 1 n := by omega
      rw [if_neg hl, this, upd_s, upd_s]; exact ⟨rfl, hi, rfl⟩
  · rw [hc] at hk
    dsimp only
    rw [if_pos (show j < cnt s 1 n by omega)]
    by_cases hl : k < cnt s 1 n
    · rw [if_pos hl]; exact h3 j k hjk hl
    · rw [if_neg hl]; exact hw j (by omega)
  · by_cases hji : j = i
    · exact ⟨cnt s 1 n, by omega, by dsimp only; rw [if_neg (Nat.lt_irrefl _), hji]⟩
    · rw [upd_n hji] at e
      obtain ⟨k, hk, e2⟩ := h4 j hj e
      exact ⟨k, by omega, by dsimp only; rw [if_pos hk]; exact e2⟩
theorem gW_gone {p : Nat} {w : Nat → Nat} {x : Int32} (h2 : ∀ j, j < cnt s 1 n → cw j = nI (w j) ∧ w j < n ∧ s (w j) = 1) (h3 : ∀ j k, j < k → k < cnt s 1 n → w j < w k) (h4 : ∀ i, i < n → s i = 1 → ∃ j, j < cnt s 1 n ∧ w j = i) (hi : i < n) (ha : s i = 1) (hx : x ≠ 1) (hp : p < cnt s 1 n) (hwp : w p = i) : gW n (upd s i x) (nI (cnt s 1 n - 1)) (shw cw p (cnt s 1 n - 1)) := by
  have hc : cnt (upd s i x) 1 n = cnt s 1 n - 1 := by
    have hc := cnt_upd (s := s) (w := 1) (x := x) hi
    rw [ha, if_pos rfl, if_neg hx] at hc
    omega
  have hne : ∀ j, j < cnt s 1 n → j ≠ p → w j ≠ i := by
    intro j hj hjp e
    rcases Nat.lt_or_ge j p with q | q
    · have := h3 j p q hp; omega
    · have := h3 p j (by omega) hj; omega
  refine ⟨shf w p, by rw [hc], fun j hj => ?_, fun j k hjk hk => ?_, fun j hj e => ?_⟩
  · rw [hc] at hj
    unfold shw shf
    by_cases hl : j < p
    · rw [if_neg (by omega), if_pos hl]
      obtain ⟨e1, e2, e3⟩ := h2 j (by omega)
      exact ⟨e1, e2, by rw [upd_n (hne j (by omega) (by omega))]; exact e3⟩
    · rw [if_pos (by omega), if_neg hl]
      obtain ⟨e1, e2, e3⟩ := h2 (j + 1) (by omega)
      exact ⟨e1, e2, by rw [upd_n (hne (j + 1) (by omega) (by omega))]; exact e3⟩
  · rw [hc] at hk
    unfold shf
    by_cases a1 : j < p <;> by_cases a2 : k < p
    · rw [if_pos a1, if_pos a2]; exact h3 j k hjk (by omega)
    · rw [if_pos a1, if_neg a2]; exact h3 j (k + 1) (by omega) (by omega)
    · omega
    · rw [if_neg a1, if_neg a2]; exact h3 (j + 1) (k + 1) (by omega) (by omega)
  · have hji : j ≠ i := fun q => by subst q; rw [upd_s] at e; exact hx e
    rw [upd_n hji] at e
    obtain ⟨k, hk, e2⟩ := h4 j hj e
    have hkp : k ≠ p := fun q => hji (by rw [← e2, q, hwp])
    rcases Nat.lt_or_ge k p with q | q
    · exact ⟨k, by omega, by unfold shf; rw [if_pos q]; exact e2⟩
    · exact ⟨k - 1, by omega, by unfold shf; rw [if_neg (by omega), show k - 1 + 1 = k by omega]; exact e2⟩
end GRP
