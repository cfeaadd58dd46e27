/-! restart -/
/-- the first i of g, the others of f -/
def mixF {α : Type} (g f : Nat → α) (i : Nat) : Nat → α := fun j => if j < i then g j else f j
theorem mix_0 {α : Type} {g f : Nat → α} : mixF g f 0 = f := by funext j; unfold mixF; rw [if_neg (by omega)]
theorem mix_s {g f : Nat → Int32} {i : Nat} : upd (mixF g f i) i (g i) = mixF g f (i + 1) := by
  funext j
  unfold upd mixF
  by_cases h : j = i
  · subst h; rw [if_pos rfl, if_pos (by omega)]
  · rw [if_neg h]
    by_cases h2 : j < i
    · rw [if_pos h2, if_pos (by omega)]
    · rw [if_neg h2, if_neg (by omega)]
theorem mix_sL {g f : Nat → Int64} {i : Nat} : vp_updL (mixF g f i) i (g i) = mixF g f (i + 1) := by
  funext j
  unfold vp_updL mixF
  by_cases h : j = i
  · subst h; rw [if_pos rfl, if_pos (by omega)]
  · rw [if_neg h]
    by_cases h2 : j < i
    · rw [if_pos h2, if_pos (by omega)]
    · rw [if_neg h2, if_neg (by omega)]
theorem mix_at {α : Type} {g f : Nat → α} {i : Nat} : mixF g f i i = f i := by unfold mixF; rw [if_neg (by omega)]
theorem mix_in {α : Type} {g f : Nat → α} {i j : Nat} (h : j < i) : mixF g f i j = g j := by unfold mixF; rw [if_pos h]
theorem mix_out {α : Type} {g f : Nat → α} {i j : Nat} (h : ¬ j < i) : mixF g f i j = f j := by unfold mixF; rw [if_neg h]
theorem mix_same {α : Type} {g f : Nat → α} {i : Nat} (h : g i = f i) : mixF g f i = mixF g f (i + 1) := by
  funext j
  unfold mixF
  by_cases h2 : j < i
  · rw [if_pos h2, if_pos (by omega)]
  · rw [if_neg h2]
    by_cases h3 : j = i
    · subst h3; rw [if_pos (by omega), h]
    · rw [if_neg (by omega)]
theorem mix_all {α : Type} {g f : Nat → α} {i : Nat} (h : ∀ j, i ≤ j → g j = f j) : mixF g f i = g := by
  funext j
  unfold mixF
  by_cases h2 : j < i
  · rw [if_pos h2]
  · rw [if_neg h2, h j (by omega)]
/-- the rows at which s is 1, one after another, put down from place 0 on -/
def enI (s g : Nat → Int32) : Nat → Nat → Int32
  | 0 => g
  | i + 1 => if s i = 1 then upd (enI s g i) (cnt s 1 i) (nI i) else enI s g i
def enF (s : Nat → Int32) : Nat → Nat → Nat
  | 0 => fun _ => 0
  | i + 1 => if s i = 1 then (fun j => if j = cnt s 1 i then i else enF s i j) else enF s i
theorem cnt_su {s : Nat → Int32} {i : Nat} : cnt s 1 (i + 1) = cnt s 1 i + (if s i = 1 then 1 else 0) := rfl
theorem enI_F {s g : Nat → Int32} : ∀ i j, j < cnt s 1 i → enI s g i j = nI (enF s i j) := by
  intro i
  induction i with
  | zero => intro j h; exact absurd h (by simp [cnt])
  | succ i ih =>
    intro j h
    rw [cnt_su] at h
    by_cases hs : s i = 1
    · rw [if_pos hs] at h
      simp only [enI, enF, if_pos hs]
      unfold upd
      by_cases hj : j = cnt s 1 i
      · rw [if_pos hj, if_pos hj]
      · rw [if_neg hj, if_neg hj]; exact ih j (by omega)
    · rw [if_neg hs] at h
      simp only [enI, enF, if_neg hs]
      exact ih j (by omega)
theorem enF_ok {s : Nat → Int32} : ∀ i j, j < cnt s 1 i → enF s i j < i ∧ s (enF s i j) = 1 := by
  intro i
  induction i with
  | zero => intro j h; exact absurd h (by simp [cnt])
  | succ i ih =>
    intro j h
    rw [cnt_su] at h
    by_cases hs : s i = 1
    · rw [if_pos hs] at h
      simp only [enF, if_pos hs]
      by_cases hj : j = cnt s 1 i
      · rw [if_pos hj]; exact ⟨by omega, hs⟩
      · rw [if_neg hj]; have := ih j (by omega); exact ⟨by omega, this.2⟩
    · rw [if_neg hs] at h
      simp only [enF, if_neg hs]
      have := ih j (by omega); exact ⟨by omega, this.2⟩
theorem enF_mono {s : Nat → Int32} : ∀ i j k, j < k → k < cnt s 1 i → enF s i j < enF s i k := by
  intro i
  induction i with
  | zero => intro j k _ h; exact absurd h (by simp [cnt])
  | succ i ih =>
    intro j k hjk h
    rw [cnt_su] at h
    by_cases hs : s i = 1
    · rw [if_pos hs] at h
      simp only [enF, if_pos hs]
      rw [if_neg (show ¬ j = cnt s 1 i by omega)]
      by_cases hk : k = cnt s 1 i
      · rw [if_pos hk]; exact (enF_ok i j (by omega)).1
      · rw [if_neg hk]; exact ih j k hjk (by omega)
    · rw [if_neg hs] at h
      simp only [enF, if_neg hs]
      exact ih j k hjk (by omega)
theorem enF_sur {s : Nat → Int32} : ∀ i x, x < i → s x = 1 → ∃ j, j < cnt s 1 i ∧ enF s i j = x := by
  intro i
  induction i with
  | zero => intro x h; omega
  | succ i ih =>
    intro x hx h1
    rw [cnt_su]
    by_cases hxi : x = i
    · subst hxi
      rw [if_pos h1]
      refine ⟨cnt s 1 x, by omega, ?_⟩
      simp only [enF, if_pos h1]
      rw [if_pos trivial]
    · obtain ⟨j, g1, g2⟩ := ih x (by omega) h1
      by_cases hs : s i = 1
      · rw [if_pos hs]
        refine ⟨j, by omega, ?_⟩
        simp only [enF, if_pos hs]
        rw [if_neg (show ¬ j = cnt s 1 i by omega)]; exact g2
      · rw [if_neg hs]
        refine ⟨j, by omega, ?_⟩
        simp only [enF, if_neg hs]; exact g2
theorem gW_en {n : Nat} {s g : Nat → Int32} : gW n s (nI (cnt s 1 n)) (enI s g n) :=
  ⟨enF s n, rfl, fun j hj => ⟨enI_F n j hj, (enF_ok n j hj).1, (enF_ok n j hj).2⟩, fun j k h1 h2 => enF_mono n j k h1 h2, fun i h1 h2 => enF_sur n i h1 h2⟩
theorem gQ_en {n : Nat} {s g g' : Nat → Int32} : gQ n s (nI (cnt s 1 n)) (nI (cnt s 1 n)) (enI s g n) (enI s g' n) := by
  refine ⟨cnt s 1 n, enF s n, rfl, rfl, fun j hj => ⟨enI_F n j hj, enI_F n j hj, (enF_ok n j hj).1, (enF_ok n j hj).2⟩, fun j k h1 h2 e => ?_⟩
  rcases Nat.lt_or_ge j k with q | q
  · have := enF_mono n j k q h2; omega
  · rcases Nat.lt_or_ge k j with r | r
    · have := enF_mono n k j r h1; omega
    · omega
/-- what restart makes of the items -/
def rS (ns n : Nat) (ss s : Nat → Int32) : Nat → Int32 := fun j => if j < ns then ss j else if j < n then 4 else s j
def rT0 (ns n : Nat) (st t : Nat → Int32) : Nat → Int32 := fun j => if j < ns then st j else if j < n then 0 else t j
def rT (ns n : Nat) (ss st t : Nat → Int32) : Nat → Int32 := fun j => if j < ns then (if ss j = 1 then st j + 1 else st j) else if j < n then 0 else t j
def rR (ns : Nat) {α : Type} (a b : Nat → α) : Nat → α := fun j => if j < ns then a j else b j
theorem rS_in {ns n j : Nat} {ss s : Nat → Int32} (h : j < ns) : rS ns n ss s j = ss j := by unfold rS; rw [if_pos h]
theorem rS_mid {ns n j : Nat} {ss s : Nat → Int32} (h : ¬ j < ns) (h2 : j < n) : rS ns n ss s j = 4 := by unfold rS; rw [if_neg h, if_pos h2]
theorem rS_cnt {ns n : Nat} {ss s : Nat → Int32} {w : Int32} : ∀ d, ns + d ≤ n → cnt (rS ns n ss s) w (ns + d) = cnt ss w ns + (if (4 : Int32) = w then d else 0) := by
  intro d
  induction d with
  | zero => intro _; rw [cnt_congr (s' := ss) (fun i hi => rS_in (by omega))]; simp
  | succ d ih =>
    intro h
    rw [show ns + (d + 1) = (ns + d) + 1 by omega]
    simp only [cnt]
    rw [ih (by omega), rS_mid (by omega) (by omega)]
    by_cases hw : (4 : Int32) = w
    · rw [if_pos hw, if_pos hw, if_pos hw]; omega
    · rw [if_neg hw, if_neg hw, if_neg hw]
theorem rS_cnt' {ns n : Nat} {ss s : Nat → Int32} {w : Int32} (h : ns ≤ n) : cnt (rS ns n ss s) w n = cnt ss w ns + (if (4 : Int32) = w then n - ns else 0) := by
  have := rS_cnt (n := n) (ss := ss) (s := s) (w := w) (n - ns) (ns := ns) (by omega)
  rw [show ns + (n - ns) = n by omega] at this
  exact this
theorem fl_s {ns i : Nat} {f : Nat → Int32} {x : Int32} (h : ns ≤ i) : upd (fun j => if ns ≤ j ∧ j < i then x else f j) i x = (fun j => if ns ≤ j ∧ j < i + 1 then x else f j) := by
  funext j
  unfold upd
  dsimp only
  by_cases hj : j = i
  · rw [if_pos hj, if_pos (by omega)]
  · rw [if_neg hj]
    by_cases h2 : ns ≤ j ∧ j < i
    · rw [if_pos h2, if_pos (by omega)]
    · rw [if_neg h2, if_neg (by omega)]
theorem fl_sL {ns i : Nat} {f : Nat → Int64} {x : Int64} (h : ns ≤ i) : vp_updL (fun j => if ns ≤ j ∧ j < i then x else f j) i x = (fun j => if ns ≤ j ∧ j < i + 1 then x else f j) := by
  funext j
  unfold vp_updL
  dsimp only
  by_cases hj : j = i
  · rw [if_pos hj, if_pos (by omega)]
  · rw [if_neg hj]
    by_cases h2 : ns ≤ j ∧ j < i
    · rw [if_pos h2, if_pos (by omega)]
    · rw [if_neg h2, if_neg (by omega)]
theorem f4_becomeGone {s re tr : Nat → Int32} {sv : Nat → Int64} {ou wt se : Int32} {n i : Nat} (hn : n ≤ 300) (hi : i < n) : fX4_becomeGone s re tr sv (nI n) ou wt se (nI i) = some (upd s i 4, upd re i (-1), upd tr i 0, vp_updL sv i 0) := by
  unfold fX4_becomeGone
  rw [bs (f4_has1 hn hi)]
  rw [if_neg (by decide), ixN (by omega) (by decide), ixN (by omega) (by decide), ixN (by omega) (by decide), ixN (by omega) (by decide), nI_clamp (by omega)]
set_option maxHeartbeats 1000000 in
theorem f4_gob_loop {N n ns : Nat} {os orr ot : Nat → Int32} {osv : Nat → Int64} {oi oo ow oz : Int32} {a b c : Nat → Int32} {v : Nat → Int64} {ou wt se : Int32} (hn : n ≤ 300) : ∀ (d i m : Nat), i + d = n → ns ≤ i → d < m → loopF (fX4_goBackTo_10 N (nI n) os orr ot osv oi oo ow oz) m ((fun j => if ns ≤ j ∧ j < i then 4 else a j), (fun j => if ns ≤ j ∧ j < i then -1 else b j), (fun j => if ns ≤ j ∧ j < i then 0 else c j), (fun j => if ns ≤ j ∧ j < i then 0 else v j), ou, wt, se, nI i) = some ((fun j => if ns ≤ j ∧ j < n then 4 else a j), (fun j => if ns ≤ j ∧ j < n then -1 else b j), (fun j => if ns ≤ j ∧ j < n then 0 else c j), (fun j => if ns ≤ j ∧ j < n then 0 else v j), ou, wt, se) := by
  intro d
  induction d with
  | zero =>
    intro i m h1 h2 hm
    obtain ⟨m, rfl⟩ : ∃ m', m = m' + 1 := ⟨m - 1, by omega⟩
    have : i = n := by omega
    subst this
    rw [lp_s, fX4_goBackTo_10]
    dsimp only
    rw [if_pos (by rw [nI_leI (by omega) (by omega)]; omega)]
  | succ d ih =>
    intro i m h1 h2 hm
    obtain ⟨m, rfl⟩ : ∃ m', m = m' + 1 := ⟨m - 1, by omega⟩
    rw [lp_s, fX4_goBackTo_10]
    dsimp only
    rw [if_neg (by rw [nI_leI (by omega) (by omega)]; omega), bs (f4_becomeGone hn (by omega))]
    dsimp only
    rw [fl_s h2, fl_s h2, fl_s h2, fl_sL h2, nI_1]
    exact ih (i + 1) m (by omega) (by omega) (by omega)
theorem fl_0 {α : Type} {ns : Nat} {x : α} {f : Nat → α} : (fun j => if ns ≤ j ∧ j < ns then x else f j) = f := by
  funext j; rw [if_neg (by omega)]
theorem f4_goBackTo {N n ns : Nat} {a b c : Nat → Int32} {v : Nat → Int64} {vo vw vz : Int32} {os orr ot : Nat → Int32} {osv : Nat → Int64} {oo ow oz : Int32} (hN : 301 < N) (hn : n ≤ 300) (hns : ns ≤ n) : fX4_goBackTo N a b c v (nI n) vo vw vz os orr ot osv (nI ns) oo ow oz = some ((fun j => if ns ≤ j ∧ j < n then 4 else va_cpy os a 0 0 300 j), (fun j => if ns ≤ j ∧ j < n then -1 else va_cpy orr b 0 0 300 j), (fun j => if ns ≤ j ∧ j < n then 0 else va_cpy ot c 0 0 300 j), (fun j => if ns ≤ j ∧ j < n then 0 else va_cpy osv v 0 0 300 j), oo, ow, oz) := by
  rw [fX4_goBackTo, bs f4_copyItems]
  dsimp only
  have := f4_gob_loop (N := N) (os := os) (orr := orr) (ot := ot) (osv := osv) (oi := nI ns) (oo := oo) (ow := ow) (oz := oz) (ns := ns) (a := va_cpy os a 0 0 300) (b := va_cpy orr b 0 0 300) (c := va_cpy ot c 0 0 300) (v := va_cpy osv v 0 0 300) (ou := oo) (wt := ow) (se := oz) hn (n - ns) ns N (by omega) (by omega) (by omega)
  rw [fl_0, fl_0, fl_0, fl_0] at this
  exact this
theorem fl_rS {α : Type} {ns n : Nat} {x z : α} {os os' a : Nat → α} (h1 : ∀ j, j < ns → os j = os' j) (h2 : ∀ j, ns ≤ j → os j = z) (h3 : ∀ j, n ≤ j → a j = z) (hn : n ≤ 300) (hns : ns ≤ n) : (fun j => if ns ≤ j ∧ j < n then x else va_cpy os a 0 0 300 j) = (fun j => if j < ns then os' j else if j < n then x else a j) := by
  funext j
  by_cases h : j < ns
  · rw [if_neg (by omega), cpy0_in (by omega), if_pos h, h1 j h]
  · rw [if_neg h]
    by_cases h4 : j < n
    · rw [if_pos (by omega), if_pos h4]
    · rw [if_neg (by omega), if_neg h4, cpy0_or (h2 j (by omega)) (h3 j (by omega)), h3 j (by omega)]
section RST
variable {F K n M o t : Nat} {σ τ : St}
/-- the class's state in the midst of asking again -/
def agP (s : Nat → Int32) (σ : St) (i : Nat) (υ : St) : Prop := (∀ k, k ≠ 6 → k ≠ 7 → υ.1 k = σ.1 k) ∧ υ.1 6 = nI (cnt s 1 i) ∧ υ.1 7 = nI (cnt s 1 i) ∧ (∀ k, k ≠ 5 → k ≠ 13 → k ≠ 14 → υ.2.1 k = σ.2.1 k) ∧ υ.2.1 5 = mixF (fun j => if s j = 1 then σ.2.1 5 j + 1 else σ.2.1 5 j) (σ.2.1 5) i ∧ υ.2.1 13 = enI s (σ.2.1 13) i ∧ υ.2.1 14 = enI s (σ.2.1 14) i ∧ υ.2.2 = σ.2.2
set_option maxHeartbeats 1000000 in
theorem ag_loop {s : Nat → Int32} (hn : n ≤ 300) (e2 : σ.1 2 = nI n) (es : σ.2.1 3 = s) (hM : cnt s 1 n ≤ 16) : ∀ (d i m : Nat) (υ : St), i + d = n → d < m → agP s σ i υ → ∃ υ', loopF (fX7_askAgainAllWorking_16 F) m (υ, nI i) = some υ' ∧ agP s σ n υ' := by
  intro d
  induction d with
  | zero =>
    intro i m υ hid hm hs
    obtain ⟨m, rfl⟩ : ∃ m', m = m' + 1 := ⟨m - 1, by omega⟩
    have hin : i = n := by omega
    subst hin
    refine ⟨υ, ?_, hs⟩
    rw [lp_s, fX7_askAgainAllWorking_16]
    dsimp only
    rw [hs.1 2 (by decide) (by decide), e2, if_pos (by rw [nI_leI (by omega) (by omega)]; omega)]
  | succ d ih =>
    intro i m υ hid hm hs
    obtain ⟨m, rfl⟩ : ∃ m', m = m' + 1 := ⟨m - 1, by omega⟩
    obtain ⟨s1, s2, s3, s4, s5, s6, s7, s8⟩ := id hs
    have hcm : cnt s 1 (i + 1) ≤ cnt s 1 n := by
      have : ∀ e, cnt s 1 (i + 1) ≤ cnt s 1 (i + 1 + e) := by
        intro e
        induction e with
        | zero => exact Nat.le_refl _
        | succ e ih2 => rw [show i + 1 + (e + 1) = (i + 1 + e) + 1 by omega, cnt_su (i := i + 1 + e)]; omega
      have := this (n - (i + 1))
      rw [show i + 1 + (n - (i + 1)) = n by omega] at this
      exact this
    rw [lp_s, fX7_askAgainAllWorking_16]
    dsimp only
    rw [s1 2 (by decide) (by decide), e2, if_neg (by rw [nI_leI (by omega) (by omega)]; omega), bs (f4_stateOf hn (by omega)), s4 3 (by decide) (by decide) (by decide), es]
    by_cases h1 : s i = 1
    · rw [cnt_su, if_pos h1] at hcm
      rw [if_pos h1, bs (f4_addTry hn (by omega)), s2, bs (f5_append (by omega)), s3, bs (f5_append (by omega)), fX7_askAgainAllWorking_63]
      dsimp only
      rw [nI_1]
      refine ih (i + 1) m _ (by omega) (by omega) ?_
      refine ⟨fun k a b => ?_, ?_, ?_, fun k a b c => ?_, ?_, ?_, ?_, s8⟩
      · show va_up (va_up υ.1 6 _) 7 _ k = _
        unfold va_up
        rw [if_neg b, if_neg a]; exact s1 k a b
      · rw [cnt_su, if_pos h1]; rfl
      · rw [cnt_su, if_pos h1]; rfl
      · show va_up (va_up (va_up υ.2.1 5 _) 13 _) 14 _ k = _
        unfold va_up
        rw [if_neg c, if_neg b, if_neg a]; exact s4 k a b c
      · show upd (υ.2.1 5) i (υ.2.1 5 i + 1) = _
        rw [s5, mix_at, ← mix_s, if_pos h1]
      · show upd (υ.2.1 13) (cnt s 1 i) (nI i) = _
        rw [s6]; simp only [enI, if_pos h1]
      · show upd (υ.2.1 14) (cnt s 1 i) (nI i) = _
        rw [s7]; simp only [enI, if_pos h1]
    · rw [if_neg h1, fX7_askAgainAllWorking_63]
      dsimp only
      rw [nI_1]
      refine ih (i + 1) m _ (by omega) (by omega) ?_
      refine ⟨s1, ?_, ?_, s4, ?_, ?_, ?_, s8⟩
      · rw [cnt_su, if_neg h1]; exact s2
      · rw [cnt_su, if_neg h1]; exact s3
      · rw [s5]; exact mix_same (if_neg h1)
      · rw [s6]; simp only [enI, if_neg h1]
      · rw [s7]; simp only [enI, if_neg h1]
/-- the reference's state in the midst of beginning again -/
def rsP (ns n : Nat) (τ : St) (i : Nat) (υ : St) : Prop := (∀ k, k ≠ 4 → υ.1 k = τ.1 k) ∧ υ.1 4 = nI (cnt (rS ns n (τ.2.1 15) (τ.2.1 2)) 1 i) ∧ (∀ k, k ≠ 2 → k ≠ 3 → k ≠ 4 → k ≠ 6 → υ.2.1 k = τ.2.1 k) ∧ υ.2.1 2 = mixF (rS ns n (τ.2.1 15) (τ.2.1 2)) (τ.2.1 2) i ∧ υ.2.1 3 = mixF (rR ns (τ.2.1 16) (τ.2.1 3)) (τ.2.1 3) i ∧ υ.2.1 4 = mixF (rT ns n (τ.2.1 15) (τ.2.1 17) (τ.2.1 4)) (τ.2.1 4) i ∧ υ.2.1 6 = enI (rS ns n (τ.2.1 15) (τ.2.1 2)) (τ.2.1 6) i ∧ (∀ k, k ≠ 2 → υ.2.2 k = τ.2.2 k) ∧ υ.2.2 2 = mixF (rR ns (τ.2.2 7) (τ.2.2 2)) (τ.2.2 2) i
theorem upd_upd {f : Nat → Int32} {k : Nat} {x y : Int32} : upd (upd f k x) k y = upd f k y := by
  funext j
  unfold upd
  by_cases h : j = k
  · rw [if_pos h, if_pos h]
  · rw [if_neg h, if_neg h, if_neg h]
set_option maxHeartbeats 2000000 in
theorem rs_loop {ns : Nat} (hn : n ≤ 300) (hns : ns ≤ n) (em3 : τ.1 3 = nI n) (em9 : τ.1 9 = nI ns) : ∀ (d i m : Nat) (υ : St), i + d = n → d < m → rsP ns n τ i υ → ∃ υ', loopF (fX8_restart_20 F) m (υ, nI i) = ((fX8_goOn F (sI υ' 11 (υ'.1 11 + 1))).bind (fun u_2 => (fX8_countOf F u_2 1).bind (fun u_4 => some (u_4, u_2)))) ∧ rsP ns n τ n υ' := by
  intro d
  induction d with
  | zero =>
    intro i m υ hid hm hs
    obtain ⟨m, rfl⟩ : ∃ m', m = m' + 1 := ⟨m - 1, by omega⟩
    have hin : i = n := by omega
    subst hin
    refine ⟨υ, ?_, hs⟩
    rw [lp_s, fX8_restart_20]
    dsimp only
    rw [hs.1 3 (by decide), em3, if_pos (by rw [nI_leI (by omega) (by omega)]; omega)]
  | succ d ih =>
    intro i m υ hid hm hs
    obtain ⟨m, rfl⟩ : ∃ m', m = m' + 1 := ⟨m - 1, by omega⟩
    obtain ⟨s1, s2, s3, s4, s5, s6, s7, s8, s9⟩ := id hs
    have hci : cnt (rS ns n (τ.2.1 15) (τ.2.1 2)) 1 i ≤ i := cnt_le _ _ _
    rw [lp_s, fX8_restart_20]
    dsimp only
    rw [s1 3 (by decide), em3, if_neg (by rw [nI_leI (by omega) (by omega)]; omega), s1 9 (by decide), em9, nI_clamp (by omega), s3 15 (by decide) (by decide) (by decide) (by decide), s3 16 (by decide) (by decide) (by decide) (by decide), s3 17 (by decide) (by decide) (by decide) (by decide), s8 7 (by decide)]
    by_cases hi : i < ns
    · rw [if_pos (by rw [nI_ltI (by omega) (by omega)]; omega), ixN (by omega) (by decide), ixN (by omega) (by decide), ixN (by omega) (by decide), ixN (by omega) (by decide), ixN (by omega) (by decide), ixN (by omega) (by decide), ixN (by omega) (by decide), ixN (by omega) (by decide), ixN (by omega) (by decide), upd_s]
      have hrs : rS ns n (τ.2.1 15) (τ.2.1 2) i = τ.2.1 15 i := rS_in hi
      by_cases h1 : τ.2.1 15 i = 1
      · rw [if_pos h1, ixN (by omega) (by decide), ixN (by omega) (by decide), s2, ixN (by omega) (by decide), nI_clamp (by omega), fX8_restart_141]
        dsimp only
        rw [nI_1, upd_s, upd_upd, nI_1]
        refine ih (i + 1) m _ (by omega) (by omega) ?_
        refine ⟨fun k a => ?_, ?_, fun k a b c e => ?_, ?_, ?_, ?_, ?_, fun k a => ?_, ?_⟩
        · show va_up υ.1 4 _ k = _
          unfold va_up
          rw [if_neg a]; exact s1 k a
        · rw [cnt_su, hrs, if_pos h1]; rfl
        · show va_up (va_up (va_up (va_up (va_up υ.2.1 2 _) 3 _) 4 _) 4 _) 6 _ k = _
          unfold va_up
          rw [if_neg e, if_neg c, if_neg c, if_neg b, if_neg a]; exact s3 k a b c e
        · show upd (υ.2.1 2) i (τ.2.1 15 i) = _
          rw [s4, ← mix_s, hrs]
        · show upd (υ.2.1 3) i (τ.2.1 16 i) = _
          rw [s5, ← mix_s]; unfold rR; rw [if_pos hi]
        · show upd (υ.2.1 4) i (τ.2.1 17 i + 1) = _
          rw [s6, ← mix_s]; unfold rT; rw [if_pos hi, if_pos h1]
        · show upd (υ.2.1 6) (cnt _ 1 i) (nI i) = _
          rw [s7]; simp only [enI, hrs, if_pos h1]
        · show va_up υ.2.2 2 _ k = _
          unfold va_up
          rw [if_neg a]; exact s8 k a
        · show vp_updL (υ.2.2 2) i (τ.2.2 7 i) = _
          rw [s9, ← mix_sL]; unfold rR; rw [if_pos hi]
      · rw [if_neg h1, fX8_restart_141]
        dsimp only
        rw [nI_1]
        refine ih (i + 1) m _ (by omega) (by omega) ?_
        refine ⟨s1, ?_, fun k a b c e => ?_, ?_, ?_, ?_, ?_, fun k a => ?_, ?_⟩
        · rw [cnt_su, hrs, if_neg h1]; exact s2
        · show va_up (va_up (va_up υ.2.1 2 _) 3 _) 4 _ k = _
          unfold va_up
          rw [if_neg c, if_neg b, if_neg a]; exact s3 k a b c e
        · show upd (υ.2.1 2) i (τ.2.1 15 i) = _
          rw [s4, ← mix_s, hrs]
        · show upd (υ.2.1 3) i (τ.2.1 16 i) = _
          rw [s5, ← mix_s]; unfold rR; rw [if_pos hi]
        · show upd (υ.2.1 4) i (τ.2.1 17 i) = _
          rw [s6, ← mix_s]; unfold rT; rw [if_pos hi, if_neg h1]
        · show υ.2.1 6 = _
          rw [s7]; simp only [enI, hrs, if_neg h1]
        · show va_up υ.2.2 2 _ k = _
          unfold va_up
          rw [if_neg a]; exact s8 k a
        · show vp_updL (υ.2.2 2) i (τ.2.2 7 i) = _
          rw [s9, ← mix_sL]; unfold rR; rw [if_pos hi]
    · have hrs : rS ns n (τ.2.1 15) (τ.2.1 2) i = 4 := rS_mid hi (by omega)
      rw [if_neg (by rw [nI_ltI (by omega) (by omega)]; omega), ixN (by omega) (by decide), ixN (by omega) (by decide), fX8_restart_141]
      dsimp only
      rw [nI_1]
      refine ih (i + 1) m _ (by omega) (by omega) ?_
      refine ⟨s1, ?_, fun k a b c e => ?_, ?_, ?_, ?_, ?_, s8, ?_⟩
      · rw [cnt_su, hrs, if_neg (by decide)]; exact s2
      · show va_up (va_up υ.2.1 2 _) 4 _ k = _
        unfold va_up
        rw [if_neg c, if_neg a]; exact s3 k a b c e
      · show upd (υ.2.1 2) i 4 = _
        rw [s4, ← mix_s, hrs]
      · show υ.2.1 3 = _
        rw [s5]; exact mix_same (by unfold rR; rw [if_neg hi])
      · show upd (υ.2.1 4) i 0 = _
        rw [s6, ← mix_s]; unfold rT; rw [if_neg hi, if_pos (by omega)]
      · show υ.2.1 6 = _
        rw [s7]; simp only [enI, hrs]; rw [if_neg (by decide)]
      · show υ.2.2 2 = _
        rw [s9]; exact mix_same (by unfold rR; rw [if_neg hi])
set_option maxHeartbeats 2000000 in
/-- restart -/
theorem op_restart (hF : 301 < F) (h : Rel K σ τ) : ∃ r σ' τ', fX7_restart F σ = some (r, σ') ∧ fX8_restart F τ = some (r, τ') ∧ Rel (K + 1) σ' τ' := by
  obtain ⟨n, M, o, t, hP, hq⟩ := id h
  obtain ⟨hE, hI, hS, hO, hQ, hW, hD, hL0, hL1, hV, hK, hZ⟩ := id hP
  obtain ⟨⟨hM1, hM16, eM, eM'⟩, hEr⟩ := id hE
  obtain ⟨hn, ec2, em3, ecm, eck, ecv, htail⟩ := id hI
  obtain ⟨ecs, ect, hokS, hokR, htl⟩ := id hS
  obtain ⟨c3, m7, eoi, eot, hokO⟩ := id hO
  obtain ⟨ns, os, z1, z2, z3, z4, z5, z6, z7, z8, z9, z10, z11⟩ := id hZ
  -- the reference
  obtain ⟨υ, g1, g2⟩ := rs_loop (F := F) (τ := sI (sI (sI τ 7 (τ.1 10)) 4 0) 8 0) (ns := ns) hn z1 em3 z4 n 0 F (sI (sI (sI τ 7 (τ.1 10)) 4 0) 8 0) (by omega) (by omega) ⟨fun _ _ => rfl, rfl, fun _ _ _ _ _ => rfl, mix_0.symm, mix_0.symm, mix_0.symm, rfl, fun _ _ => rfl, mix_0.symm⟩
  obtain ⟨s1, s2, s3, s4, s5, s6, s7, s8, s9⟩ := g2
  -- the class
  obtain ⟨ω, k1, k2⟩ := ag_loop (F := F) (n := n) (s := rS ns n (τ.2.1 15) (τ.2.1 2)) (σ := sI (sI (sI (sI (sI (sI (sL (sA (sA (sA σ 3 (rS ns n (τ.2.1 15) (τ.2.1 2))) 4 (fun j => if ns ≤ j ∧ j < n then -1 else va_cpy (σ.2.1 8) (σ.2.1 4) 0 0 300 j)) 5 (rT0 ns n (τ.2.1 17) (τ.2.1 4))) 2 (fun j => if j < ns then σ.2.2 3 j else if j < n then 0 else σ.2.2 2 j)) 3 (nI os)) 16 (σ.1 18)) 17 (σ.1 19)) 11 0) 6 0) 7 0) hn ec2 rfl (by
    rw [rS_cnt' z1, if_neg (by decide)]; have := z9.2.2.2.2; omega) n 0 F _ (by omega) (by omega) ⟨fun _ _ _ => rfl, rfl, rfl, fun _ _ _ _ => rfl, mix_0.symm, rfl, rfl, rfl⟩
  obtain ⟨w1, w2, w3, w4, w5, w6, w7, w8⟩ := k2
  have hRel : RelP K n M os t (sI ω 15 (ω.1 15 + 1)) (sI υ 11 (υ.1 11 + 1)) := by
    have a1 : ∀ k, k ≠ 4 → k ≠ 11 → k ≠ 7 → k ≠ 8 → (sI υ 11 (υ.1 11 + 1)).1 k = τ.1 k := fun k a b c e => by
      show va_up υ.1 11 _ k = _
      unfold va_up
      rw [if_neg b, s1 k a]
      show va_up (va_up (va_up τ.1 7 _) 4 _) 8 _ k = _
      unfold va_up
      rw [if_neg e, if_neg a, if_neg c]
    have a2 : ∀ k, k ≠ 2 → k ≠ 3 → k ≠ 4 → k ≠ 6 → (sI υ 11 (υ.1 11 + 1)).2.1 k = τ.2.1 k := s3
    have a3 : ∀ k, k ≠ 2 → (sI υ 11 (υ.1 11 + 1)).2.2 k = τ.2.2 k := s8
    have b1 : ∀ k, k ≠ 6 → k ≠ 7 → k ≠ 15 → k ≠ 3 → k ≠ 11 → k ≠ 16 → k ≠ 17 → (sI ω 15 (ω.1 15 + 1)).1 k = σ.1 k := fun k a b c e f g g' => by
      show va_up ω.1 15 _ k = _
      unfold va_up
      rw [if_neg c, w1 k a b]
      show va_up (va_up (va_up (va_up (va_up (va_up σ.1 3 _) 16 _) 17 _) 11 _) 6 _) 7 _ k = _
      unfold va_up
      rw [if_neg b, if_neg a, if_neg f, if_neg g', if_neg g, if_neg e]
    have b2 : ∀ k, k ≠ 5 → k ≠ 13 → k ≠ 14 → k ≠ 3 → k ≠ 4 → (sI ω 15 (ω.1 15 + 1)).2.1 k = σ.2.1 k := fun k a b c e f => by
      show ω.2.1 k = _
      rw [w4 k a b c]
      show va_up (va_up (va_up σ.2.1 3 _) 4 _) 5 _ k = _
      unfold va_up
      rw [if_neg a, if_neg f, if_neg e]
    have b3 : ∀ k, k ≠ 2 → (sI ω 15 (ω.1 15 + 1)).2.2 k = σ.2.2 k := fun k a => by
      show ω.2.2 k = _
      rw [w8]
      show va_up σ.2.2 2 _ k = _
      unfold va_up
      rw [if_neg a]
    have f15 : (sI ω 15 (ω.1 15 + 1)).1 15 = σ.1 15 + 1 := by
      show ω.1 15 + 1 = _
      rw [w1 15 (by decide) (by decide)]; rfl
    have f11 : (sI υ 11 (υ.1 11 + 1)).1 11 = τ.1 11 + 1 := by
      show υ.1 11 + 1 = _
      rw [s1 11 (by decide)]; rfl
    have e7 : (sI υ 11 (υ.1 11 + 1)).1 7 = nI os := by
      show υ.1 7 = _
      rw [s1 7 (by decide)]; exact z6
    have e8 : (sI υ 11 (υ.1 11 + 1)).1 8 = 0 := by
      show υ.1 8 = _
      rw [s1 8 (by decide)]; rfl
    have e4 : (sI υ 11 (υ.1 11 + 1)).1 4 = nI (cnt (rS ns n (τ.2.1 15) (τ.2.1 2)) 1 n) := s2
    have d3 : (sI ω 15 (ω.1 15 + 1)).1 3 = nI os := by
      show ω.1 3 = _
      rw [w1 3 (by decide) (by decide)]; rfl
    have d11 : (sI ω 15 (ω.1 15 + 1)).1 11 = 0 := by
      show ω.1 11 = _
      rw [w1 11 (by decide) (by decide)]; rfl
    have d16 : (sI ω 15 (ω.1 15 + 1)).1 16 = σ.1 18 := by
      show ω.1 16 = _
      rw [w1 16 (by decide) (by decide)]; rfl
    have d17 : (sI ω 15 (ω.1 15 + 1)).1 17 = σ.1 19 := by
      show ω.1 17 = _
      rw [w1 17 (by decide) (by decide)]; rfl
    have d6 : (sI ω 15 (ω.1 15 + 1)).1 6 = nI (cnt (rS ns n (τ.2.1 15) (τ.2.1 2)) 1 n) := w2
    have d7 : (sI ω 15 (ω.1 15 + 1)).1 7 = nI (cnt (rS ns n (τ.2.1 15) (τ.2.1 2)) 1 n) := w3
    have m2 : (sI υ 11 (υ.1 11 + 1)).2.1 2 = rS ns n (τ.2.1 15) (τ.2.1 2) := by
      show υ.2.1 2 = _
      rw [s4]; exact mix_all (fun j hj => by unfold rS; rw [if_neg (by omega), if_neg (by omega)])
    have m3 : (sI υ 11 (υ.1 11 + 1)).2.1 3 = rR ns (τ.2.1 16) (τ.2.1 3) := by
      show υ.2.1 3 = _
      rw [s5]; exact mix_all (fun j hj => by unfold rR; rw [if_neg (by omega)])
    have m4 : (sI υ 11 (υ.1 11 + 1)).2.1 4 = rT ns n (τ.2.1 15) (τ.2.1 17) (τ.2.1 4) := by
      show υ.2.1 4 = _
      rw [s6]; exact mix_all (fun j hj => by unfold rT; rw [if_neg (by omega), if_neg (by omega)])
    have m6 : (sI υ 11 (υ.1 11 + 1)).2.1 6 = enI (rS ns n (τ.2.1 15) (τ.2.1 2)) (τ.2.1 6) n := s7
    have ml2 : (sI υ 11 (υ.1 11 + 1)).2.2 2 = rR ns (τ.2.2 7) (τ.2.2 2) := by
      show υ.2.2 2 = _
      rw [s9]; exact mix_all (fun j hj => by unfold rR; rw [if_neg (by omega)])
    have x3 : (sI ω 15 (ω.1 15 + 1)).2.1 3 = rS ns n (τ.2.1 15) (τ.2.1 2) := by
      show ω.2.1 3 = _
      rw [w4 3 (by decide) (by decide) (by decide)]; rfl
    have x4 : (sI ω 15 (ω.1 15 + 1)).2.1 4 = (fun j => if ns ≤ j ∧ j < n then -1 else va_cpy (σ.2.1 8) (σ.2.1 4) 0 0 300 j) := by
      show ω.2.1 4 = _
      rw [w4 4 (by decide) (by decide) (by decide)]; rfl
    have x5 : (sI ω 15 (ω.1 15 + 1)).2.1 5 = rT ns n (τ.2.1 15) (τ.2.1 17) (τ.2.1 4) := by
      show ω.2.1 5 = _
      rw [w5]
      funext j
      show mixF (fun j => if rS ns n (τ.2.1 15) (τ.2.1 2) j = 1 then rT0 ns n (τ.2.1 17) (τ.2.1 4) j + 1 else rT0 ns n (τ.2.1 17) (τ.2.1 4) j) (rT0 ns n (τ.2.1 17) (τ.2.1 4)) n j = _
      by_cases hj : j < n
      · rw [mix_in hj]
        unfold rT rT0
        by_cases hj2 : j < ns
        · rw [rS_in hj2, if_pos hj2, if_pos hj2]
        · rw [rS_mid hj2 hj, if_neg hj2, if_neg hj2, if_pos hj, if_neg (by decide)]
      · rw [mix_out hj]
        unfold rT rT0
        have hj3 : ¬ j < ns := by omega
        rw [if_neg hj3, if_neg hj3, if_neg hj]
    have x13 : (sI ω 15 (ω.1 15 + 1)).2.1 13 = enI (rS ns n (τ.2.1 15) (τ.2.1 2)) (σ.2.1 13) n := w6
    have x14 : (sI ω 15 (ω.1 15 + 1)).2.1 14 = enI (rS ns n (τ.2.1 15) (τ.2.1 2)) (σ.2.1 14) n := w7
    have y2 : (sI ω 15 (ω.1 15 + 1)).2.2 2 = (fun j => if j < ns then σ.2.2 3 j else if j < n then 0 else σ.2.2 2 j) := by
      show ω.2.2 2 = _
      rw [w8]; rfl
    unfold RelP
    rw [a1 0 (by decide) (by decide) (by decide) (by decide), a1 1 (by decide) (by decide) (by decide) (by decide), a1 2 (by decide) (by decide) (by decide) (by decide), a1 3 (by decide) (by decide) (by decide) (by decide), a1 5 (by decide) (by decide) (by decide) (by decide), a1 6 (by decide) (by decide) (by decide) (by decide), a1 9 (by decide) (by decide) (by decide) (by decide), a1 10 (by decide) (by decide) (by decide) (by decide), f11, e7, e8, e4]
    rw [a2 0 (by decide) (by decide) (by decide) (by decide), a2 1 (by decide) (by decide) (by decide) (by decide), a2 5 (by decide) (by decide) (by decide) (by decide), a2 7 (by decide) (by decide) (by decide) (by decide), a2 8 (by decide) (by decide) (by decide) (by decide), a2 9 (by decide) (by decide) (by decide) (by decide), a2 10 (by decide) (by decide) (by decide) (by decide), a2 11 (by decide) (by decide) (by decide) (by decide), a2 12 (by decide) (by decide) (by decide) (by decide), a2 13 (by decide) (by decide) (by decide) (by decide), a2 14 (by decide) (by decide) (by decide) (by decide), a2 15 (by decide) (by decide) (by decide) (by decide), a2 16 (by decide) (by decide) (by decide) (by decide), a2 17 (by decide) (by decide) (by decide) (by decide), m2, m3, m4, m6]
    rw [a3 0 (by decide), a3 1 (by decide), a3 3 (by decide), a3 4 (by decide), a3 5 (by decide), a3 6 (by decide), a3 7 (by decide), ml2]
    rw [b1 0 (by decide) (by decide) (by decide) (by decide) (by decide) (by decide) (by decide), b1 1 (by decide) (by decide) (by decide) (by decide) (by decide) (by decide) (by decide), b1 2 (by decide) (by decide) (by decide) (by decide) (by decide) (by decide) (by decide), b1 4 (by decide) (by decide) (by decide) (by decide) (by decide) (by decide) (by decide), b1 5 (by decide) (by decide) (by decide) (by decide) (by decide) (by decide) (by decide), b1 9 (by decide) (by decide) (by decide) (by decide) (by decide) (by decide) (by decide), b1 10 (by decide) (by decide) (by decide) (by decide) (by decide) (by decide) (by decide), b1 12 (by decide) (by decide) (by decide) (by decide) (by decide) (by decide) (by decide), b1 13 (by decide) (by decide) (by decide) (by decide) (by decide) (by decide) (by decide), b1 14 (by decide) (by decide) (by decide) (by decide) (by decide) (by decide) (by decide), b1 18 (by decide) (by decide) (by decide) (by decide) (by decide) (by decide) (by decide), b1 19 (by decide) (by decide) (by decide) (by decide) (by decide) (by decide) (by decide), f15, d3, d11, d6, d7, d16, d17]
    rw [b2 0 (by decide) (by decide) (by decide) (by decide) (by decide), b2 1 (by decide) (by decide) (by decide) (by decide) (by decide), b2 2 (by decide) (by decide) (by decide) (by decide) (by decide), b2 7 (by decide) (by decide) (by decide) (by decide) (by decide), b2 8 (by decide) (by decide) (by decide) (by decide) (by decide), b2 9 (by decide) (by decide) (by decide) (by decide) (by decide), b2 11 (by decide) (by decide) (by decide) (by decide) (by decide), b2 12 (by decide) (by decide) (by decide) (by decide) (by decide), b2 16 (by decide) (by decide) (by decide) (by decide) (by decide), b2 17 (by decide) (by decide) (by decide) (by decide) (by decide), b2 18 (by decide) (by decide) (by decide) (by decide) (by decide), b2 19 (by decide) (by decide) (by decide) (by decide) (by decide), b2 20 (by decide) (by decide) (by decide) (by decide) (by decide), b2 21 (by decide) (by decide) (by decide) (by decide) (by decide), x3, x4, x5, x13, x14]
    rw [b3 0 (by decide), b3 1 (by decide), b3 3 (by decide), b3 4 (by decide), b3 5 (by decide), b3 6 (by decide), b3 7 (by decide), b3 8 (by decide), b3 9 (by decide), y2]
    obtain ⟨j1, j2, j3, j4, j5⟩ := id z9
    refine ⟨?_, hI, ⟨rfl, rfl, ?_, ?_, ?_⟩, ⟨rfl, rfl, eoi, eot, ?_⟩, gQ_en, gW_en, hD, hL0, hL1, hV, ?_, ⟨ns, os, z1, Nat.le_refl _, z3, z4, z5, z6, z7, z8, z9, z10, z11⟩⟩
    · obtain ⟨q1, q2, q3, q4, q5, q6⟩ := hEr
      exact ⟨⟨hM1, hM16, eM, eM'⟩, q1, q2, q3, q4, by rw [q5], q6⟩
    · refine ⟨fun i hi => ?_, fun i hi hm => ?_, fun i j hi hj r1 r2 => ?_, ⟨?_, ?_⟩, ?_⟩
      · by_cases h2 : i < ns
        · rw [rS_in h2]; exact j1 i h2
        · rw [rS_mid h2 hi]; exact ⟨4, by omega, rfl⟩
      · by_cases h2 : i < ns
        · rw [rS_in h2]; exact j2 i h2 hm
        · rw [rS_mid h2 hi]; exact ⟨by decide, by decide⟩
      · by_cases h2 : i < ns
        · rw [rS_in h2] at r1
          by_cases h3 : j < ns
          · rw [rS_in h3] at r2; exact j3 i j h2 h3 r1 r2
          · omega
        · rw [rS_mid h2 hi] at r1; exact absurd r1 (by decide)
      · rw [rS_cnt' z1, if_neg (by decide)]; exact j4.1
      · rw [rS_cnt' z1, if_neg (by decide)]; exact j4.2
      · rw [rS_cnt' z1, if_neg (by decide)]; omega
    · intro i hi
      dsimp only
      by_cases h2 : i < ns
      · rw [rS_in h2, if_neg (show ¬ (ns ≤ i ∧ i < n) by omega), cpy0_in (show i < 300 by omega), if_pos h2]
        unfold rR
        rw [if_pos h2, if_pos h2]
        exact z10 i h2
      · rw [rS_mid h2 hi, if_pos (show ns ≤ i ∧ i < n by omega), if_neg h2, if_pos hi]
        exact ⟨fun e => absurd e (by decide), fun _ => ⟨rfl, rfl⟩⟩
    · intro i hi
      have h1 : ¬ i < ns := by omega
      have h2 : ¬ i < n := by omega
      simp only [rR, rS, rT, if_neg h1, if_neg h2]
      exact htl i hi
    · obtain ⟨v1, v2⟩ := z11
      refine ⟨?_, fun k hk => ?_⟩
      · rw [rS_cnt' z1, if_neg (by decide)]; omega
      · obtain ⟨i, u1, u2, u3⟩ := v2 k hk
        exact ⟨i, by omega, u2, by rw [rS_in u1]; exact u3⟩
    · obtain ⟨v1, v2, v3, -⟩ := hK
      exact ⟨v1, v2, v3, 0, by omega, rfl, rfl, fun i k hi => by omega⟩
  obtain ⟨o', σ', τ', b1, b2, b3, b4⟩ := goOn_all hF hRel
  have hn3 : τ'.1 3 = nI n := b3.2.1.2.2.1
  have hT : σ'.1 6 = nI (cnt (τ'.2.1 2) 1 n) := by obtain ⟨wq, ew, -⟩ := b3.2.2.2.2.2.1; exact ew
  have hgb : fX4_goBackTo F (τ.2.1 2) (σ.2.1 4) (τ.2.1 4) (σ.2.2 2) (nI n) (σ.1 3) (σ.1 16) (σ.1 17) (σ.2.1 7) (σ.2.1 8) (σ.2.1 9) (σ.2.2 3) (nI ns) (nI os) (σ.1 18) (σ.1 19) = some (rS ns n (τ.2.1 15) (τ.2.1 2), (fun j => if ns ≤ j ∧ j < n then -1 else va_cpy (σ.2.1 8) (σ.2.1 4) 0 0 300 j), rT0 ns n (τ.2.1 17) (τ.2.1 4), (fun j => if j < ns then σ.2.2 3 j else if j < n then 0 else σ.2.2 2 j), nI os, σ.1 18, σ.1 19) := by
    rw [f4_goBackTo hF hn z1]
    rw [fl_rS (x := (4 : Int32)) (fun j hj => (z7 j hj).1) (fun j hj => (z8 j hj).1) (fun j hj => (htl j hj).2.1) hn z1]
    rw [fl_rS (x := (0 : Int32)) (fun j hj => (z7 j hj).2) (fun j hj => (z8 j hj).2.1) (fun j hj => (htl j hj).2.2) hn z1]
    rw [fl_rS (x := (0 : Int64)) (os' := σ.2.2 3) (fun j hj => rfl) (fun j hj => (z8 j hj).2.2) (fun j hj => (htl j hj).1.1) hn z1]
    rfl
  refine ⟨nI (cnt (τ'.2.1 2) 1 n), σ', τ', ?_, ?_, Rel_K ⟨n, M, o', t, b3, b4⟩⟩
  · rw [fX7_restart, ec2, z3, z5, ecs, ect, bs hgb, fX1_forgetAll, bs rfl, bs (show fX7_askAgainAllWorking F _ = some ω from k1), bs b1, hT]
  · rw [fX8_restart]
    refine (show _ = _ from g1).trans ?_
    rw [bs b2, bs (f8_countOf (by omega) hn hn3)]
end RST
