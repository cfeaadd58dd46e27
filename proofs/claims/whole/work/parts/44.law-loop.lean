def R_law : String := "OutsideAsksLaw"
def lw_P (b : Addr) (xs : List Int32) (args : Array Value) (s : State) : Prop := args = #[.ref b] ∧ s.IntsAt b xs ∧ xs.length ≤ 2562 ∧ (Jvm.Cond.and given_1 narrow_1).before args s = true
def lw_Q (_ : Array Value) (s : State) (o : Outcome) (t : State) : Prop := o = .returned (some (.int 1)) ∧ Framed s o t [] 600000 7302250
def lw_Z (below : List Frame) (a : Array Value) (s : State) : State → Prop := fun t => ∃ o, t.status = .running ∧ Ended t below o ∧ lw_Q a s o t
/-- the law's own end, with 1 on the stack, nothing written that was there before, its room as the claim has it -/
theorem lw_ret {p : Program} {l : Launch} {e : Env} {s : State} {m : MethodId} {below : List Frame} {meth : Method} {c : Code} {b : Nat} (hx : p.tables.exec = Jvm.exec) (hb : c.code = code) (hr : meth.sig.returnType = ret) (hlocks : meth.locks = false) {pc : Nat} {H : Heap} {ls : Array Slot} (hdg : decode code pc = .ok (.ireturn, 1)) : W p l e room_1 s m #[Value.ref b] below meth c H [] 600000 7302250 (lw_Z below #[Value.ref b] s) (F0 m pc ls [.int 1]) := by
  intro T hT X
  obtain ⟨fs, hret, hrun, hended, hW, hframe⟩ := X.leave (v := some (.int 1)) (hlocks := hlocks) (fun h => by rw [hr] at h; cases h)
  have hmeth' : T.vm.method? m = some meth := X.method'
  refine ⟨T.setFrames fs, ?_, .returned (some (.int 1)), hrun, hended, rfl, ⟨_, rfl⟩, hW, hframe⟩
  jvm_step X.here [X.here.top, hx, hb, hdg, hmeth', hr, ret, narrow_b1]
  (try refine ⟨rfl, ?_⟩); (try refine ⟨rfl, ?_⟩)
  first | (intro acts; rw [hret _ acts rfl rfl rfl]) | rw [hret _ _ rfl rfl rfl]
  exact Steps.refl _
/-- what holds at the law's entry: the machine, the code, the tables' words (any of lw_tbl by 'hts w (by decide +kernel)'), the script of L ints xs at the cell b, what the Statement gives of the start (any of its parts by flat_of_before) -/
def lw_At (p : Program) (s : State) (m : MethodId) (meth : Method) (c : Code) (b L : Nat) (xs : Nat → Int32) : Prop :=
  p.tables.exec = Jvm.exec ∧ c.code = code ∧ meth.sig.returnType = ret ∧ c.maxLocals = 4 ∧ s.vm.findClass R_law = some m.cls ∧ (∀ w ∈ lw_tbl, w.before #[Value.ref b] s = true) ∧ va_X b L xs s s.heap ∧ b < s.heap.size ∧ meth.locks = false ∧ (Jvm.Cond.and given_1 narrow_1).before #[Value.ref b] s = true
set_option maxHeartbeats 4000000 in
set_option maxRecDepth 100000 in
/-- the law's cell -/
theorem mL_cell (l : Launch) (dC : Nat → ClassId) (dI : Nat → Nat → Nat) (cI cJ cZ : ClassId) (b L : Nat) (xs : Nat → Int32) (hL : L ≤ 2562) (j : Nat) (hj : j < 2) (sz : Nat) : Met l yL_cell (wS yL_cell cL_cell 2 (some .int)) { frames := 0, cells := 0, slots := 0, locals := 0 } (pC (dC, dI) (kT cI cJ cZ) (fun U => va_X b L xs U U.heap) [] sz [.ref b, .int (nI j)]) (qI (dC, dI) (kT cI cJ cZ) [] (va_A [] sz) (if j < L then xs j else 0)) 0 0 (va_A [] sz) := by
  refine my_ent2 (fun A => qI (dC, dI) (kT cI cJ cZ) [] A (if j < L then xs j else 0)) (by decide) (Nat.le_of_ble_eq_true rfl) ?_
  intro p e s m below meth c A hszE hAe hnm C0 hK hX hP hD hA hS ls hl
  obtain ⟨hx, hb, hml, hown, hT, hr, hlocks⟩ := id C0
  have hl : lv_has ls 2 [(0, .ref b), (1, .int (nI j))] := hl
  have hbl : b < s.heap.size := by obtain ⟨scr, h1, -⟩ := hX; exact (Array.getElem?_eq_some_iff.mp h1).1
  have hbA : ¬ A b := by
    rw [← hAe]
    intro h
    rcases h with ⟨k, e, h⟩ | h
    · simp at h
    · omega
  refine lv_iload_n hx hb dL_cell_0 rfl (lv_at hl 1 rfl) ?_
  refine lv_aload_n hx hb dL_cell_1 rfl (lv_at hl 0 rfl) ?_
  refine va_slen hx hb hX hbl hbA hS dL_cell_2 ?_
  refine lv_icmp_ge (tgt := 12) hx hb dL_cell_3 (by decide) (fun c1 => ?_) (fun c1 => ?_)
  · have h1 : ¬ j < L := by have := (nI_leI (a := L) (b := j) (by omega) (by omega)).mp c1; omega
    refine lv_iconst (v := 0) hx hb dL_cell_12 (by decide) ?_
    have e0 : (if j < L then xs j else 0) = 0 := if_neg h1
    rw [e0]
    exact my_iret C0 hK hP hD hS dL_cell_13
  · have h1 : j < L := by
      rcases Nat.lt_or_ge j L with q | q
      · exact q
      · exact absurd ((nI_leI (by omega) (by omega)).mpr q) c1
    refine lv_aload_n hx hb dL_cell_6 rfl (lv_at hl 0 rfl) ?_
    refine lv_iload_n hx hb dL_cell_7 rfl (lv_at hl 1 rfl) ?_
    refine va_sld hx hb hX hbl hbA hS (vp_in_nI h1 (by omega)) dL_cell_8 ?_
    refine lv_goto (tgt := 13) hx hb dL_cell_9 (by decide) ?_
    have e0 : (if j < L then xs j else 0) = xs (nI j).toNatClampNeg := by rw [if_pos h1, nI_clamp (by omega)]
    rw [e0]
    exact my_iret C0 hK hP hD hS dL_cell_13
set_option maxHeartbeats 4000000 in
set_option maxRecDepth 100000 in
/-- the law's loop: at its head, with the script read up to i, class and reference agree -/
theorem law_loop {p : Program} {l : Launch} {e : Env} {s : State} {m : MethodId} {below : List Frame} {meth : Method} {c : Code} {dC : Nat → ClassId} {dI : Nat → Nat → Nat} {cI cJ cZ : ClassId} {b L t1 t2 : Nat} {xs : Nat → Int32} {ad ad2 : Nat → Nat} (E : lX p s m meth c b L xs dC dI cI cJ cZ t1 t2) :
    ∀ (n i K : Nat) (σ τ : St) (H : Heap) (locs : List Loc) (ls : Array Slot), i = 5 * K + 2 → i ≤ L + 2 → L + 3 ≤ i + n → Rel K σ τ → va_P (dC, dI) vwCl (w2 cI cJ cZ ad ad2 σ τ) H → va_D (fun q : Nat => s.heap.size ≤ q) (w2 cI cJ cZ ad ad2 σ τ) → va_S (fun q : Nat => s.heap.size ≤ q) s.heap H locs → lv_has ls 4 [(0, .ref b), (1, .ref (ad 0)), (2, .ref (ad2 0)), (3, .int (nI i))] → W p l e room_1 s m #[Value.ref b] below meth c H locs 600000 7302250 (lw_Z below #[Value.ref b] s) (F0 m 38 ls []) := by
  obtain ⟨C0, hK, hXS, hX, hbl, hL⟩ := id E
  obtain ⟨hx, hb, hml, hown, hT, hr, hlocks⟩ := id C0
  have hbA : ¬ (fun q : Nat => s.heap.size ≤ q) b := Nat.not_le.mpr hbl
  intro n
  induction n with
  | zero => intro i K σ τ H locs ls h1 h2 h3; omega
  | succ n ih =>
    intro i K σ τ H locs ls hiK hiL hn hR hP hD hS hl
    refine lv_iload_n hx hb dL_law_38 rfl (lv_at hl 3 rfl) ?_
    refine lv_aload_n hx hb dL_law_39 rfl (lv_at hl 0 rfl) ?_
    refine va_slen hx hb hX hbl hbA hS dL_law_40 ?_
    refine lv_iconst (v := 5) hx hb dL_law_41 (by decide) ?_
    refine lv_isub hx hb dL_law_42 ?_
    refine lv_icmp_gt (tgt := 731) hx hb dL_law_43 (by decide) (fun c1 => ?_) (fun c1 => ?_)
    · refine lv_iconst (v := 1) hx hb dL_law_731 (by decide) ?_
      refine va_forget (fun q hq => hS.2.2 q hq) ?_
      exact lw_ret hx hb hr hlocks dL_law_732
    · have h5 : i + 5 ≤ L := by
        rcases Nat.lt_or_ge L (i + 5) with q | q
        · refine absurd ?_ c1
          show nI L - nI 5 < nI i
          rw [Int32.lt_iff_toInt_lt, pk_sub_toInt (by omega) (by omega), nI_toInt (by omega)]
          omega
        · exact q
      have hK5 : K < 1000 := by omega
      have nx : ∀ (σ' τ' : St) (H1 : Heap) (locs1 : List Loc), Rel (K + 1) σ' τ' → va_P (dC, dI) vwCl (w2 cI cJ cZ ad ad2 σ' τ') H1 → va_D (fun q : Nat => s.heap.size ≤ q) (w2 cI cJ cZ ad ad2 σ' τ') → va_S (fun q : Nat => s.heap.size ≤ q) s.heap H1 locs1 → W p l e room_1 s m #[Value.ref b] below meth c H1 locs1 600000 7302250 (lw_Z below #[Value.ref b] s) (F0 m 725 ls []) := by
        intro σ' τ' H1 locs1 hR hP hD hS
        refine lv_iinc (v := nI (i + 5)) (lv' := [(3, .int (nI (i + 5))), (0, .ref b), (1, .ref (ad 0)), (2, .ref (ad2 0))]) hx hb dL_law_725 hl (k := 3) rfl (nI_add i 5) (by decide) rfl (fun ls hl => ?_)
        refine lv_goto (tgt := 38) hx hb dL_law_728 (by decide) ?_
        exact ih (i + 5) (K + 1) σ' τ' H1 locs1 ls (by omega) (by omega) (by omega) hR hP hD hS (lv_sub hl [1, 2, 3, 0] rfl)
      refine lv_aload_n hx hb dL_law_46 rfl (lv_at hl 0 rfl) ?_
      refine lv_iload_n hx hb dL_law_47 rfl (lv_at hl 3 rfl) ?_
      refine va_sld hx hb hX hbl hbA hS (vp_in_nI (by omega) (by omega)) dL_law_48 ?_
      refine lv_bipush (v := 31) hx hb dL_law_49 (by decide) ?_
      refine lv_iand hx hb dL_law_51 ?_
      refine lv_topi (fun z hz => ?_)
      by_cases c_0 : z = 0
      · refine lv_tableIn (tgt := 140) (off := 88) hx hb dL_law_52 (by rw [c_0]; decide) (by rw [c_0]; decide) (by rw [c_0]; rfl) (by decide) ?_
        exact lw_set E h5 hK5 hR hP hD hS hl nx
      by_cases c_1 : z = 1
      · refine lv_tableIn (tgt := 173) (off := 121) hx hb dL_law_52 (by rw [c_1]; decide) (by rw [c_1]; decide) (by rw [c_1]; rfl) (by decide) ?_
        exact lw_row E h5 hK5 hR hP hD hS hl nx
      by_cases c_2 : z = 2
      · refine lv_tableIn (tgt := 266) (off := 214) hx hb dL_law_52 (by rw [c_2]; decide) (by rw [c_2]; decide) (by rw [c_2]; rfl) (by decide) ?_
        exact lw_mark E h5 hK5 hR hP hD hS hl nx
      by_cases c_3 : z = 3
      · refine lv_tableIn (tgt := 279) (off := 227) hx hb dL_law_52 (by rw [c_3]; decide) (by rw [c_3]; decide) (by rw [c_3]; rfl) (by decide) ?_
        exact lw_tick E h5 hK5 hR hP hD hS hl nx
      by_cases c_4 : z = 4
      · refine lv_tableIn (tgt := 302) (off := 250) hx hb dL_law_52 (by rw [c_4]; decide) (by rw [c_4]; decide) (by rw [c_4]; rfl) (by decide) ?_
        exact lw_serve E h5 hK5 hR hP hD hS hl nx
      by_cases c_5 : z = 5
      · refine lv_tableIn (tgt := 325) (off := 273) hx hb dL_law_52 (by rw [c_5]; decide) (by rw [c_5]; decide) (by rw [c_5]; rfl) (by decide) ?_
        exact lw_refuse E h5 hK5 hR hP hD hS hl nx
      by_cases c_6 : z = 6
      · refine lv_tableIn (tgt := 358) (off := 306) hx hb dL_law_52 (by rw [c_6]; decide) (by rw [c_6]; decide) (by rw [c_6]; rfl) (by decide) ?_
        exact lw_arrive E h5 hK5 hR hP hD hS hl nx
      by_cases c_7 : z = 7
      · refine lv_tableIn (tgt := 381) (off := 329) hx hb dL_law_52 (by rw [c_7]; decide) (by rw [c_7]; decide) (by rw [c_7]; rfl) (by decide) ?_
        exact lw_lose E h5 hK5 hR hP hD hS hl nx
      by_cases c_8 : z = 8
      · refine lv_tableIn (tgt := 414) (off := 362) hx hb dL_law_52 (by rw [c_8]; decide) (by rw [c_8]; decide) (by rw [c_8]; rfl) (by decide) ?_
        exact lw_twice E h5 hK5 hR hP hD hS hl nx
      by_cases c_9 : z = 9
      · refine lv_tableIn (tgt := 447) (off := 395) hx hb dL_law_52 (by rw [c_9]; decide) (by rw [c_9]; decide) (by rw [c_9]; rfl) (by decide) ?_
        exact lw_under E h5 hK5 hR hP hD hS hl nx
      by_cases c_10 : z = 10
      · refine lv_tableIn (tgt := 480) (off := 428) hx hb dL_law_52 (by rw [c_10]; decide) (by rw [c_10]; decide) (by rw [c_10]; rfl) (by decide) ?_
        exact lw_out E h5 hK5 hR hP hD hS hl nx
      by_cases c_11 : z = 11
      · refine lv_tableIn (tgt := 513) (off := 461) hx hb dL_law_52 (by rw [c_11]; decide) (by rw [c_11]; decide) (by rw [c_11]; rfl) (by decide) ?_
        exact lw_value E h5 hK5 hR hP hD hS hl nx
      by_cases c_12 : z = 12
      · refine lv_tableIn (tgt := 537) (off := 485) hx hb dL_law_52 (by rw [c_12]; decide) (by rw [c_12]; decide) (by rw [c_12]; rfl) (by decide) ?_
        exact lw_item E h5 hK5 hR hP hD hS hl nx
      by_cases c_13 : z = 13
      · refine lv_tableIn (tgt := 570) (off := 518) hx hb dL_law_52 (by rw [c_13]; decide) (by rw [c_13]; decide) (by rw [c_13]; rfl) (by decide) ?_
        exact lw_count E h5 hK5 hR hP hD hS hl nx
      by_cases c_14 : z = 14
      · refine lv_tableIn (tgt := 623) (off := 571) hx hb dL_law_52 (by rw [c_14]; decide) (by rw [c_14]; decide) (by rw [c_14]; rfl) (by decide) ?_
        exact lw_kept E h5 hK5 hR hP hD hS hl nx
      by_cases c_15 : z = 15
      · refine lv_tableIn (tgt := 676) (off := 624) hx hb dL_law_52 (by rw [c_15]; decide) (by rw [c_15]; decide) (by rw [c_15]; rfl) (by decide) ?_
        exact lw_save E h5 hK5 hR hP hD hS hl nx
      by_cases c_16 : z = 16
      · refine lv_tableIn (tgt := 689) (off := 637) hx hb dL_law_52 (by rw [c_16]; decide) (by rw [c_16]; decide) (by rw [c_16]; rfl) (by decide) ?_
        exact lw_restart E h5 hK5 hR hP hD hS hl nx
      by_cases c_17 : z = 17
      · refine lv_tableIn (tgt := 702) (off := 650) hx hb dL_law_52 (by rw [c_17]; decide) (by rw [c_17]; decide) (by rw [c_17]; rfl) (by decide) ?_
        exact lw_told E h5 hK5 hR hP hD hS hl nx
      refine lv_tableOut (tgt := 725) hx hb dL_law_52 (by have := lv_neT (a := 0) c_0 (by decide); have := lv_neT (a := 1) c_1 (by decide); have := lv_neT (a := 2) c_2 (by decide); have := lv_neT (a := 3) c_3 (by decide); have := lv_neT (a := 4) c_4 (by decide); have := lv_neT (a := 5) c_5 (by decide); have := lv_neT (a := 6) c_6 (by decide); have := lv_neT (a := 7) c_7 (by decide); have := lv_neT (a := 8) c_8 (by decide); have := lv_neT (a := 9) c_9 (by decide); have := lv_neT (a := 10) c_10 (by decide); have := lv_neT (a := 11) c_11 (by decide); have := lv_neT (a := 12) c_12 (by decide); have := lv_neT (a := 13) c_13 (by decide); have := lv_neT (a := 14) c_14 (by decide); have := lv_neT (a := 15) c_15 (by decide); have := lv_neT (a := 16) c_16 (by decide); have := lv_neT (a := 17) c_17 (by decide); omega) (by decide) ?_
      exact nx σ τ H locs (Rel_K hR) hP hD hS
