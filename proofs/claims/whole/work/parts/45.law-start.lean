/-! the law's start -/
section LWS
variable {p : Program} {l : Launch} {e : Env} {R : Room} {s : State} {m : MethodId} {args : Array Value} {below : List Frame} {meth : Method} {c : Code} {H : Heap} {locs : List Loc} {Q : State → Prop}
variable {cc bytes : ByteArray} {nL pc maxL index mc ms : Nat} {own : String} {rt ret : Option FieldType} {D : va_G} {kt : List (ClassId × FieldType)} {A : Nat → Prop} {W' : va_W} {ls : Array Slot} {y : MethodName} {rm : Room} {X : State → Prop} {As rest st0 : List Value}
/-- a static call that reaches nothing of the world -/
theorem cs_i {r0 : Int32} (C0 : cx p s m args meth c cc nL own rt) (hM : Met l y (wS y bytes maxL ret) rm (pC D kt X [] H.size As) (qI D kt [] (va_A [] H.size) r0) 0 0 (va_A [] H.size)) (hG : GoodIn wsL_law (va_wsS own index y (wS y bytes maxL ret))) (hd : y.cls ≠ "java/lang/invoke/MethodHandle" ∧ y.cls ≠ "java/lang/invoke/VarHandle" ∧ (parseMethodDescriptor y.desc).map (fun d => d.parameters.length) = some As.length) (hR : rm.cells = 0 ∧ rm.slots = 0 ∧ rm.frames + 1 ≤ R.frames ∧ 8 + (maxL + 11) + rm.locals ≤ R.locals ∧ mc ≤ R.cells ∧ ms ≤ R.slots)
    (hXb : ∀ (a : Array Value) (U : State) (g : JFrame) (mk : MethodId), X U → X (U.calling g mk a)) (hXw : ∀ U : State, U.heap = H → s.WarmedH U.vm → X U) (hK : va_K D vwCl kt s) (hP : va_P D vwCl W' H) (hD : va_D A W') (hS : va_S A s.heap H locs) (hA : ∀ q : Nat, s.heap.size ≤ q → A q)
    (hsz : ls.size = nL) (hst : st0 = As.reverse ++ rest) (hW : (rest.map fun v => v.category).sum ≤ 8) (hdg : decode cc pc = .ok (.invokestatic index, 3))
    (kk : ∀ (H1 : Heap) (locs1 : List Loc), va_P D vwCl W' H1 → va_D A W' → va_S A s.heap H1 locs1 → W p l e R s m args below meth c H1 locs1 mc ms Q (F0 m (pc + 3) ls (.int r0 :: rest))) : W p l e R s m args below meth c H locs mc ms Q (F0 m pc ls st0) := by
  obtain ⟨hx, hb, hml, hown, hT, hr, hlocks⟩ := id C0
  have hC : (W'.drop 0).take 0 = ([] : va_W) := rfl
  have hF := cv_free hD hS hA hC
  have hP0 : va_P D vwCl [] H := fun j q h => by simp at h
  have hD0 : va_D (fun _ => True) [] := ⟨fun i j p q h => by simp at h, fun k q h => by simp at h⟩
  refine va_calli (va_runS (As := As) (rest := rest) ⟨hx, hb, hml, hown, hT⟩ hM (va_cwS As.length hT hG rfl hR.1 hR.2.1 hd ⟨hR.2.2.1, hR.2.2.2.1⟩) ⟨fun a U g mk q => by obtain ⟨q0, q1, qP, qK, qD, qX⟩ := q; exact ⟨q0, q1, qP, va_K.moved (u := U) (U := U.calling g mk a) (Vm.Alike.refl U.vm) qK, qD, hXb a U g mk qX⟩, fun U hU hW => ⟨rfl, by rw [hU], by rw [hU]; exact hP0, va_K.moved hW.alike hK, hD0, hXw U hU hW⟩⟩ rfl rfl hsz hst (lv_room hW) hdg ⟨hR.2.2.2.2.1, hR.2.2.2.2.2⟩) hS (fun q _ h => hF q h) hF (fun r u t H1 locs ht hvm hw hB hz1 hk1 hS => ?_)
  obtain ⟨hP1, hK1, hD1⟩ := hB
  rw [ht] at hP1
  obtain ⟨h1, h2⟩ := sg hP hD hC hk1 hF hP1 hD1
  have hN : W'.take 0 ++ (([] : va_W) ++ W'.drop (0 + 0)) = W' := by simp
  rw [hN] at h1 h2
  subst hw
  exact kk H1 _ h1 h2 hS
end LWS
theorem yd_L_cell : yL_cell.cls ≠ "java/lang/invoke/MethodHandle" ∧ yL_cell.cls ≠ "java/lang/invoke/VarHandle" ∧ (parseMethodDescriptor yL_cell.desc).map (fun d => d.parameters.length) = some 2 := by decide +kernel
theorem yd_L_init7 : yX7_init.cls ≠ "java/lang/invoke/MethodHandle" ∧ yX7_init.cls ≠ "java/lang/invoke/VarHandle" ∧ (parseMethodDescriptor yX7_init.desc).map (fun d => d.parameters.length) = some 2 := by decide +kernel
theorem yd_L_init8 : yX8_init.cls ≠ "java/lang/invoke/MethodHandle" ∧ yX8_init.cls ≠ "java/lang/invoke/VarHandle" ∧ (parseMethodDescriptor yX8_init.desc).map (fun d => d.parameters.length) = some 2 := by decide +kernel
theorem wS_s {own : String} {idx n : Nat} {y : MethodName} {c : ByteArray} {r : Option FieldType} (h1 : Cond.methodLink own idx y ∈ wsL_law) (h2 : Cond.static y ∈ wsL_law) (h3 : Cond.initialized y.cls ∈ wsL_law) (h4 : Cond.code y c n r ∈ wsL_law) : GoodIn wsL_law (va_wsS own idx y (wS y c n r)) := wL_in fun w hw => by
  unfold va_wsS at hw
  rcases List.mem_append.mp hw with e | e
  · simp only [List.mem_cons, List.not_mem_nil, or_false] at e
    rcases e with e | e | e <;> rw [e] <;> assumption
  · exact (wS_good h4 w e).1
theorem xI_of {s : State} {t0 : Nat} {cI : ClassId} {A B : Nat → Prop} {H : Heap} {locs : List Loc} (h : xI t0 cI A s) (hS : va_S A s.heap H locs) (hAB : ∀ q, B q → A q) : ∀ U : State, U.heap = H → s.WarmedH U.vm → xI t0 cI B U := by
  intro U hU hW
  obtain ⟨h1, h2, h3⟩ := h
  refine ⟨xN_w hW h1, ?_, ?_⟩
  · rw [hU]; exact (va_Z.moved hW.alike (h2.kept (fun a e1 e2 => hS.2.1 a e1 e2))).narrow hAB
  · rw [hU]; exact clT_narrow (clT_kept h3 (fun a e1 e2 => hS.2.1 a e1 e2)) hAB
/-- the length's value says the size exactly -/
theorem len_exact {args : Array Value} {s : State} {tm : Term} {n : Nat} (hn : n < 2 ^ 31) (h : (Term.length tm).eval args s none [] s = some (.int (Int32.ofNat n))) : ∃ (t : Addr) (cell : Cell), tm.eval args s none [] s = some (.ref t) ∧ s.arrayAt? t = some cell ∧ cell.slots.size = n := by
  obtain ⟨t, cell, ht, hat, hv⟩ := Term.length_spec h
  refine ⟨t, cell, ht, hat, ?_⟩
  by_cases hz : cell.slots.size < 2 ^ 31
  · have e : Int32.ofNat cell.slots.size = Int32.ofNat n := (Value.int.inj hv).symm
    exact (nI_eq hz hn).mp e
  · simp [Term.eval, ht, hat, hz] at h
/-- OPEN: the premise that the statement hasn't: the static's array is of the class found under the name of its type -/
def exact_first (args : Array Value) (s : State) : Prop := ∀ (t : Addr) (cell : Cell), (Term.static "OutsideAsks" "FIRST_SETTINGS" "[I").eval args s none [] s = some (.ref t) → s.heap[t]? = some cell → s.vm.findClass "[I" = some cell.cls
set_option maxHeartbeats 4000000 in
set_option maxRecDepth 100000 in
theorem first_ok {s : State} {b : Nat} {cI : ClassId} (hs : ∀ c ∈ flatC (Jvm.Cond.and given_1 narrow_1), c.before #[Value.ref b] s = true) (hnm : s.vm.findClass "[I" = some cI) (hO : exact_first #[Value.ref b] s) : ∃ t0 : Nat, (Term.static "OutsideAsks" "FIRST_SETTINGS" "[I").eval #[Value.ref b] s none [] s = some (.ref t0) ∧ clT t0 cI 8 set0 (fun q : Nat => s.heap.size ≤ q) s.heap := by
  obtain ⟨t, cell, ht, hat, hsz⟩ := len_exact (n := 8) (by decide) (va_eqt (z := 8) (hs (Cond.eq (Term.length (Term.static "OutsideAsks" "FIRST_SETTINGS" "[I")) (.int 8)) (by decide +kernel)))
  obtain ⟨hcell, hkn, hst, -⟩ := State.arrayAt?_spec hat
  have hcls : cell.cls = cI := Option.some.inj ((hO t cell ht hcell).symm.trans hnm)
  have hel : ∀ j : Nat, j < 8 → (Term.elem (Term.static "OutsideAsks" "FIRST_SETTINGS" "[I") (.int (Int32.ofNat j))).eval #[Value.ref b] s none [] s = some (.int (set0 j)) := by
    intro j hj
    rcases (show j = 0 ∨ j = 1 ∨ j = 2 ∨ j = 3 ∨ j = 4 ∨ j = 5 ∨ j = 6 ∨ j = 7 by omega) with rfl | rfl | rfl | rfl | rfl | rfl | rfl | rfl
    · exact va_eqt (z := 10) (hs (Cond.eq (Term.elem (Term.static "OutsideAsks" "FIRST_SETTINGS" "[I") (.int 0)) (.int 10)) (by decide +kernel))
    · exact va_eqt (z := 2) (hs (Cond.eq (Term.elem (Term.static "OutsideAsks" "FIRST_SETTINGS" "[I") (.int 1)) (.int 2)) (by decide +kernel))
    · exact va_eqt (z := 20) (hs (Cond.eq (Term.elem (Term.static "OutsideAsks" "FIRST_SETTINGS" "[I") (.int 2)) (.int 20)) (by decide +kernel))
    · exact va_eqt (z := 0) (hs (Cond.eq (Term.elem (Term.static "OutsideAsks" "FIRST_SETTINGS" "[I") (.int 3)) (.int 0)) (by decide +kernel))
    · exact va_eqt (z := 0) (hs (Cond.eq (Term.elem (Term.static "OutsideAsks" "FIRST_SETTINGS" "[I") (.int 4)) (.int 0)) (by decide +kernel))
    · exact va_eqt (z := 0) (hs (Cond.eq (Term.elem (Term.static "OutsideAsks" "FIRST_SETTINGS" "[I") (.int 5)) (.int 0)) (by decide +kernel))
    · exact va_eqt (z := 0) (hs (Cond.eq (Term.elem (Term.static "OutsideAsks" "FIRST_SETTINGS" "[I") (.int 6)) (.int 0)) (by decide +kernel))
    · exact va_eqt (z := 1) (hs (Cond.eq (Term.elem (Term.static "OutsideAsks" "FIRST_SETTINGS" "[I") (.int 7)) (.int 1)) (by decide +kernel))
  refine ⟨t, ht, cell, hcell, hcls, ?_, (fun k hk => by rw [hk] at hst; cases hst), hkn, Nat.not_le.mpr (Array.getElem?_eq_some_iff.mp hcell).1⟩
  refine Array.ext_getElem? (fun j => ?_)
  by_cases hj : j < 8
  · obtain ⟨a, i, cell2, h1, h2, h3, h4, h5⟩ := Term.elem_spec (hel j hj)
    cases ht.symm.trans h1
    cases hat.symm.trans h3
    have hi : i = Int32.ofNat j := by
      have e : (Term.int (Int32.ofNat j)).eval #[Value.ref b] s none [] s = some (.int (Int32.ofNat j)) := rfl
      cases h2.symm.trans e
      rfl
    have hc : i.toNatClampNeg = j := by rw [hi]; exact Int32.toNatClampNeg_ofNat_of_lt (by omega)
    rw [hc] at h5
    rw [h5]
    exact (arrV_read cI (fun j => Value.int (set0 j)) hj).symm
  · rw [Array.getElem?_eq_none (by omega), Array.getElem?_eq_none (by rw [show (vp_cell cI (8, .inl set0)).slots.size = 8 from arrV_size _ _ _]; omega)]
set_option maxHeartbeats 4000000 in
set_option maxRecDepth 100000 in
theorem tab_LEAST {s : State} {b : Nat} (hs : ∀ c ∈ flatC (Jvm.Cond.and given_1 narrow_1), c.before #[Value.ref b] s = true) : ∃ t : Nat, (Term.static "OutsideAsks" "LEAST_SETTINGS" "[I").eval #[Value.ref b] s none [] s = some (.ref t) ∧ va_T .int t 8 (fun j => .int (set_lo j)) (fun q : Nat => s.heap.size ≤ q) s s.heap := by
  refine va_Tof (by decide) (hs (Cond.arrayOf (Term.static "OutsideAsks" "LEAST_SETTINGS" "[I") .int) (by decide +kernel)) (va_eqt (z := 8) (hs (Cond.eq (Term.length (Term.static "OutsideAsks" "LEAST_SETTINGS" "[I")) (.int 8)) (by decide +kernel))) ?_ (fun a ha => Nat.not_le.mpr ha)
  intro j hj
  rcases (show j = 0 ∨ j = 1 ∨ j = 2 ∨ j = 3 ∨ j = 4 ∨ j = 5 ∨ j = 6 ∨ j = 7 by omega) with rfl | rfl | rfl | rfl | rfl | rfl | rfl | rfl
  · exact va_eqt (z := 1) (hs (Cond.eq (Term.elem (Term.static "OutsideAsks" "LEAST_SETTINGS" "[I") (.int 0)) (.int 1)) (by decide +kernel))
  · exact va_eqt (z := 1) (hs (Cond.eq (Term.elem (Term.static "OutsideAsks" "LEAST_SETTINGS" "[I") (.int 1)) (.int 1)) (by decide +kernel))
  · exact va_eqt (z := 1) (hs (Cond.eq (Term.elem (Term.static "OutsideAsks" "LEAST_SETTINGS" "[I") (.int 2)) (.int 1)) (by decide +kernel))
  · exact va_eqt (z := 0) (hs (Cond.eq (Term.elem (Term.static "OutsideAsks" "LEAST_SETTINGS" "[I") (.int 3)) (.int 0)) (by decide +kernel))
  · exact va_eqt (z := 0) (hs (Cond.eq (Term.elem (Term.static "OutsideAsks" "LEAST_SETTINGS" "[I") (.int 4)) (.int 0)) (by decide +kernel))
  · exact va_eqt (z := 0) (hs (Cond.eq (Term.elem (Term.static "OutsideAsks" "LEAST_SETTINGS" "[I") (.int 5)) (.int 0)) (by decide +kernel))
  · exact va_eqt (z := 0) (hs (Cond.eq (Term.elem (Term.static "OutsideAsks" "LEAST_SETTINGS" "[I") (.int 6)) (.int 0)) (by decide +kernel))
  · exact va_eqt (z := 0) (hs (Cond.eq (Term.elem (Term.static "OutsideAsks" "LEAST_SETTINGS" "[I") (.int 7)) (.int 0)) (by decide +kernel))
set_option maxHeartbeats 4000000 in
set_option maxRecDepth 100000 in
theorem tab_GREATEST {s : State} {b : Nat} (hs : ∀ c ∈ flatC (Jvm.Cond.and given_1 narrow_1), c.before #[Value.ref b] s = true) : ∃ t : Nat, (Term.static "OutsideAsks" "GREATEST_SETTINGS" "[I").eval #[Value.ref b] s none [] s = some (.ref t) ∧ va_T .int t 8 (fun j => .int (set_hi j)) (fun q : Nat => s.heap.size ≤ q) s s.heap := by
  refine va_Tof (by decide) (hs (Cond.arrayOf (Term.static "OutsideAsks" "GREATEST_SETTINGS" "[I") .int) (by decide +kernel)) (va_eqt (z := 8) (hs (Cond.eq (Term.length (Term.static "OutsideAsks" "GREATEST_SETTINGS" "[I")) (.int 8)) (by decide +kernel))) ?_ (fun a ha => Nat.not_le.mpr ha)
  intro j hj
  rcases (show j = 0 ∨ j = 1 ∨ j = 2 ∨ j = 3 ∨ j = 4 ∨ j = 5 ∨ j = 6 ∨ j = 7 by omega) with rfl | rfl | rfl | rfl | rfl | rfl | rfl | rfl
  · exact va_eqt (z := 100) (hs (Cond.eq (Term.elem (Term.static "OutsideAsks" "GREATEST_SETTINGS" "[I") (.int 0)) (.int 100)) (by decide +kernel))
  · exact va_eqt (z := 5) (hs (Cond.eq (Term.elem (Term.static "OutsideAsks" "GREATEST_SETTINGS" "[I") (.int 1)) (.int 5)) (by decide +kernel))
  · exact va_eqt (z := 20) (hs (Cond.eq (Term.elem (Term.static "OutsideAsks" "GREATEST_SETTINGS" "[I") (.int 2)) (.int 20)) (by decide +kernel))
  · exact va_eqt (z := 100) (hs (Cond.eq (Term.elem (Term.static "OutsideAsks" "GREATEST_SETTINGS" "[I") (.int 3)) (.int 100)) (by decide +kernel))
  · exact va_eqt (z := 2) (hs (Cond.eq (Term.elem (Term.static "OutsideAsks" "GREATEST_SETTINGS" "[I") (.int 4)) (.int 2)) (by decide +kernel))
  · exact va_eqt (z := 2) (hs (Cond.eq (Term.elem (Term.static "OutsideAsks" "GREATEST_SETTINGS" "[I") (.int 5)) (.int 2)) (by decide +kernel))
  · exact va_eqt (z := 2) (hs (Cond.eq (Term.elem (Term.static "OutsideAsks" "GREATEST_SETTINGS" "[I") (.int 6)) (.int 2)) (by decide +kernel))
  · exact va_eqt (z := 1) (hs (Cond.eq (Term.elem (Term.static "OutsideAsks" "GREATEST_SETTINGS" "[I") (.int 7)) (.int 1)) (by decide +kernel))
set_option maxHeartbeats 4000000 in
set_option maxRecDepth 100000 in
/-- THE LAW, from its entry (open) -/
theorem whole_start_open {p : Program} {e : Env} {s : State} {m : MethodId} {below : List Frame} {meth : Method} {c : Code} (l : Launch) {b L : Nat} {xs : Nat → Int32} (hL : L ≤ 2562) (C0 : lw_At p s m meth c b L xs) (hO : exact_first #[Value.ref b] s) : W p l e room_1 s m #[Value.ref b] below meth c s.heap [] 0 0 (lw_Z below #[Value.ref b] s) (entryFrame m ([Value.ref b] : List Value).toArray 4) := by
  obtain ⟨hx, hb, hr, hml, hown, hts, hX, hbl, hlocks, hgv⟩ := id C0
  have hT : ∀ w ∈ wsL_law, w.before #[Value.ref b] s = true := fun w h => hts w (law_in w h)
  have C1 : cx p s m #[Value.ref b] meth c cL_law 4 RL ret := ⟨hx, hb, hml, hown, hT, hr, hlocks⟩
  have hs := flat_of_before _ hgv
  have hA : ∀ q : Nat, s.heap.size ≤ q → (fun q : Nat => s.heap.size ≤ q) q := fun _ h => h
  obtain ⟨c0, iS0, hKn0⟩ := u_known (C := RX0) (T := TX0) (N := 4) (n := 4) hts tF_X0 (hT _ wm_2_2)
  obtain ⟨c1, iS1, hKn1⟩ := u_known (C := RX1) (T := TX1) (N := 4) (n := 4) hts tF_X1 (hT _ wm_3_6)
  obtain ⟨c2, iS2, hKn2⟩ := u_known (C := RX2) (T := TX2) (N := 4) (n := 4) hts tF_X2 (hT _ wm_2_21)
  obtain ⟨c3, iS3, hKn3⟩ := u_known (C := RX3) (T := TX3) (N := 2) (n := 2) hts tF_X3 (hT _ wm_2_11)
  obtain ⟨c4, iS4, hKn4⟩ := u_known (C := RX4) (T := TX4) (N := 8) (n := 8) hts tF_X4 (hT _ wm_2_6)
  obtain ⟨c5, iS5, hKn5⟩ := u_known (C := RX5) (T := TX5) (N := 2) (n := 2) hts tF_X5 (hT _ wm_2_15)
  obtain ⟨c6, iS6, hKn6⟩ := u_known (C := RX6) (T := TX6) (N := 3) (n := 3) hts tF_X6 (hT _ wm_3_2)
  obtain ⟨c7, iS7, hKn7⟩ := u_known (C := RX7) (T := TX7) (N := 18) (n := 18) hts tF_X7 (hT _ wm_1_1)
  obtain ⟨c8, iS8, hKn8⟩ := u_known (C := RX8) (T := TX8) (N := 38) (n := 38) hts tF_X8 (hT _ wm_1_4)
  obtain ⟨dC, dI, hKc⟩ : ∃ (dC : Nat → ClassId) (dI : Nat → Nat → Nat), ∀ (k : Nat) (q : vw_C), vwCl[k]? = some q → u_Kn s q.1 q.2.1 q.2.2 (dC k) (dI k) := by
    refine ⟨fun k => if k = 0 then c0 else if k = 1 then c1 else if k = 2 then c2 else if k = 3 then c3 else if k = 4 then c4 else if k = 5 then c5 else if k = 6 then c6 else if k = 7 then c7 else c8, fun k => if k = 0 then iS0 else if k = 1 then iS1 else if k = 2 then iS2 else if k = 3 then iS3 else if k = 4 then iS4 else if k = 5 then iS5 else if k = 6 then iS6 else if k = 7 then iS7 else iS8, ?_⟩
    intro k q hq
    match k, hq with
    | 0, hq => cases hq; exact hKn0
    | 1, hq => cases hq; exact hKn1
    | 2, hq => cases hq; exact hKn2
    | 3, hq => cases hq; exact hKn3
    | 4, hq => cases hq; exact hKn4
    | 5, hq => cases hq; exact hKn5
    | 6, hq => cases hq; exact hKn6
    | 7, hq => cases hq; exact hKn7
    | 8, hq => cases hq; exact hKn8
    | k + 9, hq => simp [vwCl] at hq
  obtain ⟨cI, kI, compI, fI, gI, hI⟩ := Cond.arrayClass_spec (hT _ wm_4_6)
  obtain ⟨cJ, kJ, compJ, fJ, gJ, hJ⟩ := Cond.arrayClass_spec (hT _ wm_4_1)
  obtain ⟨cZ, kZ, compZ, fZ, gZ, hZ⟩ := Cond.arrayClass_spec (hT _ wm_4_4)
  have hK : va_K (dC, dI) vwCl (kT cI cJ cZ) s := ⟨hKc, fun k q h => by
    match k, h with
    | 0, h => cases h; exact ⟨fun n z => ⟨fun k h => (by cases h), kI, gI, compI, hI⟩, fI⟩
    | 1, h => cases h; exact ⟨fun n z => ⟨fun k h => (by cases h), kJ, gJ, compJ, hJ⟩, fJ⟩
    | 2, h => cases h; exact ⟨fun n z => ⟨fun k h => (by cases h), kZ, gZ, compZ, hZ⟩, fZ⟩
    | k + 3, h => simp at h⟩
  obtain ⟨t0, ht0, hc0⟩ := first_ok hs (va_nm_int (hK.2 0 (cI, .int) rfl).2) hO
  obtain ⟨t1, ht1, hc1⟩ := tab_LEAST hs
  obtain ⟨t2, ht2, hc2⟩ := tab_GREATEST hs
  have hlt : ∀ a : Nat, a < s.heap.size → ¬ (fun q : Nat => s.heap.size ≤ q) a := fun a ha => Nat.not_le.mpr ha
  have hXI : xI t0 cI (fun q : Nat => s.heap.size ≤ q) s := ⟨⟨va_Nw.of rfl (hts _ nm_23), va_Nw.of rfl (hts _ nm_30), va_Nw.of rfl (hts _ nm_40), va_Nw.of rfl (hts _ nm_47), va_Nw.of rfl (hts _ nm_60), va_Nw.of rfl (hts _ nm_70), va_Nw.of rfl (hts _ nm_77), va_Nw.of rfl (hts _ nl_3)⟩, va_Zref (hts _ nl_0) (hT _ wm_1_2) ht0 hlt, hc0⟩
  have hXS : xS t1 t2 (fun q : Nat => s.heap.size ≤ q) s := ⟨⟨va_Nw.of rfl (hts _ nf_120), va_Nw.of rfl (hts _ nf_192), va_Nw.of rfl (hts _ nf_228), va_Nw.of rfl (hts _ nf_232), va_Nw.of rfl (hts _ nf_189), va_Nw.of rfl (hts _ nf_231), va_Nw.of rfl (hts _ nf_244)⟩, va_Zref (hts _ nl_1) (hT _ wm_1_2) ht1 hlt, hc1, va_Zref (hts _ nl_2) (hT _ wm_1_2) ht2 hlt, hc2⟩
  have E : lX p s m meth c b L xs dC dI cI cJ cZ t1 t2 := ⟨C1, hK, hXS, hX, hbl, hL⟩
  have hS : va_S (fun q : Nat => s.heap.size ≤ q) s.heap s.heap [] := va_S.rf
  have hP : va_P (dC, dI) vwCl [] s.heap := fun k q h => by simp at h
  have hD : va_D (fun q : Nat => s.heap.size ≤ q) [] := ⟨fun i j p q h => by simp at h, fun k q h => by simp at h⟩
  have hl := lv_entry ([.ref b]) (n := 4) (Nat.le_of_ble_eq_true rfl)
  rw [lg_entry_eq]
  generalize (lg_sl ([.ref b]) ++ List.replicate (4 - (lg_sl ([.ref b])).length) Slot.unset).toArray = ls at hl ⊢
  have hl : lv_has ls 4 [(0, .ref b)] := hl
  refine va_new (ci := 7) (fs := [.int 0, .int 0, .null, .null, .null, .null, .null, .null, .null, .null, .null, .null, .null, .null, .int 0, .int 0, .int 0, .int 0]) (C := RX7) (T := TX7) (N := 18) hx hb hT inlX7 tyX7 tyX7_ok hown (hT _ wm_1_0) (hT _ wm_1_1) (hT _ wm_1_2) hK hP hD hS hA rfl (fun j hj => by rcases (show j = 0 ∨ j = 1 ∨ j = 2 ∨ j = 3 ∨ j = 4 ∨ j = 5 ∨ j = 6 ∨ j = 7 ∨ j = 8 ∨ j = 9 ∨ j = 10 ∨ j = 11 ∨ j = 12 ∨ j = 13 ∨ j = 14 ∨ j = 15 ∨ j = 16 ∨ j = 17 by omega) with rfl | rfl | rfl | rfl | rfl | rfl | rfl | rfl | rfl | rfl | rfl | rfl | rfl | rfl | rfl | rfl | rfl | rfl <;> rfl) (Nat.le_of_ble_eq_true rfl) (Nat.le_of_ble_eq_true rfl) dL_law_0 (fun qX7 H hP hD hS => ?_)
  refine W.widen (k := 1) (n := 18) (by decide) (by decide) ?_
  refine lv_dup hx hb dL_law_3 rfl ?_
  refine lv_aload_n hx hb dL_law_4 rfl (lv_at hl 0 rfl) ?_
  refine lv_iconst (v := 0) hx hb dL_law_5 (by decide) ?_
  refine cs_i (As := [.ref b, .int (nI 0)]) (rest := [.ref qX7, .ref qX7]) C1 (mL_cell l dC dI cI cJ cZ b L xs hL 0 (by decide) H.size) (wS_s wm_1_7 wm_1_8 wm_1_9 wm_1_10) yd_L_cell ⟨rfl, rfl, Nat.le_of_ble_eq_true rfl, Nat.le_of_ble_eq_true rfl, Nat.le_of_ble_eq_true rfl, Nat.le_of_ble_eq_true rfl⟩ (fun a U g mk h => va_X.moved (u := U) (U := U.calling g mk a) (Vm.Alike.refl U.vm) h) (fun U hU hW => by rw [hU]; exact va_X.moved hW.alike (hX.kept (hS.2.1 b hbl (hlt b hbl)))) hK hP hD hS hA hl.1 rfl (Nat.le_of_ble_eq_true rfl) dL_law_6 (fun H locs hP hD hS => ?_)
  refine lv_aload_n hx hb dL_law_9 rfl (lv_at hl 0 rfl) ?_
  refine lv_iconst (v := 1) hx hb dL_law_10 (by decide) ?_
  refine cs_i (As := [.ref b, .int (nI 1)]) (rest := [.int (if 0 < L then xs 0 else 0), .ref qX7, .ref qX7]) C1 (mL_cell l dC dI cI cJ cZ b L xs hL 1 (by decide) H.size) (wS_s wm_1_7 wm_1_8 wm_1_9 wm_1_10) yd_L_cell ⟨rfl, rfl, Nat.le_of_ble_eq_true rfl, Nat.le_of_ble_eq_true rfl, Nat.le_of_ble_eq_true rfl, Nat.le_of_ble_eq_true rfl⟩ (fun a U g mk h => va_X.moved (u := U) (U := U.calling g mk a) (Vm.Alike.refl U.vm) h) (fun U hU hW => by rw [hU]; exact va_X.moved hW.alike (hX.kept (hS.2.1 b hbl (hlt b hbl)))) hK hP hD hS hA hl.1 rfl (Nat.le_of_ble_eq_true rfl) dL_law_11 (fun H locs hP hD hS => ?_)
  refine cn_v (W' := []) (cp_run (W' := []) (As := [.int (if 0 < L then xs 0 else 0), .int (if 1 < L then xs 1 else 0)]) (rest := [.ref qX7]) C1 (mX7_init l dC dI cI cJ cZ qX7 (if 0 < L then xs 0 else 0) (if 1 < L then xs 1 else 0) t0 H.size) (wS_good wm_1_13) wm_1_11 wm_1_2 wm_1_12 rfl yd_L_init7 ⟨rfl, rfl, Nat.le_of_ble_eq_true rfl, Nat.le_of_ble_eq_true rfl, Nat.le_of_ble_eq_true rfl, Nat.le_of_ble_eq_true rfl⟩ xI_b (xI_of hXI hS (cv_free (W0 := [(qX7, .inr (7, [.int 0, .int 0, .null, .null, .null, .null, .null, .null, .null, .null, .null, .null, .null, .null, .int 0, .int 0, .int 0, .int 0]))]) hD hS hA last1)) hK hP hl.1 rfl (Nat.le_of_ble_eq_true rfl) dL_law_14) hP hD hS hA (fun ad H locs hE hP2 hD2 hS => ?_)
  subst hE
  have hP := hP2
  have hD := hD2
  have hP : va_P (dC, dI) vwCl (vX7 cI cJ cZ ad (st0 (mC (if 0 < L then xs 0 else 0)) (oC (if 1 < L then xs 1 else 0)))) H := hP
  have hD : va_D (fun q : Nat => s.heap.size ≤ q) (vX7 cI cJ cZ ad (st0 (mC (if 0 < L then xs 0 else 0)) (oC (if 1 < L then xs 1 else 0)))) := hD
  refine W.widen (k := 42) (n := 5841) (by decide) (by decide) ?_
  refine lv_astore_n (lv' := [(1, .ref (ad 0)), (0, .ref b)]) hx hb dL_law_17 rfl hl (by decide) rfl (fun ls hl => ?_)
  refine va_new (ci := 8) (fs := [.int 0, .int 0, .int 0, .null, .int 0, .null, .null, .null, .null, .null, .null, .null, .null, .null, .int 0, .int 0, .int 0, .null, .null, .int 0, .null, .null, .null, .null, .null, .null, .null, .null, .null, .null, .int 0, .int 0, .int 0, .null, .null, .null, .null, .int 0]) (C := RX8) (T := TX8) (N := 38) hx hb hT inlX8 tyX8 tyX8_ok hown (hT _ wm_1_3) (hT _ wm_1_4) (hT _ wm_1_5) hK hP hD hS hA rfl (fun j hj => by rcases (show j = 0 ∨ j = 1 ∨ j = 2 ∨ j = 3 ∨ j = 4 ∨ j = 5 ∨ j = 6 ∨ j = 7 ∨ j = 8 ∨ j = 9 ∨ j = 10 ∨ j = 11 ∨ j = 12 ∨ j = 13 ∨ j = 14 ∨ j = 15 ∨ j = 16 ∨ j = 17 ∨ j = 18 ∨ j = 19 ∨ j = 20 ∨ j = 21 ∨ j = 22 ∨ j = 23 ∨ j = 24 ∨ j = 25 ∨ j = 26 ∨ j = 27 ∨ j = 28 ∨ j = 29 ∨ j = 30 ∨ j = 31 ∨ j = 32 ∨ j = 33 ∨ j = 34 ∨ j = 35 ∨ j = 36 ∨ j = 37 by omega) with rfl | rfl | rfl | rfl | rfl | rfl | rfl | rfl | rfl | rfl | rfl | rfl | rfl | rfl | rfl | rfl | rfl | rfl | rfl | rfl | rfl | rfl | rfl | rfl | rfl | rfl | rfl | rfl | rfl | rfl | rfl | rfl | rfl | rfl | rfl | rfl | rfl | rfl <;> rfl) (Nat.le_of_ble_eq_true rfl) (Nat.le_of_ble_eq_true rfl) dL_law_18 (fun qX8 H hP hD hS => ?_)
  refine W.widen (k := 43) (n := 5879) (by decide) (by decide) ?_
  refine lv_dup hx hb dL_law_21 rfl ?_
  refine lv_aload_n hx hb dL_law_22 rfl (lv_at hl 1 rfl) ?_
  refine lv_iconst (v := 0) hx hb dL_law_23 (by decide) ?_
  refine cs_i (As := [.ref b, .int (nI 0)]) (rest := [.ref qX8, .ref qX8]) C1 (mL_cell l dC dI cI cJ cZ b L xs hL 0 (by decide) H.size) (wS_s wm_1_7 wm_1_8 wm_1_9 wm_1_10) yd_L_cell ⟨rfl, rfl, Nat.le_of_ble_eq_true rfl, Nat.le_of_ble_eq_true rfl, Nat.le_of_ble_eq_true rfl, Nat.le_of_ble_eq_true rfl⟩ (fun a U g mk h => va_X.moved (u := U) (U := U.calling g mk a) (Vm.Alike.refl U.vm) h) (fun U hU hW => by rw [hU]; exact va_X.moved hW.alike (hX.kept (hS.2.1 b hbl (hlt b hbl)))) hK hP hD hS hA hl.1 rfl (Nat.le_of_ble_eq_true rfl) dL_law_24 (fun H locs hP hD hS => ?_)
  refine lv_aload_n hx hb dL_law_27 rfl (lv_at hl 1 rfl) ?_
  refine lv_iconst (v := 1) hx hb dL_law_28 (by decide) ?_
  refine cs_i (As := [.ref b, .int (nI 1)]) (rest := [.int (if 0 < L then xs 0 else 0), .ref qX8, .ref qX8]) C1 (mL_cell l dC dI cI cJ cZ b L xs hL 1 (by decide) H.size) (wS_s wm_1_7 wm_1_8 wm_1_9 wm_1_10) yd_L_cell ⟨rfl, rfl, Nat.le_of_ble_eq_true rfl, Nat.le_of_ble_eq_true rfl, Nat.le_of_ble_eq_true rfl, Nat.le_of_ble_eq_true rfl⟩ (fun a U g mk h => va_X.moved (u := U) (U := U.calling g mk a) (Vm.Alike.refl U.vm) h) (fun U hU hW => by rw [hU]; exact va_X.moved hW.alike (hX.kept (hS.2.1 b hbl (hlt b hbl)))) hK hP hD hS hA hl.1 rfl (Nat.le_of_ble_eq_true rfl) dL_law_29 (fun H locs hP hD hS => ?_)
  refine cn_v (W' := (vX7 cI cJ cZ ad (st0 (mC (if 0 < L then xs 0 else 0)) (oC (if 1 < L then xs 1 else 0))))) (cp_run (W' := (vX7 cI cJ cZ ad (st0 (mC (if 0 < L then xs 0 else 0)) (oC (if 1 < L then xs 1 else 0))))) (As := [.int (if 0 < L then xs 0 else 0), .int (if 1 < L then xs 1 else 0)]) (rest := [.ref qX8]) C1 (mX8_init l dC dI cI cJ cZ qX8 (if 0 < L then xs 0 else 0) (if 1 < L then xs 1 else 0) H.size) (wS_good wm_6_3) wm_6_1 wm_1_5 wm_6_2 rfl yd_L_init8 ⟨rfl, rfl, Nat.le_of_ble_eq_true rfl, Nat.le_of_ble_eq_true rfl, Nat.le_of_ble_eq_true rfl, Nat.le_of_ble_eq_true rfl⟩ xT_b (fun _ _ _ => trivial) hK hP hl.1 rfl (Nat.le_of_ble_eq_true rfl) dL_law_32) hP hD hS hA (fun ad2 H locs hE hP2 hD2 hS => ?_)
  subst hE
  have hP := hP2
  have hD := hD2
  refine W.widen (k := 600000) (n := 7302250) (Nat.le_of_ble_eq_true rfl) (Nat.le_of_ble_eq_true rfl) ?_
  refine lv_astore_n (lv' := [(2, .ref (ad2 0)), (1, .ref (ad 0)), (0, .ref b)]) hx hb dL_law_35 rfl hl (by decide) rfl (fun ls hl => ?_)
  refine lv_iconst (v := 2) hx hb dL_law_36 (by decide) ?_
  refine lv_istore_n (lv' := [(3, .int 2), (2, .ref (ad2 0)), (1, .ref (ad 0)), (0, .ref b)]) hx hb dL_law_37 rfl hl (by decide) rfl (fun ls hl => ?_)
  exact law_loop E (L + 1) 2 0 _ _ H locs ls rfl (by omega) (by omega) (Rel_0 (if 0 < L then xs 0 else 0) (if 1 < L then xs 1 else 0)) hP hD hS (lv_sub hl [3, 2, 1, 0] rfl)
