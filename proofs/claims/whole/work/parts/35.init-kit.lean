/-! constructors: rows over the kit -/
abbrev qN (D : va_G) (kt : List (ClassId × FieldType)) (h0 : Nat) (Wf : (Nat → Nat) → va_W) (A : Nat → Prop) : Array Value → State → Outcome → State → Prop := va_Qv (fun ad : Nat → Nat => ad 0 = h0) (fun ad t => va_P D vwCl (Wf ad) t.heap ∧ va_K D vwCl kt t ∧ va_D A (Wf ad)) A
section NWK
variable {p : Program} {l : Launch} {e : Env} {R : Room} {s : State} {m : MethodId} {args : Array Value} {below : List Frame} {meth : Method} {c : Code} {H : Heap} {locs : List Loc} {cells slots : Nat} {Q : State → Prop}
variable {cc : ByteArray} {nL pc mc ms : Nat} {own : String} {rt : Option FieldType} {D : va_G} {cI cJ cZ : ClassId} {A : Nat → Prop} {ws : va_W} {ls : Array Slot} {rest : List Value} {H0 : Heap}
theorem nw_I (C0 : cx p s m args meth c cc nL own rt) (hK : va_K D vwCl (kT cI cJ cZ) s) (hP : va_P D vwCl ws H) (hD : va_D A ws) (hS : va_S A H0 H locs) (hA : ∀ q, H0.size ≤ q → A q) {n : Int32} (N' : Nat) (hn : ¬ n < 0) (hN : n.toNatClampNeg = N') (hby : N' * componentBytes .int ≤ 536870912) (hcells : cells + 1 ≤ R.cells) (hslots : slots + N' ≤ R.slots) (hdg : decode cc pc = .ok (.newarray .int, 2))
    (kk : ∀ (q : Nat) (H1 : Heap), va_P D vwCl (ws ++ [(q, .inl (cI, N', .inl (fun _ => 0)))]) H1 → va_D A (ws ++ [(q, .inl (cI, N', .inl (fun _ => 0)))]) → va_S A H0 H1 locs → W p l e R s m args below meth c H1 locs (cells + 1) (slots + N') Q (F0 m (pc + 2) ls (.ref q :: rest))) : W p l e R s m args below meth c H locs cells slots Q (F0 m pc ls (.int n :: rest)) := by
  obtain ⟨hx, hb, hml, hown, hT, hr, hlocks⟩ := C0
  refine va_newa (atype := .int) (ty := .int) (a0 := (N', .inl (fun _ => 0))) hx hb (hT _ wm_4_6) rfl hK hP hD hS hA (fun _ => rfl) hn hN hby hcells hslots hdg (fun q cA H1 hK1 hP1 hD1 hS1 => ?_)
  have e : cA = cI := Option.some.inj ((va_nm_int (hK1.2 3 (cA, .int) rfl).2).symm.trans (va_nm_int (hK.2 0 (cI, .int) rfl).2))
  subst e
  exact kk q H1 hP1 hD1 hS1
theorem nw_J (C0 : cx p s m args meth c cc nL own rt) (hK : va_K D vwCl (kT cI cJ cZ) s) (hP : va_P D vwCl ws H) (hD : va_D A ws) (hS : va_S A H0 H locs) (hA : ∀ q, H0.size ≤ q → A q) {n : Int32} (N' : Nat) (hn : ¬ n < 0) (hN : n.toNatClampNeg = N') (hby : N' * componentBytes .long ≤ 536870912) (hcells : cells + 1 ≤ R.cells) (hslots : slots + N' ≤ R.slots) (hdg : decode cc pc = .ok (.newarray .long, 2))
    (kk : ∀ (q : Nat) (H1 : Heap), va_P D vwCl (ws ++ [(q, .inl (cJ, N', .inr (.inl (fun _ => 0))))]) H1 → va_D A (ws ++ [(q, .inl (cJ, N', .inr (.inl (fun _ => 0))))]) → va_S A H0 H1 locs → W p l e R s m args below meth c H1 locs (cells + 1) (slots + N') Q (F0 m (pc + 2) ls (.ref q :: rest))) : W p l e R s m args below meth c H locs cells slots Q (F0 m pc ls (.int n :: rest)) := by
  obtain ⟨hx, hb, hml, hown, hT, hr, hlocks⟩ := C0
  refine va_newa (atype := .long) (ty := .long) (a0 := (N', .inr (.inl (fun _ => 0)))) hx hb (hT _ wm_4_1) rfl hK hP hD hS hA (fun _ => rfl) hn hN hby hcells hslots hdg (fun q cA H1 hK1 hP1 hD1 hS1 => ?_)
  have e : cA = cJ := Option.some.inj ((va_nm_long (hK1.2 3 (cA, .long) rfl).2).symm.trans (va_nm_long (hK.2 1 (cJ, .long) rfl).2))
  subst e
  exact kk q H1 hP1 hD1 hS1
theorem nw_Z (C0 : cx p s m args meth c cc nL own rt) (hK : va_K D vwCl (kT cI cJ cZ) s) (hP : va_P D vwCl ws H) (hD : va_D A ws) (hS : va_S A H0 H locs) (hA : ∀ q, H0.size ≤ q → A q) {n : Int32} (N' : Nat) (hn : ¬ n < 0) (hN : n.toNatClampNeg = N') (hby : N' * componentBytes .boolean ≤ 536870912) (hcells : cells + 1 ≤ R.cells) (hslots : slots + N' ≤ R.slots) (hdg : decode cc pc = .ok (.newarray .boolean, 2))
    (kk : ∀ (q : Nat) (H1 : Heap), va_P D vwCl (ws ++ [(q, .inl (cZ, N', .inl (fun _ => 0)))]) H1 → va_D A (ws ++ [(q, .inl (cZ, N', .inl (fun _ => 0)))]) → va_S A H0 H1 locs → W p l e R s m args below meth c H1 locs (cells + 1) (slots + N') Q (F0 m (pc + 2) ls (.ref q :: rest))) : W p l e R s m args below meth c H locs cells slots Q (F0 m pc ls (.int n :: rest)) := by
  obtain ⟨hx, hb, hml, hown, hT, hr, hlocks⟩ := C0
  refine va_newa (atype := .boolean) (ty := .boolean) (a0 := (N', .inl (fun _ => 0))) hx hb (hT _ wm_4_4) rfl hK hP hD hS hA (fun _ => rfl) hn hN hby hcells hslots hdg (fun q cA H1 hK1 hP1 hD1 hS1 => ?_)
  have e : cA = cZ := Option.some.inj ((va_nm_boolean (hK1.2 3 (cA, .boolean) rfl).2).symm.trans (va_nm_boolean (hK.2 2 (cZ, .boolean) rfl).2))
  subst e
  exact kk q H1 hP1 hD1 hS1
theorem my_nret {Wf : (Nat → Nat) → va_W} {h0 : Nat} {kt : List (ClassId × FieldType)} (ad : Nat → Nat) (h0e : ad 0 = h0) (C0 : cx p s m args meth c cc nL own none) (hK : va_K D vwCl kt s) (hP : va_P D vwCl (Wf ad) H) (hD : va_D A (Wf ad)) (hS : va_S A s.heap H locs) (hdg : decode cc pc = .ok (.return_, 1)) : W p l e R s m args below meth c H locs mc ms (MQ below (qN D kt h0 Wf A) args s mc ms A) (F0 m pc ls []) := by
  obtain ⟨hx, hb, hml, hown, hT, hr, hlocks⟩ := C0
  exact W.vret hx hb hr (fun t ht hW => ⟨⟨ad, rfl, h0e, by rw [ht]; exact hP, va_K.moved hW.alike hK, hD⟩, hS.F ht⟩) hS.2.2 hdg
end NWK
section CNV
variable {p : Program} {l : Launch} {e : Env} {R : Room} {s : State} {m : MethodId} {args : Array Value} {below : List Frame} {meth : Method} {c : Code} {H : Heap} {locs : List Loc} {cells slots : Nat} {Q : State → Prop}
variable {cc bytes : ByteArray} {nL pc maxL index mc1 ms1 : Nat} {own host : String} {rt : Option FieldType} {D : va_G} {kt : List (ClassId × FieldType)} {A : Nat → Prop} {W' : va_W} {e0 : va_E} {ls : Array Slot} {y : MethodName} {rm : Room} {X : State → Prop} {b : Nat} {As rest st0 : List Value} {Qc : Array Value → State → Outcome → State → Prop} {Wf : (Nat → Nat) → va_W}
theorem last1 {W' : va_W} {x : Nat × va_E} : ((W' ++ [x]).drop W'.length).take 1 = [x] := by simp
/-- a constructor of a nest mate, on the newest cell -/
theorem cn_run (C0 : cx p s m args meth c cc nL own rt) (hM : Met l y (wS y bytes maxL none) rm (pC D kt X [(b, e0)] H.size (.ref b :: As)) Qc mc1 ms1 (va_A [(b, e0)] H.size)) (hG : GoodIn wsL_law (wS y bytes maxL none)) (hl : va_Nw (.methodLinkNest own index y host) s) (hin : Cond.initialized y.cls ∈ wsL_law) (him : Cond.instanceMethod y ∈ wsL_law) (hyn : y.name = "<init>") (hd : y.cls ≠ "java/lang/invoke/MethodHandle" ∧ y.cls ≠ "java/lang/invoke/VarHandle" ∧ (parseMethodDescriptor y.desc).map (fun d => d.parameters.length) = some As.length) (hR : rm.cells = mc1 ∧ rm.slots = ms1 ∧ rm.frames + 1 ≤ R.frames ∧ 8 + (maxL + 11) + rm.locals ≤ R.locals ∧ cells + mc1 ≤ R.cells ∧ slots + ms1 ≤ R.slots)
    (hXb : ∀ (a : Array Value) (U : State) (g : JFrame) (mk : MethodId), X U → X (U.calling g mk a)) (hXw : ∀ U : State, U.heap = H → s.WarmedH U.vm → X U) (hK : va_K D vwCl kt s) (hP : va_P D vwCl (W' ++ [(b, e0)]) H) (hsz : ls.size = nL) (hst : st0 = As.reverse ++ .ref b :: rest) (hW : (rest.map fun v => v.category).sum ≤ 8) (hdg : decode cc pc = .ok (.invokespecial index, 3)) :
    va_Run p l e R s m args below meth c H locs cells slots mc1 ms1 (F0 m pc ls st0) rest (Qc (Value.ref b :: As).toArray) (va_A [(b, e0)] H.size) := by
  obtain ⟨hx, hb, hml, hown, hT, hr, hlocks⟩ := C0
  have hP0 : va_P D vwCl [(b, e0)] H := fun j q h => by
    have hz : j < 1 := (List.getElem?_eq_some_iff.mp h).1
    rw [show j = 0 by omega] at h
    cases h
    exact hP W'.length _ (by simp)
  have hD0 : va_D (fun _ => True) [(b, e0)] := ⟨fun i j p q hi hj _ => by
    have h1 : i < 1 := (List.getElem?_eq_some_iff.mp hi).1
    have h2 : j < 1 := (List.getElem?_eq_some_iff.mp hj).1
    omega, fun _ _ _ => trivial⟩
  exact va_runIN (As := As) (rest := rest) ⟨hx, hb, hml, hown, hT⟩ hM ⟨va_cnB As.length hT hG rfl hR.1 hR.2.1 hl (hT _ hin) hd ⟨hR.2.2.1, hR.2.2.2.1⟩, hyn, hT _ him⟩ ⟨fun a U g mk q => by obtain ⟨q0, q1, qP, qK, qD, qX⟩ := q; exact ⟨q0, q1, qP, va_K.moved (u := U) (U := U.calling g mk a) (Vm.Alike.refl U.vm) qK, qD, hXb a U g mk qX⟩, fun U hU hW => ⟨rfl, by rw [hU], by rw [hU]; exact hP0, va_K.moved hW.alike hK, hD0, hXw U hU hW⟩⟩ rfl rfl hsz hst (lv_room hW) hdg ⟨hR.2.2.2.2.1, hR.2.2.2.2.2⟩
/-- a public constructor, on the newest cell -/
theorem cp_run (C0 : cx p s m args meth c cc nL own rt) (hM : Met l y (wS y bytes maxL none) rm (pC D kt X [(b, e0)] H.size (.ref b :: As)) Qc mc1 ms1 (va_A [(b, e0)] H.size)) (hG : GoodIn wsL_law (wS y bytes maxL none)) (hl : Cond.methodLink own index y ∈ wsL_law) (hin : Cond.initialized y.cls ∈ wsL_law) (him : Cond.instanceMethod y ∈ wsL_law) (hyn : y.name = "<init>") (hd : y.cls ≠ "java/lang/invoke/MethodHandle" ∧ y.cls ≠ "java/lang/invoke/VarHandle" ∧ (parseMethodDescriptor y.desc).map (fun d => d.parameters.length) = some As.length) (hR : rm.cells = mc1 ∧ rm.slots = ms1 ∧ rm.frames + 1 ≤ R.frames ∧ 8 + (maxL + 11) + rm.locals ≤ R.locals ∧ cells + mc1 ≤ R.cells ∧ slots + ms1 ≤ R.slots)
    (hXb : ∀ (a : Array Value) (U : State) (g : JFrame) (mk : MethodId), X U → X (U.calling g mk a)) (hXw : ∀ U : State, U.heap = H → s.WarmedH U.vm → X U) (hK : va_K D vwCl kt s) (hP : va_P D vwCl (W' ++ [(b, e0)]) H) (hsz : ls.size = nL) (hst : st0 = As.reverse ++ .ref b :: rest) (hW : (rest.map fun v => v.category).sum ≤ 8) (hdg : decode cc pc = .ok (.invokespecial index, 3)) :
    va_Run p l e R s m args below meth c H locs cells slots mc1 ms1 (F0 m pc ls st0) rest (Qc (Value.ref b :: As).toArray) (va_A [(b, e0)] H.size) := by
  obtain ⟨hx, hb, hml, hown, hT, hr, hlocks⟩ := C0
  have hP0 : va_P D vwCl [(b, e0)] H := fun j q h => by
    have hz : j < 1 := (List.getElem?_eq_some_iff.mp h).1
    rw [show j = 0 by omega] at h
    cases h
    exact hP W'.length _ (by simp)
  have hD0 : va_D (fun _ => True) [(b, e0)] := ⟨fun i j p q hi hj _ => by
    have h1 : i < 1 := (List.getElem?_eq_some_iff.mp hi).1
    have h2 : j < 1 := (List.getElem?_eq_some_iff.mp hj).1
    omega, fun _ _ _ => trivial⟩
  exact va_runI (As := As) (rest := rest) ⟨hx, hb, hml, hown, hT⟩ hM (cwI As.length hT hG rfl hR.1 hR.2.1 (hT _ hin) (hT _ hl) (hT _ him) hyn hd ⟨hR.2.2.1, hR.2.2.2.1⟩) ⟨fun a U g mk q => by obtain ⟨q0, q1, qP, qK, qD, qX⟩ := q; exact ⟨q0, q1, qP, va_K.moved (u := U) (U := U.calling g mk a) (Vm.Alike.refl U.vm) qK, qD, hXb a U g mk qX⟩, fun U hU hW => ⟨rfl, by rw [hU], by rw [hU]; exact hP0, va_K.moved hW.alike hK, hD0, hXw U hU hW⟩⟩ rfl rfl hsz hst (lv_room hW) hdg ⟨hR.2.2.2.2.1, hR.2.2.2.2.2⟩
/-- behind a constructor: the world has what it made in the place of the blank cell -/
theorem cn_v {a : Array Value} (hr : va_Run p l e R s m args below meth c H locs cells slots mc1 ms1 (F0 m pc ls st0) rest (qN D kt b Wf (va_A [(b, e0)] H.size) a) (va_A [(b, e0)] H.size)) (hP : va_P D vwCl (W' ++ [(b, e0)]) H) (hD : va_D A (W' ++ [(b, e0)])) (hS : va_S A s.heap H locs) (hA : ∀ q : Nat, s.heap.size ≤ q → A q)
    (kk : ∀ (ad : Nat → Nat) (H1 : Heap) (locs1 : List Loc), ad 0 = b → va_P D vwCl (W' ++ Wf ad) H1 → va_D A (W' ++ Wf ad) → va_S A s.heap H1 locs1 → W p l e R s m args below meth c H1 locs1 (cells + mc1) (slots + ms1) Q (F0 m (pc + 3) ls rest)) : W p l e R s m args below meth c H locs cells slots Q (F0 m pc ls st0) := by
  have hF := cv_free (W0 := [(b, e0)]) hD hS hA last1
  refine va_callv hr hS (fun q _ h => hF q h) hF (fun ad t H1 locs1 ht hvm hw hB hz1 hk1 hS => ?_)
  obtain ⟨hP1, hK1, hD1⟩ := hB
  rw [ht] at hP1
  obtain ⟨h1, h2⟩ := sg hP hD last1 hk1 hF hP1 hD1
  have eN : (W' ++ [(b, e0)]).take W'.length ++ (Wf ad ++ (W' ++ [(b, e0)]).drop (W'.length + 1)) = W' ++ Wf ad := by simp
  rw [eN] at h1 h2
  exact kk ad H1 locs1 hw h1 h2 hS
end CNV
