/-! the law: rows for its calls -/
section LWC
variable {p : Program} {l : Launch} {e : Env} {R : Room} {s : State} {m : MethodId} {args : Array Value} {below : List Frame} {meth : Method} {c : Code} {H : Heap} {locs : List Loc} {Q : State → Prop}
variable {cc bytes : ByteArray} {nL pc maxL index mc ms : Nat} {own C : String} {rt ret : Option FieldType} {D : va_G} {kt : List (ClassId × FieldType)} {A : Nat → Prop} {W' W0 W1 Wn : va_W} {ls : Array Slot} {y : MethodName} {rm : Room} {X : State → Prop} {b : Nat} {As rest st0 : List Value} {T : u_T} {N : Nat} {fs : List Value}
theorem cH_run (Qc : Array Value → State → Outcome → State → Prop) (C0 : cx p s m args meth c cc nL own rt) (hM : Met l y (wS y bytes maxL ret) rm (pC D kt X W0 H.size (.ref b :: As)) Qc 0 0 (va_A W0 H.size)) (hG : GoodIn wsL_law (wsV own index C y (wS y bytes maxL ret))) (hd : y.cls = C ∧ y.cls ≠ "java/lang/invoke/MethodHandle" ∧ y.cls ≠ "java/lang/invoke/VarHandle" ∧ (parseMethodDescriptor y.desc).map (fun d => d.parameters.length) = some As.length) (hR : rm.cells = 0 ∧ rm.slots = 0 ∧ rm.frames + 1 ≤ R.frames ∧ 8 + (maxL + 11) + rm.locals ≤ R.locals ∧ mc ≤ R.cells ∧ ms ≤ R.slots)
    (hXb : ∀ (a : Array Value) (U : State) (g : JFrame) (mk : MethodId), X U → X (U.calling g mk a)) (hXw : ∀ U : State, U.heap = H → s.WarmedH U.vm → X U) (hK : va_K D vwCl kt s) (hP : va_P D vwCl W' H) (hD : va_D A W') {i k : Nat} (hC : (W'.drop i).take k = W0)
    (hsz : ls.size = nL) (hst : st0 = As.reverse ++ .ref b :: rest) (hW : (rest.map fun v => v.category).sum ≤ 8) (hdg : decode cc pc = .ok (.invokevirtual index, 3)) {ci q0 : Nat} (hrc : W'[q0]? = some (b, .inr (ci, fs))) (hci : vwCl[ci]? = some (C, T, N)) :
    va_Run p l e R s m args below meth c H locs mc ms 0 0 (F0 m pc ls st0) rest (Qc (Value.ref b :: As).toArray) (va_A W0 H.size) := by
  obtain ⟨hx, hb, hml, hown, hT, hr, hlocks⟩ := C0
  have hP0 : va_P D vwCl W0 H := fun j q h => by
    rw [← hC, List.getElem?_take] at h
    split at h
    · rw [List.getElem?_drop] at h
      exact hP _ q h
    · cases h
  have hD0 : va_D (fun _ => True) W0 := by
    have at0 : ∀ (j : Nat) (q : Nat × va_E), W0[j]? = some q → W'[i + j]? = some q := by
      intro j q h
      rw [← hC, List.getElem?_take] at h
      split at h
      · rw [List.getElem?_drop] at h; exact h
      · cases h
    exact ⟨fun a b x y ha hb hxy => by have := hD.1 _ _ x y (at0 a x ha) (at0 b y hb) hxy; omega, fun _ _ _ => trivial⟩
  exact va_runV (As := As) (rest := rest) ⟨hx, hb, hml, hown, hT⟩ hM (cwV As.length hT hG rfl hR.1 hR.2.1 hd ⟨hR.2.2.1, hR.2.2.2.1⟩) ⟨fun a U g mk q => by obtain ⟨q0, q1, qP, qK, qD, qX⟩ := q; exact ⟨q0, q1, qP, va_K.moved (u := U) (U := U.calling g mk a) (Vm.Alike.refl U.vm) qK, qD, hXb a U g mk qX⟩, va_recv hK hP hci hrc, fun U hU hW => ⟨rfl, by rw [hU], by rw [hU]; exact hP0, va_K.moved hW.alike hK, hD0, hXw U hU hW⟩⟩ rfl rfl hsz hst (lv_room hW) hdg ⟨hR.2.2.2.2.1, hR.2.2.2.2.2⟩
theorem cH_i {r0 : Int32} (C0 : cx p s m args meth c cc nL own rt) (hM : Met l y (wS y bytes maxL ret) rm (pC D kt X W0 H.size (.ref b :: As)) (qI D kt W1 (va_A W0 H.size) r0) 0 0 (va_A W0 H.size)) (hG : GoodIn wsL_law (wsV own index C y (wS y bytes maxL ret))) (hd : y.cls = C ∧ y.cls ≠ "java/lang/invoke/MethodHandle" ∧ y.cls ≠ "java/lang/invoke/VarHandle" ∧ (parseMethodDescriptor y.desc).map (fun d => d.parameters.length) = some As.length) (hR : rm.cells = 0 ∧ rm.slots = 0 ∧ rm.frames + 1 ≤ R.frames ∧ 8 + (maxL + 11) + rm.locals ≤ R.locals ∧ mc ≤ R.cells ∧ ms ≤ R.slots)
    (hXb : ∀ (a : Array Value) (U : State) (g : JFrame) (mk : MethodId), X U → X (U.calling g mk a)) (hXw : ∀ U : State, U.heap = H → s.WarmedH U.vm → X U) (hK : va_K D vwCl kt s) (hP : va_P D vwCl W' H) (hD : va_D A W') (hS : va_S A s.heap H locs) (hA : ∀ q : Nat, s.heap.size ≤ q → A q) (i k : Nat) (hC : (W'.drop i).take k = W0)
    (hsz : ls.size = nL) (hst : st0 = As.reverse ++ .ref b :: rest) (hW : (rest.map fun v => v.category).sum ≤ 8) (hdg : decode cc pc = .ok (.invokevirtual index, 3)) (ci q0 : Nat) (hrc : W'[q0]? = some (b, .inr (ci, fs))) (hci : vwCl[ci]? = some (C, T, N)) (hN : W'.take i ++ (W1 ++ W'.drop (i + k)) = Wn)
    (kk : ∀ (H1 : Heap) (locs1 : List Loc), va_P D vwCl Wn H1 → va_D A Wn → va_S A s.heap H1 locs1 → W p l e R s m args below meth c H1 locs1 mc ms Q (F0 m (pc + 3) ls (.int r0 :: rest))) : W p l e R s m args below meth c H locs mc ms Q (F0 m pc ls st0) := by
  have hF := cv_free hD hS hA hC
  refine va_calli (cH_run _ C0 hM hG hd hR hXb hXw hK hP hD hC hsz hst hW hdg hrc hci) hS (fun q _ h => hF q h) hF (fun r u t H1 locs ht hvm hw hB hz1 hk1 hS => ?_)
  obtain ⟨hP1, hK1, hD1⟩ := hB
  rw [ht] at hP1
  obtain ⟨h1, h2⟩ := sg hP hD hC hk1 hF hP1 hD1
  rw [hN] at h1 h2
  subst hw
  exact kk H1 _ h1 h2 hS
end LWC
section LWD
variable {p : Program} {l : Launch} {e : Env} {R : Room} {s : State} {m : MethodId} {args : Array Value} {below : List Frame} {meth : Method} {c : Code} {H : Heap} {locs : List Loc} {Q : State → Prop}
variable {cc bytes : ByteArray} {nL pc maxL index mc ms : Nat} {own : String} {rt ret : Option FieldType} {dC : Nat → ClassId} {dI : Nat → Nat → Nat} {cI cJ cZ : ClassId} {A : Nat → Prop} {ls : Array Slot} {y : MethodName} {rm : Room} {X : State → Prop} {As rest st0 : List Value} {ad ad2 : Nat → Nat} {σ σ' τ τ' : St}
abbrev w2 (cI cJ cZ : ClassId) (ad ad2 : Nat → Nat) (σ τ : St) : va_W := vX7 cI cJ cZ ad σ ++ vX8 cI cJ cZ ad2 τ
set_option maxRecDepth 100000 in
theorem w2_7 : ((w2 cI cJ cZ ad ad2 σ τ).drop 0).take 42 = vX7 cI cJ cZ ad σ := rfl
set_option maxRecDepth 100000 in
theorem w2_8 : ((w2 cI cJ cZ ad ad2 σ τ).drop 42).take 27 = vX8 cI cJ cZ ad2 τ := rfl
set_option maxRecDepth 100000 in
theorem w2_n7 : (w2 cI cJ cZ ad ad2 σ τ).take 0 ++ (vX7 cI cJ cZ ad σ' ++ (w2 cI cJ cZ ad ad2 σ τ).drop (0 + 42)) = w2 cI cJ cZ ad ad2 σ' τ := rfl
set_option maxRecDepth 100000 in
theorem w2_n8 : (w2 cI cJ cZ ad ad2 σ τ).take 42 ++ (vX8 cI cJ cZ ad2 τ' ++ (w2 cI cJ cZ ad ad2 σ τ).drop (42 + 27)) = w2 cI cJ cZ ad ad2 σ τ' := rfl
set_option maxRecDepth 100000 in
theorem lc7_i {r0 : Int32} (C0 : cx p s m args meth c cc nL own rt) (hM : Met l y (wS y bytes maxL ret) rm (pC (dC, dI) (kT cI cJ cZ) X (vX7 cI cJ cZ ad σ) H.size (.ref (ad 0) :: As)) (qI (dC, dI) (kT cI cJ cZ) (vX7 cI cJ cZ ad σ') (va_A (vX7 cI cJ cZ ad σ) H.size) r0) 0 0 (va_A (vX7 cI cJ cZ ad σ) H.size)) (hG : GoodIn wsL_law (wsV own index RX7 y (wS y bytes maxL ret))) (hd : y.cls = RX7 ∧ y.cls ≠ "java/lang/invoke/MethodHandle" ∧ y.cls ≠ "java/lang/invoke/VarHandle" ∧ (parseMethodDescriptor y.desc).map (fun d => d.parameters.length) = some As.length) (hR : rm.cells = 0 ∧ rm.slots = 0 ∧ rm.frames + 1 ≤ R.frames ∧ 8 + (maxL + 11) + rm.locals ≤ R.locals ∧ mc ≤ R.cells ∧ ms ≤ R.slots)
    (hXb : ∀ (a : Array Value) (U : State) (g : JFrame) (mk : MethodId), X U → X (U.calling g mk a)) (hXw : ∀ U : State, U.heap = H → s.WarmedH U.vm → X U) (hK : va_K (dC, dI) vwCl (kT cI cJ cZ) s) (hP : va_P (dC, dI) vwCl (w2 cI cJ cZ ad ad2 σ τ) H) (hD : va_D A (w2 cI cJ cZ ad ad2 σ τ)) (hS : va_S A s.heap H locs) (hA : ∀ q : Nat, s.heap.size ≤ q → A q)
    (hsz : ls.size = nL) (hst : st0 = As.reverse ++ .ref (ad 0) :: rest) (hW : (rest.map fun v => v.category).sum ≤ 8) (hdg : decode cc pc = .ok (.invokevirtual index, 3))
    (kk : ∀ (H1 : Heap) (locs1 : List Loc), va_P (dC, dI) vwCl (w2 cI cJ cZ ad ad2 σ' τ) H1 → va_D A (w2 cI cJ cZ ad ad2 σ' τ) → va_S A s.heap H1 locs1 → W p l e R s m args below meth c H1 locs1 mc ms Q (F0 m (pc + 3) ls (.int r0 :: rest))) : W p l e R s m args below meth c H locs mc ms Q (F0 m pc ls st0) :=
  cH_i C0 hM hG hd hR hXb hXw hK hP hD hS hA 0 42 w2_7 hsz hst hW hdg 7 0 rfl rfl w2_n7 kk
set_option maxRecDepth 100000 in
theorem lc7_l {r0 : Int64} (C0 : cx p s m args meth c cc nL own rt) (hM : Met l y (wS y bytes maxL ret) rm (pC (dC, dI) (kT cI cJ cZ) X (vX7 cI cJ cZ ad σ) H.size (.ref (ad 0) :: As)) (qL (dC, dI) (kT cI cJ cZ) (vX7 cI cJ cZ ad σ') (va_A (vX7 cI cJ cZ ad σ) H.size) r0) 0 0 (va_A (vX7 cI cJ cZ ad σ) H.size)) (hG : GoodIn wsL_law (wsV own index RX7 y (wS y bytes maxL ret))) (hd : y.cls = RX7 ∧ y.cls ≠ "java/lang/invoke/MethodHandle" ∧ y.cls ≠ "java/lang/invoke/VarHandle" ∧ (parseMethodDescriptor y.desc).map (fun d => d.parameters.length) = some As.length) (hR : rm.cells = 0 ∧ rm.slots = 0 ∧ rm.frames + 1 ≤ R.frames ∧ 8 + (maxL + 11) + rm.locals ≤ R.locals ∧ mc ≤ R.cells ∧ ms ≤ R.slots)
    (hXb : ∀ (a : Array Value) (U : State) (g : JFrame) (mk : MethodId), X U → X (U.calling g mk a)) (hXw : ∀ U : State, s.WarmedH U.vm → X U) (hK : va_K (dC, dI) vwCl (kT cI cJ cZ) s) (hP : va_P (dC, dI) vwCl (w2 cI cJ cZ ad ad2 σ τ) H) (hD : va_D A (w2 cI cJ cZ ad ad2 σ τ)) (hS : va_S A s.heap H locs) (hA : ∀ q : Nat, s.heap.size ≤ q → A q)
    (hsz : ls.size = nL) (hst : st0 = As.reverse ++ .ref (ad 0) :: rest) (hW : (rest.map fun v => v.category).sum ≤ 8) (hdg : decode cc pc = .ok (.invokevirtual index, 3))
    (kk : ∀ (H1 : Heap) (locs1 : List Loc), va_P (dC, dI) vwCl (w2 cI cJ cZ ad ad2 σ' τ) H1 → va_D A (w2 cI cJ cZ ad ad2 σ' τ) → va_S A s.heap H1 locs1 → W p l e R s m args below meth c H1 locs1 mc ms Q (F0 m (pc + 3) ls (.long r0 :: rest))) : W p l e R s m args below meth c H locs mc ms Q (F0 m pc ls st0) :=
  cv_l C0 hM hG hd hR hXb hXw hK hP hD hS hA 0 42 w2_7 hsz hst hW hdg 7 0 rfl rfl w2_n7 kk
set_option maxRecDepth 100000 in
theorem lc8_i {r0 : Int32} (C0 : cx p s m args meth c cc nL own rt) (hM : Met l y (wS y bytes maxL ret) rm (pC (dC, dI) (kT cI cJ cZ) xT (vX8 cI cJ cZ ad2 τ) H.size (.ref (ad2 0) :: As)) (qI (dC, dI) (kT cI cJ cZ) (vX8 cI cJ cZ ad2 τ') (va_A (vX8 cI cJ cZ ad2 τ) H.size) r0) 0 0 (va_A (vX8 cI cJ cZ ad2 τ) H.size)) (hG : GoodIn wsL_law (wsV own index RX8 y (wS y bytes maxL ret))) (hd : y.cls = RX8 ∧ y.cls ≠ "java/lang/invoke/MethodHandle" ∧ y.cls ≠ "java/lang/invoke/VarHandle" ∧ (parseMethodDescriptor y.desc).map (fun d => d.parameters.length) = some As.length) (hR : rm.cells = 0 ∧ rm.slots = 0 ∧ rm.frames + 1 ≤ R.frames ∧ 8 + (maxL + 11) + rm.locals ≤ R.locals ∧ mc ≤ R.cells ∧ ms ≤ R.slots)
    (hK : va_K (dC, dI) vwCl (kT cI cJ cZ) s) (hP : va_P (dC, dI) vwCl (w2 cI cJ cZ ad ad2 σ τ) H) (hD : va_D A (w2 cI cJ cZ ad ad2 σ τ)) (hS : va_S A s.heap H locs) (hA : ∀ q : Nat, s.heap.size ≤ q → A q)
    (hsz : ls.size = nL) (hst : st0 = As.reverse ++ .ref (ad2 0) :: rest) (hW : (rest.map fun v => v.category).sum ≤ 8) (hdg : decode cc pc = .ok (.invokevirtual index, 3))
    (kk : ∀ (H1 : Heap) (locs1 : List Loc), va_P (dC, dI) vwCl (w2 cI cJ cZ ad ad2 σ τ') H1 → va_D A (w2 cI cJ cZ ad ad2 σ τ') → va_S A s.heap H1 locs1 → W p l e R s m args below meth c H1 locs1 mc ms Q (F0 m (pc + 3) ls (.int r0 :: rest))) : W p l e R s m args below meth c H locs mc ms Q (F0 m pc ls st0) :=
  cv_i C0 hM hG hd hR xT_b xT_w hK hP hD hS hA 42 27 w2_8 hsz hst hW hdg 8 42 rfl rfl w2_n8 kk
set_option maxRecDepth 100000 in
theorem lc8_l {r0 : Int64} (C0 : cx p s m args meth c cc nL own rt) (hM : Met l y (wS y bytes maxL ret) rm (pC (dC, dI) (kT cI cJ cZ) xT (vX8 cI cJ cZ ad2 τ) H.size (.ref (ad2 0) :: As)) (qL (dC, dI) (kT cI cJ cZ) (vX8 cI cJ cZ ad2 τ') (va_A (vX8 cI cJ cZ ad2 τ) H.size) r0) 0 0 (va_A (vX8 cI cJ cZ ad2 τ) H.size)) (hG : GoodIn wsL_law (wsV own index RX8 y (wS y bytes maxL ret))) (hd : y.cls = RX8 ∧ y.cls ≠ "java/lang/invoke/MethodHandle" ∧ y.cls ≠ "java/lang/invoke/VarHandle" ∧ (parseMethodDescriptor y.desc).map (fun d => d.parameters.length) = some As.length) (hR : rm.cells = 0 ∧ rm.slots = 0 ∧ rm.frames + 1 ≤ R.frames ∧ 8 + (maxL + 11) + rm.locals ≤ R.locals ∧ mc ≤ R.cells ∧ ms ≤ R.slots)
    (hK : va_K (dC, dI) vwCl (kT cI cJ cZ) s) (hP : va_P (dC, dI) vwCl (w2 cI cJ cZ ad ad2 σ τ) H) (hD : va_D A (w2 cI cJ cZ ad ad2 σ τ)) (hS : va_S A s.heap H locs) (hA : ∀ q : Nat, s.heap.size ≤ q → A q)
    (hsz : ls.size = nL) (hst : st0 = As.reverse ++ .ref (ad2 0) :: rest) (hW : (rest.map fun v => v.category).sum ≤ 8) (hdg : decode cc pc = .ok (.invokevirtual index, 3))
    (kk : ∀ (H1 : Heap) (locs1 : List Loc), va_P (dC, dI) vwCl (w2 cI cJ cZ ad ad2 σ τ') H1 → va_D A (w2 cI cJ cZ ad ad2 σ τ') → va_S A s.heap H1 locs1 → W p l e R s m args below meth c H1 locs1 mc ms Q (F0 m (pc + 3) ls (.long r0 :: rest))) : W p l e R s m args below meth c H locs mc ms Q (F0 m pc ls st0) :=
  cv_l C0 hM hG hd hR xT_b xT_w hK hP hD hS hA 42 27 w2_8 hsz hst hW hdg 8 42 rfl rfl w2_n8 kk
end LWD
/-- what holds at the law, all along -/
def lX (p : Program) (s : State) (m : MethodId) (meth : Method) (c : Code) (b L : Nat) (xs : Nat → Int32) (dC : Nat → ClassId) (dI : Nat → Nat → Nat) (cI cJ cZ : ClassId) (t1 t2 : Nat) : Prop :=
  cx p s m #[Value.ref b] meth c cL_law 4 RL ret ∧ va_K (dC, dI) vwCl (kT cI cJ cZ) s ∧ xS t1 t2 (fun q : Nat => s.heap.size ≤ q) s ∧ va_X b L xs s s.heap ∧ b < s.heap.size ∧ L ≤ 2562
theorem xS_of {s : State} {t1 t2 : Nat} {A B : Nat → Prop} {H : Heap} {locs : List Loc} (h : xS t1 t2 A s) (hS : va_S A s.heap H locs) (hAB : ∀ q, B q → A q) : ∀ U : State, U.heap = H → s.WarmedH U.vm → xS t1 t2 B U := by
  intro U hU hW
  obtain ⟨h1, h2, h3, h4, h5⟩ := h
  refine ⟨xC_w hW h1, ?_, ?_, ?_, ?_⟩
  · rw [hU]; exact (va_Z.moved hW.alike (h2.kept (fun a e1 e2 => hS.2.1 a e1 e2))).narrow hAB
  · rw [hU]; exact (va_T.moved hW.alike (h3.kept (fun a e1 e2 => hS.2.1 a e1 e2))).narrow hAB
  · rw [hU]; exact (va_Z.moved hW.alike (h4.kept (fun a e1 e2 => hS.2.1 a e1 e2))).narrow hAB
  · rw [hU]; exact (va_T.moved hW.alike (h5.kept (fun a e1 e2 => hS.2.1 a e1 e2))).narrow hAB
theorem xS_b {t1 t2 : Nat} {A : Nat → Prop} : ∀ (a : Array Value) (U : State) (g : JFrame) (mk : MethodId), xS t1 t2 A U → xS t1 t2 A (U.calling g mk a) := fun a U g mk h => ⟨xC_b a U g mk h.1, va_Z.moved (u := U) (U := U.calling g mk a) (Vm.Alike.refl U.vm) h.2.1, va_T.moved (u := U) (U := U.calling g mk a) (Vm.Alike.refl U.vm) h.2.2.1, va_Z.moved (u := U) (U := U.calling g mk a) (Vm.Alike.refl U.vm) h.2.2.2.1, va_T.moved (u := U) (U := U.calling g mk a) (Vm.Alike.refl U.vm) h.2.2.2.2⟩
