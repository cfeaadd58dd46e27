/-! our own rows over the kit: contracts over a world of fixed cells, calls, returns, the pure side's guards -/
theorem wsL_good : wsL_law.all goodWord = true := by decide +kernel
/-- the words of every contract: the method's own code, and all that the law's tables say -/
abbrev wS (y : MethodName) (c : ByteArray) (n : Nat) (r : Option FieldType) : List Cond := .code y c n r :: wsL_law
theorem wL_in {ws : List Cond} (h : ∀ w ∈ ws, w ∈ wsL_law) : GoodIn wsL_law ws := fun w hw => ⟨h w hw, good_of_word (List.all_eq_true.mp wsL_good w (h w hw))⟩
theorem wS_good {y : MethodName} {c : ByteArray} {n : Nat} {r : Option FieldType} (h : Cond.code y c n r ∈ wsL_law) : GoodIn wsL_law (wS y c n r) := wL_in fun w hw => by
  rcases List.mem_cons.mp hw with e | e
  · rw [e]; exact h
  · exact e
theorem wV_good {y : MethodName} {c : ByteArray} {n idx : Nat} {r : Option FieldType} {own C : String} (h1 : Cond.methodLink own idx y ∈ wsL_law) (h2 : Cond.instanceMethod y ∈ wsL_law) (h3 : Cond.selects C y y ∈ wsL_law) (h4 : Cond.initialized C ∈ wsL_law) (h5 : Cond.code y c n r ∈ wsL_law) : GoodIn wsL_law (wsV own idx C y (wS y c n r)) := wL_in fun w hw => by
  unfold wsV at hw
  rcases List.mem_append.mp hw with e | e
  · simp only [List.mem_cons, List.not_mem_nil, or_false] at e
    rcases e with e | e | e | e <;> rw [e] <;> assumption
  · exact (wS_good h5 w e).1
abbrev kT (cI cJ cZ : ClassId) : List (ClassId × FieldType) := [(cI, .int), (cJ, .long), (cZ, .boolean)]
/-- what holds all along a method's walk -/
def cx (p : Program) (s : State) (m : MethodId) (args : Array Value) (meth : Method) (c : Code) (cc : ByteArray) (nL : Nat) (own : String) (rt : Option FieldType) : Prop :=
  p.tables.exec = Jvm.exec ∧ c.code = cc ∧ c.maxLocals = nL ∧ s.vm.findClass own = some m.cls ∧ (∀ w ∈ wsL_law, w.before args s = true) ∧ meth.sig.returnType = rt ∧ meth.locks = false
abbrev pC (D : va_G) (kt : List (ClassId × FieldType)) (X : State → Prop) (W0 : va_W) (sz : Nat) (av : List Value) : Array Value → State → Prop :=
  va_Pc av (fun U => U.heap.size = sz ∧ va_P D vwCl W0 U.heap ∧ va_K D vwCl kt U ∧ va_D (fun _ => True) W0 ∧ X U)
abbrev qB (D : va_G) (kt : List (ClassId × FieldType)) (W1 : va_W) (A : Nat → Prop) : Unit → State → Prop := fun _ t => va_P D vwCl W1 t.heap ∧ va_K D vwCl kt t ∧ va_D A W1
abbrev qI (D : va_G) (kt : List (ClassId × FieldType)) (W1 : va_W) (A : Nat → Prop) (v : Int32) : Array Value → State → Outcome → State → Prop := va_Qi (fun r _ => r = v) (qB D kt W1 A) A
abbrev qL (D : va_G) (kt : List (ClassId × FieldType)) (W1 : va_W) (A : Nat → Prop) (v : Int64) : Array Value → State → Outcome → State → Prop := va_Ql (fun r _ => r = v) (qB D kt W1 A) A
abbrev qV (D : va_G) (kt : List (ClassId × FieldType)) (W1 : va_W) (A : Nat → Prop) : Array Value → State → Outcome → State → Prop := va_Qv (fun _ => True) (qB D kt W1 A) A
abbrev qQ (D : va_G) (kt : List (ClassId × FieldType)) (W1 : va_W) (A : Nat → Prop) (v : Option Nat) : Array Value → State → Outcome → State → Prop := va_Qq (fun r _ => r = v) (qB D kt W1 A) A
def xT : State → Prop := fun _ => True
/-- a contract out of a walk from the entry -/
theorem my_ent {l : Launch} {y : MethodName} {cc : ByteArray} {maxL sz mc ms : Nat} {ret : Option FieldType} {rm : Room} {D : va_G} {kt : List (ClassId × FieldType)} {X : State → Prop} {W0 : va_W} {av : List Value} (Qf : (Nat → Prop) → Array Value → State → Outcome → State → Prop) (hy : plainName y.cls = true) (hn : (lg_sl av).length ≤ maxL)
    (body : ∀ (p : Program) (e : Env) (s : State) (m : MethodId) (below : List Frame) (meth : Method) (c : Code) (A : Nat → Prop), va_A W0 s.heap.size = A → (y.name = meth.name) → cx p s m av.toArray meth c cc maxL y.cls ret → va_K D vwCl kt s → X s → va_P D vwCl W0 s.heap → va_D A W0 → (∀ q : Nat, s.heap.size ≤ q → A q) → va_S A s.heap s.heap [] → ∀ ls : Array Slot, lv_has ls maxL (lv_args 0 av) → W p l e rm s m av.toArray below meth c s.heap [] 0 0 (MQ below (Qf A) av.toArray s mc ms A) (F0 m 0 ls [])) :
    Met l y (wS y cc maxL ret) rm (pC D kt X W0 sz av) (Qf (va_A W0 sz)) mc ms (va_A W0 sz) := by
  refine Met.ofW (cc := cc) (maxL := maxL) (ret := ret) hy rfl ?_
  intro p e s m args below meth c s₁ B hml hv
  obtain ⟨rfl, hsz, hP, hK, hD0, hX⟩ := hv
  have hts := atoms_spec (ws := wS y cc maxL ret) B.pre
  have hown : s.vm.findClass y.cls = some m.cls := findClass_of_methodNamed B.named
  subst hsz
  have hD := hD0.self (sz := s.heap.size)
  have hl := lv_entry av (n := maxL) hn
  rw [lg_entry_eq]
  exact body p e s m below meth c _ rfl (name_of_methodNamed B.named B.method).1.symm ⟨B.exec, B.bytes, hml, hown, fun w h => hts w (List.mem_cons_of_mem _ h), B.returns, B.notSynchronized⟩ hK hX hP hD (fun q h => Or.inr h) va_S.rf _ hl
section MYR
variable {p : Program} {l : Launch} {e : Env} {R : Room} {s : State} {m : MethodId} {args : Array Value} {below : List Frame} {meth : Method} {c : Code} {H : Heap} {locs : List Loc} {Q : State → Prop}
variable {cc : ByteArray} {nL pc mc ms : Nat} {own : String} {rt : Option FieldType} {D : va_G} {kt : List (ClassId × FieldType)} {A : Nat → Prop} {W1 : va_W} {ls : Array Slot}
theorem my_iret (C0 : cx p s m args meth c cc nL own (some .int)) (hK : va_K D vwCl kt s) (hP : va_P D vwCl W1 H) (hD : va_D A W1) (hS : va_S A s.heap H locs) {v : Int32} (hdg : decode cc pc = .ok (.ireturn, 1)) : W p l e R s m args below meth c H locs mc ms (MQ below (qI D kt W1 A v) args s mc ms A) (F0 m pc ls [.int v]) := by
  obtain ⟨hx, hb, hml, hown, hT, hr, hlocks⟩ := C0
  exact W.iret (v := v) hx hb hr (fun t ht hW => ⟨⟨v, (), rfl, rfl, by rw [ht]; exact hP, va_K.moved hW.alike hK, hD⟩, hS.F ht⟩) hS.2.2 hdg
theorem my_zret (C0 : cx p s m args meth c cc nL own (some .boolean)) (hK : va_K D vwCl kt s) (hP : va_P D vwCl W1 H) (hD : va_D A W1) (hS : va_S A s.heap H locs) {v : Int32} (hv : v = 0 ∨ v = 1) (hdg : decode cc pc = .ok (.ireturn, 1)) : W p l e R s m args below meth c H locs mc ms (MQ below (qI D kt W1 A v) args s mc ms A) (F0 m pc ls [.int v]) := by
  obtain ⟨hx, hb, hml, hown, hT, hr, hlocks⟩ := C0
  exact W.zret (v := v) hx hb hr (by rcases hv with rfl | rfl <;> rfl) (fun t ht hW => ⟨⟨v, (), rfl, rfl, by rw [ht]; exact hP, va_K.moved hW.alike hK, hD⟩, hS.F ht⟩) hS.2.2 hdg
theorem my_lret (C0 : cx p s m args meth c cc nL own (some .long)) (hK : va_K D vwCl kt s) (hP : va_P D vwCl W1 H) (hD : va_D A W1) (hS : va_S A s.heap H locs) {v : Int64} (hdg : decode cc pc = .ok (.lreturn, 1)) : W p l e R s m args below meth c H locs mc ms (MQ below (qL D kt W1 A v) args s mc ms A) (F0 m pc ls [.long v]) := by
  obtain ⟨hx, hb, hml, hown, hT, hr, hlocks⟩ := C0
  exact W.lret (v := v) hx hb hr (fun t ht hW => ⟨⟨v, (), rfl, rfl, by rw [ht]; exact hP, va_K.moved hW.alike hK, hD⟩, hS.F ht⟩) hS.2.2 hdg
theorem my_vret (C0 : cx p s m args meth c cc nL own none) (hK : va_K D vwCl kt s) (hP : va_P D vwCl W1 H) (hD : va_D A W1) (hS : va_S A s.heap H locs) (hdg : decode cc pc = .ok (.return_, 1)) : W p l e R s m args below meth c H locs mc ms (MQ below (qV D kt W1 A) args s mc ms A) (F0 m pc ls []) := by
  obtain ⟨hx, hb, hml, hown, hT, hr, hlocks⟩ := C0
  exact W.vret hx hb hr (fun t ht hW => ⟨⟨(), rfl, trivial, by rw [ht]; exact hP, va_K.moved hW.alike hK, hD⟩, hS.F ht⟩) hS.2.2 hdg
end MYR
/-- a call that reaches a stretch of the world: the rest stays -/
theorem sg {D : va_G} {cl : List vw_C} {A : Nat → Prop} {W' W0 W1 : va_W} {H H1 : Heap} {i k : Nat} (hP : va_P D cl W' H) (hD : va_D A W') (hC : (W'.drop i).take k = W0) (hk : ∀ q : Nat, q < H.size → ¬ va_A W0 H.size q → H1[q]? = H[q]?) (hF : ∀ q, va_A W0 H.size q → A q) (hP1 : va_P D cl W1 H1) (hD1 : va_D (va_A W0 H.size) W1) :
    va_P D cl (W'.take i ++ (W1 ++ W'.drop (i + k))) H1 ∧ va_D A (W'.take i ++ (W1 ++ W'.drop (i + k))) := by
  have at0 : ∀ (j : Nat) (q : Nat × va_E), W0[j]? = some q → j < k ∧ W'[i + j]? = some q := by
    intro j q h
    rw [← hC, List.getElem?_take] at h
    split at h
    · rename_i hj
      exact ⟨hj, by rw [List.getElem?_drop] at h; exact h⟩
    · cases h
  have atp : ∀ (j : Nat) (q : Nat × va_E), (W'.take i)[j]? = some q → j < i ∧ W'[j]? = some q := by
    intro j q h
    rw [List.getElem?_take] at h
    split at h
    · exact ⟨by assumption, h⟩
    · cases h
  have atq : ∀ (j : Nat) (q : Nat × va_E), (W'.drop (i + k))[j]? = some q → W'[i + k + j]? = some q := by
    intro j q h
    rw [List.getElem?_drop] at h
    exact h
  have apart : ∀ (j : Nat) (q : Nat × va_E), W'[j]? = some q → (j < i ∨ i + k ≤ j) → q.1 < H.size ∧ ¬ va_A W0 H.size q.1 := by
    intro j q hq hj
    have hl := (hP j q hq).lt
    refine ⟨hl, fun h => ?_⟩
    rcases h with ⟨j2, e, h⟩ | h
    · obtain ⟨h3, h4⟩ := at0 j2 (q.1, e) h
      have hij := hD.1 j (i + j2) q (q.1, e) hq h4 rfl
      omega
    · omega
  have hDp : va_D A (W'.take i) := ⟨fun a b x y ha hb hxy => hD.1 a b x y (atp a x ha).2 (atp b y hb).2 hxy, fun a x ha => hD.2 a x (atp a x ha).2⟩
  have hDq : va_D A (W'.drop (i + k)) := ⟨fun a b x y ha hb hxy => by have := hD.1 _ _ x y (atq a x ha) (atq b y hb) hxy; omega, fun a x ha => hD.2 _ x (atq a x ha)⟩
  refine ⟨va_P.app (fun j q hq => ?_) (va_P.app hP1 (fun j q hq => ?_)), va_D.app hDp (va_D.app (hD1.weaken (fun _ q _ h => hF q.1 h)) hDq (fun a b x y hx hy hxy => ?_)) (fun a b x y hx hy hxy => ?_)⟩
  · obtain ⟨h1, h2⟩ := atp j q hq
    obtain ⟨g1, g2⟩ := apart j q h2 (Or.inl h1)
    exact (hP j q h2).kept (hk q.1 g1 g2)
  · have h2 := atq j q hq
    obtain ⟨g1, g2⟩ := apart _ q h2 (Or.inr (by omega))
    exact (hP _ q h2).kept (hk q.1 g1 g2)
  · exact (apart _ y (atq b y hy) (Or.inr (by omega))).2 (by rw [← hxy]; exact hD1.2 a x hx)
  · obtain ⟨h1, h2⟩ := atp a x hx
    rcases List.mem_append.mp (List.mem_of_getElem? hy) with h | h
    · obtain ⟨z, hz⟩ := List.getElem?_of_mem h
      exact (apart a x h2 (Or.inl h1)).2 (by rw [hxy]; exact hD1.2 z y hz)
    · obtain ⟨z, hz⟩ := List.getElem?_of_mem h
      have := hD.1 _ _ x y h2 (atq z y hz) hxy
      omega
section MYC
variable {p : Program} {l : Launch} {e : Env} {R : Room} {s : State} {m : MethodId} {args : Array Value} {below : List Frame} {meth : Method} {c : Code} {H : Heap} {locs : List Loc} {Q : State → Prop}
variable {cc bytes : ByteArray} {nL pc maxL index mc ms : Nat} {own C : String} {rt ret : Option FieldType} {D : va_G} {kt : List (ClassId × FieldType)} {A : Nat → Prop} {W' W0 W1 Wn : va_W} {ls : Array Slot} {y : MethodName} {rm : Room} {X : State → Prop} {b : Nat} {As rest st0 : List Value} {T : u_T} {N : Nat} {fs : List Value}
/-- what a call needs beside the callee's contract -/
theorem cv_run (Qc : Array Value → State → Outcome → State → Prop) (C0 : cx p s m args meth c cc nL own rt) (hM : Met l y (wS y bytes maxL ret) rm (pC D kt X W0 H.size (.ref b :: As)) Qc 0 0 (va_A W0 H.size)) (hG : GoodIn wsL_law (wsV own index C y (wS y bytes maxL ret))) (hd : y.cls = C ∧ y.cls ≠ "java/lang/invoke/MethodHandle" ∧ y.cls ≠ "java/lang/invoke/VarHandle" ∧ (parseMethodDescriptor y.desc).map (fun d => d.parameters.length) = some As.length) (hR : rm.cells = 0 ∧ rm.slots = 0 ∧ rm.frames + 1 ≤ R.frames ∧ 8 + (maxL + 11) + rm.locals ≤ R.locals ∧ mc ≤ R.cells ∧ ms ≤ R.slots)
    (hXb : ∀ (a : Array Value) (U : State) (g : JFrame) (mk : MethodId), X U → X (U.calling g mk a)) (hXw : ∀ U : State, s.WarmedH U.vm → X U) (hK : va_K D vwCl kt s) (hP : va_P D vwCl W' H) (hD : va_D A W') {i k : Nat} (hC : (W'.drop i).take k = W0)
    (hsz : ls.size = nL) (hst : st0 = As.reverse ++ .ref b :: rest) (hW : (rest.map fun v => v.category).sum ≤ 8) (hdg : decode cc pc = .ok (.invokevirtual index, 3)) {ci q0 : Nat} (hrc : W'[q0]? = some (b, .inr (ci, fs))) (hci : vwCl[ci]? = some (C, T, N)) :
    va_Run p l e R s m args below meth c H locs mc ms 0 0 (F0 m pc ls st0) rest (Qc (Value.ref b :: As).toArray) (va_A W0 H.size) := by
  obtain ⟨hx, hb, hml, hown, hT, hr, hlocks⟩ := C0
  have hP0 : va_P D vwCl W0 H := fun j q h => by
    rw [← hC, List.getElem?_take] at h
    split at h
    · rw [List.getElem?_drop] at h
      exact hP _ q h
    · cases h
  have hD0 : va_D (fun _ => True) W0 := by
    have at0 : ∀ (j : Nat) (q : Nat × va_E), W0[j]? = some q → W'[i + j]? = some q := by
      intro j q h
      rw [← hC, List.getElem?_take] at h
      split at h
      · rw [List.getElem?_drop] at h; exact h
      · cases h
    exact ⟨fun a b x y ha hb hxy => by have := hD.1 _ _ x y (at0 a x ha) (at0 b y hb) hxy; omega, fun _ _ _ => trivial⟩
  exact va_runV (As := As) (rest := rest) ⟨hx, hb, hml, hown, hT⟩ hM (cwV As.length hT hG rfl hR.1 hR.2.1 hd ⟨hR.2.2.1, hR.2.2.2.1⟩) ⟨fun a U g mk q => by obtain ⟨q0, q1, qP, qK, qD, qX⟩ := q; exact ⟨q0, q1, qP, va_K.moved (u := U) (U := U.calling g mk a) (Vm.Alike.refl U.vm) qK, qD, hXb a U g mk qX⟩, va_recv hK hP hci hrc, fun U hU hW => ⟨rfl, by rw [hU], by rw [hU]; exact hP0, va_K.moved hW.alike hK, hD0, hXw U hW⟩⟩ rfl rfl hsz hst (lv_room hW) hdg ⟨hR.2.2.2.2.1, hR.2.2.2.2.2⟩
theorem cv_free (hD : va_D A W') (hS : va_S A s.heap H locs) (hA : ∀ q : Nat, s.heap.size ≤ q → A q) {i k : Nat} (hC : (W'.drop i).take k = W0) : ∀ q, va_A W0 H.size q → A q := by
  intro q h
  rcases h with ⟨j, e, h⟩ | h
  · rw [← hC, List.getElem?_take] at h
    split at h
    · rw [List.getElem?_drop] at h
      exact hD.2 _ (q, e) h
    · cases h
  · exact hA q (Nat.le_trans hS.1 h)
theorem cv_i {r0 : Int32} (C0 : cx p s m args meth c cc nL own rt) (hM : Met l y (wS y bytes maxL ret) rm (pC D kt X W0 H.size (.ref b :: As)) (qI D kt W1 (va_A W0 H.size) r0) 0 0 (va_A W0 H.size)) (hG : GoodIn wsL_law (wsV own index C y (wS y bytes maxL ret))) (hd : y.cls = C ∧ y.cls ≠ "java/lang/invoke/MethodHandle" ∧ y.cls ≠ "java/lang/invoke/VarHandle" ∧ (parseMethodDescriptor y.desc).map (fun d => d.parameters.length) = some As.length) (hR : rm.cells = 0 ∧ rm.slots = 0 ∧ rm.frames + 1 ≤ R.frames ∧ 8 + (maxL + 11) + rm.locals ≤ R.locals ∧ mc ≤ R.cells ∧ ms ≤ R.slots)
    (hXb : ∀ (a : Array Value) (U : State) (g : JFrame) (mk : MethodId), X U → X (U.calling g mk a)) (hXw : ∀ U : State, s.WarmedH U.vm → X U) (hK : va_K D vwCl kt s) (hP : va_P D vwCl W' H) (hD : va_D A W') (hS : va_S A s.heap H locs) (hA : ∀ q : Nat, s.heap.size ≤ q → A q) (i k : Nat) (hC : (W'.drop i).take k = W0)
    (hsz : ls.size = nL) (hst : st0 = As.reverse ++ .ref b :: rest) (hW : (rest.map fun v => v.category).sum ≤ 8) (hdg : decode cc pc = .ok (.invokevirtual index, 3)) (ci q0 : Nat) (hrc : W'[q0]? = some (b, .inr (ci, fs))) (hci : vwCl[ci]? = some (C, T, N)) (hN : W'.take i ++ (W1 ++ W'.drop (i + k)) = Wn)
    (kk : ∀ (H1 : Heap) (locs1 : List Loc), va_P D vwCl Wn H1 → va_D A Wn → va_S A s.heap H1 locs1 → W p l e R s m args below meth c H1 locs1 mc ms Q (F0 m (pc + 3) ls (.int r0 :: rest))) : W p l e R s m args below meth c H locs mc ms Q (F0 m pc ls st0) := by
  have hF := cv_free hD hS hA hC
  refine va_calli (cv_run _ C0 hM hG hd hR hXb hXw hK hP hD hC hsz hst hW hdg hrc hci) hS (fun q _ h => hF q h) hF (fun r u t H1 locs ht hvm hw hB hz1 hk1 hS => ?_)
  obtain ⟨hP1, hK1, hD1⟩ := hB
  rw [ht] at hP1
  obtain ⟨h1, h2⟩ := sg hP hD hC hk1 hF hP1 hD1
  rw [hN] at h1 h2
  subst hw
  exact kk H1 _ h1 h2 hS
theorem cv_l {r0 : Int64} (C0 : cx p s m args meth c cc nL own rt) (hM : Met l y (wS y bytes maxL ret) rm (pC D kt X W0 H.size (.ref b :: As)) (qL D kt W1 (va_A W0 H.size) r0) 0 0 (va_A W0 H.size)) (hG : GoodIn wsL_law (wsV own index C y (wS y bytes maxL ret))) (hd : y.cls = C ∧ y.cls ≠ "java/lang/invoke/MethodHandle" ∧ y.cls ≠ "java/lang/invoke/VarHandle" ∧ (parseMethodDescriptor y.desc).map (fun d => d.parameters.length) = some As.length) (hR : rm.cells = 0 ∧ rm.slots = 0 ∧ rm.frames + 1 ≤ R.frames ∧ 8 + (maxL + 11) + rm.locals ≤ R.locals ∧ mc ≤ R.cells ∧ ms ≤ R.slots)
    (hXb : ∀ (a : Array Value) (U : State) (g : JFrame) (mk : MethodId), X U → X (U.calling g mk a)) (hXw : ∀ U : State, s.WarmedH U.vm → X U) (hK : va_K D vwCl kt s) (hP : va_P D vwCl W' H) (hD : va_D A W') (hS : va_S A s.heap H locs) (hA : ∀ q : Nat, s.heap.size ≤ q → A q) (i k : Nat) (hC : (W'.drop i).take k = W0)
    (hsz : ls.size = nL) (hst : st0 = As.reverse ++ .ref b :: rest) (hW : (rest.map fun v => v.category).sum ≤ 8) (hdg : decode cc pc = .ok (.invokevirtual index, 3)) (ci q0 : Nat) (hrc : W'[q0]? = some (b, .inr (ci, fs))) (hci : vwCl[ci]? = some (C, T, N)) (hN : W'.take i ++ (W1 ++ W'.drop (i + k)) = Wn)
    (kk : ∀ (H1 : Heap) (locs1 : List Loc), va_P D vwCl Wn H1 → va_D A Wn → va_S A s.heap H1 locs1 → W p l e R s m args below meth c H1 locs1 mc ms Q (F0 m (pc + 3) ls (.long r0 :: rest))) : W p l e R s m args below meth c H locs mc ms Q (F0 m pc ls st0) := by
  have hF := cv_free hD hS hA hC
  refine va_calll (cv_run _ C0 hM hG hd hR hXb hXw hK hP hD hC hsz hst hW hdg hrc hci) hS (fun q _ h => hF q h) hF (fun r u t H1 locs ht hvm hw hB hz1 hk1 hS => ?_)
  obtain ⟨hP1, hK1, hD1⟩ := hB
  rw [ht] at hP1
  obtain ⟨h1, h2⟩ := sg hP hD hC hk1 hF hP1 hD1
  rw [hN] at h1 h2
  subst hw
  exact kk H1 _ h1 h2 hS
theorem cv_v (C0 : cx p s m args meth c cc nL own rt) (hM : Met l y (wS y bytes maxL ret) rm (pC D kt X W0 H.size (.ref b :: As)) (qV D kt W1 (va_A W0 H.size)) 0 0 (va_A W0 H.size)) (hG : GoodIn wsL_law (wsV own index C y (wS y bytes maxL ret))) (hd : y.cls = C ∧ y.cls ≠ "java/lang/invoke/MethodHandle" ∧ y.cls ≠ "java/lang/invoke/VarHandle" ∧ (parseMethodDescriptor y.desc).map (fun d => d.parameters.length) = some As.length) (hR : rm.cells = 0 ∧ rm.slots = 0 ∧ rm.frames + 1 ≤ R.frames ∧ 8 + (maxL + 11) + rm.locals ≤ R.locals ∧ mc ≤ R.cells ∧ ms ≤ R.slots)
    (hXb : ∀ (a : Array Value) (U : State) (g : JFrame) (mk : MethodId), X U → X (U.calling g mk a)) (hXw : ∀ U : State, s.WarmedH U.vm → X U) (hK : va_K D vwCl kt s) (hP : va_P D vwCl W' H) (hD : va_D A W') (hS : va_S A s.heap H locs) (hA : ∀ q : Nat, s.heap.size ≤ q → A q) (i k : Nat) (hC : (W'.drop i).take k = W0)
    (hsz : ls.size = nL) (hst : st0 = As.reverse ++ .ref b :: rest) (hW : (rest.map fun v => v.category).sum ≤ 8) (hdg : decode cc pc = .ok (.invokevirtual index, 3)) (ci q0 : Nat) (hrc : W'[q0]? = some (b, .inr (ci, fs))) (hci : vwCl[ci]? = some (C, T, N)) (hN : W'.take i ++ (W1 ++ W'.drop (i + k)) = Wn)
    (kk : ∀ (H1 : Heap) (locs1 : List Loc), va_P D vwCl Wn H1 → va_D A Wn → va_S A s.heap H1 locs1 → W p l e R s m args below meth c H1 locs1 mc ms Q (F0 m (pc + 3) ls rest)) : W p l e R s m args below meth c H locs mc ms Q (F0 m pc ls st0) := by
  have hF := cv_free hD hS hA hC
  refine va_callv (cv_run _ C0 hM hG hd hR hXb hXw hK hP hD hC hsz hst hW hdg hrc hci) hS (fun q _ h => hF q h) hF (fun u t H1 locs ht hvm hw hB hz1 hk1 hS => ?_)
  obtain ⟨hP1, hK1, hD1⟩ := hB
  rw [ht] at hP1
  obtain ⟨h1, h2⟩ := sg hP hD hC hk1 hF hP1 hD1
  rw [hN] at h1 h2
  exact kk H1 _ h1 h2 hS
theorem cv_q {r0 : Option Nat} (C0 : cx p s m args meth c cc nL own rt) (hM : Met l y (wS y bytes maxL ret) rm (pC D kt X W0 H.size (.ref b :: As)) (qQ D kt W1 (va_A W0 H.size) r0) 0 0 (va_A W0 H.size)) (hG : GoodIn wsL_law (wsV own index C y (wS y bytes maxL ret))) (hd : y.cls = C ∧ y.cls ≠ "java/lang/invoke/MethodHandle" ∧ y.cls ≠ "java/lang/invoke/VarHandle" ∧ (parseMethodDescriptor y.desc).map (fun d => d.parameters.length) = some As.length) (hR : rm.cells = 0 ∧ rm.slots = 0 ∧ rm.frames + 1 ≤ R.frames ∧ 8 + (maxL + 11) + rm.locals ≤ R.locals ∧ mc ≤ R.cells ∧ ms ≤ R.slots)
    (hXb : ∀ (a : Array Value) (U : State) (g : JFrame) (mk : MethodId), X U → X (U.calling g mk a)) (hXw : ∀ U : State, s.WarmedH U.vm → X U) (hK : va_K D vwCl kt s) (hP : va_P D vwCl W' H) (hD : va_D A W') (hS : va_S A s.heap H locs) (hA : ∀ q : Nat, s.heap.size ≤ q → A q) (i k : Nat) (hC : (W'.drop i).take k = W0)
    (hsz : ls.size = nL) (hst : st0 = As.reverse ++ .ref b :: rest) (hW : (rest.map fun v => v.category).sum ≤ 8) (hdg : decode cc pc = .ok (.invokevirtual index, 3)) (ci q0 : Nat) (hrc : W'[q0]? = some (b, .inr (ci, fs))) (hci : vwCl[ci]? = some (C, T, N)) (hN : W'.take i ++ (W1 ++ W'.drop (i + k)) = Wn)
    (kk : ∀ (H1 : Heap) (locs1 : List Loc), va_P D vwCl Wn H1 → va_D A Wn → va_S A s.heap H1 locs1 → W p l e R s m args below meth c H1 locs1 mc ms Q (F0 m (pc + 3) ls (va_rf r0 :: rest))) : W p l e R s m args below meth c H locs mc ms Q (F0 m pc ls st0) := by
  have hF := cv_free hD hS hA hC
  refine va_callq (cv_run _ C0 hM hG hd hR hXb hXw hK hP hD hC hsz hst hW hdg hrc hci) hS (fun q _ h => hF q h) hF (fun r u t H1 locs ht hvm hw hB hz1 hk1 hS => ?_)
  obtain ⟨hP1, hK1, hD1⟩ := hB
  rw [ht] at hP1
  obtain ⟨h1, h2⟩ := sg hP hD hC hk1 hF hP1 hD1
  rw [hN] at h1 h2
  subst hw
  exact kk H1 _ h1 h2 hS
end MYC
/-! the pure side -/
def ix {α : Type} (i : Int32) (n : Nat) (k : Option α) : Option α := if i < 0 ∨ n ≤ i.toNatClampNeg then none else k
theorem ix_some {α : Type} {i : Int32} {n : Nat} {k : Option α} {r : α} (h : ix i n k = some r) : vp_in i n ∧ k = some r := by
  unfold ix at h
  split at h
  · cases h
  · exact ⟨by assumption, h⟩
theorem ix_ok {α : Type} {i : Int32} {n : Nat} {k : Option α} (h : vp_in i n) : ix i n k = k := if_neg h
def gd {α : Type} (c : Bool) (k : Option α) : Option α := if c = true then k else none
theorem gd_some {α : Type} {c : Bool} {k : Option α} {r : α} (h : gd c k = some r) : c = true ∧ k = some r := by
  unfold gd at h
  split at h
  · exact ⟨by assumption, h⟩
  · cases h
theorem i_t {α : Type} {c : Prop} [Decidable c] {x y z : α} (h : (if c then x else y) = z) (hc : c) : x = z := by rw [if_pos hc] at h; exact h
theorem i_e {α : Type} {c : Prop} [Decidable c] {x y z : α} (h : (if c then x else y) = z) (hc : ¬ c) : y = z := by rw [if_neg hc] at h; exact h
theorem bd {α β : Type} {x : Option α} {f : α → Option β} {r : β} (h : x.bind f = some r) : ∃ u, x = some u ∧ f u = some r := by
  cases x with
  | none => cases h
  | some u => exact ⟨u, rfl, h⟩
def loopF {α β : Type} (step : (α → Option β) → α → Option β) : Nat → α → Option β
  | 0, _ => none
  | n + 1, a => step (loopF step n) a
abbrev St : Type := (Nat → Int32) × (Nat → Nat → Int32) × (Nat → Nat → Int64)
def sI (σ : St) (k : Nat) (v : Int32) : St := (va_up σ.1 k v, σ.2)
def sA (σ : St) (k : Nat) (f : Nat → Int32) : St := (σ.1, va_up σ.2.1 k f, σ.2.2)
def sL (σ : St) (k : Nat) (f : Nat → Int64) : St := (σ.1, σ.2.1, va_up σ.2.2 k f)
section MYB
variable {p : Program} {l : Launch} {e : Env} {R : Room} {s : State} {m : MethodId} {args : Array Value} {below : List Frame} {meth : Method} {c : Code} {H : Heap} {locs : List Loc} {cells slots : Nat} {Q : State → Prop}
variable {cc : ByteArray} {pc : Nat} {ls : Array Slot} {rest : List Value}
theorem lc_ne (hexec : p.tables.exec = Jvm.exec) (hb : c.code = cc) {x y : Int64} {off : Int} {tgt : Nat} (hd1 : decode cc pc = .ok (.lcmp, 1)) (hd2 : decode cc (pc + 1) = .ok (.ifCond .ne off, 3)) (ht : ((pc + 1 : Nat) : Int) + off = (tgt : Int)) (kt : ¬ x = y → W p l e R s m args below meth c H locs cells slots Q (F0 m tgt ls rest)) (kf : x = y → W p l e R s m args below meth c H locs cells slots Q (F0 m (pc + 4) ls rest)) : W p l e R s m args below meth c H locs cells slots Q (F0 m pc ls (.long y :: .long x :: rest)) :=
  W.lcmp hexec hb hd1 (lv_if_ne hexec hb hd2 ht (fun h => kt (fun e => h ((lg_cmp_eq x y).mpr e))) (fun h => kf ((lg_cmp_eq x y).mp h)))
theorem lc_eq (hexec : p.tables.exec = Jvm.exec) (hb : c.code = cc) {x y : Int64} {off : Int} {tgt : Nat} (hd1 : decode cc pc = .ok (.lcmp, 1)) (hd2 : decode cc (pc + 1) = .ok (.ifCond .eq off, 3)) (ht : ((pc + 1 : Nat) : Int) + off = (tgt : Int)) (kt : x = y → W p l e R s m args below meth c H locs cells slots Q (F0 m tgt ls rest)) (kf : ¬ x = y → W p l e R s m args below meth c H locs cells slots Q (F0 m (pc + 4) ls rest)) : W p l e R s m args below meth c H locs cells slots Q (F0 m pc ls (.long y :: .long x :: rest)) :=
  W.lcmp hexec hb hd1 (lv_if_eq hexec hb hd2 ht (fun h => kt ((lg_cmp_eq x y).mp h)) (fun h => kf (fun e => h ((lg_cmp_eq x y).mpr e))))
theorem lc_ge (hexec : p.tables.exec = Jvm.exec) (hb : c.code = cc) {x y : Int64} {off : Int} {tgt : Nat} (hd1 : decode cc pc = .ok (.lcmp, 1)) (hd2 : decode cc (pc + 1) = .ok (.ifCond .ge off, 3)) (ht : ((pc + 1 : Nat) : Int) + off = (tgt : Int)) (kt : y ≤ x → W p l e R s m args below meth c H locs cells slots Q (F0 m tgt ls rest)) (kf : ¬ y ≤ x → W p l e R s m args below meth c H locs cells slots Q (F0 m (pc + 4) ls rest)) : W p l e R s m args below meth c H locs cells slots Q (F0 m pc ls (.long y :: .long x :: rest)) :=
  W.lcmp hexec hb hd1 (lv_if_ge hexec hb hd2 ht (fun h => kt ((lg_cmp_ge x y).mp h)) (fun h => kf (fun e => h ((lg_cmp_ge x y).mpr e))))
end MYB
