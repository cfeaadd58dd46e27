theorem my_ent2 {l : Launch} {y : MethodName} {cc : ByteArray} {maxL sz mc ms : Nat} {ret : Option FieldType} {rm : Room} {D : va_G} {kt : List (ClassId × FieldType)} {X : State → Prop} {W0 : va_W} {av : List Value} (Qf : (Nat → Prop) → Array Value → State → Outcome → State → Prop) (hy : plainName y.cls = true) (hn : (lg_sl av).length ≤ maxL)
    (body : ∀ (p : Program) (e : Env) (s : State) (m : MethodId) (below : List Frame) (meth : Method) (c : Code) (A : Nat → Prop), s.heap.size = sz → va_A W0 s.heap.size = A → (y.name = meth.name) → cx p s m av.toArray meth c cc maxL y.cls ret → va_K D vwCl kt s → X s → va_P D vwCl W0 s.heap → va_D A W0 → (∀ q : Nat, s.heap.size ≤ q → A q) → va_S A s.heap s.heap [] → ∀ ls : Array Slot, lv_has ls maxL (lv_args 0 av) → W p l e rm s m av.toArray below meth c s.heap [] 0 0 (MQ below (Qf A) av.toArray s mc ms A) (F0 m 0 ls [])) :
    Met l y (wS y cc maxL ret) rm (pC D kt X W0 sz av) (Qf (va_A W0 sz)) mc ms (va_A W0 sz) := by
  refine Met.ofW (cc := cc) (maxL := maxL) (ret := ret) hy rfl ?_
  intro p e s m args below meth c s₁ B hml hv
  obtain ⟨rfl, hsz, hP, hK, hD0, hX⟩ := hv
  have hts := atoms_spec (ws := wS y cc maxL ret) B.pre
  have hown : s.vm.findClass y.cls = some m.cls := findClass_of_methodNamed B.named
  subst hsz
  have hD := hD0.self (sz := s.heap.size)
  have hl := lv_entry av (n := maxL) hn
  rw [lg_entry_eq]
  exact body p e s m below meth c _ rfl rfl (name_of_methodNamed B.named B.method).1.symm ⟨B.exec, B.bytes, hml, hown, fun w h => hts w (List.mem_cons_of_mem _ h), B.returns, B.notSynchronized⟩ hK hX hP hD (fun q h => Or.inr h) va_S.rf _ hl
theorem my_qret {p : Program} {l : Launch} {e : Env} {R : Room} {s : State} {m : MethodId} {args : Array Value} {below : List Frame} {meth : Method} {c : Code} {H : Heap} {locs : List Loc} {cc : ByteArray} {nL pc mc ms : Nat} {own cn : String} {D : va_G} {kt : List (ClassId × FieldType)} {A : Nat → Prop} {W1 : va_W} {ls : Array Slot} {r : Option Nat} (C0 : cx p s m args meth c cc nL own (some (.object cn))) (hK : va_K D vwCl kt s) (hP : va_P D vwCl W1 H) (hD : va_D A W1) (hS : va_S A s.heap H locs) (hdg : decode cc pc = .ok (.areturn, 1)) : W p l e R s m args below meth c H locs mc ms (MQ below (qQ D kt W1 A r) args s mc ms A) (F0 m pc ls [va_rf r]) := by
  obtain ⟨hx, hb, hml, hown, hT, hr, hlocks⟩ := C0
  exact W.aret (v := va_rf r) hx hb hr (Or.inl ⟨_, rfl⟩) (by cases r with | none => exact Or.inl rfl | some a => exact Or.inr ⟨a, rfl⟩) (fun t ht hW => ⟨⟨r, (), rfl, rfl, by rw [ht]; exact hP, va_K.moved hW.alike hK, hD⟩, hS.F ht⟩) hS.2.2 hdg
def set_lo : Nat → Int32 := fun j => if j < 3 then 1 else 0
def set_hi : Nat → Int32 := fun j => if j = 0 then 100 else if j = 1 then 5 else if j = 2 then 20 else if j = 3 then 100 else if j = 7 then 1 else 2
/-- the two static rows that set() reads -/
def xS (t1 t2 : Nat) (A : Nat → Prop) (U : State) : Prop := xC U ∧ va_Z "OutsideAsks" "LEAST_SETTINGS" "[I" (.ref t1) A U U.heap ∧ va_T .int t1 8 (fun j => .int (set_lo j)) A U U.heap ∧ va_Z "OutsideAsks" "GREATEST_SETTINGS" "[I" (.ref t2) A U U.heap ∧ va_T .int t2 8 (fun j => .int (set_hi j)) A U U.heap
set_option maxRecDepth 100000 in
theorem tC_answers {cI cJ cZ : ClassId} {ad : Nat → Nat} {σ : St} {x_rows : Nat → Int32} {x_causes : Nat → Int32} {x_values : Nat → Int64} {x_size : Int32} (e_rows : σ.2.1 18 = x_rows) (e_causes : σ.2.1 19 = x_causes) (e_values : σ.2.2 5 = x_values) (e_size : σ.1 10 = x_size) : ((vX7 cI cJ cZ ad σ).drop 30).take 4 = vX2 cI cJ cZ (ad 30) (ad 31) (ad 32) (ad 33) x_rows x_causes x_values x_size := by
  subst e_rows e_causes e_values e_size; rfl
set_option maxRecDepth 100000 in
theorem tN_answers_rows_causes_values_size {cI cJ cZ : ClassId} {ad : Nat → Nat} {σ : St}  {u_rows : Nat → Int32} {u_causes : Nat → Int32} {u_values : Nat → Int64} {u_size : Int32}  : (vX7 cI cJ cZ ad σ).take 30 ++ ((vX2 cI cJ cZ (ad 30) (ad 31) (ad 32) (ad 33) u_rows u_causes u_values u_size) ++ (vX7 cI cJ cZ ad σ).drop (30 + 4)) = vX7 cI cJ cZ ad (sI (sL (sA (sA σ 18 u_rows) 19 u_causes) 5 u_values) 10 u_size) := by
  rfl
set_option maxRecDepth 100000 in
theorem tN_answers_ {cI cJ cZ : ClassId} {ad : Nat → Nat} {σ : St} {x_rows : Nat → Int32} {x_causes : Nat → Int32} {x_values : Nat → Int64} {x_size : Int32}  (e_rows : σ.2.1 18 = x_rows) (e_causes : σ.2.1 19 = x_causes) (e_values : σ.2.2 5 = x_values) (e_size : σ.1 10 = x_size) : (vX7 cI cJ cZ ad σ).take 30 ++ ((vX2 cI cJ cZ (ad 30) (ad 31) (ad 32) (ad 33) x_rows x_causes x_values x_size) ++ (vX7 cI cJ cZ ad σ).drop (30 + 4)) = vX7 cI cJ cZ ad (σ) := by
  subst e_rows e_causes e_values e_size; rfl
set_option maxRecDepth 100000 in
theorem tC_asks {cI cJ cZ : ClassId} {ad : Nat → Nat} {σ : St} {x_rows : Nat → Int32} {x_causes : Nat → Int32} {x_values : Nat → Int64} {x_size : Int32} (e_rows : σ.2.1 16 = x_rows) (e_causes : σ.2.1 17 = x_causes) (e_values : σ.2.2 4 = x_values) (e_size : σ.1 9 = x_size) : ((vX7 cI cJ cZ ad σ).drop 26).take 4 = vX2 cI cJ cZ (ad 26) (ad 27) (ad 28) (ad 29) x_rows x_causes x_values x_size := by
  subst e_rows e_causes e_values e_size; rfl
set_option maxRecDepth 100000 in
theorem tN_asks_rows_causes_values_size {cI cJ cZ : ClassId} {ad : Nat → Nat} {σ : St}  {u_rows : Nat → Int32} {u_causes : Nat → Int32} {u_values : Nat → Int64} {u_size : Int32}  : (vX7 cI cJ cZ ad σ).take 26 ++ ((vX2 cI cJ cZ (ad 26) (ad 27) (ad 28) (ad 29) u_rows u_causes u_values u_size) ++ (vX7 cI cJ cZ ad σ).drop (26 + 4)) = vX7 cI cJ cZ ad (sI (sL (sA (sA σ 16 u_rows) 17 u_causes) 4 u_values) 9 u_size) := by
  rfl
set_option maxRecDepth 100000 in
theorem tN_asks_ {cI cJ cZ : ClassId} {ad : Nat → Nat} {σ : St} {x_rows : Nat → Int32} {x_causes : Nat → Int32} {x_values : Nat → Int64} {x_size : Int32}  (e_rows : σ.2.1 16 = x_rows) (e_causes : σ.2.1 17 = x_causes) (e_values : σ.2.2 4 = x_values) (e_size : σ.1 9 = x_size) : (vX7 cI cJ cZ ad σ).take 26 ++ ((vX2 cI cJ cZ (ad 26) (ad 27) (ad 28) (ad 29) x_rows x_causes x_values x_size) ++ (vX7 cI cJ cZ ad σ).drop (26 + 4)) = vX7 cI cJ cZ ad (σ) := by
  subst e_rows e_causes e_values e_size; rfl
set_option maxRecDepth 100000 in
theorem tC_items {cI cJ cZ : ClassId} {ad : Nat → Nat} {σ : St} {x_keys : Nat → Int64} {x_values : Nat → Int64} {x_marks : Nat → Int32} {x_dues : Nat → Int32} (e_keys : σ.2.2 0 = x_keys) (e_values : σ.2.2 1 = x_values) (e_marks : σ.2.1 1 = x_marks) (e_dues : σ.2.1 2 = x_dues) : ((vX7 cI cJ cZ ad σ).drop 2).take 5 = vX0 cI cJ cZ (ad 2) (ad 3) (ad 4) (ad 5) (ad 6) x_keys x_values x_marks x_dues := by
  subst e_keys e_values e_marks e_dues; rfl
set_option maxRecDepth 100000 in
theorem tN_items_dues {cI cJ cZ : ClassId} {ad : Nat → Nat} {σ : St} {x_keys : Nat → Int64} {x_values : Nat → Int64} {x_marks : Nat → Int32} {u_dues : Nat → Int32} (e_keys : σ.2.2 0 = x_keys) (e_values : σ.2.2 1 = x_values) (e_marks : σ.2.1 1 = x_marks) : (vX7 cI cJ cZ ad σ).take 2 ++ ((vX0 cI cJ cZ (ad 2) (ad 3) (ad 4) (ad 5) (ad 6) x_keys x_values x_marks u_dues) ++ (vX7 cI cJ cZ ad σ).drop (2 + 5)) = vX7 cI cJ cZ ad (sA σ 2 u_dues) := by
  subst e_keys e_values e_marks; rfl
set_option maxRecDepth 100000 in
theorem tN_items_keys_values {cI cJ cZ : ClassId} {ad : Nat → Nat} {σ : St} {x_marks : Nat → Int32} {x_dues : Nat → Int32} {u_keys : Nat → Int64} {u_values : Nat → Int64} (e_marks : σ.2.1 1 = x_marks) (e_dues : σ.2.1 2 = x_dues) : (vX7 cI cJ cZ ad σ).take 2 ++ ((vX0 cI cJ cZ (ad 2) (ad 3) (ad 4) (ad 5) (ad 6) u_keys u_values x_marks x_dues) ++ (vX7 cI cJ cZ ad σ).drop (2 + 5)) = vX7 cI cJ cZ ad (sL (sL σ 0 u_keys) 1 u_values) := by
  subst e_marks e_dues; rfl
set_option maxRecDepth 100000 in
theorem tN_items_marks {cI cJ cZ : ClassId} {ad : Nat → Nat} {σ : St} {x_keys : Nat → Int64} {x_values : Nat → Int64} {x_dues : Nat → Int32} {u_marks : Nat → Int32} (e_keys : σ.2.2 0 = x_keys) (e_values : σ.2.2 1 = x_values) (e_dues : σ.2.1 2 = x_dues) : (vX7 cI cJ cZ ad σ).take 2 ++ ((vX0 cI cJ cZ (ad 2) (ad 3) (ad 4) (ad 5) (ad 6) x_keys x_values u_marks x_dues) ++ (vX7 cI cJ cZ ad σ).drop (2 + 5)) = vX7 cI cJ cZ ad (sA σ 1 u_marks) := by
  subst e_keys e_values e_dues; rfl
set_option maxRecDepth 100000 in
theorem tN_items_ {cI cJ cZ : ClassId} {ad : Nat → Nat} {σ : St} {x_keys : Nat → Int64} {x_values : Nat → Int64} {x_marks : Nat → Int32} {x_dues : Nat → Int32}  (e_keys : σ.2.2 0 = x_keys) (e_values : σ.2.2 1 = x_values) (e_marks : σ.2.1 1 = x_marks) (e_dues : σ.2.1 2 = x_dues) : (vX7 cI cJ cZ ad σ).take 2 ++ ((vX0 cI cJ cZ (ad 2) (ad 3) (ad 4) (ad 5) (ad 6) x_keys x_values x_marks x_dues) ++ (vX7 cI cJ cZ ad σ).drop (2 + 5)) = vX7 cI cJ cZ ad (σ) := by
  subst e_keys e_values e_marks e_dues; rfl
set_option maxRecDepth 100000 in
theorem tC_keptAnswers {cI cJ cZ : ClassId} {ad : Nat → Nat} {σ : St} {x_keys : Nat → Int64} {x_values : Nat → Int64} {x_ends : Nat → Int32} {x_size : Int32} (e_keys : σ.2.2 8 = x_keys) (e_values : σ.2.2 9 = x_values) (e_ends : σ.2.1 21 = x_ends) (e_size : σ.1 11 = x_size) : ((vX7 cI cJ cZ ad σ).drop 38).take 4 = vX1 cI cJ cZ (ad 38) (ad 39) (ad 40) (ad 41) x_keys x_values x_ends x_size := by
  subst e_keys e_values e_ends e_size; rfl
set_option maxRecDepth 100000 in
theorem tN_keptAnswers_keys_values_ends_size {cI cJ cZ : ClassId} {ad : Nat → Nat} {σ : St}  {u_keys : Nat → Int64} {u_values : Nat → Int64} {u_ends : Nat → Int32} {u_size : Int32}  : (vX7 cI cJ cZ ad σ).take 38 ++ ((vX1 cI cJ cZ (ad 38) (ad 39) (ad 40) (ad 41) u_keys u_values u_ends u_size) ++ (vX7 cI cJ cZ ad σ).drop (38 + 4)) = vX7 cI cJ cZ ad (sI (sA (sL (sL σ 8 u_keys) 9 u_values) 21 u_ends) 11 u_size) := by
  rfl
set_option maxRecDepth 100000 in
theorem tN_keptAnswers_size {cI cJ cZ : ClassId} {ad : Nat → Nat} {σ : St} {x_keys : Nat → Int64} {x_values : Nat → Int64} {x_ends : Nat → Int32} {u_size : Int32} (e_keys : σ.2.2 8 = x_keys) (e_values : σ.2.2 9 = x_values) (e_ends : σ.2.1 21 = x_ends) : (vX7 cI cJ cZ ad σ).take 38 ++ ((vX1 cI cJ cZ (ad 38) (ad 39) (ad 40) (ad 41) x_keys x_values x_ends u_size) ++ (vX7 cI cJ cZ ad σ).drop (38 + 4)) = vX7 cI cJ cZ ad (sI σ 11 u_size) := by
  subst e_keys e_values e_ends; rfl
set_option maxRecDepth 100000 in
theorem tN_keptAnswers_ {cI cJ cZ : ClassId} {ad : Nat → Nat} {σ : St} {x_keys : Nat → Int64} {x_values : Nat → Int64} {x_ends : Nat → Int32} {x_size : Int32}  (e_keys : σ.2.2 8 = x_keys) (e_values : σ.2.2 9 = x_values) (e_ends : σ.2.1 21 = x_ends) (e_size : σ.1 11 = x_size) : (vX7 cI cJ cZ ad σ).take 38 ++ ((vX1 cI cJ cZ (ad 38) (ad 39) (ad 40) (ad 41) x_keys x_values x_ends x_size) ++ (vX7 cI cJ cZ ad σ).drop (38 + 4)) = vX7 cI cJ cZ ad (σ) := by
  subst e_keys e_values e_ends e_size; rfl
set_option maxRecDepth 100000 in
theorem tC_live_saved {cI cJ cZ : ClassId} {ad : Nat → Nat} {σ : St} {x_states : Nat → Int32} {x_results : Nat → Int32} {x_tries : Nat → Int32} {x_settledValues : Nat → Int64} {x_items : Int32} {x_outs : Int32} {x_waiting : Int32} {x_settled : Int32} {y_states : Nat → Int32} {y_results : Nat → Int32} {y_tries : Nat → Int32} {y_settledValues : Nat → Int64} {y_items : Int32} {y_outs : Int32} {y_waiting : Int32} {y_settled : Int32} (ex_states : σ.2.1 3 = x_states) (ex_results : σ.2.1 4 = x_results) (ex_tries : σ.2.1 5 = x_tries) (ex_settledValues : σ.2.2 2 = x_settledValues) (ex_items : σ.1 2 = x_items) (ex_outs : σ.1 3 = x_outs) (ex_waiting : σ.1 16 = x_waiting) (ex_settled : σ.1 17 = x_settled) (ey_states : σ.2.1 7 = y_states) (ey_results : σ.2.1 8 = y_results) (ey_tries : σ.2.1 9 = y_tries) (ey_settledValues : σ.2.2 3 = y_settledValues) (ey_items : σ.1 4 = y_items) (ey_outs : σ.1 5 = y_outs) (ey_waiting : σ.1 18 = y_waiting) (ey_settled : σ.1 19 = y_settled) : ((vX7 cI cJ cZ ad σ).drop 7).take 10 = (vX4 cI cJ cZ (ad 7) (ad 8) (ad 9) (ad 10) (ad 11) x_states x_results x_tries x_settledValues x_items x_outs x_waiting x_settled) ++ (vX4 cI cJ cZ (ad 12) (ad 13) (ad 14) (ad 15) (ad 16) y_states y_results y_tries y_settledValues y_items y_outs y_waiting y_settled) := by
  subst ex_states ex_results ex_tries ex_settledValues ex_items ex_outs ex_waiting ex_settled ey_states ey_results ey_tries ey_settledValues ey_items ey_outs ey_waiting ey_settled; rfl
set_option maxRecDepth 100000 in
theorem tN_live_saved_live_states_results_tries_settledValues_outs_waiting_settled {cI cJ cZ : ClassId} {ad : Nat → Nat} {σ : St} {x_items : Int32} {y_states : Nat → Int32} {y_results : Nat → Int32} {y_tries : Nat → Int32} {y_settledValues : Nat → Int64} {y_items : Int32} {y_outs : Int32} {y_waiting : Int32} {y_settled : Int32} {u_states : Nat → Int32} {u_results : Nat → Int32} {u_tries : Nat → Int32} {u_settledValues : Nat → Int64} {u_outs : Int32} {u_waiting : Int32} {u_settled : Int32} (ex_items : σ.1 2 = x_items) (ey_states : σ.2.1 7 = y_states) (ey_results : σ.2.1 8 = y_results) (ey_tries : σ.2.1 9 = y_tries) (ey_settledValues : σ.2.2 3 = y_settledValues) (ey_items : σ.1 4 = y_items) (ey_outs : σ.1 5 = y_outs) (ey_waiting : σ.1 18 = y_waiting) (ey_settled : σ.1 19 = y_settled) : (vX7 cI cJ cZ ad σ).take 7 ++ (((vX4 cI cJ cZ (ad 7) (ad 8) (ad 9) (ad 10) (ad 11) u_states u_results u_tries u_settledValues x_items u_outs u_waiting u_settled) ++ (vX4 cI cJ cZ (ad 12) (ad 13) (ad 14) (ad 15) (ad 16) y_states y_results y_tries y_settledValues y_items y_outs y_waiting y_settled)) ++ (vX7 cI cJ cZ ad σ).drop (7 + 10)) = vX7 cI cJ cZ ad (sI (sI (sI (sL (sA (sA (sA σ 3 u_states) 4 u_results) 5 u_tries) 2 u_settledValues) 3 u_outs) 16 u_waiting) 17 u_settled) := by
  subst ex_items ey_states ey_results ey_tries ey_settledValues ey_items ey_outs ey_waiting ey_settled; rfl
set_option maxRecDepth 100000 in
theorem tC_live {cI cJ cZ : ClassId} {ad : Nat → Nat} {σ : St} {x_states : Nat → Int32} {x_results : Nat → Int32} {x_tries : Nat → Int32} {x_settledValues : Nat → Int64} {x_items : Int32} {x_outs : Int32} {x_waiting : Int32} {x_settled : Int32} (e_states : σ.2.1 3 = x_states) (e_results : σ.2.1 4 = x_results) (e_tries : σ.2.1 5 = x_tries) (e_settledValues : σ.2.2 2 = x_settledValues) (e_items : σ.1 2 = x_items) (e_outs : σ.1 3 = x_outs) (e_waiting : σ.1 16 = x_waiting) (e_settled : σ.1 17 = x_settled) : ((vX7 cI cJ cZ ad σ).drop 7).take 5 = vX4 cI cJ cZ (ad 7) (ad 8) (ad 9) (ad 10) (ad 11) x_states x_results x_tries x_settledValues x_items x_outs x_waiting x_settled := by
  subst e_states e_results e_tries e_settledValues e_items e_outs e_waiting e_settled; rfl
set_option maxRecDepth 100000 in
theorem tN_live_states_outs_settled {cI cJ cZ : ClassId} {ad : Nat → Nat} {σ : St} {x_results : Nat → Int32} {x_tries : Nat → Int32} {x_settledValues : Nat → Int64} {x_items : Int32} {x_waiting : Int32} {u_states : Nat → Int32} {u_outs : Int32} {u_settled : Int32} (e_results : σ.2.1 4 = x_results) (e_tries : σ.2.1 5 = x_tries) (e_settledValues : σ.2.2 2 = x_settledValues) (e_items : σ.1 2 = x_items) (e_waiting : σ.1 16 = x_waiting) : (vX7 cI cJ cZ ad σ).take 7 ++ ((vX4 cI cJ cZ (ad 7) (ad 8) (ad 9) (ad 10) (ad 11) u_states x_results x_tries x_settledValues x_items u_outs x_waiting u_settled) ++ (vX7 cI cJ cZ ad σ).drop (7 + 5)) = vX7 cI cJ cZ ad (sI (sI (sA σ 3 u_states) 3 u_outs) 17 u_settled) := by
  subst e_results e_tries e_settledValues e_items e_waiting; rfl
set_option maxRecDepth 100000 in
theorem tN_live_states_results_items_settled {cI cJ cZ : ClassId} {ad : Nat → Nat} {σ : St} {x_tries : Nat → Int32} {x_settledValues : Nat → Int64} {x_outs : Int32} {x_waiting : Int32} {u_states : Nat → Int32} {u_results : Nat → Int32} {u_items : Int32} {u_settled : Int32} (e_tries : σ.2.1 5 = x_tries) (e_settledValues : σ.2.2 2 = x_settledValues) (e_outs : σ.1 3 = x_outs) (e_waiting : σ.1 16 = x_waiting) : (vX7 cI cJ cZ ad σ).take 7 ++ ((vX4 cI cJ cZ (ad 7) (ad 8) (ad 9) (ad 10) (ad 11) u_states u_results x_tries x_settledValues u_items x_outs x_waiting u_settled) ++ (vX7 cI cJ cZ ad σ).drop (7 + 5)) = vX7 cI cJ cZ ad (sI (sI (sA (sA σ 3 u_states) 4 u_results) 2 u_items) 17 u_settled) := by
  subst e_tries e_settledValues e_outs e_waiting; rfl
set_option maxRecDepth 100000 in
theorem tN_live_states_results_items_waiting {cI cJ cZ : ClassId} {ad : Nat → Nat} {σ : St} {x_tries : Nat → Int32} {x_settledValues : Nat → Int64} {x_outs : Int32} {x_settled : Int32} {u_states : Nat → Int32} {u_results : Nat → Int32} {u_items : Int32} {u_waiting : Int32} (e_tries : σ.2.1 5 = x_tries) (e_settledValues : σ.2.2 2 = x_settledValues) (e_outs : σ.1 3 = x_outs) (e_settled : σ.1 17 = x_settled) : (vX7 cI cJ cZ ad σ).take 7 ++ ((vX4 cI cJ cZ (ad 7) (ad 8) (ad 9) (ad 10) (ad 11) u_states u_results x_tries x_settledValues u_items x_outs u_waiting x_settled) ++ (vX7 cI cJ cZ ad σ).drop (7 + 5)) = vX7 cI cJ cZ ad (sI (sI (sA (sA σ 3 u_states) 4 u_results) 2 u_items) 16 u_waiting) := by
  subst e_tries e_settledValues e_outs e_settled; rfl
set_option maxRecDepth 100000 in
theorem tN_live_states_results_settledValues_waiting_settled {cI cJ cZ : ClassId} {ad : Nat → Nat} {σ : St} {x_tries : Nat → Int32} {x_items : Int32} {x_outs : Int32} {u_states : Nat → Int32} {u_results : Nat → Int32} {u_settledValues : Nat → Int64} {u_waiting : Int32} {u_settled : Int32} (e_tries : σ.2.1 5 = x_tries) (e_items : σ.1 2 = x_items) (e_outs : σ.1 3 = x_outs) : (vX7 cI cJ cZ ad σ).take 7 ++ ((vX4 cI cJ cZ (ad 7) (ad 8) (ad 9) (ad 10) (ad 11) u_states u_results x_tries u_settledValues x_items x_outs u_waiting u_settled) ++ (vX7 cI cJ cZ ad σ).drop (7 + 5)) = vX7 cI cJ cZ ad (sI (sI (sL (sA (sA σ 3 u_states) 4 u_results) 2 u_settledValues) 16 u_waiting) 17 u_settled) := by
  subst e_tries e_items e_outs; rfl
set_option maxRecDepth 100000 in
theorem tN_live_states_tries_waiting {cI cJ cZ : ClassId} {ad : Nat → Nat} {σ : St} {x_results : Nat → Int32} {x_settledValues : Nat → Int64} {x_items : Int32} {x_outs : Int32} {x_settled : Int32} {u_states : Nat → Int32} {u_tries : Nat → Int32} {u_waiting : Int32} (e_results : σ.2.1 4 = x_results) (e_settledValues : σ.2.2 2 = x_settledValues) (e_items : σ.1 2 = x_items) (e_outs : σ.1 3 = x_outs) (e_settled : σ.1 17 = x_settled) : (vX7 cI cJ cZ ad σ).take 7 ++ ((vX4 cI cJ cZ (ad 7) (ad 8) (ad 9) (ad 10) (ad 11) u_states x_results u_tries x_settledValues x_items x_outs u_waiting x_settled) ++ (vX7 cI cJ cZ ad σ).drop (7 + 5)) = vX7 cI cJ cZ ad (sI (sA (sA σ 3 u_states) 5 u_tries) 16 u_waiting) := by
  subst e_results e_settledValues e_items e_outs e_settled; rfl
set_option maxRecDepth 100000 in
theorem tN_live_tries {cI cJ cZ : ClassId} {ad : Nat → Nat} {σ : St} {x_states : Nat → Int32} {x_results : Nat → Int32} {x_settledValues : Nat → Int64} {x_items : Int32} {x_outs : Int32} {x_waiting : Int32} {x_settled : Int32} {u_tries : Nat → Int32} (e_states : σ.2.1 3 = x_states) (e_results : σ.2.1 4 = x_results) (e_settledValues : σ.2.2 2 = x_settledValues) (e_items : σ.1 2 = x_items) (e_outs : σ.1 3 = x_outs) (e_waiting : σ.1 16 = x_waiting) (e_settled : σ.1 17 = x_settled) : (vX7 cI cJ cZ ad σ).take 7 ++ ((vX4 cI cJ cZ (ad 7) (ad 8) (ad 9) (ad 10) (ad 11) x_states x_results u_tries x_settledValues x_items x_outs x_waiting x_settled) ++ (vX7 cI cJ cZ ad σ).drop (7 + 5)) = vX7 cI cJ cZ ad (sA σ 5 u_tries) := by
  subst e_states e_results e_settledValues e_items e_outs e_waiting e_settled; rfl
set_option maxRecDepth 100000 in
theorem tN_live_ {cI cJ cZ : ClassId} {ad : Nat → Nat} {σ : St} {x_states : Nat → Int32} {x_results : Nat → Int32} {x_tries : Nat → Int32} {x_settledValues : Nat → Int64} {x_items : Int32} {x_outs : Int32} {x_waiting : Int32} {x_settled : Int32}  (e_states : σ.2.1 3 = x_states) (e_results : σ.2.1 4 = x_results) (e_tries : σ.2.1 5 = x_tries) (e_settledValues : σ.2.2 2 = x_settledValues) (e_items : σ.1 2 = x_items) (e_outs : σ.1 3 = x_outs) (e_waiting : σ.1 16 = x_waiting) (e_settled : σ.1 17 = x_settled) : (vX7 cI cJ cZ ad σ).take 7 ++ ((vX4 cI cJ cZ (ad 7) (ad 8) (ad 9) (ad 10) (ad 11) x_states x_results x_tries x_settledValues x_items x_outs x_waiting x_settled) ++ (vX7 cI cJ cZ ad σ).drop (7 + 5)) = vX7 cI cJ cZ ad (σ) := by
  subst e_states e_results e_tries e_settledValues e_items e_outs e_waiting e_settled; rfl
set_option maxRecDepth 100000 in
theorem tC_outLog {cI cJ cZ : ClassId} {ad : Nat → Nat} {σ : St} {x_items : Nat → Int32} {x_ticks : Nat → Int32} (e_items : σ.2.1 11 = x_items) (e_ticks : σ.2.1 12 = x_ticks) : ((vX7 cI cJ cZ ad σ).drop 17).take 3 = vX3 cI cJ cZ (ad 17) (ad 18) (ad 19) x_items x_ticks := by
  subst e_items e_ticks; rfl
set_option maxRecDepth 100000 in
theorem tN_outLog_items_ticks {cI cJ cZ : ClassId} {ad : Nat → Nat} {σ : St}  {u_items : Nat → Int32} {u_ticks : Nat → Int32}  : (vX7 cI cJ cZ ad σ).take 17 ++ ((vX3 cI cJ cZ (ad 17) (ad 18) (ad 19) u_items u_ticks) ++ (vX7 cI cJ cZ ad σ).drop (17 + 3)) = vX7 cI cJ cZ ad (sA (sA σ 11 u_items) 12 u_ticks) := by
  rfl
set_option maxRecDepth 100000 in
theorem tN_outLog_ {cI cJ cZ : ClassId} {ad : Nat → Nat} {σ : St} {x_items : Nat → Int32} {x_ticks : Nat → Int32}  (e_items : σ.2.1 11 = x_items) (e_ticks : σ.2.1 12 = x_ticks) : (vX7 cI cJ cZ ad σ).take 17 ++ ((vX3 cI cJ cZ (ad 17) (ad 18) (ad 19) x_items x_ticks) ++ (vX7 cI cJ cZ ad σ).drop (17 + 3)) = vX7 cI cJ cZ ad (σ) := by
  subst e_items e_ticks; rfl
set_option maxRecDepth 100000 in
theorem tC_overdue {cI cJ cZ : ClassId} {ad : Nat → Nat} {σ : St} {x_rows : Nat → Int32} {x_size : Int32} (e_rows : σ.2.1 15 = x_rows) (e_size : σ.1 8 = x_size) : ((vX7 cI cJ cZ ad σ).drop 24).take 2 = vX5 cI cJ cZ (ad 24) (ad 25) x_rows x_size := by
  subst e_rows e_size; rfl
set_option maxRecDepth 100000 in
theorem tN_overdue_rows_size {cI cJ cZ : ClassId} {ad : Nat → Nat} {σ : St}  {u_rows : Nat → Int32} {u_size : Int32}  : (vX7 cI cJ cZ ad σ).take 24 ++ ((vX5 cI cJ cZ (ad 24) (ad 25) u_rows u_size) ++ (vX7 cI cJ cZ ad σ).drop (24 + 2)) = vX7 cI cJ cZ ad (sI (sA σ 15 u_rows) 8 u_size) := by
  rfl
set_option maxRecDepth 100000 in
theorem tN_overdue_size {cI cJ cZ : ClassId} {ad : Nat → Nat} {σ : St} {x_rows : Nat → Int32} {u_size : Int32} (e_rows : σ.2.1 15 = x_rows) : (vX7 cI cJ cZ ad σ).take 24 ++ ((vX5 cI cJ cZ (ad 24) (ad 25) x_rows u_size) ++ (vX7 cI cJ cZ ad σ).drop (24 + 2)) = vX7 cI cJ cZ ad (sI σ 8 u_size) := by
  subst e_rows; rfl
set_option maxRecDepth 100000 in
theorem tN_overdue_ {cI cJ cZ : ClassId} {ad : Nat → Nat} {σ : St} {x_rows : Nat → Int32} {x_size : Int32}  (e_rows : σ.2.1 15 = x_rows) (e_size : σ.1 8 = x_size) : (vX7 cI cJ cZ ad σ).take 24 ++ ((vX5 cI cJ cZ (ad 24) (ad 25) x_rows x_size) ++ (vX7 cI cJ cZ ad σ).drop (24 + 2)) = vX7 cI cJ cZ ad (σ) := by
  subst e_rows e_size; rfl
set_option maxRecDepth 100000 in
theorem tC_queue {cI cJ cZ : ClassId} {ad : Nat → Nat} {σ : St} {x_rows : Nat → Int32} {x_size : Int32} (e_rows : σ.2.1 14 = x_rows) (e_size : σ.1 7 = x_size) : ((vX7 cI cJ cZ ad σ).drop 22).take 2 = vX5 cI cJ cZ (ad 22) (ad 23) x_rows x_size := by
  subst e_rows e_size; rfl
set_option maxRecDepth 100000 in
theorem tN_queue_rows_size {cI cJ cZ : ClassId} {ad : Nat → Nat} {σ : St}  {u_rows : Nat → Int32} {u_size : Int32}  : (vX7 cI cJ cZ ad σ).take 22 ++ ((vX5 cI cJ cZ (ad 22) (ad 23) u_rows u_size) ++ (vX7 cI cJ cZ ad σ).drop (22 + 2)) = vX7 cI cJ cZ ad (sI (sA σ 14 u_rows) 7 u_size) := by
  rfl
set_option maxRecDepth 100000 in
theorem tN_queue_size {cI cJ cZ : ClassId} {ad : Nat → Nat} {σ : St} {x_rows : Nat → Int32} {u_size : Int32} (e_rows : σ.2.1 14 = x_rows) : (vX7 cI cJ cZ ad σ).take 22 ++ ((vX5 cI cJ cZ (ad 22) (ad 23) x_rows u_size) ++ (vX7 cI cJ cZ ad σ).drop (22 + 2)) = vX7 cI cJ cZ ad (sI σ 7 u_size) := by
  subst e_rows; rfl
set_option maxRecDepth 100000 in
theorem tN_queue_ {cI cJ cZ : ClassId} {ad : Nat → Nat} {σ : St} {x_rows : Nat → Int32} {x_size : Int32}  (e_rows : σ.2.1 14 = x_rows) (e_size : σ.1 7 = x_size) : (vX7 cI cJ cZ ad σ).take 22 ++ ((vX5 cI cJ cZ (ad 22) (ad 23) x_rows x_size) ++ (vX7 cI cJ cZ ad σ).drop (22 + 2)) = vX7 cI cJ cZ ad (σ) := by
  subst e_rows e_size; rfl
set_option maxRecDepth 100000 in
theorem tN_live_saved_saved_states_results_tries_settledValues_items_outs_waiting_settled {cI cJ cZ : ClassId} {ad : Nat → Nat} {σ : St} {x_states : Nat → Int32} {x_results : Nat → Int32} {x_tries : Nat → Int32} {x_settledValues : Nat → Int64} {x_items : Int32} {x_outs : Int32} {x_waiting : Int32} {x_settled : Int32} {u_states : Nat → Int32} {u_results : Nat → Int32} {u_tries : Nat → Int32} {u_settledValues : Nat → Int64} {u_items : Int32} {u_outs : Int32} {u_waiting : Int32} {u_settled : Int32} (ex_states : σ.2.1 3 = x_states) (ex_results : σ.2.1 4 = x_results) (ex_tries : σ.2.1 5 = x_tries) (ex_settledValues : σ.2.2 2 = x_settledValues) (ex_items : σ.1 2 = x_items) (ex_outs : σ.1 3 = x_outs) (ex_waiting : σ.1 16 = x_waiting) (ex_settled : σ.1 17 = x_settled) : (vX7 cI cJ cZ ad σ).take 7 ++ (((vX4 cI cJ cZ (ad 7) (ad 8) (ad 9) (ad 10) (ad 11) x_states x_results x_tries x_settledValues x_items x_outs x_waiting x_settled) ++ (vX4 cI cJ cZ (ad 12) (ad 13) (ad 14) (ad 15) (ad 16) u_states u_results u_tries u_settledValues u_items u_outs u_waiting u_settled)) ++ (vX7 cI cJ cZ ad σ).drop (7 + 10)) = vX7 cI cJ cZ ad (sI (sI (sI (sI (sL (sA (sA (sA σ 7 u_states) 8 u_results) 9 u_tries) 3 u_settledValues) 4 u_items) 5 u_outs) 18 u_waiting) 19 u_settled) := by
  subst ex_states ex_results ex_tries ex_settledValues ex_items ex_outs ex_waiting ex_settled; rfl
set_option maxRecDepth 100000 in
theorem tC_service {cI cJ cZ : ClassId} {ad : Nat → Nat} {σ : St} {x_keys : Nat → Int64} {x_acts : Nat → Int32} {x_latestAnswers : Nat → Int64} (e_keys : σ.2.2 6 = x_keys) (e_acts : σ.2.1 20 = x_acts) (e_latestAnswers : σ.2.2 7 = x_latestAnswers) : ((vX7 cI cJ cZ ad σ).drop 34).take 4 = vX6 cI cJ cZ (ad 34) (ad 35) (ad 36) (ad 37) x_keys x_acts x_latestAnswers := by
  subst e_keys e_acts e_latestAnswers; rfl
set_option maxRecDepth 100000 in
theorem tN_service_keys_acts_latestAnswers {cI cJ cZ : ClassId} {ad : Nat → Nat} {σ : St}  {u_keys : Nat → Int64} {u_acts : Nat → Int32} {u_latestAnswers : Nat → Int64}  : (vX7 cI cJ cZ ad σ).take 34 ++ ((vX6 cI cJ cZ (ad 34) (ad 35) (ad 36) (ad 37) u_keys u_acts u_latestAnswers) ++ (vX7 cI cJ cZ ad σ).drop (34 + 4)) = vX7 cI cJ cZ ad (sL (sA (sL σ 6 u_keys) 20 u_acts) 7 u_latestAnswers) := by
  rfl
set_option maxRecDepth 100000 in
theorem tN_service_ {cI cJ cZ : ClassId} {ad : Nat → Nat} {σ : St} {x_keys : Nat → Int64} {x_acts : Nat → Int32} {x_latestAnswers : Nat → Int64}  (e_keys : σ.2.2 6 = x_keys) (e_acts : σ.2.1 20 = x_acts) (e_latestAnswers : σ.2.2 7 = x_latestAnswers) : (vX7 cI cJ cZ ad σ).take 34 ++ ((vX6 cI cJ cZ (ad 34) (ad 35) (ad 36) (ad 37) x_keys x_acts x_latestAnswers) ++ (vX7 cI cJ cZ ad σ).drop (34 + 4)) = vX7 cI cJ cZ ad (σ) := by
  subst e_keys e_acts e_latestAnswers; rfl
set_option maxRecDepth 100000 in
theorem tC_working {cI cJ cZ : ClassId} {ad : Nat → Nat} {σ : St} {x_rows : Nat → Int32} {x_size : Int32} (e_rows : σ.2.1 13 = x_rows) (e_size : σ.1 6 = x_size) : ((vX7 cI cJ cZ ad σ).drop 20).take 2 = vX5 cI cJ cZ (ad 20) (ad 21) x_rows x_size := by
  subst e_rows e_size; rfl
set_option maxRecDepth 100000 in
theorem tN_working_rows_size {cI cJ cZ : ClassId} {ad : Nat → Nat} {σ : St}  {u_rows : Nat → Int32} {u_size : Int32}  : (vX7 cI cJ cZ ad σ).take 20 ++ ((vX5 cI cJ cZ (ad 20) (ad 21) u_rows u_size) ++ (vX7 cI cJ cZ ad σ).drop (20 + 2)) = vX7 cI cJ cZ ad (sI (sA σ 13 u_rows) 6 u_size) := by
  rfl
set_option maxRecDepth 100000 in
theorem tN_working_size {cI cJ cZ : ClassId} {ad : Nat → Nat} {σ : St} {x_rows : Nat → Int32} {u_size : Int32} (e_rows : σ.2.1 13 = x_rows) : (vX7 cI cJ cZ ad σ).take 20 ++ ((vX5 cI cJ cZ (ad 20) (ad 21) x_rows u_size) ++ (vX7 cI cJ cZ ad σ).drop (20 + 2)) = vX7 cI cJ cZ ad (sI σ 6 u_size) := by
  subst e_rows; rfl
set_option maxRecDepth 100000 in
theorem tN_working_ {cI cJ cZ : ClassId} {ad : Nat → Nat} {σ : St} {x_rows : Nat → Int32} {x_size : Int32}  (e_rows : σ.2.1 13 = x_rows) (e_size : σ.1 6 = x_size) : (vX7 cI cJ cZ ad σ).take 20 ++ ((vX5 cI cJ cZ (ad 20) (ad 21) x_rows x_size) ++ (vX7 cI cJ cZ ad σ).drop (20 + 2)) = vX7 cI cJ cZ ad (σ) := by
  subst e_rows e_size; rfl
