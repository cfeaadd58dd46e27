/-! the class's constructor: what it needs of the start; the clone of a static array -/
/-- a static array of the class found under its own name, nobody writes it -/
def clT (t : Nat) (cI : ClassId) (N : Nat) (f : Nat → Int32) (A : Nat → Prop) (H : Heap) : Prop := ∃ cell : Cell, H[t]? = some cell ∧ cell.cls = cI ∧ cell.slots = (vp_cell cI (N, .inl f)).slots ∧ (∀ k, cell.vm ≠ .statics k) ∧ cell.vm ≠ .unknown ∧ ¬ A t
theorem clT_kept {t N : Nat} {cI : ClassId} {f : Nat → Int32} {A : Nat → Prop} {H H1 : Heap} (h : clT t cI N f A H) (hq : ∀ a : Nat, a < H.size → ¬ A a → H1[a]? = H[a]?) : clT t cI N f A H1 := by
  obtain ⟨cell, h1, h2, h3, h4, h5, h6⟩ := h
  exact ⟨cell, by rw [hq t (Array.getElem?_eq_some_iff.mp h1).1 h6]; exact h1, h2, h3, h4, h5, h6⟩
theorem clT_narrow {t N : Nat} {cI : ClassId} {f : Nat → Int32} {A B : Nat → Prop} {H : Heap} (h : clT t cI N f A H) (hAB : ∀ q, B q → A q) : clT t cI N f B H := by
  obtain ⟨cell, h1, h2, h3, h4, h5, h6⟩ := h
  exact ⟨cell, h1, h2, h3, h4, h5, fun z => h6 (hAB t z)⟩
section CLT
variable {p : Program} {l : Launch} {e : Env} {R : Room} {s : State} {m : MethodId} {args : Array Value} {below : List Frame} {meth : Method} {c : Code} {H : Heap} {locs : List Loc} {cells slots : Nat} {Q : State → Prop}
variable {cc : ByteArray} {pc : Nat} {ls : Array Slot} {rest : List Value} {D : va_G} {A : Nat → Prop} {cI cJ cZ : ClassId} {ws : va_W}
theorem cl_T (hexec : p.tables.exec = Jvm.exec) (hb : c.code = cc) (hml : c.maxLocals = ls.size) {own : String} {index : Nat} (hown : s.vm.findClass own = some m.cls)
    (hlink : (Cond.methodLink own index ⟨"[I", "clone", "()Ljava/lang/Object;"⟩).before args s = true) (hsame : (Cond.sameMethod "[I" "java/lang/Object" "clone" "()Ljava/lang/Object;").before args s = true)
    (hnat : (Cond.native ⟨"java/lang/Object", "clone", "()Ljava/lang/Object;"⟩).before args s = true) (hinst : (Cond.instanceMethod ⟨"java/lang/Object", "clone", "()Ljava/lang/Object;"⟩).before args s = true)
    (hsel : (Cond.selects "[I" ⟨"[I", "clone", "()Ljava/lang/Object;"⟩ ⟨"java/lang/Object", "clone", "()Ljava/lang/Object;"⟩).before args s = true) (hcl : va_Nw (.castable "[I" "java/lang/Cloneable") s)
    (hK : va_K D vwCl (kT cI cJ cZ) s) (hP : va_P D vwCl ws H) (hD : va_D A ws) (hS : va_S A s.heap H locs) (hA : ∀ q, s.heap.size ≤ q → A q) {t N : Nat} {f : Nat → Int32} (hT0 : clT t cI N f A s.heap)
    (hframes : 1 ≤ R.frames) (hlocals : (rest.map fun v => v.category).sum + 14 ≤ R.locals) (hcells : cells + 1 ≤ R.cells) (hslots : slots + N ≤ R.slots) (hdg : decode cc pc = .ok (.invokevirtual index, 3))
    (kk : ∀ (q : Nat) (H1 : Heap), va_P D vwCl (ws ++ [(q, .inl (cI, N, .inl f))]) H1 → va_D A (ws ++ [(q, .inl (cI, N, .inl f))]) → va_S A s.heap H1 locs →
      W p l e R s m args below meth c H1 locs (cells + 1) (slots + N) Q (F0 m (pc + 3) ls (.ref q :: rest))) : W p l e R s m args below meth c H locs cells slots Q (F0 m pc ls (.ref t :: rest)) := by
  obtain ⟨cell, h1, h2, h3, h4, h5, h6⟩ := hT0
  have hsz : cell.slots.size = N := by rw [h3]; exact arrV_size _ _ _
  have hnm : s.vm.findClass "[I" = some cI := va_nm_int (hK.2 0 (cI, .int) rfl).2
  obtain ⟨c0, t0', f1, f2, f3⟩ := Cond.castable_spec (va_Nw.use (A := args) rfl hcl)
  cases hnm.symm.trans f1
  have hce : ({ cls := cell.cls, slots := cell.slots } : Cell) = vp_cell cI (N, .inl f) := by rw [h2, h3]; rfl
  intro T hT X
  have hcellT : T.heap[t]? = some cell := by rw [hT, hS.2.1 t (Array.getElem?_eq_some_iff.mp h1).1 h6]; exact h1
  obtain ⟨-, kA, hkA, comp, hkind⟩ := State.isArrayOf_alike X.warmed.alike ((hK.2 0 (cI, .int) rfl).1 0 (fun _ => .null))
  obtain ⟨-, kS, hkS, compS, hkindS⟩ := (hK.2 0 (cI, .int) rfl).1 0 (fun _ => .null)
  obtain ⟨vm', X', st⟩ := X.cloneArray hexec hown hlink hsame hnat hinst hsel (a := t) (cell := cell) hcellT h4 h5 (by rw [h2]; exact hnm) f2 (by rw [h2]; exact f3)
    (fun i v hv => by
      rw [h2]
      have hk' : T.vm.classes[cI]? = some kA := hkA
      have hfit : fits .int v = true := va_fit (cA := cI) (n := N) (F := fun j => .int (f j)) (ty := .int) (fun _ _ => rfl) i v (by rw [h3] at hv; exact hv)
      simpa [State.fitsSlot, State.slotType?, hk', hkind] using hfit)
    (g := F0 m pc ls (.ref t :: rest)) rfl (by rw [hml]) rfl (by rw [hb]; exact hdg) hframes (by show 2 * 0 + _ + 14 ≤ _; omega) hcells (by rw [hsz]; exact hslots) (hloader := by rw [h2]; exact Vm.clonesLoader_of_array hkS hkindS)
  rw [hce, hsz] at X'
  generalize hH1 : H.push (vp_cell cI (N, .inl f)) = H1
  have z1 : H1.size = H.size + 1 := by rw [← hH1, Array.size_push]
  have e1 : H1[H.size]? = some (vp_cell cI (N, .inl f)) := by rw [← hH1, Array.getElem?_push_size]
  have o1 : ∀ q : Nat, q < H.size → H1[q]? = H[q]? := fun q hq => by rw [← hH1, Array.getElem?_push, if_neg (Nat.ne_of_lt hq)]
  have hk : ∀ (k : Nat) (y : Nat × va_E), ws[k]? = some y → H1[y.1]? = H[y.1]? := fun k y hy => o1 y.1 ((hP k y hy).lt)
  obtain ⟨t2, b1, b2⟩ := kk H.size H1 ((hP.kept hk).app (fun k y hy => by
      have hz : k < 1 := (List.getElem?_eq_some_iff.mp hy).1
      rw [show k = 0 by omega] at hy
      cases hy
      exact e1)) (hD.push hP rfl (hA _ hS.1)) ⟨Nat.le_trans hS.1 (by omega), fun y h1 h2 => (o1 y (Nat.lt_of_lt_of_le h1 hS.1)).trans (hS.2.1 y h1 h2), hS.2.2⟩
    ((T.setVm vm').pushCell (vp_cell cI (N, .inl f))) (by rw [← hH1, ← hT]; rfl) X'
  refine ⟨t2, st t2 ?_, b2⟩
  rw [hce, hT]
  exact b1
end CLT
def xN (U : State) : Prop := va_Nw (.methodLinkNest RX7 23 yX0_init "OutsideAsks") U ∧ va_Nw (.methodLinkNest RX7 30 yX4_init "OutsideAsks") U ∧ va_Nw (.methodLinkNest RX7 40 yX3_init "OutsideAsks") U ∧ va_Nw (.methodLinkNest RX7 47 yX5_init "OutsideAsks") U ∧ va_Nw (.methodLinkNest RX7 60 yX2_init "OutsideAsks") U ∧ va_Nw (.methodLinkNest RX7 70 yX6_init "OutsideAsks") U ∧ va_Nw (.methodLinkNest RX7 77 yX1_init "OutsideAsks") U ∧ va_Nw (.castable "[I" "java/lang/Cloneable") U
theorem xN_b {U U' : State} (e : U.vm = U'.vm) (h : xN U) : xN U' := ⟨va_Nw.same rfl e h.1, va_Nw.same rfl e h.2.1, va_Nw.same rfl e h.2.2.1, va_Nw.same rfl e h.2.2.2.1, va_Nw.same rfl e h.2.2.2.2.1, va_Nw.same rfl e h.2.2.2.2.2.1, va_Nw.same rfl e h.2.2.2.2.2.2.1, va_Nw.same rfl e h.2.2.2.2.2.2.2⟩
theorem xN_w {s U : State} (hW : s.WarmedH U.vm) (h : xN s) : xN U := ⟨va_Nw.warmM hW h.1, va_Nw.warmM hW h.2.1, va_Nw.warmM hW h.2.2.1, va_Nw.warmM hW h.2.2.2.1, va_Nw.warmM hW h.2.2.2.2.1, va_Nw.warmM hW h.2.2.2.2.2.1, va_Nw.warmM hW h.2.2.2.2.2.2.1, va_Nw.warmC hW h.2.2.2.2.2.2.2⟩
/-- what the class's constructor needs of the start -/
def xI (t0 : Nat) (cI : ClassId) (A : Nat → Prop) (U : State) : Prop := xN U ∧ va_Z "OutsideAsks" "FIRST_SETTINGS" "[I" (.ref t0) A U U.heap ∧ clT t0 cI 8 set0 A U.heap
theorem xI_b {t0 : Nat} {cI : ClassId} {A : Nat → Prop} : ∀ (a : Array Value) (U : State) (g : JFrame) (mk : MethodId), xI t0 cI A U → xI t0 cI A (U.calling g mk a) := fun a U g mk h => ⟨xN_b (show U.vm = (U.calling g mk a).vm from rfl) h.1, va_Z.moved (u := U) (U := U.calling g mk a) (Vm.Alike.refl U.vm) h.2.1, h.2.2⟩
def mC (x : Int32) : Int32 := if 1 < (if x < 16 then x else 16) then (if x < 16 then x else 16) else 1
def oC (x : Int32) : Int32 := if x &&& 1 = 0 then 0 else 1
